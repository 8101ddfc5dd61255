/-! the model: departures; the calls that change -/
def dpS (m x : Nat) : Nat → HI → HI := fun k J => lvM J (m - k) (feM J (m - k) x 0).toNatClampNeg
def okDp (m x : Nat) : Nat → Nat → HI → Prop
  | 0, _, _ => True
  | n + 1, k, J => (∃ s t9, s < m - k ∧ feM J (m - k) x 0 = nI s ∧ t9 < 8 ∧ J 397 (139 + s) = nI t9) ∧ okDp m x n (k + 1) (dpS m x k J)
def trN (I : HI) (m x : Nat) : Int32 := trM I m x (I 397 (31 + x)).toNatClampNeg 0
def depM (I : HI) (m : Nat) (t dd : Int32) : Int32 × HI := if ¬ tkM I t then (0, up2 I 396 12 1) else if ¬ (0 ≤ dd ∧ dd ≤ 9) then (0, up2 I 396 12 2) else if I 397 (31 + t.toNatClampNeg) = 0 ∨ ¬ I 397 (99 + (feM I m t.toNatClampNeg 0).toNatClampNeg) = dd then (0, up2 I 396 12 3)
  else if ¬ fo (baS I m t.toNatClampNeg) (trN I m t.toNatClampNeg).toNatClampNeg 0 0 = 0 then (0, up2 I 396 12 4) else (trN I m t.toNatClampNeg, up2 (fo (dpS m t.toNatClampNeg) (trN I m t.toNatClampNeg).toNatClampNeg 0 I) 396 12 0)
section MOD6
variable {X : JX} {d N v : Nat} {T : Nat → Option JS} {I : Nat → Nat → Int32} {L : Nat → Nat → Int64} {Dd : Nat → Nat → UInt64} {a b c e i0 t dd le we de : Int32} {m z x y q c0 s n : Nat}
theorem l_dep {Q : JR → Prop} {n9 : Nat} (hX : JXok X) (hd : 3 ≤ d) (hm20 : m ≤ 20) (hx : x < 8) (hn9 : n9 ≤ 20) : ∀ (n k : Nat) (J : HI), k + n = n9 → J 397 1 = nI (m - k) → okDp m x n k J → Ev X (jm jdX7_departs) d 0 0 Q 112 [some (.ref 396), some (.int (nI x)), some (.int dd), some (.int (nI n9)), some (.int (nI n9))] [] (N, SH v T, fo (dpS m x) n k J, L, Dd) → Ev X (jm jdX7_departs) d 0 0 Q 90 [some (.ref 396), some (.int (nI x)), some (.int dd), some (.int (nI n9)), some (.int (nI k))] [] (N, SH v T, J, L, Dd) := by
  intro n
  induction n with
  | zero =>
    intro k J hk hmJ hok hQ
    refine Ev.sg hX (sX7_departs_90.sub 0 2) (pc' := 93) (ls' := [some (.ref 396), some (.int (nI x)), some (.int dd), some (.int (nI n9)), some (.int (nI k))]) (st' := [.int (nI n9), .int (nI k)]) (h' := (N, SH v T, J, L, Dd)) rfl ?_
    refine Ev.icmp_ge (tgt := 112) dX7_departs_93 (by decide) (fun b1 => ?_) (fun b1 => ?_)
    · rw [show k = n9 by omega]
      exact hQ
    · exact absurd ((nI_leI (a := n9) (b := k) (by omega) (by omega)).mpr (by omega)) b1
  | succ n ih =>
    intro k J hk hmJ hok hQ
    refine Ev.sg hX (sX7_departs_90.sub 0 2) (pc' := 93) (ls' := [some (.ref 396), some (.int (nI x)), some (.int dd), some (.int (nI n9)), some (.int (nI k))]) (st' := [.int (nI n9), .int (nI k)]) (h' := (N, SH v T, J, L, Dd)) rfl ?_
    refine Ev.icmp_ge (tgt := 112) dX7_departs_93 (by decide) (fun b1 => ?_) (fun b1 => ?_)
    · exact absurd ((nI_leI (a := n9) (b := k) (by omega) (by omega)).mp b1) (by omega)
    · obtain ⟨⟨s, t9, hs, hfe, ht9, htr⟩, hok⟩ := hok
      have e0 : dpS m x k J = lvM J (m - k) s := by rw [dpS, hfe, show (nI s).toNatClampNeg = s from nI_clamp (by omega)]
      refine Ev.sg hX (sX7_departs_96.sub 0 4) (pc' := 100) (ls' := [some (.ref 396), some (.int (nI x)), some (.int dd), some (.int (nI n9)), some (.int (nI k))]) (st' := [.int 0, .int (nI x), .ref 396, .ref 396]) (h' := (N, SH v T, J, L, Dd)) rfl ?_
      refine Ev.callV (As := [.int (nI x), .int 0]) (rest := [.ref 396]) dvX7_fromEnd mkX7_117 rfl rfl dX7_departs_100 (m_fromEnd (d := d - 1) (I := J) (m := m - k) (t := x) hX (by omega) (by omega) hmJ (by omega)) ⟨by omega, by show 3 + 19 + 40 * _ ≤ 40 * _; omega⟩ ⟨Nat.zero_le _, Nat.zero_le _⟩ rfl (Nat.le_of_ble_eq_true rfl) (fun v9 h9 e9 => ?_) (fun E9 h9 e9 => nomatch e9)
      cases e9
      refine Ev.eqst (st' := [.int (nI s), .ref 396]) (by rw [show feM J (m - k) x 0 = nI s from hfe]; rfl) ?_
      show Ev _ _ _ _ _ _ 103 [some (.ref 396), some (.int (nI x)), some (.int dd), some (.int (nI n9)), some (.int (nI k))] [.int (nI s), .ref 396] (N, SH v T, J, L, Dd)
      refine Ev.callV (As := [.int (nI s)]) (rest := []) dvX7_leaves mkX7_142 rfl rfl dX7_departs_103 (m_leaves (d := d - 1) (I := J) (m := m - k) (s := s) hX (by omega) (by omega) hmJ hs ht9 htr) ⟨by omega, by show 4 + 19 + 40 * _ ≤ 40 * _; omega⟩ ⟨Nat.zero_le _, Nat.zero_le _⟩ rfl (Nat.le_of_ble_eq_true rfl) (fun v9 h9 e9 => ?_) (fun E9 h9 e9 => nomatch e9)
      cases e9
      show Ev _ _ _ _ _ _ 106 [some (.ref 396), some (.int (nI x)), some (.int dd), some (.int (nI n9)), some (.int (nI k))] [] (N, SH v T, lvM J (m - k) s, L, Dd)
      refine Ev.sg hX (sX7_departs_106.sub 0 2) (pc' := 90) (ls' := [some (.ref 396), some (.int (nI x)), some (.int dd), some (.int (nI n9)), some (.int ((nI k) + 1))]) (st' := []) (h' := (N, SH v T, lvM J (m - k) s, L, Dd)) rfl ?_
      rw [nI_1]
      refine ih (k + 1) (lvM J (m - k) s) (by omega) ?_ (by rw [← e0]; exact hok) (by rw [← e0]; exact hQ)
      rw [lvM, up2_hit, show (1 : Int32) = nI 1 from rfl, nI_subN (by omega)]
      exact congrArg nI (by omega)
theorem m_departs (hX : JXok X) (hd : 5 ≤ d) (hm20 : m ≤ 20) (hm : I 397 1 = nI m) (hz8 : z ≤ 8) (hz : I 397 0 = nI z) (hPL : PLM I m) (hok : tkM I t → (0 ≤ dd ∧ dd ≤ 9) → ¬ (I 397 (31 + t.toNatClampNeg) = 0 ∨ ¬ I 397 (99 + (feM I m t.toNatClampNeg 0).toNatClampNeg) = dd) → fo (baS I m t.toNatClampNeg) (trN I m t.toNatClampNeg).toNatClampNeg 0 0 = 0 → okDp m t.toNatClampNeg (trN I m t.toNatClampNeg).toNatClampNeg 0 I) : MT X d 0 0 jdX7_departs [.ref 396, .int t, .int dd] (N, SH v T, I, L, Dd) (fun R => R = .inl (some (.int (depM I m t dd).1), (N, SH v T, (depM I m t dd).2, L, Dd))) := by
  refine MT.mk dvX7_departs.1 ?_
  refine Ev.sg hX (sX7_departs_0.sub 0 2) (pc' := 2) (ls' := [some (.ref 396), some (.int t), some (.int dd), none, none]) (st' := [.int t, .ref 396]) (h' := (N, SH v T, I, L, Dd)) rfl ?_
  refine Ev.callV (As := [.int t]) (rest := []) dvX7_isTrack mkX7_56 rfl rfl dX7_departs_2 (m_isTrack (d := d - 1) (I := I) hX (by omega)) ⟨by omega, by show 2 + 19 + 40 * _ ≤ 40 * _; omega⟩ ⟨Nat.zero_le _, Nat.zero_le _⟩ rfl (Nat.le_of_ble_eq_true rfl) (fun v9 h9 e9 => ?_) (fun E9 h9 e9 => nomatch e9)
  cases e9
  show Ev _ _ _ _ _ _ 5 [some (.ref 396), some (.int t), some (.int dd), none, none] [.int (bi (tkM I t))] (N, SH v T, I, L, Dd)
  refine Ev.if_ne (tgt := 14) dX7_departs_5 (by decide) (fun b1 => ?_) (fun b1 => ?_)
  · refine Ev.sg hX (sX7_departs_14.sub 0 3) (pc' := 18) (ls' := [some (.ref 396), some (.int t), some (.int dd), none, none]) (st' := [.int 9, .int 0, .int dd]) (h' := (N, SH v T, I, L, Dd)) rfl ?_
    refine Ev.callS (As := [.int dd, .int 0, .int 9]) (rest := []) dsX7_in mkX7_52 dX7_departs_18 (m_in (d := d - 1) hX (by omega)) ⟨by omega, by show 3 + 19 + 40 * _ ≤ 40 * _; omega⟩ ⟨Nat.zero_le _, Nat.zero_le _⟩ rfl (Nat.le_of_ble_eq_true rfl) (fun v9 h9 e9 => ?_) (fun E9 h9 e9 => nomatch e9)
    cases e9
    show Ev _ _ _ _ _ _ 21 [some (.ref 396), some (.int t), some (.int dd), none, none] [.int (bi (0 ≤ dd ∧ dd ≤ 9))] (N, SH v T, I, L, Dd)
    refine Ev.if_ne (tgt := 30) dX7_departs_21 (by decide) (fun b2 => ?_) (fun b2 => ?_)
    · have htt := bi_1.mp b1
      have hdd := bi_1.mp b2
      obtain ⟨x, hx, rfl⟩ := tkM_nI hz8 hz htt
      have hcx : (nI x).toNatClampNeg = x := nI_clamp (by omega)
      obtain ⟨c0, hc0, hg, hp⟩ := hPL x (by omega)
      rw [hcx] at hok
      have htn : trN I m x = trM I m x c0 0 := by rw [trN, hg, show (nI c0).toNatClampNeg = c0 from nI_clamp (by omega)]
      refine Ev.sg hX (sX7_departs_30.sub 0 1) (pc' := 31) (ls' := [some (.ref 396), some (.int (nI x)), some (.int dd), none, none]) (st' := [.ref 396]) (h' := (N, SH v T, I, L, Dd)) rfl ?_
      refine Ev.getf (sX7_departs_30.lk 1 (q := (31, .getfield 7, 7, 0)) rfl) rfl rfl (sX7_departs_30.dc 1 (q := (31, .getfield 7, 7, 0)) rfl) ?_
      show Ev _ _ _ _ _ _ 34 [some (.ref 396), some (.int (nI x)), some (.int dd), none, none] [.ref 397] (N, SH v T, I, L, Dd)
      refine Ev.sg hX (sX7_departs_30.sub 2 3) (pc' := 38) (ls' := [some (.ref 396), some (.int (nI x)), some (.int dd), none, none]) (st' := [.int (31 + (nI x)), .ref 397]) (h' := (N, SH v T, I, L, Dd)) rfl ?_
      refine Ev.ialdE (n := (31 + x)) (N := 179) rfl (naI rfl rfl) (by omega) (by decide) dX7_departs_38 ?_
      show Ev _ _ _ _ _ _ 39 [some (.ref 396), some (.int (nI x)), some (.int dd), none, none] [.int (I 397 (31 + x))] (N, SH v T, I, L, Dd)
      refine Ev.eqst (st' := [.int (nI c0)]) (by rw [show I 397 (31 + x) = nI c0 from (hg)]) ?_
      refine Ev.if_eq (tgt := 60) dX7_departs_39 (by decide) (fun b3 => ?_) (fun b3 => ?_)
      · refine Ev.sg hX (sX7_departs_60.sub 0 2) (pc' := 62) (ls' := [some (.ref 396), some (.int (nI x)), some (.int dd), none, none]) (st' := [.int 3, .ref 396]) (h' := (N, SH v T, I, L, Dd)) rfl ?_
        refine Ev.callV (As := [.int 3]) (rest := []) dvX7_fails mkX7_75 rfl rfl dX7_departs_62 (m_fails (d := d - 1) (I := I) hX (by omega)) ⟨by omega, by show 2 + 19 + 40 * _ ≤ 40 * _; omega⟩ ⟨Nat.zero_le _, Nat.zero_le _⟩ rfl (Nat.le_of_ble_eq_true rfl) (fun v9 h9 e9 => ?_) (fun E9 h9 e9 => nomatch e9)
        cases e9
        show Ev _ _ _ _ _ _ 65 [some (.ref 396), some (.int (nI x)), some (.int dd), none, none] [.int 0] (N, SH v T, up2 I 396 12 3, L, Dd)
        refine Ev.iret dX7_departs_65 rfl ?_
        rw [depM, if_neg (fun w => w htt), if_neg (fun w => w hdd), hcx, if_pos (Or.inl (hg.trans b3))]
      · have hc1 : 0 < c0 := by have : ¬ c0 = 0 := fun w => b3 (by rw [w]; rfl); omega
        obtain ⟨s0, hs0, hfe0⟩ := feM_s hg hp (k := 0) hc1
        have hcs : (nI s0).toNatClampNeg = s0 := nI_clamp (by omega)
        refine Ev.sg hX (sX7_departs_42.sub 0 1) (pc' := 43) (ls' := [some (.ref 396), some (.int (nI x)), some (.int dd), none, none]) (st' := [.ref 396]) (h' := (N, SH v T, I, L, Dd)) rfl ?_
        refine Ev.getf (sX7_departs_42.lk 1 (q := (43, .getfield 7, 7, 0)) rfl) rfl rfl (sX7_departs_42.dc 1 (q := (43, .getfield 7, 7, 0)) rfl) ?_
        show Ev _ _ _ _ _ _ 46 [some (.ref 396), some (.int (nI x)), some (.int dd), none, none] [.ref 397] (N, SH v T, I, L, Dd)
        refine Ev.sg hX (sX7_departs_42.sub 2 4) (pc' := 51) (ls' := [some (.ref 396), some (.int (nI x)), some (.int dd), none, none]) (st' := [.int 0, .int (nI x), .ref 396, .int 99, .ref 397]) (h' := (N, SH v T, I, L, Dd)) rfl ?_
        refine Ev.callV (As := [.int (nI x), .int 0]) (rest := [.int 99, .ref 397]) dvX7_fromEnd mkX7_117 rfl rfl dX7_departs_51 (m_fromEnd (d := d - 1) (I := I) (t := x) hX (by omega) hm20 hm (by omega)) ⟨by omega, by show 3 + 19 + 40 * _ ≤ 40 * _; omega⟩ ⟨Nat.zero_le _, Nat.zero_le _⟩ rfl (Nat.le_of_ble_eq_true rfl) (fun v9 h9 e9 => ?_) (fun E9 h9 e9 => nomatch e9)
        cases e9
        show Ev _ _ _ _ _ _ 54 [some (.ref 396), some (.int (nI x)), some (.int dd), none, none] [.int (feM I m x 0), .int 99, .ref 397] (N, SH v T, I, L, Dd)
        refine Ev.eqst (st' := [.int (nI s0), .int 99, .ref 397]) (by rw [show feM I m x 0 = nI s0 from hfe0]) ?_
        show Ev _ _ _ _ _ _ 54 [some (.ref 396), some (.int (nI x)), some (.int dd), none, none] [.int (nI s0), .int 99, .ref 397] (N, SH v T, I, L, Dd)
        refine Ev.sg hX (sX7_departs_54.sub 0 1) (pc' := 55) (ls' := [some (.ref 396), some (.int (nI x)), some (.int dd), none, none]) (st' := [.int (99 + (nI s0)), .ref 397]) (h' := (N, SH v T, I, L, Dd)) rfl ?_
        refine Ev.ialdE (n := (99 + s0)) (N := 179) rfl (naI rfl rfl) (by omega) (by decide) dX7_departs_55 ?_
        show Ev _ _ _ _ _ _ 56 [some (.ref 396), some (.int (nI x)), some (.int dd), none, none] [.int (I 397 (99 + s0))] (N, SH v T, I, L, Dd)
        refine Ev.sg hX (sX7_departs_56.sub 0 1) (pc' := 57) (ls' := [some (.ref 396), some (.int (nI x)), some (.int dd), none, none]) (st' := [.int dd, .int (I 397 (99 + s0))]) (h' := (N, SH v T, I, L, Dd)) rfl ?_
        refine Ev.icmp_eq (tgt := 66) dX7_departs_57 (by decide) (fun b4 => ?_) (fun b4 => ?_)
        · refine Ev.sg hX (sX7_departs_66.sub 0 2) (pc' := 68) (ls' := [some (.ref 396), some (.int (nI x)), some (.int dd), none, none]) (st' := [.int (nI x), .ref 396]) (h' := (N, SH v T, I, L, Dd)) rfl ?_
          obtain ⟨n9, hn0, hnc, htr⟩ := trM_le (I := I) (m := m) (x := x) c0 0
          have hcn : (nI n9).toNatClampNeg = n9 := nI_clamp (by omega)
          refine Ev.callV (As := [.int (nI x)]) (rest := []) dvX7_train mkX7_136 rfl rfl dX7_departs_68 (m_train (d := d - 1) (I := I) (x := x) hX (by omega) hm20 hm (by omega) hc0 hg hp) ⟨by omega, by show 3 + 19 + 40 * _ ≤ 40 * _; omega⟩ ⟨Nat.zero_le _, Nat.zero_le _⟩ rfl (Nat.le_of_ble_eq_true rfl) (fun v9 h9 e9 => ?_) (fun E9 h9 e9 => nomatch e9)
          cases e9
          refine Ev.eqst (st' := [.int (nI n9)]) (by rw [htr]; rfl) ?_
          show Ev _ _ _ _ _ _ 71 [some (.ref 396), some (.int (nI x)), some (.int dd), none, none] [.int (nI n9)] (N, SH v T, I, L, Dd)
          refine Ev.sg hX (sX7_departs_71.sub 0 4) (pc' := 75) (ls' := [some (.ref 396), some (.int (nI x)), some (.int dd), some (.int (nI n9)), none]) (st' := [.int (nI n9), .int (nI x), .ref 396]) (h' := (N, SH v T, I, L, Dd)) rfl ?_
          refine Ev.callV (As := [.int (nI x), .int (nI n9)]) (rest := []) dvX7_isBad mkX7_139 rfl rfl dX7_departs_75 (m_isBad (d := d - 1) (I := I) (x := x) (q := n9) hX (by omega) hm20 hm (by omega) hc0 hg hp (by omega)) ⟨by omega, by show 5 + 19 + 40 * _ ≤ 40 * _; omega⟩ ⟨Nat.zero_le _, Nat.zero_le _⟩ rfl (Nat.le_of_ble_eq_true rfl) (fun v9 h9 e9 => ?_) (fun E9 h9 e9 => nomatch e9)
          cases e9
          show Ev _ _ _ _ _ _ 78 [some (.ref 396), some (.int (nI x)), some (.int dd), some (.int (nI n9)), none] [.int (fo (baS I m x) n9 0 0)] (N, SH v T, I, L, Dd)
          refine Ev.if_eq (tgt := 87) dX7_departs_78 (by decide) (fun b5 => ?_) (fun b5 => ?_)
          · refine Ev.sg hX (sX7_departs_87.sub 0 2) (pc' := 90) (ls' := [some (.ref 396), some (.int (nI x)), some (.int dd), some (.int (nI n9)), some (.int 0)]) (st' := []) (h' := (N, SH v T, I, L, Dd)) rfl ?_
            have hgo : ¬ (I 397 (31 + x) = 0 ∨ ¬ I 397 (99 + (feM I m x 0).toNatClampNeg) = dd) := fun w => w.elim (fun w2 => b3 (by rw [← hg]; exact w2)) (fun w2 => w2 (by rw [show feM I m x 0 = nI s0 from hfe0, hcs]; exact b4))
            refine l_dep hX (by omega) hm20 (by omega) (by omega) n9 0 I (Nat.zero_add n9) hm (by have h9 := hok htt hdd hgo; rw [htn, htr, hcn] at h9; exact h9 b5) ?_
            show Ev _ _ _ _ _ _ 112 [some (.ref 396), some (.int (nI x)), some (.int dd), some (.int (nI n9)), some (.int (nI n9))] [] (N, SH v T, fo (dpS m x) n9 0 I, L, Dd)
            refine Ev.sg hX (sX7_departs_112.sub 0 2) (pc' := 114) (ls' := [some (.ref 396), some (.int (nI x)), some (.int dd), some (.int (nI n9)), some (.int (nI n9))]) (st' := [.int (nI n9), .ref 396]) (h' := (N, SH v T, fo (dpS m x) n9 0 I, L, Dd)) rfl ?_
            refine Ev.callV (As := [.int (nI n9)]) (rest := []) dvX7_done mkX7_79 rfl rfl dX7_departs_114 (m_done (d := d - 1) (I := (fo (dpS m x) n9 0 I)) hX (by omega)) ⟨by omega, by show 2 + 19 + 40 * _ ≤ 40 * _; omega⟩ ⟨Nat.zero_le _, Nat.zero_le _⟩ rfl (Nat.le_of_ble_eq_true rfl) (fun v9 h9 e9 => ?_) (fun E9 h9 e9 => nomatch e9)
            cases e9
            show Ev _ _ _ _ _ _ 117 [some (.ref 396), some (.int (nI x)), some (.int dd), some (.int (nI n9)), some (.int (nI n9))] [.int (nI n9)] (N, SH v T, up2 (fo (dpS m x) n9 0 I) 396 12 0, L, Dd)
            refine Ev.iret dX7_departs_117 rfl ?_
            rw [depM, if_neg (fun w => w htt), if_neg (fun w => w hdd), hcx, if_neg (fun w => w.elim (fun w2 => b3 (by rw [← hg]; exact w2)) (fun w2 => w2 (by rw [show feM I m x 0 = nI s0 from hfe0, hcs]; exact b4))), htn, htr, hcn, if_neg (fun w => w b5)]
          · refine Ev.sg hX (sX7_departs_81.sub 0 2) (pc' := 83) (ls' := [some (.ref 396), some (.int (nI x)), some (.int dd), some (.int (nI n9)), none]) (st' := [.int 4, .ref 396]) (h' := (N, SH v T, I, L, Dd)) rfl ?_
            refine Ev.callV (As := [.int 4]) (rest := []) dvX7_fails mkX7_75 rfl rfl dX7_departs_83 (m_fails (d := d - 1) (I := I) hX (by omega)) ⟨by omega, by show 2 + 19 + 40 * _ ≤ 40 * _; omega⟩ ⟨Nat.zero_le _, Nat.zero_le _⟩ rfl (Nat.le_of_ble_eq_true rfl) (fun v9 h9 e9 => ?_) (fun E9 h9 e9 => nomatch e9)
            cases e9
            show Ev _ _ _ _ _ _ 86 [some (.ref 396), some (.int (nI x)), some (.int dd), some (.int (nI n9)), none] [.int 0] (N, SH v T, up2 I 396 12 4, L, Dd)
            refine Ev.iret dX7_departs_86 rfl ?_
            rw [depM, if_neg (fun w => w htt), if_neg (fun w => w hdd), hcx, if_neg (fun w => w.elim (fun w2 => b3 (by rw [← hg]; exact w2)) (fun w2 => w2 (by rw [show feM I m x 0 = nI s0 from hfe0, hcs]; exact b4))), htn, htr, hcn, if_pos b5]
        · refine Ev.sg hX (sX7_departs_60.sub 0 2) (pc' := 62) (ls' := [some (.ref 396), some (.int (nI x)), some (.int dd), none, none]) (st' := [.int 3, .ref 396]) (h' := (N, SH v T, I, L, Dd)) rfl ?_
          refine Ev.callV (As := [.int 3]) (rest := []) dvX7_fails mkX7_75 rfl rfl dX7_departs_62 (m_fails (d := d - 1) (I := I) hX (by omega)) ⟨by omega, by show 2 + 19 + 40 * _ ≤ 40 * _; omega⟩ ⟨Nat.zero_le _, Nat.zero_le _⟩ rfl (Nat.le_of_ble_eq_true rfl) (fun v9 h9 e9 => ?_) (fun E9 h9 e9 => nomatch e9)
          cases e9
          show Ev _ _ _ _ _ _ 65 [some (.ref 396), some (.int (nI x)), some (.int dd), none, none] [.int 0] (N, SH v T, up2 I 396 12 3, L, Dd)
          refine Ev.iret dX7_departs_65 rfl ?_
          rw [depM, if_neg (fun w => w htt), if_neg (fun w => w hdd), hcx, if_pos (Or.inr (by rw [show feM I m x 0 = nI s0 from hfe0, hcs]; exact b4))]
    · refine Ev.sg hX (sX7_departs_24.sub 0 2) (pc' := 26) (ls' := [some (.ref 396), some (.int t), some (.int dd), none, none]) (st' := [.int 2, .ref 396]) (h' := (N, SH v T, I, L, Dd)) rfl ?_
      refine Ev.callV (As := [.int 2]) (rest := []) dvX7_fails mkX7_75 rfl rfl dX7_departs_26 (m_fails (d := d - 1) (I := I) hX (by omega)) ⟨by omega, by show 2 + 19 + 40 * _ ≤ 40 * _; omega⟩ ⟨Nat.zero_le _, Nat.zero_le _⟩ rfl (Nat.le_of_ble_eq_true rfl) (fun v9 h9 e9 => ?_) (fun E9 h9 e9 => nomatch e9)
      cases e9
      show Ev _ _ _ _ _ _ 29 [some (.ref 396), some (.int t), some (.int dd), none, none] [.int 0] (N, SH v T, up2 I 396 12 2, L, Dd)
      refine Ev.iret dX7_departs_29 rfl ?_
      rw [depM, if_neg (fun w => w (bi_1.mp b1)), if_pos (bi_0.mp b2)]
  · refine Ev.sg hX (sX7_departs_8.sub 0 2) (pc' := 10) (ls' := [some (.ref 396), some (.int t), some (.int dd), none, none]) (st' := [.int 1, .ref 396]) (h' := (N, SH v T, I, L, Dd)) rfl ?_
    refine Ev.callV (As := [.int 1]) (rest := []) dvX7_fails mkX7_75 rfl rfl dX7_departs_10 (m_fails (d := d - 1) (I := I) hX (by omega)) ⟨by omega, by show 2 + 19 + 40 * _ ≤ 40 * _; omega⟩ ⟨Nat.zero_le _, Nat.zero_le _⟩ rfl (Nat.le_of_ble_eq_true rfl) (fun v9 h9 e9 => ?_) (fun E9 h9 e9 => nomatch e9)
    cases e9
    show Ev _ _ _ _ _ _ 13 [some (.ref 396), some (.int t), some (.int dd), none, none] [.int 0] (N, SH v T, up2 I 396 12 1, L, Dd)
    refine Ev.iret dX7_departs_13 rfl ?_
    rw [depM, if_pos (bi_0.mp b1)]
end MOD6
