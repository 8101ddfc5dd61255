/-! the model: the text line of a track; floats -/
section MODN
variable {X : JX} {d N v : Nat} {T : Nat → Option JS} {I : Nat → Nat → Int32} {L : Nat → Nat → Int64} {Dd : Nat → Nat → UInt64} {c e i0 t : Int32} {m z x q c0 s k num de sl us ca : Nat} {W : List Int32}
theorem m_writesCar (hX : JXok X) (hd : 2 ≤ d) (hs : s < 20) (h39 : I 397 (39 + s) = nI num) (hnum : num < 10000) (h99 : I 397 (99 + s) = nI de) (hde : de < 10000) (hW : W.length + 11 ≤ 300) : MT X d 0 0 jdX7_writesCar [.ref 396, .int (nI s)] (N, SH v T, LW I W, L, Dd) (fun R => R = .inl (none, (N, SH v T, LW I (W ++ carT num de (I 397 (119 + s))), L, Dd))) := by
  refine MT.mk dvX7_writesCar.1 ?_
  have hd1 := dgL_len num hnum
  have hd2 := dgL_len de hde
  have hg1 := sb_dg4 hnum
  have hg2 := sb_dg4 hde
  refine Ev.sg hX (sX7_writesCar_0.sub 0 2) (pc' := 3) (ls' := [some (.ref 396), some (.int (nI s))]) (st' := [.int 32, .ref 396]) (h' := (N, SH v T, LW I W, L, Dd)) rfl ?_
  refine Ev.callV (As := [.int 32]) (rest := []) dvX7_writes mkX7_216 rfl rfl dX7_writesCar_3 (m_writes (d := d - 1) (I := I) (W := W) (c := 32) hX (by omega) ⟨by decide, by decide⟩ (by (try simp only [List.length_append, List.length_cons, List.length_nil, hd1, hd2]) <;> omega)) ⟨by omega, by show 2 + 19 + 40 * _ ≤ 40 * _; omega⟩ ⟨Nat.zero_le _, Nat.zero_le _⟩ rfl (Nat.le_of_ble_eq_true rfl) (fun v9 h9 e9 => ?_) (fun E9 h9 e9 => nomatch e9)
  cases e9
  show Ev _ _ _ _ _ _ 6 [some (.ref 396), some (.int (nI s))] [] (N, SH v T, LW I (W ++ [32]), L, Dd)
  refine Ev.sg hX (sX7_writesCar_6.sub 0 2) (pc' := 8) (ls' := [some (.ref 396), some (.int (nI s))]) (st' := [.ref 396, .ref 396]) (h' := (N, SH v T, LW I (W ++ [32]), L, Dd)) rfl ?_
  refine Ev.getf (sX7_writesCar_6.lk 2 (q := (8, .getfield 7, 7, 0)) rfl) rfl rfl (sX7_writesCar_6.dc 2 (q := (8, .getfield 7, 7, 0)) rfl) ?_
  show Ev _ _ _ _ _ _ 11 [some (.ref 396), some (.int (nI s))] [.ref 397, .ref 396] (N, SH v T, LW I (W ++ [32]), L, Dd)
  refine Ev.sg hX (sX7_writesCar_6.sub 3 3) (pc' := 15) (ls' := [some (.ref 396), some (.int (nI s))]) (st' := [.int (39 + (nI s)), .ref 397, .ref 396]) (h' := (N, SH v T, LW I (W ++ [32]), L, Dd)) rfl ?_
  refine Ev.ialdE (n := (39 + s)) (N := 179) rfl (naI rfl rfl) (by omega) (by decide) dX7_writesCar_15 ?_
  show Ev _ _ _ _ _ _ 16 [some (.ref 396), some (.int (nI s))] [.int (I 397 (39 + s)), .ref 396] (N, SH v T, LW I (W ++ [32]), L, Dd)
  refine Ev.eqst (st' := [.int (nI num), .ref 396]) (by rw [h39]) ?_
  refine Ev.callV (As := [.int (nI num)]) (rest := []) dvX7_writesNumber mkX7_219 rfl rfl dX7_writesCar_16 (m_writesNumber (d := d - 1) (I := I) (W := W ++ [32]) (k := num) hX (by omega) hnum (by (try simp only [List.length_append, List.length_cons, List.length_nil, hd1, hd2]) <;> omega)) ⟨by omega, by show 3 + 19 + 40 * _ ≤ 40 * _; omega⟩ ⟨Nat.zero_le _, Nat.zero_le _⟩ rfl (Nat.le_of_ble_eq_true rfl) (fun v9 h9 e9 => ?_) (fun E9 h9 e9 => nomatch e9)
  cases e9
  show Ev _ _ _ _ _ _ 19 [some (.ref 396), some (.int (nI s))] [] (N, SH v T, LW I (W ++ [32] ++ dgL num), L, Dd)
  refine Ev.sg hX (sX7_writesCar_19.sub 0 2) (pc' := 22) (ls' := [some (.ref 396), some (.int (nI s))]) (st' := [.int 58, .ref 396]) (h' := (N, SH v T, LW I (W ++ [32] ++ dgL num), L, Dd)) rfl ?_
  refine Ev.callV (As := [.int 58]) (rest := []) dvX7_writes mkX7_216 rfl rfl dX7_writesCar_22 (m_writes (d := d - 1) (I := I) (W := W ++ [32] ++ dgL num) (c := 58) hX (by omega) ⟨by decide, by decide⟩ (by (try simp only [List.length_append, List.length_cons, List.length_nil, hd1, hd2]) <;> omega)) ⟨by omega, by show 2 + 19 + 40 * _ ≤ 40 * _; omega⟩ ⟨Nat.zero_le _, Nat.zero_le _⟩ rfl (Nat.le_of_ble_eq_true rfl) (fun v9 h9 e9 => ?_) (fun E9 h9 e9 => nomatch e9)
  cases e9
  show Ev _ _ _ _ _ _ 25 [some (.ref 396), some (.int (nI s))] [] (N, SH v T, LW I (W ++ [32] ++ dgL num ++ [58]), L, Dd)
  refine Ev.sg hX (sX7_writesCar_25.sub 0 2) (pc' := 27) (ls' := [some (.ref 396), some (.int (nI s))]) (st' := [.ref 396, .ref 396]) (h' := (N, SH v T, LW I (W ++ [32] ++ dgL num ++ [58]), L, Dd)) rfl ?_
  refine Ev.getf (sX7_writesCar_25.lk 2 (q := (27, .getfield 7, 7, 0)) rfl) rfl rfl (sX7_writesCar_25.dc 2 (q := (27, .getfield 7, 7, 0)) rfl) ?_
  show Ev _ _ _ _ _ _ 30 [some (.ref 396), some (.int (nI s))] [.ref 397, .ref 396] (N, SH v T, LW I (W ++ [32] ++ dgL num ++ [58]), L, Dd)
  refine Ev.sg hX (sX7_writesCar_25.sub 3 3) (pc' := 34) (ls' := [some (.ref 396), some (.int (nI s))]) (st' := [.int (99 + (nI s)), .ref 397, .ref 396]) (h' := (N, SH v T, LW I (W ++ [32] ++ dgL num ++ [58]), L, Dd)) rfl ?_
  refine Ev.ialdE (n := (99 + s)) (N := 179) rfl (naI rfl rfl) (by omega) (by decide) dX7_writesCar_34 ?_
  show Ev _ _ _ _ _ _ 35 [some (.ref 396), some (.int (nI s))] [.int (I 397 (99 + s)), .ref 396] (N, SH v T, LW I (W ++ [32] ++ dgL num ++ [58]), L, Dd)
  refine Ev.eqst (st' := [.int (nI de), .ref 396]) (by rw [h99]) ?_
  refine Ev.callV (As := [.int (nI de)]) (rest := []) dvX7_writesNumber mkX7_219 rfl rfl dX7_writesCar_35 (m_writesNumber (d := d - 1) (I := I) (W := W ++ [32] ++ dgL num ++ [58]) (k := de) hX (by omega) hde (by (try simp only [List.length_append, List.length_cons, List.length_nil, hd1, hd2]) <;> omega)) ⟨by omega, by show 3 + 19 + 40 * _ ≤ 40 * _; omega⟩ ⟨Nat.zero_le _, Nat.zero_le _⟩ rfl (Nat.le_of_ble_eq_true rfl) (fun v9 h9 e9 => ?_) (fun E9 h9 e9 => nomatch e9)
  cases e9
  show Ev _ _ _ _ _ _ 38 [some (.ref 396), some (.int (nI s))] [] (N, SH v T, LW I (W ++ [32] ++ dgL num ++ [58] ++ dgL de), L, Dd)
  refine Ev.sg hX (sX7_writesCar_38.sub 0 1) (pc' := 39) (ls' := [some (.ref 396), some (.int (nI s))]) (st' := [.ref 396]) (h' := (N, SH v T, LW I (W ++ [32] ++ dgL num ++ [58] ++ dgL de), L, Dd)) rfl ?_
  refine Ev.getf (sX7_writesCar_38.lk 1 (q := (39, .getfield 7, 7, 0)) rfl) rfl rfl (sX7_writesCar_38.dc 1 (q := (39, .getfield 7, 7, 0)) rfl) ?_
  show Ev _ _ _ _ _ _ 42 [some (.ref 396), some (.int (nI s))] [.ref 397] (N, SH v T, LW I (W ++ [32] ++ dgL num ++ [58] ++ dgL de), L, Dd)
  refine Ev.sg hX (sX7_writesCar_38.sub 2 3) (pc' := 46) (ls' := [some (.ref 396), some (.int (nI s))]) (st' := [.int (119 + (nI s)), .ref 397]) (h' := (N, SH v T, LW I (W ++ [32] ++ dgL num ++ [58] ++ dgL de), L, Dd)) rfl ?_
  refine Ev.ialdE (n := (119 + s)) (N := 179) rfl (naI rfl rfl) (by omega) (by decide) dX7_writesCar_46 ?_
  show Ev _ _ _ _ _ _ 47 [some (.ref 396), some (.int (nI s))] [.int (I 397 (119 + s))] (N, SH v T, LW I (W ++ [32] ++ dgL num ++ [58] ++ dgL de), L, Dd)
  refine Ev.sg hX (sX7_writesCar_47.sub 0 1) (pc' := 48) (ls' := [some (.ref 396), some (.int (nI s))]) (st' := [.int 1, .int (I 397 (119 + s))]) (h' := (N, SH v T, LW I (W ++ [32] ++ dgL num ++ [58] ++ dgL de), L, Dd)) rfl ?_
  refine Ev.icmp_ne (tgt := 57) dX7_writesCar_48 (by decide) (fun b1 => ?_) (fun b1 => ?_)
  · refine Ev.vret dX7_writesCar_57 rfl ?_
    exact congrArg (fun z => Sum.inl (none, (N, SH v T, LW I z, L, Dd))) (by rw [carT, if_neg b1]; simp)
  · refine Ev.sg hX (sX7_writesCar_51.sub 0 2) (pc' := 54) (ls' := [some (.ref 396), some (.int (nI s))]) (st' := [.int 33, .ref 396]) (h' := (N, SH v T, LW I (W ++ [32] ++ dgL num ++ [58] ++ dgL de), L, Dd)) rfl ?_
    refine Ev.callV (As := [.int 33]) (rest := []) dvX7_writes mkX7_216 rfl rfl dX7_writesCar_54 (m_writes (d := d - 1) (I := I) (W := W ++ [32] ++ dgL num ++ [58] ++ dgL de) (c := 33) hX (by omega) ⟨by decide, by decide⟩ (by (try simp only [List.length_append, List.length_cons, List.length_nil, hd1, hd2]) <;> omega)) ⟨by omega, by show 2 + 19 + 40 * _ ≤ 40 * _; omega⟩ ⟨Nat.zero_le _, Nat.zero_le _⟩ rfl (Nat.le_of_ble_eq_true rfl) (fun v9 h9 e9 => ?_) (fun E9 h9 e9 => nomatch e9)
    cases e9
    show Ev _ _ _ _ _ _ 57 [some (.ref 396), some (.int (nI s))] [] (N, SH v T, LW I (W ++ [32] ++ dgL num ++ [58] ++ dgL de ++ [33]), L, Dd)
    refine Ev.vret dX7_writesCar_57 rfl ?_
    exact congrArg (fun z => Sum.inl (none, (N, SH v T, LW I z, L, Dd))) (by rw [carT, if_pos b1]; simp)
theorem l_mwt {Q : JR → Prop} (hX : JXok X) (hd : 3 ≤ d) (hm20 : m ≤ 20) (hm : I 397 1 = nI m) (hx : x < 8) (hc0 : c0 ≤ 20) (hg : I 397 (31 + x) = nI c0) (hcar : ∀ p, p < c0 → ∃ s num de, s < m ∧ slAM I m (nI x) (nI p) = nI s ∧ I 397 (39 + s) = nI num ∧ num < 10000 ∧ I 397 (99 + s) = nI de ∧ de < 10000) : ∀ (n p : Nat) (W : List Int32), p + n = c0 → W.length + 11 * n ≤ 300 → Ev X (jm jdX7_writeTrack) d 0 0 Q 116 [some (.ref 396), some (.int (nI x)), some (.int (nI c0))] [] (N, SH v T, LW I (W ++ carsTM I m x n p), L, Dd) → Ev X (jm jdX7_writeTrack) d 0 0 Q 87 [some (.ref 396), some (.int (nI x)), some (.int (nI p))] [] (N, SH v T, LW I W, L, Dd) := by
  intro n
  induction n with
  | zero =>
    intro p W hk hlen hQ
    refine Ev.sg hX (sX7_writeTrack_87.sub 0 2) (pc' := 89) (ls' := [some (.ref 396), some (.int (nI x)), some (.int (nI p))]) (st' := [.ref 396, .int (nI p)]) (h' := (N, SH v T, LW I W, L, Dd)) rfl ?_
    refine Ev.getf (sX7_writeTrack_87.lk 2 (q := (89, .getfield 7, 7, 0)) rfl) rfl rfl (sX7_writeTrack_87.dc 2 (q := (89, .getfield 7, 7, 0)) rfl) ?_
    show Ev _ _ _ _ _ _ 92 [some (.ref 396), some (.int (nI x)), some (.int (nI p))] [.ref 397, .int (nI p)] (N, SH v T, LW I W, L, Dd)
    refine Ev.sg hX (sX7_writeTrack_87.sub 3 3) (pc' := 96) (ls' := [some (.ref 396), some (.int (nI x)), some (.int (nI p))]) (st' := [.int (31 + (nI x)), .ref 397, .int (nI p)]) (h' := (N, SH v T, LW I W, L, Dd)) rfl ?_
    refine Ev.ialdE (n := (31 + x)) (N := 179) rfl (naI rfl rfl) (by omega) (by decide) dX7_writeTrack_96 ?_
    show Ev _ _ _ _ _ _ 97 [some (.ref 396), some (.int (nI x)), some (.int (nI p))] [.int (I 397 (31 + x)), .int (nI p)] (N, SH v T, LW I W, L, Dd)
    refine Ev.eqst (st' := [.int (nI c0), .int (nI p)]) (by rw [hg]) ?_
    refine Ev.icmp_ge (tgt := 116) dX7_writeTrack_97 (by decide) (fun b1 => ?_) (fun b1 => ?_)
    · rw [show p = c0 by omega]
      rw [show W ++ carsTM I m x 0 p = W from List.append_nil W] at hQ
      exact hQ
    · exact absurd ((nI_leI (a := c0) (b := p) (by omega) (by omega)).mpr (by omega)) b1
  | succ n ih =>
    intro p W hk hlen hQ
    refine Ev.sg hX (sX7_writeTrack_87.sub 0 2) (pc' := 89) (ls' := [some (.ref 396), some (.int (nI x)), some (.int (nI p))]) (st' := [.ref 396, .int (nI p)]) (h' := (N, SH v T, LW I W, L, Dd)) rfl ?_
    refine Ev.getf (sX7_writeTrack_87.lk 2 (q := (89, .getfield 7, 7, 0)) rfl) rfl rfl (sX7_writeTrack_87.dc 2 (q := (89, .getfield 7, 7, 0)) rfl) ?_
    show Ev _ _ _ _ _ _ 92 [some (.ref 396), some (.int (nI x)), some (.int (nI p))] [.ref 397, .int (nI p)] (N, SH v T, LW I W, L, Dd)
    refine Ev.sg hX (sX7_writeTrack_87.sub 3 3) (pc' := 96) (ls' := [some (.ref 396), some (.int (nI x)), some (.int (nI p))]) (st' := [.int (31 + (nI x)), .ref 397, .int (nI p)]) (h' := (N, SH v T, LW I W, L, Dd)) rfl ?_
    refine Ev.ialdE (n := (31 + x)) (N := 179) rfl (naI rfl rfl) (by omega) (by decide) dX7_writeTrack_96 ?_
    show Ev _ _ _ _ _ _ 97 [some (.ref 396), some (.int (nI x)), some (.int (nI p))] [.int (I 397 (31 + x)), .int (nI p)] (N, SH v T, LW I W, L, Dd)
    refine Ev.eqst (st' := [.int (nI c0), .int (nI p)]) (by rw [hg]) ?_
    refine Ev.icmp_ge (tgt := 116) dX7_writeTrack_97 (by decide) (fun b1 => ?_) (fun b1 => ?_)
    · exact absurd ((nI_leI (a := c0) (b := p) (by omega) (by omega)).mp b1) (by omega)
    · obtain ⟨s, num, de, hs, hs9, h39, hnum, h99, hde⟩ := hcar p (by omega)
      have hg1 := sb_dg4 hnum
      have hg2 := sb_dg4 hde
      have hb4 : (if I 397 (119 + s) = 1 then 1 else 0) ≤ 1 := by split <;> omega
      refine Ev.sg hX (sX7_writeTrack_100.sub 0 4) (pc' := 104) (ls' := [some (.ref 396), some (.int (nI x)), some (.int (nI p))]) (st' := [.int (nI p), .int (nI x), .ref 396, .ref 396]) (h' := (N, SH v T, LW I W, L, Dd)) rfl ?_
      refine Ev.callV (As := [.int (nI x), .int (nI p)]) (rest := [.ref 396]) dvX7_slotAt mkX7_60 rfl rfl dX7_writeTrack_104 (m_slotAt (d := d - 1) (I := (LW I W)) hX (by omega) hm20 ((congrFun (LW_397 (I := I) (W := W) (a := 397) (by decide) (by decide)) 1).trans hm)) ⟨by omega, by show 4 + 19 + 40 * _ ≤ 40 * _; omega⟩ ⟨Nat.zero_le _, Nat.zero_le _⟩ rfl (Nat.le_of_ble_eq_true rfl) (fun v9 h9 e9 => ?_) (fun E9 h9 e9 => nomatch e9)
      cases e9
      refine Ev.eqst (st' := [.int (nI s), .ref 396]) (by rw [slAM_congr (LW_397 (I := I) (W := W) (a := 397) (by decide) (by decide)), hs9]; rfl) ?_
      show Ev _ _ _ _ _ _ 107 [some (.ref 396), some (.int (nI x)), some (.int (nI p))] [.int (nI s), .ref 396] (N, SH v T, LW I W, L, Dd)
      refine Ev.callV (As := [.int (nI s)]) (rest := []) dvX7_writesCar mkX7_222 rfl rfl dX7_writeTrack_107 (m_writesCar (d := d - 1) (I := I) (W := W) hX (by omega) (by omega) h39 hnum h99 hde (by omega)) ⟨by omega, by show 2 + 19 + 40 * _ ≤ 40 * _; omega⟩ ⟨Nat.zero_le _, Nat.zero_le _⟩ rfl (Nat.le_of_ble_eq_true rfl) (fun v9 h9 e9 => ?_) (fun E9 h9 e9 => nomatch e9)
      cases e9
      show Ev _ _ _ _ _ _ 110 [some (.ref 396), some (.int (nI x)), some (.int (nI p))] [] (N, SH v T, LW I (W ++ carT num de (I 397 (119 + s))), L, Dd)
      refine Ev.sg hX (sX7_writeTrack_110.sub 0 2) (pc' := 87) (ls' := [some (.ref 396), some (.int (nI x)), some (.int ((nI p) + 1))]) (st' := []) (h' := (N, SH v T, LW I (W ++ carT num de (I 397 (119 + s))), L, Dd)) rfl ?_
      rw [nI_1]
      refine ih (p + 1) (W ++ carT num de (I 397 (119 + s))) (by omega) (by rw [List.length_append, carT_len hnum hde]; omega) ?_
      have e1 : W ++ carsTM I m x (n + 1) p = (W ++ carT num de (I 397 (119 + s))) ++ carsTM I m x n (p + 1) := by
        rw [carsTM, hs9, show (nI s).toNatClampNeg = s from nI_clamp (by omega), carTM, h39, h99, show (nI num).toNatClampNeg = num from nI_clamp (by omega), show (nI de).toNatClampNeg = de from nI_clamp (by omega), List.append_assoc]
      rw [← e1]
      exact hQ
def wtM (I : HI) (m : Nat) (t : Int32) : Int32 × HI := if ¬ tkM I t then (0, up2 I 396 12 1) else (nI (trkTM I m t.toNatClampNeg (I 397 (31 + t.toNatClampNeg)).toNatClampNeg).length, up2 (LW I (trkTM I m t.toNatClampNeg (I 397 (31 + t.toNatClampNeg)).toNatClampNeg)) 396 12 0)
theorem m_writeTrack (hX : JXok X) (hd : 4 ≤ d) (hm20 : m ≤ 20) (hm : I 397 1 = nI m) (hz8 : z ≤ 8) (hz : I 397 0 = nI z) (hok : tkM I t → ∃ sl us ca c0, I 397 (15 + t.toNatClampNeg) = nI sl ∧ sl < 10000 ∧ smM I m (nI t.toNatClampNeg) 59 = nI us ∧ us < 10000 ∧ I 397 (7 + t.toNatClampNeg) = nI ca ∧ ca < 10000 ∧ c0 ≤ 20 ∧ I 397 (31 + t.toNatClampNeg) = nI c0 ∧ ∀ p, p < c0 → ∃ s num de, s < m ∧ slAM I m (nI t.toNatClampNeg) (nI p) = nI s ∧ I 397 (39 + s) = nI num ∧ num < 10000 ∧ I 397 (99 + s) = nI de ∧ de < 10000) : MT X d 0 0 jdX7_writeTrack [.ref 396, .int t] (N, SH v T, I, L, Dd) (fun R => R = .inl (some (.int (wtM I m t).1), (N, SH v T, (wtM I m t).2, L, Dd))) := by
  refine MT.mk dvX7_writeTrack.1 ?_
  refine Ev.sg hX (sX7_writeTrack_0.sub 0 2) (pc' := 2) (ls' := [some (.ref 396), some (.int t), none]) (st' := [.int t, .ref 396]) (h' := (N, SH v T, I, L, Dd)) rfl ?_
  refine Ev.callV (As := [.int t]) (rest := []) dvX7_isTrack mkX7_56 rfl rfl dX7_writeTrack_2 (m_isTrack (d := d - 1) (I := I) hX (by omega)) ⟨by omega, by show 2 + 19 + 40 * _ ≤ 40 * _; omega⟩ ⟨Nat.zero_le _, Nat.zero_le _⟩ rfl (Nat.le_of_ble_eq_true rfl) (fun v9 h9 e9 => ?_) (fun E9 h9 e9 => nomatch e9)
  cases e9
  show Ev _ _ _ _ _ _ 5 [some (.ref 396), some (.int t), none] [.int (bi (tkM I t))] (N, SH v T, I, L, Dd)
  refine Ev.if_ne (tgt := 14) dX7_writeTrack_5 (by decide) (fun b1 => ?_) (fun b1 => ?_)
  · have htt := bi_1.mp b1
    obtain ⟨x, hx, rfl⟩ := tkM_nI hz8 hz htt
    have hcx : (nI x).toNatClampNeg = x := nI_clamp (by omega)
    obtain ⟨sl, us, ca, c0, hsl9, hsl, hus9, hus, hca9, hca, hc0, hg, hcar⟩ := hok htt
    rw [hcx] at hsl9 hus9 hca9 hg hcar
    have hd0 := dgL_len x (by omega)
    have hd1 := dgL_len sl hsl
    have hd2 := dgL_len us hus
    have hd3 := dgL_len ca hca
    have hg0 := sb_dg4 (k := x) (by omega)
    have hg1 := sb_dg4 hsl
    have hg2 := sb_dg4 hus
    have hg3 := sb_dg4 hca
    refine Ev.sg hX (sX7_writeTrack_14.sub 0 2) (pc' := 16) (ls' := [some (.ref 396), some (.int (nI x)), none]) (st' := [.int 0, .ref 396]) (h' := (N, SH v T, I, L, Dd)) rfl ?_
    refine Ev.putf hX (sX7_writeTrack_14.lk 2 (q := (16, .putfield 213, 7, 11)) rfl) rfl rfl (sX7_writeTrack_14.dc 2 (q := (16, .putfield 213, 7, 11)) rfl) ?_
    show Ev _ _ _ _ _ _ 19 [some (.ref 396), some (.int (nI x)), none] [] (N, SH v T, up2 I 396 11 0, L, Dd)
    rw [LW_0]
    refine Ev.sg hX (sX7_writeTrack_14.sub 3 2) (pc' := 21) (ls' := [some (.ref 396), some (.int (nI x)), none]) (st' := [.int (nI x), .ref 396]) (h' := (N, SH v T, LW I ([]), L, Dd)) rfl ?_
    refine Ev.callV (As := [.int (nI x)]) (rest := []) dvX7_writesNumber mkX7_219 rfl rfl dX7_writeTrack_21 (m_writesNumber (d := d - 1) (I := I) (W := []) (k := x) hX (by omega) (by omega) (by (try simp only [List.length_append, List.length_cons, List.length_nil, hd0, hd1, hd2, hd3]) <;> omega)) ⟨by omega, by show 3 + 19 + 40 * _ ≤ 40 * _; omega⟩ ⟨Nat.zero_le _, Nat.zero_le _⟩ rfl (Nat.le_of_ble_eq_true rfl) (fun v9 h9 e9 => ?_) (fun E9 h9 e9 => nomatch e9)
    cases e9
    show Ev _ _ _ _ _ _ 24 [some (.ref 396), some (.int (nI x)), none] [] (N, SH v T, LW I ([] ++ dgL x), L, Dd)
    refine Ev.sg hX (sX7_writeTrack_24.sub 0 2) (pc' := 27) (ls' := [some (.ref 396), some (.int (nI x)), none]) (st' := [.int 47, .ref 396]) (h' := (N, SH v T, LW I ([] ++ dgL x), L, Dd)) rfl ?_
    refine Ev.callV (As := [.int 47]) (rest := []) dvX7_writes mkX7_216 rfl rfl dX7_writeTrack_27 (m_writes (d := d - 1) (I := I) (W := [] ++ dgL x) (c := 47) hX (by omega) ⟨by decide, by decide⟩ (by (try simp only [List.length_append, List.length_cons, List.length_nil, hd0, hd1, hd2, hd3]) <;> omega)) ⟨by omega, by show 2 + 19 + 40 * _ ≤ 40 * _; omega⟩ ⟨Nat.zero_le _, Nat.zero_le _⟩ rfl (Nat.le_of_ble_eq_true rfl) (fun v9 h9 e9 => ?_) (fun E9 h9 e9 => nomatch e9)
    cases e9
    show Ev _ _ _ _ _ _ 30 [some (.ref 396), some (.int (nI x)), none] [] (N, SH v T, LW I ([] ++ dgL x ++ [47]), L, Dd)
    refine Ev.sg hX (sX7_writeTrack_30.sub 0 2) (pc' := 32) (ls' := [some (.ref 396), some (.int (nI x)), none]) (st' := [.ref 396, .ref 396]) (h' := (N, SH v T, LW I ([] ++ dgL x ++ [47]), L, Dd)) rfl ?_
    refine Ev.getf (sX7_writeTrack_30.lk 2 (q := (32, .getfield 7, 7, 0)) rfl) rfl rfl (sX7_writeTrack_30.dc 2 (q := (32, .getfield 7, 7, 0)) rfl) ?_
    show Ev _ _ _ _ _ _ 35 [some (.ref 396), some (.int (nI x)), none] [.ref 397, .ref 396] (N, SH v T, LW I ([] ++ dgL x ++ [47]), L, Dd)
    refine Ev.sg hX (sX7_writeTrack_30.sub 3 3) (pc' := 39) (ls' := [some (.ref 396), some (.int (nI x)), none]) (st' := [.int (15 + (nI x)), .ref 397, .ref 396]) (h' := (N, SH v T, LW I ([] ++ dgL x ++ [47]), L, Dd)) rfl ?_
    refine Ev.ialdE (n := (15 + x)) (N := 179) rfl (naI rfl rfl) (by omega) (by decide) dX7_writeTrack_39 ?_
    show Ev _ _ _ _ _ _ 40 [some (.ref 396), some (.int (nI x)), none] [.int (I 397 (15 + x)), .ref 396] (N, SH v T, LW I ([] ++ dgL x ++ [47]), L, Dd)
    refine Ev.eqst (st' := [.int (nI sl), .ref 396]) (by rw [hsl9]) ?_
    refine Ev.callV (As := [.int (nI sl)]) (rest := []) dvX7_writesNumber mkX7_219 rfl rfl dX7_writeTrack_40 (m_writesNumber (d := d - 1) (I := I) (W := [] ++ dgL x ++ [47]) (k := sl) hX (by omega) hsl (by (try simp only [List.length_append, List.length_cons, List.length_nil, hd0, hd1, hd2, hd3]) <;> omega)) ⟨by omega, by show 3 + 19 + 40 * _ ≤ 40 * _; omega⟩ ⟨Nat.zero_le _, Nat.zero_le _⟩ rfl (Nat.le_of_ble_eq_true rfl) (fun v9 h9 e9 => ?_) (fun E9 h9 e9 => nomatch e9)
    cases e9
    show Ev _ _ _ _ _ _ 43 [some (.ref 396), some (.int (nI x)), none] [] (N, SH v T, LW I ([] ++ dgL x ++ [47] ++ dgL sl), L, Dd)
    refine Ev.sg hX (sX7_writeTrack_43.sub 0 2) (pc' := 46) (ls' := [some (.ref 396), some (.int (nI x)), none]) (st' := [.int 91, .ref 396]) (h' := (N, SH v T, LW I ([] ++ dgL x ++ [47] ++ dgL sl), L, Dd)) rfl ?_
    refine Ev.callV (As := [.int 91]) (rest := []) dvX7_writes mkX7_216 rfl rfl dX7_writeTrack_46 (m_writes (d := d - 1) (I := I) (W := [] ++ dgL x ++ [47] ++ dgL sl) (c := 91) hX (by omega) ⟨by decide, by decide⟩ (by (try simp only [List.length_append, List.length_cons, List.length_nil, hd0, hd1, hd2, hd3]) <;> omega)) ⟨by omega, by show 2 + 19 + 40 * _ ≤ 40 * _; omega⟩ ⟨Nat.zero_le _, Nat.zero_le _⟩ rfl (Nat.le_of_ble_eq_true rfl) (fun v9 h9 e9 => ?_) (fun E9 h9 e9 => nomatch e9)
    cases e9
    show Ev _ _ _ _ _ _ 49 [some (.ref 396), some (.int (nI x)), none] [] (N, SH v T, LW I ([] ++ dgL x ++ [47] ++ dgL sl ++ [91]), L, Dd)
    refine Ev.sg hX (sX7_writeTrack_49.sub 0 4) (pc' := 54) (ls' := [some (.ref 396), some (.int (nI x)), none]) (st' := [.int 59, .int (nI x), .ref 396, .ref 396]) (h' := (N, SH v T, LW I ([] ++ dgL x ++ [47] ++ dgL sl ++ [91]), L, Dd)) rfl ?_
    refine Ev.callV (As := [.int (nI x), .int 59]) (rest := [.ref 396]) dvX7_sumOn mkX7_64 rfl rfl dX7_writeTrack_54 (m_sumOn (d := d - 1) (I := (LW I ([] ++ dgL x ++ [47] ++ dgL sl ++ [91]))) (a := 59) hX (by omega) hm20 ((congrFun (LW_397 (I := I) (W := [] ++ dgL x ++ [47] ++ dgL sl ++ [91]) (a := 397) (by decide) (by decide)) 1).trans hm) (by decide)) ⟨by omega, by show 5 + 19 + 40 * _ ≤ 40 * _; omega⟩ ⟨Nat.zero_le _, Nat.zero_le _⟩ rfl (Nat.le_of_ble_eq_true rfl) (fun v9 h9 e9 => ?_) (fun E9 h9 e9 => nomatch e9)
    cases e9
    refine Ev.eqst (st' := [.int (nI us), .ref 396]) (by rw [smM_congr (LW_397 (I := I) (W := [] ++ dgL x ++ [47] ++ dgL sl ++ [91]) (a := 397) (by decide) (by decide)), hus9]; rfl) ?_
    show Ev _ _ _ _ _ _ 57 [some (.ref 396), some (.int (nI x)), none] [.int (nI us), .ref 396] (N, SH v T, LW I ([] ++ dgL x ++ [47] ++ dgL sl ++ [91]), L, Dd)
    refine Ev.callV (As := [.int (nI us)]) (rest := []) dvX7_writesNumber mkX7_219 rfl rfl dX7_writeTrack_57 (m_writesNumber (d := d - 1) (I := I) (W := [] ++ dgL x ++ [47] ++ dgL sl ++ [91]) (k := us) hX (by omega) hus (by (try simp only [List.length_append, List.length_cons, List.length_nil, hd0, hd1, hd2, hd3]) <;> omega)) ⟨by omega, by show 3 + 19 + 40 * _ ≤ 40 * _; omega⟩ ⟨Nat.zero_le _, Nat.zero_le _⟩ rfl (Nat.le_of_ble_eq_true rfl) (fun v9 h9 e9 => ?_) (fun E9 h9 e9 => nomatch e9)
    cases e9
    show Ev _ _ _ _ _ _ 60 [some (.ref 396), some (.int (nI x)), none] [] (N, SH v T, LW I ([] ++ dgL x ++ [47] ++ dgL sl ++ [91] ++ dgL us), L, Dd)
    refine Ev.sg hX (sX7_writeTrack_60.sub 0 2) (pc' := 63) (ls' := [some (.ref 396), some (.int (nI x)), none]) (st' := [.int 47, .ref 396]) (h' := (N, SH v T, LW I ([] ++ dgL x ++ [47] ++ dgL sl ++ [91] ++ dgL us), L, Dd)) rfl ?_
    refine Ev.callV (As := [.int 47]) (rest := []) dvX7_writes mkX7_216 rfl rfl dX7_writeTrack_63 (m_writes (d := d - 1) (I := I) (W := [] ++ dgL x ++ [47] ++ dgL sl ++ [91] ++ dgL us) (c := 47) hX (by omega) ⟨by decide, by decide⟩ (by (try simp only [List.length_append, List.length_cons, List.length_nil, hd0, hd1, hd2, hd3]) <;> omega)) ⟨by omega, by show 2 + 19 + 40 * _ ≤ 40 * _; omega⟩ ⟨Nat.zero_le _, Nat.zero_le _⟩ rfl (Nat.le_of_ble_eq_true rfl) (fun v9 h9 e9 => ?_) (fun E9 h9 e9 => nomatch e9)
    cases e9
    show Ev _ _ _ _ _ _ 66 [some (.ref 396), some (.int (nI x)), none] [] (N, SH v T, LW I ([] ++ dgL x ++ [47] ++ dgL sl ++ [91] ++ dgL us ++ [47]), L, Dd)
    refine Ev.sg hX (sX7_writeTrack_66.sub 0 2) (pc' := 68) (ls' := [some (.ref 396), some (.int (nI x)), none]) (st' := [.ref 396, .ref 396]) (h' := (N, SH v T, LW I ([] ++ dgL x ++ [47] ++ dgL sl ++ [91] ++ dgL us ++ [47]), L, Dd)) rfl ?_
    refine Ev.getf (sX7_writeTrack_66.lk 2 (q := (68, .getfield 7, 7, 0)) rfl) rfl rfl (sX7_writeTrack_66.dc 2 (q := (68, .getfield 7, 7, 0)) rfl) ?_
    show Ev _ _ _ _ _ _ 71 [some (.ref 396), some (.int (nI x)), none] [.ref 397, .ref 396] (N, SH v T, LW I ([] ++ dgL x ++ [47] ++ dgL sl ++ [91] ++ dgL us ++ [47]), L, Dd)
    refine Ev.sg hX (sX7_writeTrack_66.sub 3 3) (pc' := 75) (ls' := [some (.ref 396), some (.int (nI x)), none]) (st' := [.int (7 + (nI x)), .ref 397, .ref 396]) (h' := (N, SH v T, LW I ([] ++ dgL x ++ [47] ++ dgL sl ++ [91] ++ dgL us ++ [47]), L, Dd)) rfl ?_
    refine Ev.ialdE (n := (7 + x)) (N := 179) rfl (naI rfl rfl) (by omega) (by decide) dX7_writeTrack_75 ?_
    show Ev _ _ _ _ _ _ 76 [some (.ref 396), some (.int (nI x)), none] [.int (I 397 (7 + x)), .ref 396] (N, SH v T, LW I ([] ++ dgL x ++ [47] ++ dgL sl ++ [91] ++ dgL us ++ [47]), L, Dd)
    refine Ev.eqst (st' := [.int (nI ca), .ref 396]) (by rw [hca9]) ?_
    refine Ev.callV (As := [.int (nI ca)]) (rest := []) dvX7_writesNumber mkX7_219 rfl rfl dX7_writeTrack_76 (m_writesNumber (d := d - 1) (I := I) (W := [] ++ dgL x ++ [47] ++ dgL sl ++ [91] ++ dgL us ++ [47]) (k := ca) hX (by omega) hca (by (try simp only [List.length_append, List.length_cons, List.length_nil, hd0, hd1, hd2, hd3]) <;> omega)) ⟨by omega, by show 3 + 19 + 40 * _ ≤ 40 * _; omega⟩ ⟨Nat.zero_le _, Nat.zero_le _⟩ rfl (Nat.le_of_ble_eq_true rfl) (fun v9 h9 e9 => ?_) (fun E9 h9 e9 => nomatch e9)
    cases e9
    show Ev _ _ _ _ _ _ 79 [some (.ref 396), some (.int (nI x)), none] [] (N, SH v T, LW I ([] ++ dgL x ++ [47] ++ dgL sl ++ [91] ++ dgL us ++ [47] ++ dgL ca), L, Dd)
    refine Ev.sg hX (sX7_writeTrack_79.sub 0 2) (pc' := 82) (ls' := [some (.ref 396), some (.int (nI x)), none]) (st' := [.int 93, .ref 396]) (h' := (N, SH v T, LW I ([] ++ dgL x ++ [47] ++ dgL sl ++ [91] ++ dgL us ++ [47] ++ dgL ca), L, Dd)) rfl ?_
    refine Ev.callV (As := [.int 93]) (rest := []) dvX7_writes mkX7_216 rfl rfl dX7_writeTrack_82 (m_writes (d := d - 1) (I := I) (W := [] ++ dgL x ++ [47] ++ dgL sl ++ [91] ++ dgL us ++ [47] ++ dgL ca) (c := 93) hX (by omega) ⟨by decide, by decide⟩ (by (try simp only [List.length_append, List.length_cons, List.length_nil, hd0, hd1, hd2, hd3]) <;> omega)) ⟨by omega, by show 2 + 19 + 40 * _ ≤ 40 * _; omega⟩ ⟨Nat.zero_le _, Nat.zero_le _⟩ rfl (Nat.le_of_ble_eq_true rfl) (fun v9 h9 e9 => ?_) (fun E9 h9 e9 => nomatch e9)
    cases e9
    show Ev _ _ _ _ _ _ 85 [some (.ref 396), some (.int (nI x)), none] [] (N, SH v T, LW I ([] ++ dgL x ++ [47] ++ dgL sl ++ [91] ++ dgL us ++ [47] ++ dgL ca ++ [93]), L, Dd)
    refine Ev.sg hX (sX7_writeTrack_85.sub 0 2) (pc' := 87) (ls' := [some (.ref 396), some (.int (nI x)), some (.int 0)]) (st' := []) (h' := (N, SH v T, LW I ([] ++ dgL x ++ [47] ++ dgL sl ++ [91] ++ dgL us ++ [47] ++ dgL ca ++ [93]), L, Dd)) rfl ?_
    refine l_mwt hX (by omega) hm20 hm (by omega) hc0 hg hcar c0 0 ([] ++ dgL x ++ [47] ++ dgL sl ++ [91] ++ dgL us ++ [47] ++ dgL ca ++ [93]) (Nat.zero_add c0) (by simp only [List.length_append, List.length_cons, List.length_nil, hd0, hd1, hd2, hd3] <;> omega) ?_
    have e2 : ([] ++ dgL x ++ [47] ++ dgL sl ++ [91] ++ dgL us ++ [47] ++ dgL ca ++ [93]) ++ carsTM I m x c0 0 = trkTM I m x c0 := by rw [trkTM, hsl9, hus9, hca9, show (nI sl).toNatClampNeg = sl from nI_clamp (by omega), show (nI us).toNatClampNeg = us from nI_clamp (by omega), show (nI ca).toNatClampNeg = ca from nI_clamp (by omega), List.nil_append]
    rw [e2]
    refine Ev.sg hX (sX7_writeTrack_116.sub 0 2) (pc' := 118) (ls' := [some (.ref 396), some (.int (nI x)), some (.int (nI c0))]) (st' := [.ref 396, .ref 396]) (h' := (N, SH v T, LW I (trkTM I m x c0), L, Dd)) rfl ?_
    refine Ev.getf (sX7_writeTrack_116.lk 2 (q := (118, .getfield 213, 7, 11)) rfl) rfl rfl (sX7_writeTrack_116.dc 2 (q := (118, .getfield 213, 7, 11)) rfl) ?_
    show Ev _ _ _ _ _ _ 121 [some (.ref 396), some (.int (nI x)), some (.int (nI c0))] [.int (nI (trkTM I m x c0).length), .ref 396] (N, SH v T, LW I (trkTM I m x c0), L, Dd)
    refine Ev.callV (As := [.int (nI (trkTM I m x c0).length)]) (rest := []) dvX7_done mkX7_79 rfl rfl dX7_writeTrack_121 (m_done (d := d - 1) (I := (LW I (trkTM I m x c0))) hX (by omega)) ⟨by omega, by show 2 + 19 + 40 * _ ≤ 40 * _; omega⟩ ⟨Nat.zero_le _, Nat.zero_le _⟩ rfl (Nat.le_of_ble_eq_true rfl) (fun v9 h9 e9 => ?_) (fun E9 h9 e9 => nomatch e9)
    cases e9
    show Ev _ _ _ _ _ _ 124 [some (.ref 396), some (.int (nI x)), some (.int (nI c0))] [.int (nI (trkTM I m x c0).length)] (N, SH v T, up2 (LW I (trkTM I m x c0)) 396 12 0, L, Dd)
    refine Ev.iret dX7_writeTrack_124 rfl ?_
    rw [wtM, if_neg (fun w => w htt), hcx, hg, show (nI c0).toNatClampNeg = c0 from nI_clamp (by omega)]
  · refine Ev.sg hX (sX7_writeTrack_8.sub 0 2) (pc' := 10) (ls' := [some (.ref 396), some (.int t), none]) (st' := [.int 1, .ref 396]) (h' := (N, SH v T, I, L, Dd)) rfl ?_
    refine Ev.callV (As := [.int 1]) (rest := []) dvX7_fails mkX7_75 rfl rfl dX7_writeTrack_10 (m_fails (d := d - 1) (I := I) hX (by omega)) ⟨by omega, by show 2 + 19 + 40 * _ ≤ 40 * _; omega⟩ ⟨Nat.zero_le _, Nat.zero_le _⟩ rfl (Nat.le_of_ble_eq_true rfl) (fun v9 h9 e9 => ?_) (fun E9 h9 e9 => nomatch e9)
    cases e9
    show Ev _ _ _ _ _ _ 13 [some (.ref 396), some (.int t), none] [.int 0] (N, SH v T, up2 I 396 12 1, L, Dd)
    refine Ev.iret dX7_writeTrack_13 rfl ?_
    rw [wtM, if_pos (bi_0.mp b1)]
end MODN
