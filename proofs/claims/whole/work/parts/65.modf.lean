/-! the model: a program carried out -/
def mO (I : HI) : Nat := (I 397 1).toNatClampNeg
def zO (I : HI) : Nat := (I 397 0).toNatClampNeg
def coM (I : HI) (k : Nat) : Int32 × HI := if I 404 k = 116 then adtM I (zO I) (I 404 (k + 1)) (I 404 (k + 2)) else if I 404 k = 115 then cnM I (zO I) (I 404 (k + 1)) (I 404 (k + 2)) else if I 404 k = 117 then dcM I (zO I) (I 404 (k + 1)) (I 404 (k + 2))
  else if I 404 k = 99 then accM I (mO I) (I 404 (k + 1)) (I 404 (k + 2)) (I 404 (k + 3)) (I 404 (k + 4)) (I 404 (k + 5)) else if I 404 k = 104 then shuM I (mO I) (zO I) (I 404 (k + 1)) (I 404 (k + 2)) (I 404 (k + 3)) else if I 404 k = 114 then repM I (mO I) (I 404 (k + 1)) else depM I (mO I) (I 404 (k + 1)) (I 404 (k + 2))
def cdOK (x : Int32) : Prop := x = 116 ∨ x = 115 ∨ x = 117 ∨ x = 99 ∨ x = 104 ∨ x = 114 ∨ x = 105
def coOK (I : HI) (k : Nat) : Prop := (mO I ≤ 20 ∧ I 397 1 = nI (mO I)) ∧ (zO I ≤ 8 ∧ I 397 0 = nI (zO I)) ∧ PLM I (mO I) ∧ cdOK (I 404 k) ∧
  (I 404 k = 104 → ¬ 0 < (whM I (mO I) (zO I) (I 404 (k + 1)) (I 404 (k + 2)) (I 404 (k + 3))).1 → okMv (mO I) (I 404 (k + 1)).toNatClampNeg (I 404 (k + 2)).toNatClampNeg (I 404 (k + 3)).toNatClampNeg (exM (exM I (zO I) (I 404 (k + 2)).toNatClampNeg) (zO I) (I 404 (k + 2)).toNatClampNeg)) ∧
  (I 404 k = 105 → tkM I (I 404 (k + 1)) → (0 ≤ I 404 (k + 2) ∧ I 404 (k + 2) ≤ 9) → ¬ (I 397 (31 + (I 404 (k + 1)).toNatClampNeg) = 0 ∨ ¬ I 397 (99 + (feM I (mO I) (I 404 (k + 1)).toNatClampNeg 0).toNatClampNeg) = I 404 (k + 2)) → fo (baS I (mO I) (I 404 (k + 1)).toNatClampNeg) (trN I (mO I) (I 404 (k + 1)).toNatClampNeg).toNatClampNeg 0 0 = 0 → okDp (mO I) (I 404 (k + 1)).toNatClampNeg (trN I (mO I) (I 404 (k + 1)).toNatClampNeg).toNatClampNeg 0 I)
def mrL : Nat → Nat → HI → Option (Nat × Int32) × HI
  | 0, _, J => (none, J)
  | n + 1, k, J => if (coM J (6 * k)).2 396 12 = 0 then mrL n (k + 1) (coM J (6 * k)).2 else (some (k, (coM J (6 * k)).1), (coM J (6 * k)).2)
def mrOK (ch : Nat) : Nat → Nat → HI → Prop
  | 0, _, J => J 396 3 = nI ch
  | n + 1, k, J => coOK J (6 * k) ∧ (coM J (6 * k)).2 396 3 = nI ch ∧ ((coM J (6 * k)).2 396 12 = 0 → mrOK ch n (k + 1) (coM J (6 * k)).2)
def mfi (ch ct : Nat) (J : HI) : Option (Nat × Int32) → Int32 × HI
  | none => kepM (up2 J 396 12 0) (nI ct) ch
  | some (k, x) => kepM (up2 (up2 J 396 9 (nI k)) 396 12 2) x ch
def rdM (tx : Nat → Int32) (q : Nat) : Nat → Nat → MS → Nat × MS
  | 0, ct, s => (ct, s)
  | n + 1, ct, s => if (pX tx q (6 * ct) s).2.1 = 0 ∧ chA tx q (pX tx q (6 * ct) s).1 = 59 then rdM tx q n (ct + 1) ((pX tx q (6 * ct) s).1 + 1, (pX tx q (6 * ct) s).2) else (ct + 1, pX tx q (6 * ct) s)
def GG (q : Nat) (s t : MS) : Prop := t.2.1 = 0 → s.2.1 = 0 ∧ s.1 ≤ t.1 ∧ (s.1 ≤ q → t.1 ≤ q)
section GGS
variable {tx : Nat → Int32} {q k n i : Nat} {c x : Int32} {s t u : MS}
theorem GG.rf : GG q s s := fun h => ⟨h, Nat.le_refl _, id⟩
theorem GG.tr (h : GG q s t) (g : GG q t u) : GG q s u := fun e => by
  obtain ⟨a, b, c⟩ := g e
  obtain ⟨a', b', c'⟩ := h a
  exact ⟨a', Nat.le_trans b' b, fun z => c (c' z)⟩
theorem nd_G (hc : c ≠ -1) : GG q s (nd tx q c s) := by
  intro h
  unfold nd at *
  split at h
  · rename_i h1
    rw [if_pos h1]
    have := chA_no h1.2 hc
    exact ⟨h1.1, Nat.le_succ _, fun _ => this⟩
  · exact absurd h (show ¬ (1 : Int32) = 0 by decide)
theorem dd_G (hc : c ≠ -1) : GG q s (dd9 tx q c n s) := by
  intro h
  unfold dd9 at *
  split at h
  · rename_i h1
    rw [if_pos h1]
    obtain ⟨a, b, d⟩ := nd_G (tx := tx) (s := s) hc h1.1
    exact ⟨a, Nat.le_trans b (dgF_le (tx := tx) (q := q) n _ 0).1, fun z => dgF_q n _ 0 (d z)⟩
  · exact absurd h (show ¬ (1 : Int32) = 0 by decide)
theorem wr_G : GG q s (wr s i x) := fun h => ⟨h, Nat.le_refl _, id⟩
theorem dw_G (hc : c ≠ -1) : GG q s (dw tx q c n i s) := (dd_G hc).tr wr_G
theorem pP_G : GG q s (pP tx q k s) := (dw_G (by decide)).tr (dw_G (by decide))
theorem pT_G : GG q s (pT tx q k s) := by
  unfold pT
  refine GG.tr ?_ (dw_G (by decide))
  split
  · exact (nd_G (by decide)).tr ((nd_G (by decide)).tr (wr_G.tr ((nd_G (by decide)).tr ((nd_G (by decide)).tr (dw_G (by decide))))))
  · exact (nd_G (by decide)).tr ((nd_G (by decide)).tr ((nd_G (by decide)).tr ((nd_G (by decide)).tr (dw_G (by decide)))))
theorem pS_G : GG q s (pS tx q k s) := by
  unfold pS
  split
  · exact wr_G.tr ((nd_G (by decide)).tr ((nd_G (by decide)).tr ((nd_G (by decide)).tr ((nd_G (by decide)).tr ((dw_G (by decide)).tr ((dw_G (by decide)).tr (dw_G (by decide))))))))
  · exact (nd_G (by decide)).tr ((nd_G (by decide)).tr ((nd_G (by decide)).tr ((nd_G (by decide)).tr ((nd_G (by decide)).tr pP_G))))
theorem pC5_G : GG q s (pC5 tx q k s) := (nd_G (by decide)).tr ((nd_G (by decide)).tr ((dw_G (by decide)).tr ((dw_G (by decide)).tr ((dw_G (by decide)).tr (dw_G (by decide))))))
theorem pC_G : GG q s (pC tx q k s) := by
  unfold pC
  split
  · exact wr_G.tr ((nd_G (by decide)).tr ((nd_G (by decide)).tr pP_G))
  · split
    · rename_i h1
      intro h
      obtain ⟨a, b, d⟩ := pC5_G (tx := tx) (q := q) (k := k) (s := s) h1.1
      have := chA_no h1.2 (by decide)
      exact ⟨a, Nat.le_succ_of_le b, fun _ => this⟩
    · exact pC5_G.tr wr_G
theorem pX_ok (h : (pX tx q k s).2.1 = 0) : s.1 + 1 ≤ (pX tx q k s).1 ∧ (pX tx q k s).1 ≤ q := by
  unfold pX at *
  split at h
  · rename_i h1
    rw [if_pos h1]
    have hq := chA_no h1 (by decide)
    obtain ⟨a, b, d⟩ := pT_G h
    exact ⟨b, d hq⟩
  · rename_i h1
    rw [if_neg h1]
    split at h
    · rename_i h2
      rw [if_pos h2]
      have hq := chA_no h2 (by decide)
      obtain ⟨a, b, d⟩ := pS_G h
      exact ⟨b, d hq⟩
    · rename_i h2
      rw [if_neg h2]
      split at h
      · rename_i h3
        rw [if_pos h3]
        have hq := chA_no h3 (by decide)
        obtain ⟨a, b, d⟩ := pC_G h
        exact ⟨b, d hq⟩
      · rename_i h3
        rw [if_neg h3]
        split at h
        · rename_i h4
          rw [if_pos h4]
          have hq := chA_no h4 (by decide)
          obtain ⟨a, b, d⟩ := ((nd_G (by decide)).tr ((nd_G (by decide)).tr ((nd_G (by decide)).tr ((nd_G (by decide)).tr ((nd_G (by decide)).tr (dw_G (by decide))))))) h
          exact ⟨b, d hq⟩
        · exact absurd h (show ¬ (1 : Int32) = 0 by decide)
end GGS
section PMP
variable {X : JX} {d N v : Nat} {T : Nat → Option JS} {I : Nat → Nat → Int32} {L : Nat → Nat → Int64} {Dd : Nat → Nat → UInt64} {q k n ch ct : Nat} {c e : Int32} {s : MS}
theorem m_carriesOut (hX : JXok X) (hd : 6 ≤ d) (hk : k ≤ 300) (hco : coOK I k) : MT X d 0 0 jdX7_carriesOut [.ref 396, .int (nI k)] (N, SH v T, I, L, Dd) (fun R => R = .inl (some (.int (coM I k).1), (N, SH v T, (coM I k).2, L, Dd))) := by
  refine MT.mk dvX7_carriesOut.1 ?_
  obtain ⟨⟨hm20, hm⟩, ⟨hz8, hz⟩, hPL, hcd, hsh, hdp⟩ := hco
  refine Ev.sg hX (sX7_carriesOut_0.sub 0 1) (pc' := 1) (ls' := [some (.ref 396), some (.int (nI k)), none, none]) (st' := [.ref 396]) (h' := (N, SH v T, I, L, Dd)) rfl ?_
  refine Ev.getf (sX7_carriesOut_0.lk 1 (q := (1, .getfield 39, 7, 16)) rfl) rfl rfl (sX7_carriesOut_0.dc 1 (q := (1, .getfield 39, 7, 16)) rfl) ?_
  show Ev _ _ _ _ _ _ 4 [some (.ref 396), some (.int (nI k)), none, none] [.ref 404] (N, SH v T, I, L, Dd)
  refine Ev.sg hX (sX7_carriesOut_0.sub 2 3) (pc' := 7) (ls' := [some (.ref 396), some (.int (nI k)), none, none]) (st' := [.int ((nI k) + 1), .ref 404]) (h' := (N, SH v T, I, L, Dd)) rfl ?_
  refine Ev.ialdE (n := (k + 1)) (N := 360) rfl (naI rfl rfl) (by omega) (by decide) dX7_carriesOut_7 ?_
  show Ev _ _ _ _ _ _ 8 [some (.ref 396), some (.int (nI k)), none, none] [.int (I 404 (k + 1))] (N, SH v T, I, L, Dd)
  refine Ev.sg hX (sX7_carriesOut_8.sub 0 2) (pc' := 10) (ls' := [some (.ref 396), some (.int (nI k)), some (.int (I 404 (k + 1))), none]) (st' := [.ref 396]) (h' := (N, SH v T, I, L, Dd)) rfl ?_
  refine Ev.getf (sX7_carriesOut_8.lk 2 (q := (10, .getfield 39, 7, 16)) rfl) rfl rfl (sX7_carriesOut_8.dc 2 (q := (10, .getfield 39, 7, 16)) rfl) ?_
  show Ev _ _ _ _ _ _ 13 [some (.ref 396), some (.int (nI k)), some (.int (I 404 (k + 1))), none] [.ref 404] (N, SH v T, I, L, Dd)
  refine Ev.sg hX (sX7_carriesOut_8.sub 3 3) (pc' := 16) (ls' := [some (.ref 396), some (.int (nI k)), some (.int (I 404 (k + 1))), none]) (st' := [.int ((nI k) + 2), .ref 404]) (h' := (N, SH v T, I, L, Dd)) rfl ?_
  refine Ev.ialdE (n := (k + 2)) (N := 360) rfl (naI rfl rfl) (by omega) (by decide) dX7_carriesOut_16 ?_
  show Ev _ _ _ _ _ _ 17 [some (.ref 396), some (.int (nI k)), some (.int (I 404 (k + 1))), none] [.int (I 404 (k + 2))] (N, SH v T, I, L, Dd)
  refine Ev.sg hX (sX7_carriesOut_17.sub 0 2) (pc' := 19) (ls' := [some (.ref 396), some (.int (nI k)), some (.int (I 404 (k + 1))), some (.int (I 404 (k + 2)))]) (st' := [.ref 396]) (h' := (N, SH v T, I, L, Dd)) rfl ?_
  refine Ev.getf (sX7_carriesOut_17.lk 2 (q := (19, .getfield 39, 7, 16)) rfl) rfl rfl (sX7_carriesOut_17.dc 2 (q := (19, .getfield 39, 7, 16)) rfl) ?_
  show Ev _ _ _ _ _ _ 22 [some (.ref 396), some (.int (nI k)), some (.int (I 404 (k + 1))), some (.int (I 404 (k + 2)))] [.ref 404] (N, SH v T, I, L, Dd)
  refine Ev.sg hX (sX7_carriesOut_17.sub 3 1) (pc' := 23) (ls' := [some (.ref 396), some (.int (nI k)), some (.int (I 404 (k + 1))), some (.int (I 404 (k + 2)))]) (st' := [.int (nI k), .ref 404]) (h' := (N, SH v T, I, L, Dd)) rfl ?_
  refine Ev.ialdE (n := k) (N := 360) rfl rfl (by omega) (by decide) dX7_carriesOut_23 ?_
  show Ev _ _ _ _ _ _ 24 [some (.ref 396), some (.int (nI k)), some (.int (I 404 (k + 1))), some (.int (I 404 (k + 2)))] [.int (I 404 k)] (N, SH v T, I, L, Dd)
  rcases hcd with hc | hc | hc | hc | hc | hc | hc
  · refine Ev.eqst (st' := [.int 116]) (by rw [hc]) ?_
    refine Ev.tabIn (tgt := 116) (off := 92) dX7_carriesOut_24 (by decide) (by decide) rfl rfl ?_
    refine Ev.sg hX (sX7_carriesOut_116.sub 0 3) (pc' := 119) (ls' := [some (.ref 396), some (.int (nI k)), some (.int (I 404 (k + 1))), some (.int (I 404 (k + 2)))]) (st' := [.int (I 404 (k + 2)), .int (I 404 (k + 1)), .ref 396]) (h' := (N, SH v T, I, L, Dd)) rfl ?_
    refine Ev.callV (As := [.int (I 404 (k + 1)), .int (I 404 (k + 2))]) (rest := []) dvX7_addsTrack mkX7_85 rfl rfl dX7_carriesOut_119 (m_addsTrack (d := d - 1) (I := I) hX (by omega) hz8 hz) ⟨by omega, by show 4 + 19 + 40 * _ ≤ 40 * _; omega⟩ ⟨Nat.zero_le _, Nat.zero_le _⟩ rfl (Nat.le_of_ble_eq_true rfl) (fun v9 h9 e9 => ?_) (fun E9 h9 e9 => nomatch e9)
    cases e9
    show Ev _ _ _ _ _ _ 122 [some (.ref 396), some (.int (nI k)), some (.int (I 404 (k + 1))), some (.int (I 404 (k + 2)))] [.int ((adtM I (zO I) (I 404 (k + 1)) (I 404 (k + 2))).1)] (N, SH v T, (adtM I (zO I) (I 404 (k + 1)) (I 404 (k + 2))).2, L, Dd)
    refine Ev.iret dX7_carriesOut_122 rfl ?_
    rw [coM, if_pos hc]
  · refine Ev.eqst (st' := [.int 115]) (by rw [hc]) ?_
    refine Ev.tabIn (tgt := 123) (off := 99) dX7_carriesOut_24 (by decide) (by decide) rfl rfl ?_
    refine Ev.sg hX (sX7_carriesOut_123.sub 0 3) (pc' := 126) (ls' := [some (.ref 396), some (.int (nI k)), some (.int (I 404 (k + 1))), some (.int (I 404 (k + 2)))]) (st' := [.int (I 404 (k + 2)), .int (I 404 (k + 1)), .ref 396]) (h' := (N, SH v T, I, L, Dd)) rfl ?_
    refine Ev.callV (As := [.int (I 404 (k + 1)), .int (I 404 (k + 2))]) (rest := []) dvX7_connects mkX7_101 rfl rfl dX7_carriesOut_126 (m_connects (d := d - 1) (I := I) hX (by omega) hz8 hz) ⟨by omega, by show 3 + 19 + 40 * _ ≤ 40 * _; omega⟩ ⟨Nat.zero_le _, Nat.zero_le _⟩ rfl (Nat.le_of_ble_eq_true rfl) (fun v9 h9 e9 => ?_) (fun E9 h9 e9 => nomatch e9)
    cases e9
    show Ev _ _ _ _ _ _ 129 [some (.ref 396), some (.int (nI k)), some (.int (I 404 (k + 1))), some (.int (I 404 (k + 2)))] [.int ((cnM I (zO I) (I 404 (k + 1)) (I 404 (k + 2))).1)] (N, SH v T, (cnM I (zO I) (I 404 (k + 1)) (I 404 (k + 2))).2, L, Dd)
    refine Ev.iret dX7_carriesOut_129 rfl ?_
    rw [coM, if_neg (show ¬ I 404 k = 116 by rw [hc]; decide), if_pos hc]
  · refine Ev.eqst (st' := [.int 117]) (by rw [hc]) ?_
    refine Ev.tabIn (tgt := 130) (off := 106) dX7_carriesOut_24 (by decide) (by decide) rfl rfl ?_
    refine Ev.sg hX (sX7_carriesOut_130.sub 0 3) (pc' := 133) (ls' := [some (.ref 396), some (.int (nI k)), some (.int (I 404 (k + 1))), some (.int (I 404 (k + 2)))]) (st' := [.int (I 404 (k + 2)), .int (I 404 (k + 1)), .ref 396]) (h' := (N, SH v T, I, L, Dd)) rfl ?_
    refine Ev.callV (As := [.int (I 404 (k + 1)), .int (I 404 (k + 2))]) (rest := []) dvX7_disconnects mkX7_104 rfl rfl dX7_carriesOut_133 (m_disconnects (d := d - 1) (I := I) hX (by omega) hz8 hz) ⟨by omega, by show 3 + 19 + 40 * _ ≤ 40 * _; omega⟩ ⟨Nat.zero_le _, Nat.zero_le _⟩ rfl (Nat.le_of_ble_eq_true rfl) (fun v9 h9 e9 => ?_) (fun E9 h9 e9 => nomatch e9)
    cases e9
    show Ev _ _ _ _ _ _ 136 [some (.ref 396), some (.int (nI k)), some (.int (I 404 (k + 1))), some (.int (I 404 (k + 2)))] [.int ((dcM I (zO I) (I 404 (k + 1)) (I 404 (k + 2))).1)] (N, SH v T, (dcM I (zO I) (I 404 (k + 1)) (I 404 (k + 2))).2, L, Dd)
    refine Ev.iret dX7_carriesOut_136 rfl ?_
    rw [coM, if_neg (show ¬ I 404 k = 116 by rw [hc]; decide), if_neg (show ¬ I 404 k = 115 by rw [hc]; decide), if_pos hc]
  · refine Ev.eqst (st' := [.int 99]) (by rw [hc]) ?_
    refine Ev.tabIn (tgt := 137) (off := 113) dX7_carriesOut_24 (by decide) (by decide) rfl rfl ?_
    refine Ev.sg hX (sX7_carriesOut_137.sub 0 4) (pc' := 141) (ls' := [some (.ref 396), some (.int (nI k)), some (.int (I 404 (k + 1))), some (.int (I 404 (k + 2)))]) (st' := [.ref 396, .int (I 404 (k + 2)), .int (I 404 (k + 1)), .ref 396]) (h' := (N, SH v T, I, L, Dd)) rfl ?_
    refine Ev.getf (sX7_carriesOut_137.lk 4 (q := (141, .getfield 39, 7, 16)) rfl) rfl rfl (sX7_carriesOut_137.dc 4 (q := (141, .getfield 39, 7, 16)) rfl) ?_
    show Ev _ _ _ _ _ _ 144 [some (.ref 396), some (.int (nI k)), some (.int (I 404 (k + 1))), some (.int (I 404 (k + 2)))] [.ref 404, .int (I 404 (k + 2)), .int (I 404 (k + 1)), .ref 396] (N, SH v T, I, L, Dd)
    refine Ev.sg hX (sX7_carriesOut_137.sub 5 3) (pc' := 147) (ls' := [some (.ref 396), some (.int (nI k)), some (.int (I 404 (k + 1))), some (.int (I 404 (k + 2)))]) (st' := [.int ((nI k) + 3), .ref 404, .int (I 404 (k + 2)), .int (I 404 (k + 1)), .ref 396]) (h' := (N, SH v T, I, L, Dd)) rfl ?_
    refine Ev.ialdE (n := (k + 3)) (N := 360) rfl (naI rfl rfl) (by omega) (by decide) dX7_carriesOut_147 ?_
    show Ev _ _ _ _ _ _ 148 [some (.ref 396), some (.int (nI k)), some (.int (I 404 (k + 1))), some (.int (I 404 (k + 2)))] [.int (I 404 (k + 3)), .int (I 404 (k + 2)), .int (I 404 (k + 1)), .ref 396] (N, SH v T, I, L, Dd)
    refine Ev.sg hX (sX7_carriesOut_148.sub 0 1) (pc' := 149) (ls' := [some (.ref 396), some (.int (nI k)), some (.int (I 404 (k + 1))), some (.int (I 404 (k + 2)))]) (st' := [.ref 396, .int (I 404 (k + 3)), .int (I 404 (k + 2)), .int (I 404 (k + 1)), .ref 396]) (h' := (N, SH v T, I, L, Dd)) rfl ?_
    refine Ev.getf (sX7_carriesOut_148.lk 1 (q := (149, .getfield 39, 7, 16)) rfl) rfl rfl (sX7_carriesOut_148.dc 1 (q := (149, .getfield 39, 7, 16)) rfl) ?_
    show Ev _ _ _ _ _ _ 152 [some (.ref 396), some (.int (nI k)), some (.int (I 404 (k + 1))), some (.int (I 404 (k + 2)))] [.ref 404, .int (I 404 (k + 3)), .int (I 404 (k + 2)), .int (I 404 (k + 1)), .ref 396] (N, SH v T, I, L, Dd)
    refine Ev.sg hX (sX7_carriesOut_148.sub 2 3) (pc' := 155) (ls' := [some (.ref 396), some (.int (nI k)), some (.int (I 404 (k + 1))), some (.int (I 404 (k + 2)))]) (st' := [.int ((nI k) + 4), .ref 404, .int (I 404 (k + 3)), .int (I 404 (k + 2)), .int (I 404 (k + 1)), .ref 396]) (h' := (N, SH v T, I, L, Dd)) rfl ?_
    refine Ev.ialdE (n := (k + 4)) (N := 360) rfl (naI rfl rfl) (by omega) (by decide) dX7_carriesOut_155 ?_
    show Ev _ _ _ _ _ _ 156 [some (.ref 396), some (.int (nI k)), some (.int (I 404 (k + 1))), some (.int (I 404 (k + 2)))] [.int (I 404 (k + 4)), .int (I 404 (k + 3)), .int (I 404 (k + 2)), .int (I 404 (k + 1)), .ref 396] (N, SH v T, I, L, Dd)
    refine Ev.sg hX (sX7_carriesOut_156.sub 0 1) (pc' := 157) (ls' := [some (.ref 396), some (.int (nI k)), some (.int (I 404 (k + 1))), some (.int (I 404 (k + 2)))]) (st' := [.ref 396, .int (I 404 (k + 4)), .int (I 404 (k + 3)), .int (I 404 (k + 2)), .int (I 404 (k + 1)), .ref 396]) (h' := (N, SH v T, I, L, Dd)) rfl ?_
    refine Ev.getf (sX7_carriesOut_156.lk 1 (q := (157, .getfield 39, 7, 16)) rfl) rfl rfl (sX7_carriesOut_156.dc 1 (q := (157, .getfield 39, 7, 16)) rfl) ?_
    show Ev _ _ _ _ _ _ 160 [some (.ref 396), some (.int (nI k)), some (.int (I 404 (k + 1))), some (.int (I 404 (k + 2)))] [.ref 404, .int (I 404 (k + 4)), .int (I 404 (k + 3)), .int (I 404 (k + 2)), .int (I 404 (k + 1)), .ref 396] (N, SH v T, I, L, Dd)
    refine Ev.sg hX (sX7_carriesOut_156.sub 2 3) (pc' := 163) (ls' := [some (.ref 396), some (.int (nI k)), some (.int (I 404 (k + 1))), some (.int (I 404 (k + 2)))]) (st' := [.int ((nI k) + 5), .ref 404, .int (I 404 (k + 4)), .int (I 404 (k + 3)), .int (I 404 (k + 2)), .int (I 404 (k + 1)), .ref 396]) (h' := (N, SH v T, I, L, Dd)) rfl ?_
    refine Ev.ialdE (n := (k + 5)) (N := 360) rfl (naI rfl rfl) (by omega) (by decide) dX7_carriesOut_163 ?_
    show Ev _ _ _ _ _ _ 164 [some (.ref 396), some (.int (nI k)), some (.int (I 404 (k + 1))), some (.int (I 404 (k + 2)))] [.int (I 404 (k + 5)), .int (I 404 (k + 4)), .int (I 404 (k + 3)), .int (I 404 (k + 2)), .int (I 404 (k + 1)), .ref 396] (N, SH v T, I, L, Dd)
    refine Ev.callV (As := [.int (I 404 (k + 1)), .int (I 404 (k + 2)), .int (I 404 (k + 3)), .int (I 404 (k + 4)), .int (I 404 (k + 5))]) (rest := []) dvX7_addsCar mkX7_110 rfl rfl dX7_carriesOut_164 (m_addsCar (d := d - 1) (I := I) hX (by omega) hm20 hm hz8 hz) ⟨by omega, by show 7 + 19 + 40 * _ ≤ 40 * _; omega⟩ ⟨Nat.zero_le _, Nat.zero_le _⟩ rfl (Nat.le_of_ble_eq_true rfl) (fun v9 h9 e9 => ?_) (fun E9 h9 e9 => nomatch e9)
    cases e9
    show Ev _ _ _ _ _ _ 167 [some (.ref 396), some (.int (nI k)), some (.int (I 404 (k + 1))), some (.int (I 404 (k + 2)))] [.int ((accM I (mO I) (I 404 (k + 1)) (I 404 (k + 2)) (I 404 (k + 3)) (I 404 (k + 4)) (I 404 (k + 5))).1)] (N, SH v T, (accM I (mO I) (I 404 (k + 1)) (I 404 (k + 2)) (I 404 (k + 3)) (I 404 (k + 4)) (I 404 (k + 5))).2, L, Dd)
    refine Ev.iret dX7_carriesOut_167 rfl ?_
    rw [coM, if_neg (show ¬ I 404 k = 116 by rw [hc]; decide), if_neg (show ¬ I 404 k = 115 by rw [hc]; decide), if_neg (show ¬ I 404 k = 117 by rw [hc]; decide), if_pos hc]
  · refine Ev.eqst (st' := [.int 104]) (by rw [hc]) ?_
    refine Ev.tabIn (tgt := 168) (off := 144) dX7_carriesOut_24 (by decide) (by decide) rfl rfl ?_
    refine Ev.sg hX (sX7_carriesOut_168.sub 0 4) (pc' := 172) (ls' := [some (.ref 396), some (.int (nI k)), some (.int (I 404 (k + 1))), some (.int (I 404 (k + 2)))]) (st' := [.ref 396, .int (I 404 (k + 2)), .int (I 404 (k + 1)), .ref 396]) (h' := (N, SH v T, I, L, Dd)) rfl ?_
    refine Ev.getf (sX7_carriesOut_168.lk 4 (q := (172, .getfield 39, 7, 16)) rfl) rfl rfl (sX7_carriesOut_168.dc 4 (q := (172, .getfield 39, 7, 16)) rfl) ?_
    show Ev _ _ _ _ _ _ 175 [some (.ref 396), some (.int (nI k)), some (.int (I 404 (k + 1))), some (.int (I 404 (k + 2)))] [.ref 404, .int (I 404 (k + 2)), .int (I 404 (k + 1)), .ref 396] (N, SH v T, I, L, Dd)
    refine Ev.sg hX (sX7_carriesOut_168.sub 5 3) (pc' := 178) (ls' := [some (.ref 396), some (.int (nI k)), some (.int (I 404 (k + 1))), some (.int (I 404 (k + 2)))]) (st' := [.int ((nI k) + 3), .ref 404, .int (I 404 (k + 2)), .int (I 404 (k + 1)), .ref 396]) (h' := (N, SH v T, I, L, Dd)) rfl ?_
    refine Ev.ialdE (n := (k + 3)) (N := 360) rfl (naI rfl rfl) (by omega) (by decide) dX7_carriesOut_178 ?_
    show Ev _ _ _ _ _ _ 179 [some (.ref 396), some (.int (nI k)), some (.int (I 404 (k + 1))), some (.int (I 404 (k + 2)))] [.int (I 404 (k + 3)), .int (I 404 (k + 2)), .int (I 404 (k + 1)), .ref 396] (N, SH v T, I, L, Dd)
    refine Ev.callV (As := [.int (I 404 (k + 1)), .int (I 404 (k + 2)), .int (I 404 (k + 3))]) (rest := []) dvX7_shunts mkX7_127 rfl rfl dX7_carriesOut_179 (m_shunts (d := d - 1) (I := I) hX (by omega) hm20 hm hz8 hz hPL (hsh hc)) ⟨by omega, by show 8 + 19 + 40 * _ ≤ 40 * _; omega⟩ ⟨Nat.zero_le _, Nat.zero_le _⟩ rfl (Nat.le_of_ble_eq_true rfl) (fun v9 h9 e9 => ?_) (fun E9 h9 e9 => nomatch e9)
    cases e9
    show Ev _ _ _ _ _ _ 182 [some (.ref 396), some (.int (nI k)), some (.int (I 404 (k + 1))), some (.int (I 404 (k + 2)))] [.int ((shuM I (mO I) (zO I) (I 404 (k + 1)) (I 404 (k + 2)) (I 404 (k + 3))).1)] (N, SH v T, (shuM I (mO I) (zO I) (I 404 (k + 1)) (I 404 (k + 2)) (I 404 (k + 3))).2, L, Dd)
    refine Ev.iret dX7_carriesOut_182 rfl ?_
    rw [coM, if_neg (show ¬ I 404 k = 116 by rw [hc]; decide), if_neg (show ¬ I 404 k = 115 by rw [hc]; decide), if_neg (show ¬ I 404 k = 117 by rw [hc]; decide), if_neg (show ¬ I 404 k = 99 by rw [hc]; decide), if_pos hc]
  · refine Ev.eqst (st' := [.int 114]) (by rw [hc]) ?_
    refine Ev.tabIn (tgt := 183) (off := 159) dX7_carriesOut_24 (by decide) (by decide) rfl rfl ?_
    refine Ev.sg hX (sX7_carriesOut_183.sub 0 2) (pc' := 185) (ls' := [some (.ref 396), some (.int (nI k)), some (.int (I 404 (k + 1))), some (.int (I 404 (k + 2)))]) (st' := [.int (I 404 (k + 1)), .ref 396]) (h' := (N, SH v T, I, L, Dd)) rfl ?_
    refine Ev.callV (As := [.int (I 404 (k + 1))]) (rest := []) dvX7_repairs mkX7_133 rfl rfl dX7_carriesOut_185 (m_repairs (d := d - 1) (I := I) hX (by omega) hm20 hm) ⟨by omega, by show 5 + 19 + 40 * _ ≤ 40 * _; omega⟩ ⟨Nat.zero_le _, Nat.zero_le _⟩ rfl (Nat.le_of_ble_eq_true rfl) (fun v9 h9 e9 => ?_) (fun E9 h9 e9 => nomatch e9)
    cases e9
    show Ev _ _ _ _ _ _ 188 [some (.ref 396), some (.int (nI k)), some (.int (I 404 (k + 1))), some (.int (I 404 (k + 2)))] [.int ((repM I (mO I) (I 404 (k + 1))).1)] (N, SH v T, (repM I (mO I) (I 404 (k + 1))).2, L, Dd)
    refine Ev.iret dX7_carriesOut_188 rfl ?_
    rw [coM, if_neg (show ¬ I 404 k = 116 by rw [hc]; decide), if_neg (show ¬ I 404 k = 115 by rw [hc]; decide), if_neg (show ¬ I 404 k = 117 by rw [hc]; decide), if_neg (show ¬ I 404 k = 99 by rw [hc]; decide), if_neg (show ¬ I 404 k = 104 by rw [hc]; decide), if_pos hc]
  · refine Ev.eqst (st' := [.int 105]) (by rw [hc]) ?_
    refine Ev.tabIn (tgt := 189) (off := 165) dX7_carriesOut_24 (by decide) (by decide) rfl rfl ?_
    refine Ev.sg hX (sX7_carriesOut_189.sub 0 3) (pc' := 192) (ls' := [some (.ref 396), some (.int (nI k)), some (.int (I 404 (k + 1))), some (.int (I 404 (k + 2)))]) (st' := [.int (I 404 (k + 2)), .int (I 404 (k + 1)), .ref 396]) (h' := (N, SH v T, I, L, Dd)) rfl ?_
    refine Ev.callV (As := [.int (I 404 (k + 1)), .int (I 404 (k + 2))]) (rest := []) dvX7_departs mkX7_145 rfl rfl dX7_carriesOut_192 (m_departs (d := d - 1) (I := I) hX (by omega) hm20 hm hz8 hz hPL (hdp hc)) ⟨by omega, by show 5 + 19 + 40 * _ ≤ 40 * _; omega⟩ ⟨Nat.zero_le _, Nat.zero_le _⟩ rfl (Nat.le_of_ble_eq_true rfl) (fun v9 h9 e9 => ?_) (fun E9 h9 e9 => nomatch e9)
    cases e9
    show Ev _ _ _ _ _ _ 195 [some (.ref 396), some (.int (nI k)), some (.int (I 404 (k + 1))), some (.int (I 404 (k + 2)))] [.int ((depM I (mO I) (I 404 (k + 1)) (I 404 (k + 2))).1)] (N, SH v T, (depM I (mO I) (I 404 (k + 1)) (I 404 (k + 2))).2, L, Dd)
    refine Ev.iret dX7_carriesOut_195 rfl ?_
    rw [coM, if_neg (show ¬ I 404 k = 116 by rw [hc]; decide), if_neg (show ¬ I 404 k = 115 by rw [hc]; decide), if_neg (show ¬ I 404 k = 117 by rw [hc]; decide), if_neg (show ¬ I 404 k = 99 by rw [hc]; decide), if_neg (show ¬ I 404 k = 104 by rw [hc]; decide), if_neg (show ¬ I 404 k = 114 by rw [hc]; decide)]
theorem pX_b {tx : Nat → Int32} {q k B : Nat} {s : MS} (h : s.1 ≤ B) : (pX tx q k s).1 ≤ B + 30 := by
  unfold pX
  split
  · exact Nat.le_trans (pT_b (B := B + 1) (Nat.succ_le_succ h)) (by omega)
  · split
    · exact Nat.le_trans (pS_b (B := B + 1) (Nat.succ_le_succ h)) (by omega)
    · split
      · exact Nat.le_trans (pC_b (B := B + 1) (Nat.succ_le_succ h)) (by omega)
      · split
        · exact Nat.le_trans (dw_b (nd_b (nd_b (nd_b (nd_b (nd_b (B := B + 1) (Nat.succ_le_succ h))))))) (by omega)
        · exact Nat.le_trans h (by omega)
theorem l_rd {Q : JR → Prop} (hX : JXok X) (hd : 7 ≤ d) (hq : q ≤ 60) (hty : I 396 7 = nI q) : ∀ (n ct : Nat) (s : MS), ct + n = 61 → 2 * ct ≤ s.1 → s.1 ≤ q → Ev X (jm jdX7_run) d 0 0 Q 72 [some (.ref 396), some (.int (nI (rdM (I 401) q n ct s).1)), some (.int 0), none, none] [] (N, SH v T, PM I ((rdM (I 401) q n ct s).2), L, Dd) → Ev X (jm jdX7_run) d 0 0 Q 14 [some (.ref 396), some (.int (nI ct)), some (.int 1), none, none] [] (N, SH v T, PM I s, L, Dd) := by
  intro n
  induction n with
  | zero =>
    intro ct s hk h2 hsq hQ
    omega
  | succ n ih =>
    intro ct s hk h2 hsq hQ
    refine Ev.sg hX (sX7_run_14.sub 0 1) (pc' := 15) (ls' := [some (.ref 396), some (.int (nI ct)), some (.int 1), none, none]) (st' := [.int 1]) (h' := (N, SH v T, PM I s, L, Dd)) rfl ?_
    refine Ev.if_eq (tgt := 72) dX7_run_15 (by decide) (fun b1 => ?_) (fun b1 => ?_)
    · exact absurd b1 (by decide)
    · refine Ev.sg hX (sX7_run_18.sub 0 4) (pc' := 23) (ls' := [some (.ref 396), some (.int (nI ct)), some (.int 1), none, none]) (st' := [.int (6 * (nI ct)), .ref 396]) (h' := (N, SH v T, PM I s, L, Dd)) rfl ?_
      refine Ev.eqst (st' := [.int (nI (6 * ct)), .ref 396]) (by rw [show 6 * nI ct = nI (6 * ct) from nmI rfl rfl]) ?_
      refine Ev.callV (As := [.int (nI (6 * ct))]) (rest := []) dvX7_parsesCommand mkX7_207 rfl rfl dX7_run_23 (m_parsesCommand (d := d - 1) (s := s) (k := 6 * ct) hX (by omega) hq hty (by omega) (by omega)) ⟨by omega, by show 3 + 19 + 40 * _ ≤ 40 * _; omega⟩ ⟨Nat.zero_le _, Nat.zero_le _⟩ rfl (Nat.le_of_ble_eq_true rfl) (fun v9 h9 e9 => ?_) (fun E9 h9 e9 => nomatch e9)
      cases e9
      have hb5 : (pX (I 401) q (6 * ct) s).2.1 = 0 → s.1 + 1 ≤ (pX (I 401) q (6 * ct) s).1 ∧ (pX (I 401) q (6 * ct) s).1 ≤ q := pX_ok
      have hb6 := pX_b (tx := I 401) (q := q) (k := 6 * ct) (show s.1 ≤ 60 by omega)
      generalize hs5 : pX (I 401) q (6 * ct) s = s5 at hb5 hb6
      show Ev _ _ _ _ _ _ 26 [some (.ref 396), some (.int (nI ct)), some (.int 1), none, none] [] (N, SH v T, PM I s5, L, Dd)
      refine Ev.sg hX (sX7_run_26.sub 0 2) (pc' := 30) (ls' := [some (.ref 396), some (.int ((nI ct) + 1)), some (.int 1), none, none]) (st' := [.ref 396]) (h' := (N, SH v T, PM I s5, L, Dd)) rfl ?_
      refine Ev.getf (sX7_run_26.lk 2 (q := (30, .getfield 178, 7, 15)) rfl) rfl rfl (sX7_run_26.dc 2 (q := (30, .getfield 178, 7, 15)) rfl) ?_
      show Ev _ _ _ _ _ _ 33 [some (.ref 396), some (.int ((nI ct) + 1)), some (.int 1), none, none] [.int s5.2.1] (N, SH v T, PM I s5, L, Dd)
      refine Ev.if_ne (tgt := 49) dX7_run_33 (by decide) (fun b2 => ?_) (fun b2 => ?_)
      · refine Ev.sg hX (sX7_run_49.sub 0 1) (pc' := 50) (ls' := [some (.ref 396), some (.int ((nI ct) + 1)), some (.int 1), none, none]) (st' := [.int 0]) (h' := (N, SH v T, PM I s5, L, Dd)) rfl ?_
        refine Ev.sg hX (sX7_run_50.sub 0 3) (pc' := 53) (ls' := [some (.ref 396), some (.int ((nI ct) + 1)), some (.int 0), none, none]) (st' := [.ref 396, .ref 396]) (h' := (N, SH v T, PM I s5, L, Dd)) rfl ?_
        refine Ev.getf (sX7_run_50.lk 3 (q := (53, .getfield 175, 7, 14)) rfl) rfl rfl (sX7_run_50.dc 3 (q := (53, .getfield 175, 7, 14)) rfl) ?_
        show Ev _ _ _ _ _ _ 56 [some (.ref 396), some (.int ((nI ct) + 1)), some (.int 0), none, none] [.int (nI s5.1), .ref 396] (N, SH v T, PM I s5, L, Dd)
        refine Ev.sg hX (sX7_run_50.sub 4 1) (pc' := 57) (ls' := [some (.ref 396), some (.int ((nI ct) + 1)), some (.int 0), none, none]) (st' := [.int 0, .int (nI s5.1), .ref 396]) (h' := (N, SH v T, PM I s5, L, Dd)) rfl ?_
        refine Ev.if_eq (tgt := 64) dX7_run_57 (by decide) (fun b3 => ?_) (fun b3 => ?_)
        · refine Ev.sg hX (sX7_run_64.sub 0 1) (pc' := 65) (ls' := [some (.ref 396), some (.int ((nI ct) + 1)), some (.int 0), none, none]) (st' := [.int 0, .int (nI s5.1), .ref 396]) (h' := (N, SH v T, PM I s5, L, Dd)) rfl ?_
          refine Ev.sg hX (sX7_run_65.sub 0 1) (pc' := 66) (ls' := [some (.ref 396), some (.int ((nI ct) + 1)), some (.int 0), none, none]) (st' := [.int ((nI s5.1) + 0), .ref 396]) (h' := (N, SH v T, PM I s5, L, Dd)) rfl ?_
          refine Ev.putf hX (sX7_run_65.lk 1 (q := (66, .putfield 175, 7, 14)) rfl) rfl rfl (sX7_run_65.dc 1 (q := (66, .putfield 175, 7, 14)) rfl) ?_
          show Ev _ _ _ _ _ _ 69 [some (.ref 396), some (.int ((nI ct) + 1)), some (.int 0), none, none] [] (N, SH v T, up2 (PM I s5) 396 14 ((nI s5.1) + 0), L, Dd)
          refine Ev.sg hX (sX7_run_65.sub 2 1) (pc' := 14) (ls' := [some (.ref 396), some (.int ((nI ct) + 1)), some (.int 0), none, none]) (st' := []) (h' := (N, SH v T, up2 (PM I s5) 396 14 ((nI s5.1) + 0), L, Dd)) rfl ?_
          refine Ev.eqh (h' := (N, SH v T, PM I s5, L, Dd)) (congrArg (fun z => (N, SH v T, z, L, Dd)) ((congrArg (up2 (PM I s5) 396 14) (Int32.add_zero (nI s5.1))).trans PM_sp)) ?_
          have e1 : rdM (I 401) q (n + 1) ct s = (ct + 1, s5) := by rw [rdM, hs5, if_neg (fun w => b2 w.1)]
          rw [e1] at hQ
          rw [nI_1]
          refine Ev.sg hX (sX7_run_14.sub 0 1) (pc' := 15) (ls' := [some (.ref 396), some (.int (nI (ct + 1))), some (.int 0), none, none]) (st' := [.int 0]) (h' := (N, SH v T, PM I s5, L, Dd)) rfl ?_
          refine Ev.if_eq (tgt := 72) dX7_run_15 (by decide) (fun b4 => ?_) (fun b4 => ?_)
          · exact hQ
          · exact absurd rfl b4
        · exact absurd rfl b3
      · refine Ev.sg hX (sX7_run_36.sub 0 1) (pc' := 37) (ls' := [some (.ref 396), some (.int ((nI ct) + 1)), some (.int 1), none, none]) (st' := [.ref 396]) (h' := (N, SH v T, PM I s5, L, Dd)) rfl ?_
        refine Ev.callV (As := []) (rest := []) dvX7_here mkX7_182 rfl rfl dX7_run_37 (m_here (d := d - 1) (s := s5) hX (by omega) hq hty (Nat.le_trans (show s5.1 ≤ 100 by omega) (by decide))) ⟨by omega, by show 1 + 19 + 40 * _ ≤ 40 * _; omega⟩ ⟨Nat.zero_le _, Nat.zero_le _⟩ rfl (Nat.le_of_ble_eq_true rfl) (fun v9 h9 e9 => ?_) (fun E9 h9 e9 => nomatch e9)
        cases e9
        show Ev _ _ _ _ _ _ 40 [some (.ref 396), some (.int ((nI ct) + 1)), some (.int 1), none, none] [.int (chA (I 401) q s5.1)] (N, SH v T, PM I s5, L, Dd)
        refine Ev.sg hX (sX7_run_40.sub 0 1) (pc' := 42) (ls' := [some (.ref 396), some (.int ((nI ct) + 1)), some (.int 1), none, none]) (st' := [.int 59, .int (chA (I 401) q s5.1)]) (h' := (N, SH v T, PM I s5, L, Dd)) rfl ?_
        refine Ev.icmp_ne (tgt := 49) dX7_run_42 (by decide) (fun b5 => ?_) (fun b5 => ?_)
        · refine Ev.sg hX (sX7_run_49.sub 0 1) (pc' := 50) (ls' := [some (.ref 396), some (.int ((nI ct) + 1)), some (.int 1), none, none]) (st' := [.int 0]) (h' := (N, SH v T, PM I s5, L, Dd)) rfl ?_
          refine Ev.sg hX (sX7_run_50.sub 0 3) (pc' := 53) (ls' := [some (.ref 396), some (.int ((nI ct) + 1)), some (.int 0), none, none]) (st' := [.ref 396, .ref 396]) (h' := (N, SH v T, PM I s5, L, Dd)) rfl ?_
          refine Ev.getf (sX7_run_50.lk 3 (q := (53, .getfield 175, 7, 14)) rfl) rfl rfl (sX7_run_50.dc 3 (q := (53, .getfield 175, 7, 14)) rfl) ?_
          show Ev _ _ _ _ _ _ 56 [some (.ref 396), some (.int ((nI ct) + 1)), some (.int 0), none, none] [.int (nI s5.1), .ref 396] (N, SH v T, PM I s5, L, Dd)
          refine Ev.sg hX (sX7_run_50.sub 4 1) (pc' := 57) (ls' := [some (.ref 396), some (.int ((nI ct) + 1)), some (.int 0), none, none]) (st' := [.int 0, .int (nI s5.1), .ref 396]) (h' := (N, SH v T, PM I s5, L, Dd)) rfl ?_
          refine Ev.if_eq (tgt := 64) dX7_run_57 (by decide) (fun b6 => ?_) (fun b6 => ?_)
          · refine Ev.sg hX (sX7_run_64.sub 0 1) (pc' := 65) (ls' := [some (.ref 396), some (.int ((nI ct) + 1)), some (.int 0), none, none]) (st' := [.int 0, .int (nI s5.1), .ref 396]) (h' := (N, SH v T, PM I s5, L, Dd)) rfl ?_
            refine Ev.sg hX (sX7_run_65.sub 0 1) (pc' := 66) (ls' := [some (.ref 396), some (.int ((nI ct) + 1)), some (.int 0), none, none]) (st' := [.int ((nI s5.1) + 0), .ref 396]) (h' := (N, SH v T, PM I s5, L, Dd)) rfl ?_
            refine Ev.putf hX (sX7_run_65.lk 1 (q := (66, .putfield 175, 7, 14)) rfl) rfl rfl (sX7_run_65.dc 1 (q := (66, .putfield 175, 7, 14)) rfl) ?_
            show Ev _ _ _ _ _ _ 69 [some (.ref 396), some (.int ((nI ct) + 1)), some (.int 0), none, none] [] (N, SH v T, up2 (PM I s5) 396 14 ((nI s5.1) + 0), L, Dd)
            refine Ev.sg hX (sX7_run_65.sub 2 1) (pc' := 14) (ls' := [some (.ref 396), some (.int ((nI ct) + 1)), some (.int 0), none, none]) (st' := []) (h' := (N, SH v T, up2 (PM I s5) 396 14 ((nI s5.1) + 0), L, Dd)) rfl ?_
            refine Ev.eqh (h' := (N, SH v T, PM I s5, L, Dd)) (congrArg (fun z => (N, SH v T, z, L, Dd)) ((congrArg (up2 (PM I s5) 396 14) (Int32.add_zero (nI s5.1))).trans PM_sp)) ?_
            have e1 : rdM (I 401) q (n + 1) ct s = (ct + 1, s5) := by rw [rdM, hs5, if_neg (fun w => b5 w.2)]
            rw [e1] at hQ
            rw [nI_1]
            refine Ev.sg hX (sX7_run_14.sub 0 1) (pc' := 15) (ls' := [some (.ref 396), some (.int (nI (ct + 1))), some (.int 0), none, none]) (st' := [.int 0]) (h' := (N, SH v T, PM I s5, L, Dd)) rfl ?_
            refine Ev.if_eq (tgt := 72) dX7_run_15 (by decide) (fun b7 => ?_) (fun b7 => ?_)
            · exact hQ
            · exact absurd rfl b7
          · exact absurd rfl b6
        · refine Ev.sg hX (sX7_run_45.sub 0 2) (pc' := 50) (ls' := [some (.ref 396), some (.int ((nI ct) + 1)), some (.int 1), none, none]) (st' := [.int 1]) (h' := (N, SH v T, PM I s5, L, Dd)) rfl ?_
          refine Ev.sg hX (sX7_run_50.sub 0 3) (pc' := 53) (ls' := [some (.ref 396), some (.int ((nI ct) + 1)), some (.int 1), none, none]) (st' := [.ref 396, .ref 396]) (h' := (N, SH v T, PM I s5, L, Dd)) rfl ?_
          refine Ev.getf (sX7_run_50.lk 3 (q := (53, .getfield 175, 7, 14)) rfl) rfl rfl (sX7_run_50.dc 3 (q := (53, .getfield 175, 7, 14)) rfl) ?_
          show Ev _ _ _ _ _ _ 56 [some (.ref 396), some (.int ((nI ct) + 1)), some (.int 1), none, none] [.int (nI s5.1), .ref 396] (N, SH v T, PM I s5, L, Dd)
          refine Ev.sg hX (sX7_run_50.sub 4 1) (pc' := 57) (ls' := [some (.ref 396), some (.int ((nI ct) + 1)), some (.int 1), none, none]) (st' := [.int 1, .int (nI s5.1), .ref 396]) (h' := (N, SH v T, PM I s5, L, Dd)) rfl ?_
          refine Ev.if_eq (tgt := 64) dX7_run_57 (by decide) (fun b8 => ?_) (fun b8 => ?_)
          · exact absurd b8 (by decide)
          · refine Ev.sg hX (sX7_run_60.sub 0 2) (pc' := 65) (ls' := [some (.ref 396), some (.int ((nI ct) + 1)), some (.int 1), none, none]) (st' := [.int 1, .int (nI s5.1), .ref 396]) (h' := (N, SH v T, PM I s5, L, Dd)) rfl ?_
            refine Ev.sg hX (sX7_run_65.sub 0 1) (pc' := 66) (ls' := [some (.ref 396), some (.int ((nI ct) + 1)), some (.int 1), none, none]) (st' := [.int ((nI s5.1) + 1), .ref 396]) (h' := (N, SH v T, PM I s5, L, Dd)) rfl ?_
            refine Ev.putf hX (sX7_run_65.lk 1 (q := (66, .putfield 175, 7, 14)) rfl) rfl rfl (sX7_run_65.dc 1 (q := (66, .putfield 175, 7, 14)) rfl) ?_
            show Ev _ _ _ _ _ _ 69 [some (.ref 396), some (.int ((nI ct) + 1)), some (.int 1), none, none] [] (N, SH v T, up2 (PM I s5) 396 14 ((nI s5.1) + 1), L, Dd)
            refine Ev.sg hX (sX7_run_65.sub 2 1) (pc' := 14) (ls' := [some (.ref 396), some (.int ((nI ct) + 1)), some (.int 1), none, none]) (st' := []) (h' := (N, SH v T, up2 (PM I s5) 396 14 ((nI s5.1) + 1), L, Dd)) rfl ?_
            refine Ev.eqh (h' := (N, SH v T, PM I (s5.1 + 1, s5.2), L, Dd)) (congrArg (fun z => (N, SH v T, z, L, Dd)) ((congrArg (up2 (PM I s5) 396 14) (nI_1 s5.1)).trans PM_sp)) ?_
            have hlt := chA_no b5 (by decide)
            have e1 : rdM (I 401) q (n + 1) ct s = rdM (I 401) q n (ct + 1) (s5.1 + 1, s5.2) := by rw [rdM, hs5, if_pos ⟨b2, b5⟩]
            rw [nI_1]
            have hb7 := hb5 b2
            refine ih (ct + 1) (s5.1 + 1, s5.2) (by omega) (by show 2 * (ct + 1) ≤ s5.1 + 1; omega) (by show s5.1 + 1 ≤ q; omega) (by rw [← e1]; exact hQ)
end PMP
