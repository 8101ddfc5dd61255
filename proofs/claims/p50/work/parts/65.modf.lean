/-! the model: a program carried out -/
def mO (I : HI) : Nat := (I 397 1).toNatClampNeg
def zO (I : HI) : Nat := (I 397 0).toNatClampNeg
def coM (I : HI) (k : Nat) : Int32 × HI := if I 404 k = 116 then adtM I (zO I) (I 404 (k + 1)) (I 404 (k + 2)) else if I 404 k = 115 then cnM I (zO I) (I 404 (k + 1)) (I 404 (k + 2)) else if I 404 k = 117 then dcM I (zO I) (I 404 (k + 1)) (I 404 (k + 2))
  else if I 404 k = 99 then accM I (mO I) (I 404 (k + 1)) (I 404 (k + 2)) (I 404 (k + 3)) (I 404 (k + 4)) (I 404 (k + 5)) else if I 404 k = 104 then shuM I (mO I) (zO I) (I 404 (k + 1)) (I 404 (k + 2)) (I 404 (k + 3)) else if I 404 k = 114 then repM I (mO I) (I 404 (k + 1)) else depM I (mO I) (I 404 (k + 1)) (I 404 (k + 2))
def cdOK (x : Int32) : Prop := x = 116 ∨ x = 115 ∨ x = 117 ∨ x = 99 ∨ x = 104 ∨ x = 114 ∨ x = 105
def coOK (I : HI) (k : Nat) : Prop := (mO I ≤ 20 ∧ I 397 1 = nI (mO I)) ∧ (zO I ≤ 8 ∧ I 397 0 = nI (zO I)) ∧ PLM I (mO I) ∧ cdOK (I 404 k) ∧
  (I 404 k = 104 → ¬ 0 < (whM I (mO I) (zO I) (I 404 (k + 1)) (I 404 (k + 2)) (I 404 (k + 3))).1 → okMv (mO I) (I 404 (k + 1)).toNatClampNeg (I 404 (k + 2)).toNatClampNeg (I 404 (k + 3)).toNatClampNeg (exM (exM I (zO I) (I 404 (k + 2)).toNatClampNeg) (zO I) (I 404 (k + 2)).toNatClampNeg)) ∧
  (I 404 k = 105 → tkM I (I 404 (k + 1)) → (0 ≤ I 404 (k + 2) ∧ I 404 (k + 2) ≤ 9) → ¬ (I 397 (31 + (I 404 (k + 1)).toNatClampNeg) = 0 ∨ ¬ I 397 (99 + (feM I (mO I) (I 404 (k + 1)).toNatClampNeg 0).toNatClampNeg) = I 404 (k + 2)) → fo (baS I (mO I) (I 404 (k + 1)).toNatClampNeg) (trN I (mO I) (I 404 (k + 1)).toNatClampNeg).toNatClampNeg 0 0 = 0 → okDp (mO I) (I 404 (k + 1)).toNatClampNeg (trN I (mO I) (I 404 (k + 1)).toNatClampNeg).toNatClampNeg 0 I)
def mrL : Nat → Nat → HI → Option (Nat × Int32) × HI
  | 0, _, J => (none, J)
  | n + 1, k, J => if (coM J (6 * k)).2 396 12 = 0 then mrL n (k + 1) (coM J (6 * k)).2 else (some (k, (coM J (6 * k)).1), (coM J (6 * k)).2)
def mrOK (ch : Nat) : Nat → Nat → HI → Prop
  | 0, _, J => J 396 3 = nI ch
  | n + 1, k, J => coOK J (6 * k) ∧ (coM J (6 * k)).2 396 3 = nI ch ∧ ((coM J (6 * k)).2 396 12 = 0 → mrOK ch n (k + 1) (coM J (6 * k)).2)
def mfi (ch ct : Nat) (J : HI) : Option (Nat × Int32) → Int32 × HI
  | none => kepM (up2 J 396 12 0) (nI ct) ch
  | some (k, x) => kepM (up2 (up2 J 396 9 (nI k)) 396 12 2) x ch
def rdM (tx : Nat → Int32) (q : Nat) : Nat → Nat → MS → Nat × MS
  | 0, ct, s => (ct, s)
  | n + 1, ct, s => if (pX tx q (6 * ct) s).2.1 = 0 ∧ chA tx q (pX tx q (6 * ct) s).1 = 59 then rdM tx q n (ct + 1) ((pX tx q (6 * ct) s).1 + 1, (pX tx q (6 * ct) s).2) else (ct + 1, pX tx q (6 * ct) s)
def GG (q : Nat) (s t : MS) : Prop := t.2.1 = 0 → s.2.1 = 0 ∧ s.1 ≤ t.1 ∧ (s.1 ≤ q → t.1 ≤ q)
section GGS
variable {tx : Nat → Int32} {q k n i : Nat} {c x : Int32} {s t u : MS}
theorem GG.rf : GG q s s := fun h => ⟨h, Nat.le_refl _, id⟩
theorem GG.tr (h : GG q s t) (g : GG q t u) : GG q s u := fun e => by
  obtain ⟨a, b, c⟩ := g e
  obtain ⟨a', b', c'⟩ := h a
  exact ⟨a', Nat.le_trans b' b, fun z => c (c' z)⟩
theorem nd_G (hc : c ≠ -1) : GG q s (nd tx q c s) := by
  intro h
  unfold nd at *
  split at h
  · rename_i h1
    rw [if_pos h1]
    have := chA_no h1.2 hc
    exact ⟨h1.1, Nat.le_succ _, fun _ => this⟩
  · exact absurd h (show ¬ (1 : Int32) = 0 by decide)
theorem dd_G (hc : c ≠ -1) : GG q s (dd9 tx q c n s) := by
  intro h
  unfold dd9 at *
  split at h
  · rename_i h1
    rw [if_pos h1]
    obtain ⟨a, b, d⟩ := nd_G (tx := tx) (s := s) hc h1.1
    exact ⟨a, Nat.le_trans b (dgF_le (tx := tx) (q := q) n _ 0).1, fun z => dgF_q n _ 0 (d z)⟩
  · exact absurd h (show ¬ (1 : Int32) = 0 by decide)
theorem wr_G : GG q s (wr s i x) := fun h => ⟨h, Nat.le_refl _, id⟩
theorem dw_G (hc : c ≠ -1) : GG q s (dw tx q c n i s) := (dd_G hc).tr wr_G
theorem pP_G : GG q s (pP tx q k s) := (dw_G (by decide)).tr (dw_G (by decide))
theorem pT_G : GG q s (pT tx q k s) := by
  unfold pT
  refine GG.tr ?_ (dw_G (by decide))
  split
  · exact (nd_G (by decide)).tr ((nd_G (by decide)).tr (wr_G.tr ((nd_G (by decide)).tr ((nd_G (by decide)).tr (dw_G (by decide))))))
  · exact (nd_G (by decide)).tr ((nd_G (by decide)).tr ((nd_G (by decide)).tr ((nd_G (by decide)).tr (dw_G (by decide)))))
theorem pS_G : GG q s (pS tx q k s) := by
  unfold pS
  split
  · exact wr_G.tr ((nd_G (by decide)).tr ((nd_G (by decide)).tr ((nd_G (by decide)).tr ((nd_G (by decide)).tr ((dw_G (by decide)).tr ((dw_G (by decide)).tr (dw_G (by decide))))))))
  · exact (nd_G (by decide)).tr ((nd_G (by decide)).tr ((nd_G (by decide)).tr ((nd_G (by decide)).tr ((nd_G (by decide)).tr pP_G))))
theorem pC5_G : GG q s (pC5 tx q k s) := (nd_G (by decide)).tr ((nd_G (by decide)).tr ((dw_G (by decide)).tr ((dw_G (by decide)).tr ((dw_G (by decide)).tr (dw_G (by decide))))))
theorem pC_G : GG q s (pC tx q k s) := by
  unfold pC
  split
  · exact wr_G.tr ((nd_G (by decide)).tr ((nd_G (by decide)).tr pP_G))
  · split
    · rename_i h1
      intro h
      obtain ⟨a, b, d⟩ := pC5_G (tx := tx) (q := q) (k := k) (s := s) h1.1
      have := chA_no h1.2 (by decide)
      exact ⟨a, Nat.le_succ_of_le b, fun _ => this⟩
    · exact pC5_G.tr wr_G
theorem pX_ok (h : (pX tx q k s).2.1 = 0) : s.1 + 1 ≤ (pX tx q k s).1 ∧ (pX tx q k s).1 ≤ q := by
  unfold pX at *
  split at h
  · rename_i h1
    rw [if_pos h1]
    have hq := chA_no h1 (by decide)
    obtain ⟨a, b, d⟩ := pT_G h
    exact ⟨b, d hq⟩
  · rename_i h1
    rw [if_neg h1]
    split at h
    · rename_i h2
      rw [if_pos h2]
      have hq := chA_no h2 (by decide)
      obtain ⟨a, b, d⟩ := pS_G h
      exact ⟨b, d hq⟩
    · rename_i h2
      rw [if_neg h2]
      split at h
      · rename_i h3
        rw [if_pos h3]
        have hq := chA_no h3 (by decide)
        obtain ⟨a, b, d⟩ := pC_G h
        exact ⟨b, d hq⟩
      · rename_i h3
        rw [if_neg h3]
        split at h
        · rename_i h4
          rw [if_pos h4]
          have hq := chA_no h4 (by decide)
          obtain ⟨a, b, d⟩ := ((nd_G (by decide)).tr ((nd_G (by decide)).tr ((nd_G (by decide)).tr ((nd_G (by decide)).tr ((nd_G (by decide)).tr (dw_G (by decide))))))) h
          exact ⟨b, d hq⟩
        · exact absurd h (show ¬ (1 : Int32) = 0 by decide)
end GGS
section PMP
variable {X : JX} {d N v : Nat} {T : Nat → Option JS} {I : Nat → Nat → Int32} {L : Nat → Nat → Int64} {Dd : Nat → Nat → UInt64} {q k n ch ct : Nat} {c e : Int32} {s : MS}
theorem pX_b {tx : Nat → Int32} {q k B : Nat} {s : MS} (h : s.1 ≤ B) : (pX tx q k s).1 ≤ B + 30 := by
  unfold pX
  split
  · exact Nat.le_trans (pT_b (B := B + 1) (Nat.succ_le_succ h)) (by omega)
  · split
    · exact Nat.le_trans (pS_b (B := B + 1) (Nat.succ_le_succ h)) (by omega)
    · split
      · exact Nat.le_trans (pC_b (B := B + 1) (Nat.succ_le_succ h)) (by omega)
      · split
        · exact Nat.le_trans (dw_b (nd_b (nd_b (nd_b (nd_b (nd_b (B := B + 1) (Nat.succ_le_succ h))))))) (by omega)
        · exact Nat.le_trans h (by omega)
end PMP
