/-! the text line and the floats: calls of the class -/
section YCW
variable {X : JX} {K N v d qq nx x : Nat} {T : Nat → Option JS} {I I1 I2 J : HI} {L L2 : HL} {Dd : HD} {g g' σ : Nat → Nat} {gs : Nat → Nat → Nat} {sv : Option (Nat → Nat)} {tx : Nat → Int32} {er fl : Int32} {w : List Int32} {a b c e f i0 : Int32} {P : PF} {cap : Nat}
theorem q_outputAt (hX : JXok X) (h : CP K N v T I L Dd g gs d sv qq tx er fl w) (hN : N + 1 < BIG) (hw : ∀ x, x ∈ w → chW x) : CQ X K 4 24 jdX6_outputAt [.int i0] [xIO] (some (.int (w.getD i0.toNatClampNeg 0))) (if ¬ i0 < 0 ∧ i0 < nI w.length then 0 else 1) (g, gs, d, sv, qq, tx, er, fl, w) N v T I L Dd := by
  have h0 := h
  obtain ⟨-, -, -, -, cap, ln, c9⟩ := h
  refine cq_e h0 (c_outputAt hX (by decide) h0.N4 hN ln hw) (fun _ _ => ⟨rfl, rfl⟩) (fun q => ?_) (fun E q => ?_)
  · by_cases c : ¬ i0 < 0 ∧ i0 < nI w.length
    · rw [if_pos c]
      exact ⟨rfl, rfl, h0⟩
    · rw [if_neg c] at q
      cases q
  · by_cases c : ¬ i0 < 0 ∧ i0 < nI w.length
    · rw [if_pos c] at q
      cases q
    · rw [if_neg c] at q
      rw [if_neg c]
      cases q
      exact ⟨0, rfl, rfl, rfl⟩
theorem Ln.mark (h : Ln P0 w cap N v T I L Dd) (hv : v = 395) : Ln (N, T, I) w cap N v T I L Dd := by
  obtain ⟨h1, h2, h3, h4, h5, h6, h7, h8, h9, h10⟩ := h
  exact ⟨h1, Or.inl hv, ⟨h3.1, h4, Nat.le_refl _⟩, h4, h5, h6, h7, h8, h9, h10.1, fun _ _ _ => ⟨rfl, rfl⟩⟩
theorem Ln.unmark (h : Ln P w cap N v T I L Dd) : Ln P0 w cap N v T I L Dd := by
  obtain ⟨h1, h2, h3, h4, h5, h6, h7, h8, h9, h10⟩ := h
  exact ⟨h1, h2.imp_right fun q => Nat.le_trans h3.2.1 q, ⟨h3.1, Nat.le_refl _, h4⟩, h4, h5, h6, h7, h8, h9, h10.1, fun a h1 h2 => absurd h2 (Nat.not_lt.mpr h1)⟩
theorem q_writeTrack (hX : JXok X) (h : CP K N v T I L Dd g gs d sv qq tx er fl w) (hN : N + 1500 < BIG) (hv : v = 395) (hx : x < g 0) : CQw X K 1160 1160 jdX6_writeTrack [.int (nI x)] (some (.int (nI (wrG g x).length))) (g, gs, d, sv, qq, tx, er, fl, wrG g x) N v T I L Dd := by
  have h0 := h
  obtain ⟨p1, p2, -, -, -, p6⟩ := h.pre
  obtain ⟨⟨σ, y⟩, -, -, -, cap, ln, c9⟩ := h
  have hN4 := h0.N4
  have x8 : x < 8 := by omega
  have c : hasT I (nI x) := (hasT_g y.2.2.1 p1 (nI x)).mpr ⟨x, hx, rfl⟩
  have W := y.2.1
  have b1 := W.2.1 x x8
  have u := usN_le y.1 W (t := x)
  have q := y.2.2.2.1 x x8
  have w20 : g 1 ≤ 20 := W.1.2.1
  have C := c_writeTrack2 hX (by decide : 9 ≤ 12) c x8 (W.h20 x8) q.2.1 (by omega : g (15 + x) < 10000) q.2.2.2 (by omega) q.1 (by omega) q.2.2.1 (wt_car y x8) (ln.mark hv) c9 hN4 hN
  rw [trkT_g y x8] at C
  refine ⟨_, C, fun R hR => ?_⟩
  obtain ⟨N', v', T', I', cap', e1, ln', hf, hN', c9'⟩ := hR
  refine ⟨N', v', T', I', L, ⟨ln'.2.2.1.2.2, by omega, by rw [hv]; exact ln'.2.1, fun a h1 h2 => ⟨(ln'.2.2.2.2.2.2.2.2.2.2 a h1 h2).1, fun _ => (ln'.2.2.2.2.2.2.2.2.2.2 a h1 h2).2, rfl⟩⟩, h0.wr hf ln'.unmark c9', e1⟩
/-- the sums of all tracks -/
theorem caps_g (TT : CRt I g) (z8 : g 0 ≤ 8) : capF I (g 0) = nI (sN (fun t => g (7 + t)) (g 0)) ∧ usedF I (g 0) = nI (sN (fun t => usN g t) (g 0)) := by
  refine ⟨fo_sum (fun k a hk => ?_), fo_sum (fun k a hk => ?_)⟩
  · have q := TT k (by omega)
    show a + I 3 k = _
    rw [q.1]
  · have q := TT k (by omega)
    show a + I 33 k = _
    rw [q.2.2.2]
theorem q_meanMoveTime (hX : JXok X) (h : CP K N v T I L Dd g gs d sv qq tx er fl w) (hN : N + 1 < BIG) (h3 : ¬ nI (g 3) = 0) (hnn : vf_n64 (FP.ddiv (FP.l2d (lN (g 5))) (FP.i2d (nI (g 3))))) : CQ X K 4 24 jdX6_meanMoveTime [] [xAE] (some (.double (FP.ddiv (FP.l2d (lN (g 5))) (FP.i2d (nI (g 3)))))) 0 (g, gs, d, sv, qq, tx, er, fl, w) N v T I L Dd := by
  have h0 := h
  obtain ⟨⟨σ, y⟩, -⟩ := h
  have e5 : L 1 4 = lN (g 5) := y.2.2.1.2.2.2.2.2.1
  have e3 : I 1 5 = nI (g 3) := y.2.2.1.2.2.2.1
  have C := c_meanMoveTime (N := N) (v := v) (T := T) (I := I) (L := L) (Dd := Dd) hX (by decide : 6 ≤ 12) h0.N4 hN (by rw [e5, e3]; exact fun _ => hnn)
  rw [e5, e3] at C
  refine cq_e h0 C (fun _ _ => ⟨rfl, rfl⟩) (fun _ => ⟨rfl, rfl, h0⟩) (fun E q => ?_)
  rw [if_neg h3] at q
  cases q
theorem q_usedShare (hX : JXok X) (h : CP K N v T I L Dd g gs d sv qq tx er fl w) (hN : N + 1 < BIG) (h3 : ¬ nI (sN (fun t => g (7 + t)) (g 0)) = 0) (hnn : vf_n32 (FP.fdiv (FP.i2f (nI (sN (fun t => usN g t) (g 0)))) (FP.i2f (nI (sN (fun t => g (7 + t)) (g 0)))))) : CQ X K 4 24 jdX6_usedShare [] [xAE] (some (.float (FP.fdiv (FP.i2f (nI (sN (fun t => usN g t) (g 0)))) (FP.i2f (nI (sN (fun t => g (7 + t)) (g 0))))))) 0 (g, gs, d, sv, qq, tx, er, fl, w) N v T I L Dd := by
  have h0 := h
  obtain ⟨p1, p2, -⟩ := h.pre
  obtain ⟨⟨σ, y⟩, -⟩ := h
  obtain ⟨e1, e2⟩ := caps_g y.2.2.2.1 p1
  have C := c_usedShare (N := N) (v := v) (T := T) (I := I) (L := L) (Dd := Dd) hX (by decide : 6 ≤ 12) h0.N4 hN p1 p2 (by rw [e1, e2]; exact fun _ => hnn)
  rw [e1, e2] at C
  refine cq_e h0 C (fun _ _ => ⟨rfl, rfl⟩) (fun _ => ⟨rfl, rfl, h0⟩) (fun E q => ?_)
  rw [if_neg h3] at q
  cases q
end YCW
