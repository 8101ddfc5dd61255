/-! the calls without refusals -/
section YDI
variable {X : JX} {K N v d qq nx : Nat} {T : Nat → Option JS} {I I1 I2 J : HI} {L : HL} {Dd : HD} {g σ : Nat → Nat} {gs : Nat → Nat → Nat} {sv : Option (Nat → Nat)} {tx : Nat → Int32} {er fl : Int32} {w : List Int32} {a b c e f : Int32}
theorem q_trackCount (hX : JXok X) (h : CP K N v T I L Dd g gs d sv qq tx er fl w) : CQ X K 0 0 jdX6_trackCount [] [] (some (.int (nI (g 0)))) 0 (g, gs, d, sv, qq, tx, er, fl, w) N v T I L Dd := by
  have e : I 6 0 = (nI (g 0)) := by
    exact h.pre.2.1
  have C := c_trackCount (N := N) (v := v) (T := T) (I := I) (L := L) (Dd := Dd) hX (by decide : 0 ≤ 12)
  rw [e] at C
  exact cq_d h C (eqS.rf I)
theorem q_carCount (hX : JXok X) (h : CP K N v T I L Dd g gs d sv qq tx er fl w) : CQ X K 0 0 jdX6_carCount [] [] (some (.int (nI (g 1)))) 0 (g, gs, d, sv, qq, tx, er, fl, w) N v T I L Dd := by
  have e : I 15 0 = (nI (g 1)) := by
    obtain ⟨⟨σ, y⟩, -⟩ := h
    exact y.2.2.1.2.1
  have C := c_carCount (N := N) (v := v) (T := T) (I := I) (L := L) (Dd := Dd) hX (by decide : 0 ≤ 12)
  rw [e] at C
  exact cq_d h C (eqS.rf I)
theorem q_moveCount (hX : JXok X) (h : CP K N v T I L Dd g gs d sv qq tx er fl w) : CQ X K 0 0 jdX6_moveCount [] [] (some (.int (nI (g 3)))) 0 (g, gs, d, sv, qq, tx, er, fl, w) N v T I L Dd := by
  have e : I 1 5 = (nI (g 3)) := by
    obtain ⟨⟨σ, y⟩, -⟩ := h
    exact y.2.2.1.2.2.2.1
  have C := c_moveCount (N := N) (v := v) (T := T) (I := I) (L := L) (Dd := Dd) hX (by decide : 0 ≤ 12)
  rw [e] at C
  exact cq_d h C (eqS.rf I)
theorem q_departedCars (hX : JXok X) (h : CP K N v T I L Dd g gs d sv qq tx er fl w) : CQ X K 0 0 jdX6_departedCars [] [] (some (.int (nI (g 4)))) 0 (g, gs, d, sv, qq, tx, er, fl, w) N v T I L Dd := by
  have e : I 1 6 = (nI (g 4)) := by
    obtain ⟨⟨σ, y⟩, -⟩ := h
    exact y.2.2.1.2.2.2.2.1
  have C := c_departedCars (N := N) (v := v) (T := T) (I := I) (L := L) (Dd := Dd) hX (by decide : 0 ≤ 12)
  rw [e] at C
  exact cq_d h C (eqS.rf I)
theorem q_time (hX : JXok X) (h : CP K N v T I L Dd g gs d sv qq tx er fl w) : CQ X K 0 0 jdX6_time [] [] (some (.long (lN (g 5)))) 0 (g, gs, d, sv, qq, tx, er, fl, w) N v T I L Dd := by
  have e : L 1 4 = (lN (g 5)) := by
    obtain ⟨⟨σ, y⟩, -⟩ := h
    exact y.2.2.1.2.2.2.2.2.1
  have C := c_time (N := N) (v := v) (T := T) (I := I) (L := L) (Dd := Dd) hX (by decide : 0 ≤ 12)
  rw [e] at C
  exact cq_d h C (eqS.rf I)
theorem q_departedWeight (hX : JXok X) (h : CP K N v T I L Dd g gs d sv qq tx er fl w) : CQ X K 0 0 jdX6_departedWeight [] [] (some (.long (lN (g 6)))) 0 (g, gs, d, sv, qq, tx, er, fl, w) N v T I L Dd := by
  have e : L 1 7 = (lN (g 6)) := by
    obtain ⟨⟨σ, y⟩, -⟩ := h
    exact y.2.2.1.2.2.2.2.2.2.1
  have C := c_departedWeight (N := N) (v := v) (T := T) (I := I) (L := L) (Dd := Dd) hX (by decide : 0 ≤ 12)
  rw [e] at C
  exact cq_d h C (eqS.rf I)
theorem q_isInYard (hX : JXok X) (h : CP K N v T I L Dd g gs d sv qq tx er fl w) : CQ X K 0 0 jdX6_isInYard [.int c] [] (some (.int (bi (¬ slOM (GJ g) (g 1) c = -1)))) 0 (g, gs, d, sv, qq, tx, er, fl, w) N v T I L Dd := by
  have e : bi (slotOf I c ≠ -1) = bi (¬ slOM (GJ g) (g 1) c = -1) := by
    obtain ⟨⟨σ, y⟩, -⟩ := h
    have b1 := y.2.1.1
    rcases slotOf_g y.1 y.2.1 y.2.2.2.2.2 c with ⟨s, h1, h2, h3⟩ | ⟨h1, h3⟩
    · rcases slOM_g y.1 y.2.1 GJ_v c with ⟨s', h4, h5, h6⟩ | ⟨h4, h6⟩
      · have s20 := (y.2.2.2.2.2.1 s h1).1
        have n1 : ¬ nI (σ s) = -1 := nI_mi (by omega)
        have n2 : ¬ nI s' = -1 := nI_mi (by omega)
        unfold bi
        rw [h3, h6, if_pos n1, if_pos n2]
      · exact absurd h2 (h4 s h1)
    · rcases slOM_g y.1 y.2.1 GJ_v c with ⟨s', h4, h5, h6⟩ | ⟨h4, h6⟩
      · exact absurd h5 (h1 s' h4)
      · unfold bi
        rw [h3, h6]
  rw [← e]
  exact cq_d h (c_isInYard hX (by decide)) (eqS.rf I)
theorem q_isConsistent (hX : JXok X) (h : CP K N v T I L Dd g gs d sv qq tx er fl w) : CQ X K 0 0 jdX6_isConsistent [] [] (some (.int 1)) 0 (g, gs, d, sv, qq, tx, er, fl, w) N v T I L Dd := by
  obtain ⟨p1, p2, p3, -⟩ := h.pre
  obtain ⟨σ, Y⟩ := h.yg
  have e := (cons_g Y).1
  have he : eqS (consF I (g 0)).2 I := cons_eq
  have C := c_isConsistent (N := N) (v := v) (T := T) (L := L) (Dd := Dd) hX (by decide : 5 ≤ 12) p1 p2 p3
  rw [e] at C
  exact cq_d h C he
end YDI
