/-! the calls without refusals: class and model -/
section YDI
variable {X : JX} {K N v d qq nx : Nat} {T : Nat → Option JS} {I I1 I2 J : HI} {L : HL} {Dd : HD} {g σ : Nat → Nat} {gs : Nat → Nat → Nat} {sv : Option (Nat → Nat)} {tx : Nat → Int32} {er fl : Int32} {w : List Int32} {a b c e f : Int32} {jx jy : JD} {ax ay : List Value} {x y : Option Value} {P : Option Value → Option Value → Prop}
def PJv (x b : Option Value) : Prop := ∃ w, x = some (.long w) ∧ b = some (.long w)
def PNv (x b : Option Value) : Prop := x = none ∧ b = none
theorem cls_d (h : CP K N v T I L Dd g gs d sv qq tx er fl w) (hm : MP I g gs d sv qq tx er fl w)
    (hc : MT X 12 0 0 jx (.ref 0 :: ax) (N, SH v T, I, L, Dd) (fun R => R = .inl (x, (N, SH v T, I2, L, Dd)))) (he : eqS I2 I)
    (hy : ∀ N v T L Dd, MT X 12 0 0 jy (.ref 396 :: ay) (N, SH v T, I2, L, Dd) (fun R => R = .inl (y, (N, SH v T, J, L, Dd))))
    (hr : FQ I2 J) (h0 : J 396 12 = 0) (hP : P x y) : CLS X K 0 0 jx ax jy ay [] P N v T I L Dd := by
  have hN := h.N4
  refine ⟨_, hc, fun R hR => ⟨N, v, T, I2, L, hN, by omega, Or.inl ⟨x, hR, ⟨y, hP⟩, fun L' Dd' hL hD => ?_⟩⟩⟩
  exact (hy N v T L' Dd').mono (fun R hR2 => ⟨y, J, hR2, hP, h0, INV.qu h hm he hr hL hD⟩)
theorem thr0 : (up2 J 396 12 0) 396 12 = 0 := thr J 0
theorem b_trackCount (hX : JXok X) (h : CP K N v T I L Dd g gs d sv qq tx er fl w) (hm : MP I g gs d sv qq tx er fl w) : CLS X K 0 0 jdX6_trackCount [] jdX7_trackCount [] [] PIv N v T I L Dd := by
  obtain ⟨p1, p2, -, -, -, p6⟩ := h.pre
  exact cls_d h hm (c_trackCount hX (by decide)) (eqS.rf I) (fun N v T L Dd => m_trackCount hX (by decide) p1 hm.pre.1) FQ.rf.th thr0 ⟨_, rfl, by rw [p2]⟩
theorem b_carCount (hX : JXok X) (h : CP K N v T I L Dd g gs d sv qq tx er fl w) (hm : MP I g gs d sv qq tx er fl w) : CLS X K 0 0 jdX6_carCount [] jdX7_carCount [] [] PIv N v T I L Dd := by
  obtain ⟨m20, -⟩ := h.m20
  have e : I 15 0 = nI (g 1) := by
    obtain ⟨⟨σ, y⟩, -⟩ := h
    exact y.2.2.1.2.1
  exact cls_d h hm (c_carCount hX (by decide)) (eqS.rf I) (fun N v T L Dd => m_carCount hX (by decide) m20 hm.pre.2.1) FQ.rf.th thr0 ⟨_, rfl, by rw [e]⟩
theorem b_moveCount (hX : JXok X) (h : CP K N v T I L Dd g gs d sv qq tx er fl w) (hm : MP I g gs d sv qq tx er fl w) : CLS X K 0 0 jdX6_moveCount [] jdX7_moveCount [] [] PIv N v T I L Dd := by
  have e : I 1 5 = I 397 3 := by
    obtain ⟨⟨σ, y⟩, -⟩ := h
    exact y.2.2.1.2.2.2.1.trans (hm.1 3 (by decide)).symm
  exact cls_d h hm (c_moveCount hX (by decide)) (eqS.rf I) (fun N v T L Dd => m_moveCount hX (by decide)) FQ.rf.th thr0 ⟨_, rfl, by rw [e]⟩
theorem b_departedCars (hX : JXok X) (h : CP K N v T I L Dd g gs d sv qq tx er fl w) (hm : MP I g gs d sv qq tx er fl w) : CLS X K 0 0 jdX6_departedCars [] jdX7_departedCars [] [] PIv N v T I L Dd := by
  have e : I 1 6 = I 397 4 := by
    obtain ⟨⟨σ, y⟩, -⟩ := h
    exact y.2.2.1.2.2.2.2.1.trans (hm.1 4 (by decide)).symm
  exact cls_d h hm (c_departedCars hX (by decide)) (eqS.rf I) (fun N v T L Dd => m_departedCars hX (by decide)) FQ.rf.th thr0 ⟨_, rfl, by rw [e]⟩
theorem b_time (hX : JXok X) (h : CP K N v T I L Dd g gs d sv qq tx er fl w) (hm : MP I g gs d sv qq tx er fl w) : CLS X K 0 0 jdX6_time [] jdX7_time [] [] PJv N v T I L Dd := by
  have e : L 1 4 = (I 397 5).toInt64 := by
    obtain ⟨⟨σ, y⟩, -⟩ := h
    have b1 := y.2.1.1
    have k5 := y.1
    rw [hm.1 5 (by decide), nI_l (by omega)]
    exact y.2.2.1.2.2.2.2.2.1
  exact cls_d h hm (c_time hX (by decide)) (eqS.rf I) (fun N v T L Dd => m_mtime hX (by decide)) FQ.rf.th thr0 ⟨_, rfl, by rw [e]⟩
theorem b_departedWeight (hX : JXok X) (h : CP K N v T I L Dd g gs d sv qq tx er fl w) (hm : MP I g gs d sv qq tx er fl w) : CLS X K 0 0 jdX6_departedWeight [] jdX7_departedWeight [] [] PJv N v T I L Dd := by
  have e : L 1 7 = (I 397 6).toInt64 := by
    obtain ⟨⟨σ, y⟩, -⟩ := h
    have b1 := y.2.1.1
    have k5 := y.1
    rw [hm.1 6 (by decide), nI_l (by omega)]
    exact y.2.2.1.2.2.2.2.2.2.1
  exact cls_d h hm (c_departedWeight hX (by decide)) (eqS.rf I) (fun N v T L Dd => m_departedWeight hX (by decide)) FQ.rf.th thr0 ⟨_, rfl, by rw [e]⟩
theorem b_isInYard (hX : JXok X) (h : CP K N v T I L Dd g gs d sv qq tx er fl w) (hm : MP I g gs d sv qq tx er fl w) : CLS X K 0 0 jdX6_isInYard [.int c] jdX7_isInYard [.int c] [] PIv N v T I L Dd := by
  obtain ⟨m20, -⟩ := h.m20
  have e : bi (slotOf I c ≠ -1) = bi (¬ slOM I (g 1) c = -1) := by
    obtain ⟨⟨σ, y⟩, -⟩ := h
    have b1 := y.2.1.1
    rcases slotOf_g y.1 y.2.1 y.2.2.2.2.2 c with ⟨s, h1, h2, h3⟩ | ⟨h1, h3⟩
    · rcases slOM_g y.1 y.2.1 hm.1 c with ⟨s', h4, h5, h6⟩ | ⟨h4, h6⟩
      · have s20 := (y.2.2.2.2.2.1 s h1).1
        have n1 : ¬ nI (σ s) = -1 := nI_mi (by omega)
        have n2 : ¬ nI s' = -1 := nI_mi (by omega)
        unfold bi
        rw [h3, h6, if_pos n1, if_pos n2]
      · exact absurd h2 (h4 s h1)
    · rcases slOM_g y.1 y.2.1 hm.1 c with ⟨s', h4, h5, h6⟩ | ⟨h4, h6⟩
      · exact absurd h5 (h1 s' h4)
      · unfold bi
        rw [h3, h6]
  exact cls_d h hm (c_isInYard hX (by decide)) (eqS.rf I) (fun N v T L Dd => m_isInYard hX (by decide) m20 hm.pre.2.1) FQ.rf.th thr0 ⟨_, rfl, by rw [e]⟩
theorem b_isConsistent (hX : JXok X) (h : CP K N v T I L Dd g gs d sv qq tx er fl w) (hm : MP I g gs d sv qq tx er fl w) : CLS X K 0 0 jdX6_isConsistent [] jdX7_isConsistent [] [] PIv N v T I L Dd := by
  obtain ⟨p1, p2, p3, -⟩ := h.pre
  obtain ⟨σ, Y⟩ := h.yr hm
  have e := (cons_g Y).1
  have he : eqS (consF I (g 0)).2 I := cons_eq
  have C := c_isConsistent (N := N) (v := v) (T := T) (L := L) (Dd := Dd) hX (by decide : 5 ≤ 12) p1 p2 p3
  rw [e] at C
  exact cls_d h hm C he (fun N v T L Dd => m_isConsistent hX (by decide)) FQ.rf.th thr0 ⟨_, rfl, rfl⟩
end YDI
