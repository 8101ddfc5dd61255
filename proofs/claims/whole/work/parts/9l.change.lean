/-! the calls that change the yard: class and model -/
section YCH
variable {X : JX} {K N v d qq nx : Nat} {T : Nat → Option JS} {I I1 : HI} {L : HL} {Dd : HD} {g σ : Nat → Nat} {gs : Nat → Nat → Nat} {sv : Option (Nat → Nat)} {tx : Nat → Int32} {er fl : Int32} {w : List Int32} {a b c e f : Int32}
theorem b_addTrack (hX : JXok X) (h : CP K N v T I L Dd g gs d sv qq tx er fl w) (hm : MP I g gs d sv qq tx er fl w) (hN : N + 1 < BIG) (hK1 : K + 1 ≤ 5000) : CLS X (K + 1) 4 24 jdX6_addTrack [.int a, .int b] jdX7_addTrack [.int a, .int b] [xIA, xIS] PIv N v T I L Dd := by
  obtain ⟨p1, p2, -, -, -, p6⟩ := h.pre
  refine cls_c (kk := 0) (a := a) (b := b) (c := 0) (e := 0) (f := 0) h hm hK1 (by decide) (fun q => nomatch q) (fun nx n8 h1 h2 _ => ?_) (fun I1 N v T L Dd z m pl ch _ => ?_)
  · exact c_addTrack hX (by decide) h.N4 hN n8 h1 p6 h2 p1 p2
  · exact m_addTrack hX (by decide) p1 z ch p6
theorem b_connect (hX : JXok X) (h : CP K N v T I L Dd g gs d sv qq tx er fl w) (hm : MP I g gs d sv qq tx er fl w) (hN : N + 1 < BIG) (hK1 : K + 1 ≤ 5000) : CLS X (K + 1) 4 24 jdX6_connect [.int a, .int b] jdX7_connect [.int a, .int b] [xIO, xIA, xIS] PIv N v T I L Dd := by
  obtain ⟨p1, p2, -, -, -, p6⟩ := h.pre
  refine cls_c (kk := 1) (a := a) (b := b) (c := 0) (e := 0) (f := 0) h hm hK1 (by decide) (fun q => nomatch q) (fun nx n8 h1 h2 _ => ?_) (fun I1 N v T L Dd z m pl ch _ => ?_)
  · exact c_connect hX (by decide) h.N4 hN n8 h1 p6 h2 p1 p2
  · exact m_connect hX (by decide) p1 z ch p6
theorem b_disconnect (hX : JXok X) (h : CP K N v T I L Dd g gs d sv qq tx er fl w) (hm : MP I g gs d sv qq tx er fl w) (hN : N + 1 < BIG) (hK1 : K + 1 ≤ 5000) : CLS X (K + 1) 4 24 jdX6_disconnect [.int a, .int b] jdX7_disconnect [.int a, .int b] [xIO, xIS] PIv N v T I L Dd := by
  obtain ⟨p1, p2, -, -, -, p6⟩ := h.pre
  refine cls_c (kk := 2) (a := a) (b := b) (c := 0) (e := 0) (f := 0) h hm hK1 (by decide) (fun q => nomatch q) (fun nx n8 h1 h2 _ => ?_) (fun I1 N v T L Dd z m pl ch _ => ?_)
  · exact c_disconnect hX (by decide) h.N4 hN n8 h1 p6 h2 p1 p2
  · exact m_disconnect hX (by decide) p1 z ch p6
theorem CP.m20 (h : CP K N v T I L Dd g gs d sv qq tx er fl w) : g 1 ≤ 20 ∧ (I 15 0 < 20 → ∃ s, s < 20 ∧ freeSlot I = nI s) := by
  obtain ⟨⟨σ, y⟩, -⟩ := h
  have m := y.2.1.1.2.1
  refine ⟨m, fun q => ?_⟩
  have e : I 15 0 = nI (g 1) := y.2.2.1.2.1
  by_cases c : g 1 < 20
  · obtain ⟨u, h1, h2, -⟩ := free_g y.1 y.2.1 y.2.2.2.2.2 c
    exact ⟨u, h1, h2⟩
  · have e2 : g 1 = 20 := by omega
    rw [e, e2] at q
    exact absurd q (by decide)
theorem b_addCar (hX : JXok X) (h : CP K N v T I L Dd g gs d sv qq tx er fl w) (hm : MP I g gs d sv qq tx er fl w) (hN : N + 1 < BIG) (hK1 : K + 1 ≤ 5000) (hf : f = 0 ∨ f = 1) : CLS X (K + 1) 4 24 jdX6_addCar [.int a, .int b, .int c, .int e, .int f] jdX7_addCar [.int a, .int b, .int c, .int e, .int f] [xIO, xIA, xIS, xUO] PIv N v T I L Dd := by
  obtain ⟨p1, p2, -, -, -, p6⟩ := h.pre
  obtain ⟨m20, hfs⟩ := h.m20
  refine cls_c (kk := 3) (a := a) (b := b) (c := c) (e := e) (f := f) h hm hK1 (by decide) (fun _ => hf) (fun nx n8 h1 h2 _ => ?_) (fun I1 N v T L Dd z m pl ch _ => ?_)
  · have C := c_addCar (t := a) (a := b) (b := c) (c := e) (e := f) (T := T) (v := v) (L := L) (Dd := Dd) hX (by decide : 7 ≤ 12) h.N4 hN n8 h1 p6 h2 p1 p2 hf hfs
    have e1 : freeSlot (remI I nx d 1) = freeSlot I := freeSlot_congr (rem_o n8 (by decide) (by decide) (by decide))
    show MT X 12 4 24 jdX6_addCar _ _ (outE (excN (carF I a b c e)) N v T I L Dd (.inl (some (.int ((remI I nx d 1) 15 1 + 1)), (N, SH v T, enterI (remI I nx d 1) (freeSlot (remI I nx d 1)).toNatClampNeg a.toNatClampNeg b c e (if f = 1 then 1 else 0), yardCpL L (108 + 35 * nx) 1, Dd))))
    rw [e1, f01 hf]
    exact C
  · exact m_addCar hX (by decide) m20 m p1 z ch p6 hf
theorem b_shunt (hX : JXok X) (h : CP K N v T I L Dd g gs d sv qq tx er fl w) (hm : MP I g gs d sv qq tx er fl w) (hN : N + 1 < BIG) (hK1 : K + 1 ≤ 5000) : CLS X (K + 1) 4 24 jdX6_shunt [.int a, .int b, .int c] jdX7_shunt [.int a, .int b, .int c] [xIO, xIA, xIS, xNE, xUO] PIv N v T I L Dd := by
  obtain ⟨p1, p2, -, -, -, p6⟩ := h.pre
  obtain ⟨m20, hfs⟩ := h.m20
  refine cls_c (kk := 4) (a := a) (b := b) (c := c) (e := 0) (f := 0) h hm hK1 (by decide) (fun q => nomatch q) (fun nx n8 h1 h2 ok => ?_) (fun I1 N v T L Dd z m pl ch ok => ?_)
  · exact c_shunt hX (by decide) h.N4 hN n8 h1 p6 h2 p1 p2 (fun q => (ok q).2.2.2)
  · exact m_shunt hX (by decide) m20 m p1 z pl ok ch p6
theorem b_repair (hX : JXok X) (h : CP K N v T I L Dd g gs d sv qq tx er fl w) (hm : MP I g gs d sv qq tx er fl w) (hN : N + 1 < BIG) (hK1 : K + 1 ≤ 5000) : CLS X (K + 1) 4 24 jdX6_repair [.int a] jdX7_repair [.int a] [xNE, xIS] PIv N v T I L Dd := by
  obtain ⟨p1, p2, -, -, -, p6⟩ := h.pre
  obtain ⟨m20, hfs⟩ := h.m20
  refine cls_c (kk := 5) (a := a) (b := 0) (c := 0) (e := 0) (f := 0) h hm hK1 (by decide) (fun q => nomatch q) (fun nx n8 h1 h2 _ => ?_) (fun I1 N v T L Dd z m pl ch _ => ?_)
  · have C := c_repair (c := a) (T := T) (v := v) (L := L) (Dd := Dd) hX (by decide : 7 ≤ 12) h.N4 hN n8 h1 p6 h2
    have e1 : slotOf (remI I nx d 1) a = slotOf I a := slotOf_congr (rem_o n8 (by decide) (by decide) (by decide))
    show MT X 12 4 24 jdX6_repair _ _ (outE (excN (repairFt I a)) N v T I L Dd (.inl (some (.int (fo (stM (mendI (remI I nx d 1) (slotOf (remI I nx d 1) a).toNatClampNeg)) 20 0 0)), (N, SH v T, mendI (remI I nx d 1) (slotOf (remI I nx d 1) a).toNatClampNeg, yardCpL L (108 + 35 * nx) 1, Dd))))
    rw [e1]
    exact C
  · exact m_repair hX (by decide) m20 m ch p6
theorem b_depart (hX : JXok X) (h : CP K N v T I L Dd g gs d sv qq tx er fl w) (hm : MP I g gs d sv qq tx er fl w) (hN : N + 1 < BIG) (hK1 : K + 1 ≤ 5000) : CLS X (K + 1) 4 24 jdX6_depart [.int a, .int b] jdX7_depart [.int a, .int b] [xIO, xIA, xIS, xUO] PIv N v T I L Dd := by
  obtain ⟨p1, p2, p3, -, -, p6⟩ := h.pre
  obtain ⟨m20, hfs⟩ := h.m20
  refine cls_c (kk := 6) (a := a) (b := b) (c := 0) (e := 0) (f := 0) h hm hK1 (by decide) (fun q => nomatch q) (fun nx n8 h1 h2 ok => ?_) (fun I1 N v T L Dd z m pl ch ok => ?_)
  · have e1 : remI (trainFt I a b).2 nx d 1 31 = I 31 := (rem_o n8 (by decide) (by decide) (by decide)).trans (fltK_eq (I := I) (z := g 0) (a := a) (b := b) (c := 0) (e := 0) (kk := 6) 31 (by decide) (by decide) (by decide) (by decide))
    have ok2 : excN (trainFt I a b).1 = none → ∃ q, q ≤ 20 ∧ trainF (listO (remI (trainFt I a b).2 nx d 1) a) (I 31 a.toNatClampNeg).toNatClampNeg = nI q ∧ lvOK a.toNatClampNeg q (listO (remI (trainFt I a b).2 nx d 1) a, (yardCpL L (108 + 35 * nx) 1) 1 7) := fun q => by
      have r : ∃ q, q ≤ 20 ∧ trainF (listO (remI (trainFt I a b).2 nx d 1) a) (remI (trainFt I a b).2 nx d 1 31 a.toNatClampNeg).toNatClampNeg = nI q ∧ lvOK a.toNatClampNeg q (listO (remI (trainFt I a b).2 nx d 1) a, (yardCpL L (108 + 35 * nx) 1) 1 7) := (ok q).2
      rw [e1] at r
      exact r
    have C := c_depart (t := a) (dd := b) (T := T) (v := v) (L := L) (Dd := Dd) hX (by decide : 7 ≤ 12) h.N4 hN n8 h1 p6 h2 p1 p2 p3 ok2
    show MT X 12 4 24 jdX6_depart _ _ (outE (excN (trainFt I a b).1) N v T (trainFt I a b).2 L Dd (.inl (some (.int (trainF (listO (remI (trainFt I a b).2 nx d 1) a) (remI (trainFt I a b).2 nx d 1 31 a.toNatClampNeg).toNatClampNeg)), (N, SH v T, sendI (listO (remI (trainFt I a b).2 nx d 1) a) (yardCpL L (108 + 35 * nx) 1) a.toNatClampNeg (trainF (listO (remI (trainFt I a b).2 nx d 1) a) (remI (trainFt I a b).2 nx d 1 31 a.toNatClampNeg).toNatClampNeg).toNatClampNeg, up2 (yardCpL L (108 + 35 * nx) 1) 1 7 (sendU (listO (remI (trainFt I a b).2 nx d 1) a) (yardCpL L (108 + 35 * nx) 1) a.toNatClampNeg (trainF (listO (remI (trainFt I a b).2 nx d 1) a) (remI (trainFt I a b).2 nx d 1 31 a.toNatClampNeg).toNatClampNeg).toNatClampNeg).2, Dd))))
    rw [e1]
    exact C
  · exact m_depart hX (by decide) m20 m p1 z pl ok ch p6
end YCH
