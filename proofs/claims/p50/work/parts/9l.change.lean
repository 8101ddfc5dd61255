/-! the calls that change the yard: class and model -/
section YCH
variable {X : JX} {K N v d qq nx : Nat} {T : Nat → Option JS} {I I1 : HI} {L : HL} {Dd : HD} {g σ : Nat → Nat} {gs : Nat → Nat → Nat} {sv : Option (Nat → Nat)} {tx : Nat → Int32} {er fl : Int32} {w : List Int32} {a b c e f : Int32}
theorem CP.m20 (h : CP K N v T I L Dd g gs d sv qq tx er fl w) : g 1 ≤ 20 ∧ (I 15 0 < 20 → ∃ s, s < 20 ∧ freeSlot I = nI s) := by
  obtain ⟨⟨σ, y⟩, -⟩ := h
  have m := y.2.1.1.2.1
  refine ⟨m, fun q => ?_⟩
  have e : I 15 0 = nI (g 1) := y.2.2.1.2.1
  by_cases c : g 1 < 20
  · obtain ⟨u, h1, h2, -⟩ := free_g y.1 y.2.1 y.2.2.2.2.2 c
    exact ⟨u, h1, h2⟩
  · have e2 : g 1 = 20 := by omega
    rw [e, e2] at q
    exact absurd q (by decide)
theorem q_addTrack (hX : JXok X) (h : CP K N v T I L Dd g gs d sv qq tx er fl w) (hN : N + 1 < BIG) (hK1 : K + 1 ≤ 5000) : CQ X (K + 1) 4 24 jdX6_addTrack [.int a, .int b] (xsK 0) (some (.int (mK (GJ g) (g 0) (g 1) a b 0 0 0 0).1)) ((mK (GJ g) (g 0) (g 1) a b 0 0 0 0).2 396 12) (cmS g gs d (g, gs, d, sv, qq, tx, er, fl, w) (mK (GJ g) (g 0) (g 1) a b 0 0 0 0)) N v T I L Dd := by
  obtain ⟨p1, p2, -, -, -, p6⟩ := h.pre
  refine cq_c (kk := 0) (a := a) (b := b) (c := 0) (e := 0) (f := 0) h hK1 (by decide) (fun q => nomatch q) (fun nx n8 h1 h2 _ => ?_)
  · exact c_addTrack hX (by decide) h.N4 hN n8 h1 p6 h2 p1 p2
theorem q_connect (hX : JXok X) (h : CP K N v T I L Dd g gs d sv qq tx er fl w) (hN : N + 1 < BIG) (hK1 : K + 1 ≤ 5000) : CQ X (K + 1) 4 24 jdX6_connect [.int a, .int b] (xsK 1) (some (.int (mK (GJ g) (g 0) (g 1) a b 0 0 0 1).1)) ((mK (GJ g) (g 0) (g 1) a b 0 0 0 1).2 396 12) (cmS g gs d (g, gs, d, sv, qq, tx, er, fl, w) (mK (GJ g) (g 0) (g 1) a b 0 0 0 1)) N v T I L Dd := by
  obtain ⟨p1, p2, -, -, -, p6⟩ := h.pre
  refine cq_c (kk := 1) (a := a) (b := b) (c := 0) (e := 0) (f := 0) h hK1 (by decide) (fun q => nomatch q) (fun nx n8 h1 h2 _ => ?_)
  · exact c_connect hX (by decide) h.N4 hN n8 h1 p6 h2 p1 p2
theorem q_disconnect (hX : JXok X) (h : CP K N v T I L Dd g gs d sv qq tx er fl w) (hN : N + 1 < BIG) (hK1 : K + 1 ≤ 5000) : CQ X (K + 1) 4 24 jdX6_disconnect [.int a, .int b] (xsK 2) (some (.int (mK (GJ g) (g 0) (g 1) a b 0 0 0 2).1)) ((mK (GJ g) (g 0) (g 1) a b 0 0 0 2).2 396 12) (cmS g gs d (g, gs, d, sv, qq, tx, er, fl, w) (mK (GJ g) (g 0) (g 1) a b 0 0 0 2)) N v T I L Dd := by
  obtain ⟨p1, p2, -, -, -, p6⟩ := h.pre
  refine cq_c (kk := 2) (a := a) (b := b) (c := 0) (e := 0) (f := 0) h hK1 (by decide) (fun q => nomatch q) (fun nx n8 h1 h2 _ => ?_)
  · exact c_disconnect hX (by decide) h.N4 hN n8 h1 p6 h2 p1 p2
theorem q_addCar (hX : JXok X) (h : CP K N v T I L Dd g gs d sv qq tx er fl w) (hN : N + 1 < BIG) (hK1 : K + 1 ≤ 5000) (hf : f = 0 ∨ f = 1) : CQ X (K + 1) 4 24 jdX6_addCar [.int a, .int b, .int c, .int e, .int f] (xsK 3) (some (.int (mK (GJ g) (g 0) (g 1) a b c e f 3).1)) ((mK (GJ g) (g 0) (g 1) a b c e f 3).2 396 12) (cmS g gs d (g, gs, d, sv, qq, tx, er, fl, w) (mK (GJ g) (g 0) (g 1) a b c e f 3)) N v T I L Dd := by
  obtain ⟨p1, p2, -, -, -, p6⟩ := h.pre
  obtain ⟨m20, hfs⟩ := h.m20
  refine cq_c (kk := 3) (a := a) (b := b) (c := c) (e := e) (f := f) h hK1 (by decide) (fun _ => hf) (fun nx n8 h1 h2 _ => ?_)
  · have C := c_addCar (t := a) (a := b) (b := c) (c := e) (e := f) (T := T) (v := v) (L := L) (Dd := Dd) hX (by decide : 7 ≤ 12) h.N4 hN n8 h1 p6 h2 p1 p2 hf hfs
    have e1 : freeSlot (remI I nx d 1) = freeSlot I := freeSlot_congr (rem_o n8 (by decide) (by decide) (by decide))
    show MT X 12 4 24 jdX6_addCar _ _ (outE (excN (carF I a b c e)) N v T I L Dd (.inl (some (.int ((remI I nx d 1) 15 1 + 1)), (N, SH v T, enterI (remI I nx d 1) (freeSlot (remI I nx d 1)).toNatClampNeg a.toNatClampNeg b c e (if f = 1 then 1 else 0), yardCpL L (108 + 35 * nx) 1, Dd))))
    rw [e1, f01 hf]
    exact C
theorem q_shunt (hX : JXok X) (h : CP K N v T I L Dd g gs d sv qq tx er fl w) (hN : N + 1 < BIG) (hK1 : K + 1 ≤ 5000) : CQ X (K + 1) 4 24 jdX6_shunt [.int a, .int b, .int c] (xsK 4) (some (.int (mK (GJ g) (g 0) (g 1) a b c 0 0 4).1)) ((mK (GJ g) (g 0) (g 1) a b c 0 0 4).2 396 12) (cmS g gs d (g, gs, d, sv, qq, tx, er, fl, w) (mK (GJ g) (g 0) (g 1) a b c 0 0 4)) N v T I L Dd := by
  obtain ⟨p1, p2, -, -, -, p6⟩ := h.pre
  obtain ⟨m20, hfs⟩ := h.m20
  refine cq_c (kk := 4) (a := a) (b := b) (c := c) (e := 0) (f := 0) h hK1 (by decide) (fun q => nomatch q) (fun nx n8 h1 h2 ok => ?_)
  · exact c_shunt hX (by decide) h.N4 hN n8 h1 p6 h2 p1 p2 (fun q => (ok q).2.2.2)
theorem q_repair (hX : JXok X) (h : CP K N v T I L Dd g gs d sv qq tx er fl w) (hN : N + 1 < BIG) (hK1 : K + 1 ≤ 5000) : CQ X (K + 1) 4 24 jdX6_repair [.int a] (xsK 5) (some (.int (mK (GJ g) (g 0) (g 1) a 0 0 0 0 5).1)) ((mK (GJ g) (g 0) (g 1) a 0 0 0 0 5).2 396 12) (cmS g gs d (g, gs, d, sv, qq, tx, er, fl, w) (mK (GJ g) (g 0) (g 1) a 0 0 0 0 5)) N v T I L Dd := by
  obtain ⟨p1, p2, -, -, -, p6⟩ := h.pre
  obtain ⟨m20, hfs⟩ := h.m20
  refine cq_c (kk := 5) (a := a) (b := 0) (c := 0) (e := 0) (f := 0) h hK1 (by decide) (fun q => nomatch q) (fun nx n8 h1 h2 _ => ?_)
  · have C := c_repair (c := a) (T := T) (v := v) (L := L) (Dd := Dd) hX (by decide : 7 ≤ 12) h.N4 hN n8 h1 p6 h2
    have e1 : slotOf (remI I nx d 1) a = slotOf I a := slotOf_congr (rem_o n8 (by decide) (by decide) (by decide))
    show MT X 12 4 24 jdX6_repair _ _ (outE (excN (repairFt I a)) N v T I L Dd (.inl (some (.int (fo (stM (mendI (remI I nx d 1) (slotOf (remI I nx d 1) a).toNatClampNeg)) 20 0 0)), (N, SH v T, mendI (remI I nx d 1) (slotOf (remI I nx d 1) a).toNatClampNeg, yardCpL L (108 + 35 * nx) 1, Dd))))
    rw [e1]
    exact C
theorem q_depart (hX : JXok X) (h : CP K N v T I L Dd g gs d sv qq tx er fl w) (hN : N + 1 < BIG) (hK1 : K + 1 ≤ 5000) : CQ X (K + 1) 4 24 jdX6_depart [.int a, .int b] (xsK 6) (some (.int (mK (GJ g) (g 0) (g 1) a b 0 0 0 6).1)) ((mK (GJ g) (g 0) (g 1) a b 0 0 0 6).2 396 12) (cmS g gs d (g, gs, d, sv, qq, tx, er, fl, w) (mK (GJ g) (g 0) (g 1) a b 0 0 0 6)) N v T I L Dd := by
  obtain ⟨p1, p2, p3, -, -, p6⟩ := h.pre
  obtain ⟨m20, hfs⟩ := h.m20
  refine cq_c (kk := 6) (a := a) (b := b) (c := 0) (e := 0) (f := 0) h hK1 (by decide) (fun q => nomatch q) (fun nx n8 h1 h2 ok => ?_)
  · have e1 : remI (trainFt I a b).2 nx d 1 31 = I 31 := (rem_o n8 (by decide) (by decide) (by decide)).trans (fltK_eq (I := I) (z := g 0) (a := a) (b := b) (c := 0) (e := 0) (kk := 6) 31 (by decide) (by decide) (by decide) (by decide))
    have ok2 : excN (trainFt I a b).1 = none → ∃ q, q ≤ 20 ∧ trainF (listO (remI (trainFt I a b).2 nx d 1) a) (I 31 a.toNatClampNeg).toNatClampNeg = nI q ∧ lvOK a.toNatClampNeg q (listO (remI (trainFt I a b).2 nx d 1) a, (yardCpL L (108 + 35 * nx) 1) 1 7) := fun q => by
      have r : ∃ q, q ≤ 20 ∧ trainF (listO (remI (trainFt I a b).2 nx d 1) a) (remI (trainFt I a b).2 nx d 1 31 a.toNatClampNeg).toNatClampNeg = nI q ∧ lvOK a.toNatClampNeg q (listO (remI (trainFt I a b).2 nx d 1) a, (yardCpL L (108 + 35 * nx) 1) 1 7) := (ok q).2
      rw [e1] at r
      exact r
    have C := c_depart (t := a) (dd := b) (T := T) (v := v) (L := L) (Dd := Dd) hX (by decide : 7 ≤ 12) h.N4 hN n8 h1 p6 h2 p1 p2 p3 ok2
    show MT X 12 4 24 jdX6_depart _ _ (outE (excN (trainFt I a b).1) N v T (trainFt I a b).2 L Dd (.inl (some (.int (trainF (listO (remI (trainFt I a b).2 nx d 1) a) (remI (trainFt I a b).2 nx d 1 31 a.toNatClampNeg).toNatClampNeg)), (N, SH v T, sendI (listO (remI (trainFt I a b).2 nx d 1) a) (yardCpL L (108 + 35 * nx) 1) a.toNatClampNeg (trainF (listO (remI (trainFt I a b).2 nx d 1) a) (remI (trainFt I a b).2 nx d 1 31 a.toNatClampNeg).toNatClampNeg).toNatClampNeg, up2 (yardCpL L (108 + 35 * nx) 1) 1 7 (sendU (listO (remI (trainFt I a b).2 nx d 1) a) (yardCpL L (108 + 35 * nx) 1) a.toNatClampNeg (trainF (listO (remI (trainFt I a b).2 nx d 1) a) (remI (trainFt I a b).2 nx d 1 31 a.toNatClampNeg).toNatClampNeg).toNatClampNeg).2, Dd))))
    rw [e1]
    exact C
end YCH
