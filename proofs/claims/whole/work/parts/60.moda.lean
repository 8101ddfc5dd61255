/-! the model: times of moves, the nearest track -/
section MODA
variable {X : JX} {d N v : Nat} {T : Nat → Option JS} {I : Nat → Nat → Int32} {L : Nat → Nat → Int64} {Dd : Nat → Nat → UInt64} {a b c e i0 t dd le we de i : Int32} {m z x y y1 y2 q c0 s n ch : Nat}
theorem m_shuntingTime (hX : JXok X) (hd : 5 ≤ d) (hm20 : m ≤ 20) (hm : I 397 1 = nI m) (hz8 : z ≤ 8) (hz : I 397 0 = nI z) (hPL : PLM I m) : MT X d 0 0 jdX7_shuntingTime [.ref 396, .int a, .int b, .int c] (N, SH v T, I, L, Dd) (fun R => R = .inl (some (.int (stiM I m z a b c).1), (N, SH v T, (stiM I m z a b c).2, L, Dd))) := by
  refine MT.mk dvX7_shuntingTime.1 ?_
  refine Ev.sg hX (sX7_shuntingTime_0.sub 0 4) (pc' := 4) (ls' := [some (.ref 396), some (.int a), some (.int b), some (.int c), none]) (st' := [.int c, .int b, .int a, .ref 396]) (h' := (N, SH v T, I, L, Dd)) rfl ?_
  refine Ev.callV (As := [.int a, .int b, .int c]) (rest := []) dvX7_whyNot mkX7_120 rfl rfl dX7_shuntingTime_4 (m_whyNot (d := d - 1) (I := I) hX (by omega) hm20 hm hz8 hz hPL) ⟨by omega, by show 6 + 19 + 40 * _ ≤ 40 * _; omega⟩ ⟨Nat.zero_le _, Nat.zero_le _⟩ rfl (Nat.le_of_ble_eq_true rfl) (fun v9 h9 e9 => ?_) (fun E9 h9 e9 => nomatch e9)
  cases e9
  show Ev _ _ _ _ _ _ 7 [some (.ref 396), some (.int a), some (.int b), some (.int c), none] [.int ((whM I m z a b c).1)] (N, SH v T, (whM I m z a b c).2, L, Dd)
  refine Ev.sg hX (sX7_shuntingTime_7.sub 0 2) (pc' := 11) (ls' := [some (.ref 396), some (.int a), some (.int b), some (.int c), some (.int ((whM I m z a b c).1))]) (st' := [.int ((whM I m z a b c).1)]) (h' := (N, SH v T, (whM I m z a b c).2, L, Dd)) rfl ?_
  refine Ev.if_le (tgt := 33) dX7_shuntingTime_11 (by decide) (fun b1 => ?_) (fun b1 => ?_)
  · have hw0 : ¬ 0 < (whM I m z a b c).1 := Int32.not_lt.mpr b1
    have hw1 := hw0
    obtain ⟨x, y, q, c0, rfl, rfl, rfl, hx, hy, hxy, hq9, hq, hc0, hg, hp, hw2⟩ := whM_ok hz8 hz hPL hw0
    refine Ev.eqh (h' := (N, SH v T, exM I z y, L, Dd)) (congrArg (fun z => (N, SH v T, z, L, Dd)) hw2) ?_
    generalize (whM I m z (nI x) (nI y) (nI q)).1 = w0
    have hcx : (nI x).toNatClampNeg = x := nI_clamp (by omega)
    have hcy : (nI y).toNatClampNeg = y := nI_clamp (by omega)
    have hcq : (nI q).toNatClampNeg = q := nI_clamp (by omega)
    refine Ev.sg hX (sX7_shuntingTime_33.sub 0 5) (pc' := 38) (ls' := [some (.ref 396), some (.int (nI x)), some (.int (nI y)), some (.int (nI q)), some (.int w0)]) (st' := [.int (nI q), .int (nI y), .int (nI x), .ref 396, .ref 396]) (h' := (N, SH v T, exM I z y, L, Dd)) rfl ?_
    refine Ev.callV (As := [.int (nI x), .int (nI y), .int (nI q)]) (rest := [.ref 396]) dvX7_minutesFor mkX7_124 rfl rfl dX7_shuntingTime_38 (m_minutesFor (d := d - 1) (I := (exM I z y)) (x := x) (y := y) (q := q) hX (by omega) hm20 ((congrFun ((exM_ne (by decide)).trans rfl) 1).trans hm) hz8 ((congrFun ((exM_ne (by decide)).trans rfl) 0).trans hz) (by omega) (by omega) ⟨c0, hc0, hq, (congrFun (exM_ne (by decide)) (31 + x)).trans hg, fun p hp9 => by obtain ⟨s, h1, h2⟩ := hp p hp9; exact ⟨s, h1, by rw [slAM_congr (exM_ne (by decide))]; exact h2⟩⟩) ⟨by omega, by show 6 + 19 + 40 * _ ≤ 40 * _; omega⟩ ⟨Nat.zero_le _, Nat.zero_le _⟩ rfl (Nat.le_of_ble_eq_true rfl) (fun v9 h9 e9 => ?_) (fun E9 h9 e9 => nomatch e9)
    cases e9
    show Ev _ _ _ _ _ _ 41 [some (.ref 396), some (.int (nI x)), some (.int (nI y)), some (.int (nI q)), some (.int w0)] [.int (miM (exM I z y) m z x y q), .ref 396] (N, SH v T, exM (exM I z y) z y, L, Dd)
    refine Ev.callV (As := [.int (miM (exM I z y) m z x y q)]) (rest := []) dvX7_done mkX7_79 rfl rfl dX7_shuntingTime_41 (m_done (d := d - 1) (I := (exM (exM I z y) z y)) hX (by omega)) ⟨by omega, by show 2 + 19 + 40 * _ ≤ 40 * _; omega⟩ ⟨Nat.zero_le _, Nat.zero_le _⟩ rfl (Nat.le_of_ble_eq_true rfl) (fun v9 h9 e9 => ?_) (fun E9 h9 e9 => nomatch e9)
    cases e9
    show Ev _ _ _ _ _ _ 44 [some (.ref 396), some (.int (nI x)), some (.int (nI y)), some (.int (nI q)), some (.int w0)] [.int (miM (exM I z y) m z x y q)] (N, SH v T, up2 (exM (exM I z y) z y) 396 12 0, L, Dd)
    refine Ev.iret dX7_shuntingTime_44 rfl ?_
    rw [stiM, if_neg hw1, hcx, hcy, hcq]
  · refine Ev.sg hX (sX7_shuntingTime_14.sub 0 3) (pc' := 18) (ls' := [some (.ref 396), some (.int a), some (.int b), some (.int c), some (.int ((whM I m z a b c).1))]) (st' := [.int 3, .int ((whM I m z a b c).1), .ref 396]) (h' := (N, SH v T, (whM I m z a b c).2, L, Dd)) rfl ?_
    refine Ev.icmp_ge (tgt := 26) dX7_shuntingTime_18 (by decide) (fun b2 => ?_) (fun b2 => ?_)
    · refine Ev.sg hX (sX7_shuntingTime_26.sub 0 1) (pc' := 27) (ls' := [some (.ref 396), some (.int a), some (.int b), some (.int c), some (.int ((whM I m z a b c).1))]) (st' := [.int 3, .ref 396]) (h' := (N, SH v T, (whM I m z a b c).2, L, Dd)) rfl ?_
      refine Ev.callV (As := [.int 3]) (rest := []) dvX7_fails mkX7_75 rfl rfl dX7_shuntingTime_27 (m_fails (d := d - 1) (I := ((whM I m z a b c).2)) hX (by omega)) ⟨by omega, by show 2 + 19 + 40 * _ ≤ 40 * _; omega⟩ ⟨Nat.zero_le _, Nat.zero_le _⟩ rfl (Nat.le_of_ble_eq_true rfl) (fun v9 h9 e9 => ?_) (fun E9 h9 e9 => nomatch e9)
      cases e9
      show Ev _ _ _ _ _ _ 30 [some (.ref 396), some (.int a), some (.int b), some (.int c), some (.int ((whM I m z a b c).1))] [.int 0] (N, SH v T, up2 ((whM I m z a b c).2) 396 12 3, L, Dd)
      refine Ev.sg hX (sX7_shuntingTime_30.sub 0 1) (pc' := 44) (ls' := [some (.ref 396), some (.int a), some (.int b), some (.int c), some (.int ((whM I m z a b c).1))]) (st' := [.int 0]) (h' := (N, SH v T, up2 ((whM I m z a b c).2) 396 12 3, L, Dd)) rfl ?_
      refine Ev.iret dX7_shuntingTime_44 rfl ?_
      rw [stiM, if_pos (Int32.not_le.mp b1), if_neg (Int32.not_lt.mpr b2)]
    · refine Ev.sg hX (sX7_shuntingTime_21.sub 0 2) (pc' := 27) (ls' := [some (.ref 396), some (.int a), some (.int b), some (.int c), some (.int ((whM I m z a b c).1))]) (st' := [.int ((whM I m z a b c).1), .ref 396]) (h' := (N, SH v T, (whM I m z a b c).2, L, Dd)) rfl ?_
      refine Ev.callV (As := [.int ((whM I m z a b c).1)]) (rest := []) dvX7_fails mkX7_75 rfl rfl dX7_shuntingTime_27 (m_fails (d := d - 1) (I := ((whM I m z a b c).2)) hX (by omega)) ⟨by omega, by show 2 + 19 + 40 * _ ≤ 40 * _; omega⟩ ⟨Nat.zero_le _, Nat.zero_le _⟩ rfl (Nat.le_of_ble_eq_true rfl) (fun v9 h9 e9 => ?_) (fun E9 h9 e9 => nomatch e9)
      cases e9
      show Ev _ _ _ _ _ _ 30 [some (.ref 396), some (.int a), some (.int b), some (.int c), some (.int ((whM I m z a b c).1))] [.int 0] (N, SH v T, up2 ((whM I m z a b c).2) 396 12 ((whM I m z a b c).1), L, Dd)
      refine Ev.sg hX (sX7_shuntingTime_30.sub 0 1) (pc' := 44) (ls' := [some (.ref 396), some (.int a), some (.int b), some (.int c), some (.int ((whM I m z a b c).1))]) (st' := [.int 0]) (h' := (N, SH v T, up2 ((whM I m z a b c).2) 396 12 ((whM I m z a b c).1), L, Dd)) rfl ?_
      refine Ev.iret dX7_shuntingTime_44 rfl ?_
      rw [stiM, if_pos (Int32.not_le.mp b1), if_pos (Int32.not_le.mp b2)]
theorem m_isBetter (hX : JXok X) (hd : 5 ≤ d) (hm20 : m ≤ 20) (hm : I 397 1 = nI m) (hz8 : z ≤ 8) (hz : I 397 0 = nI z) (hx : x < 8) (hy1 : y1 < 8) (hy2 : y2 < 8) (hpl : ∃ c0, c0 ≤ 20 ∧ 1 ≤ c0 ∧ I 397 (31 + x) = nI c0 ∧ ∀ p, p < c0 → ∃ s, s < m ∧ slAM I m (nI x) (nI p) = nI s) : MT X d 0 0 jdX7_isBetter [.ref 396, .int (nI x), .int (nI y1), .int (nI y2)] (N, SH v T, I, L, Dd) (fun R => R = .inl (some (.int (bi (beM I m z x y1 y2))), (N, SH v T, exM (exM I z y2) z y1, L, Dd))) := by
  refine MT.mk dvX7_isBetter.1 ?_
  obtain ⟨c0, hc0, hq, hg, hp⟩ := hpl
  refine Ev.sg hX (sX7_isBetter_0.sub 0 4) (pc' := 4) (ls' := [some (.ref 396), some (.int (nI x)), some (.int (nI y1)), some (.int (nI y2)), none]) (st' := [.int 1, .int (nI y2), .int (nI x), .ref 396]) (h' := (N, SH v T, I, L, Dd)) rfl ?_
  refine Ev.callV (As := [.int (nI x), .int (nI y2), .int (nI 1)]) (rest := []) dvX7_minutesFor mkX7_124 rfl rfl dX7_isBetter_4 (m_minutesFor (d := d - 1) (I := I) (x := x) (y := y2) (q := 1) hX (by omega) hm20 hm hz8 hz (by omega) (by omega) ⟨c0, hc0, hq, hg, hp⟩) ⟨by omega, by show 6 + 19 + 40 * _ ≤ 40 * _; omega⟩ ⟨Nat.zero_le _, Nat.zero_le _⟩ rfl (Nat.le_of_ble_eq_true rfl) (fun v9 h9 e9 => ?_) (fun E9 h9 e9 => nomatch e9)
  cases e9
  show Ev _ _ _ _ _ _ 7 [some (.ref 396), some (.int (nI x)), some (.int (nI y1)), some (.int (nI y2)), none] [.int (miM I m z x y2 1)] (N, SH v T, exM I z y2, L, Dd)
  refine Ev.sg hX (sX7_isBetter_7.sub 0 4) (pc' := 11) (ls' := [some (.ref 396), some (.int (nI x)), some (.int (nI y1)), some (.int (nI y2)), none]) (st' := [.int 1, .int (nI y1), .int (nI x), .ref 396, .int (miM I m z x y2 1)]) (h' := (N, SH v T, exM I z y2, L, Dd)) rfl ?_
  refine Ev.callV (As := [.int (nI x), .int (nI y1), .int (nI 1)]) (rest := [.int (miM I m z x y2 1)]) dvX7_minutesFor mkX7_124 rfl rfl dX7_isBetter_11 (m_minutesFor (d := d - 1) (I := (exM I z y2)) (x := x) (y := y1) (q := 1) hX (by omega) hm20 ((congrFun ((exM_ne (by decide)).trans rfl) 1).trans hm) hz8 ((congrFun ((exM_ne (by decide)).trans rfl) 0).trans hz) (by omega) (by omega) ⟨c0, hc0, hq, (congrFun (exM_ne (by decide)) (31 + x)).trans hg, fun p hp9 => by obtain ⟨s, h1, h2⟩ := hp p hp9; exact ⟨s, h1, by rw [slAM_congr (exM_ne (by decide))]; exact h2⟩⟩) ⟨by omega, by show 6 + 19 + 40 * _ ≤ 40 * _; omega⟩ ⟨Nat.zero_le _, Nat.zero_le _⟩ rfl (Nat.le_of_ble_eq_true rfl) (fun v9 h9 e9 => ?_) (fun E9 h9 e9 => nomatch e9)
  cases e9
  show Ev _ _ _ _ _ _ 14 [some (.ref 396), some (.int (nI x)), some (.int (nI y1)), some (.int (nI y2)), none] [.int (miM (exM I z y2) m z x y1 1), .int (miM I m z x y2 1)] (N, SH v T, exM (exM I z y2) z y1, L, Dd)
  refine Ev.sg hX (sX7_isBetter_14.sub 0 3) (pc' := 19) (ls' := [some (.ref 396), some (.int (nI x)), some (.int (nI y1)), some (.int (nI y2)), some (.int ((miM I m z x y2 1) - (miM (exM I z y2) m z x y1 1)))]) (st' := [.int ((miM I m z x y2 1) - (miM (exM I z y2) m z x y1 1))]) (h' := (N, SH v T, exM (exM I z y2) z y1, L, Dd)) rfl ?_
  refine Ev.if_gt (tgt := 40) dX7_isBetter_19 (by decide) (fun b1 => ?_) (fun b1 => ?_)
  · refine Ev.sg hX (sX7_isBetter_40.sub 0 2) (pc' := 45) (ls' := [some (.ref 396), some (.int (nI x)), some (.int (nI y1)), some (.int (nI y2)), some (.int ((miM I m z x y2 1) - (miM (exM I z y2) m z x y1 1)))]) (st' := [.int 1]) (h' := (N, SH v T, exM (exM I z y2) z y1, L, Dd)) rfl ?_
    refine Ev.zret dX7_isBetter_45 rfl ?_ ?_
    · rfl
    exact congrArg (fun w => Sum.inl (some (Value.int w), (N, SH v T, exM (exM I z y2) z y1, L, Dd))) (if_pos (Or.inl b1)).symm
  · refine Ev.sg hX (sX7_isBetter_22.sub 0 1) (pc' := 24) (ls' := [some (.ref 396), some (.int (nI x)), some (.int (nI y1)), some (.int (nI y2)), some (.int ((miM I m z x y2 1) - (miM (exM I z y2) m z x y1 1)))]) (st' := [.int ((miM I m z x y2 1) - (miM (exM I z y2) m z x y1 1))]) (h' := (N, SH v T, exM (exM I z y2) z y1, L, Dd)) rfl ?_
    refine Ev.if_ne (tgt := 44) dX7_isBetter_24 (by decide) (fun b2 => ?_) (fun b2 => ?_)
    · refine Ev.sg hX (sX7_isBetter_44.sub 0 1) (pc' := 45) (ls' := [some (.ref 396), some (.int (nI x)), some (.int (nI y1)), some (.int (nI y2)), some (.int ((miM I m z x y2 1) - (miM (exM I z y2) m z x y1 1)))]) (st' := [.int 0]) (h' := (N, SH v T, exM (exM I z y2) z y1, L, Dd)) rfl ?_
      refine Ev.zret dX7_isBetter_45 rfl ?_ ?_
      · rfl
      exact congrArg (fun w => Sum.inl (some (Value.int w), (N, SH v T, exM (exM I z y2) z y1, L, Dd))) (if_neg (fun w => w.elim b1 (fun w2 => b2 w2.1))).symm
    · refine Ev.sg hX (sX7_isBetter_27.sub 0 2) (pc' := 29) (ls' := [some (.ref 396), some (.int (nI x)), some (.int (nI y1)), some (.int (nI y2)), some (.int ((miM I m z x y2 1) - (miM (exM I z y2) m z x y1 1)))]) (st' := [.int (nI y1), .ref 396]) (h' := (N, SH v T, exM (exM I z y2) z y1, L, Dd)) rfl ?_
      refine Ev.callV (As := [.int (nI y1)]) (rest := []) dvX7_room mkX7_107 rfl rfl dX7_isBetter_29 (m_room (d := d - 1) (I := (exM (exM I z y2) z y1)) (t := y1) hX (by omega) hm20 ((congrFun ((exM_ne (by decide)).trans ((exM_ne (by decide)).trans rfl)) 1).trans hm) (by omega)) ⟨by omega, by show 2 + 19 + 40 * _ ≤ 40 * _; omega⟩ ⟨Nat.zero_le _, Nat.zero_le _⟩ rfl (Nat.le_of_ble_eq_true rfl) (fun v9 h9 e9 => ?_) (fun E9 h9 e9 => nomatch e9)
      cases e9
      show Ev _ _ _ _ _ _ 32 [some (.ref 396), some (.int (nI x)), some (.int (nI y1)), some (.int (nI y2)), some (.int ((miM I m z x y2 1) - (miM (exM I z y2) m z x y1 1)))] [.int (roM (exM (exM I z y2) z y1) m y1)] (N, SH v T, exM (exM I z y2) z y1, L, Dd)
      refine Ev.sg hX (sX7_isBetter_32.sub 0 2) (pc' := 34) (ls' := [some (.ref 396), some (.int (nI x)), some (.int (nI y1)), some (.int (nI y2)), some (.int ((miM I m z x y2 1) - (miM (exM I z y2) m z x y1 1)))]) (st' := [.int (nI y2), .ref 396, .int (roM (exM (exM I z y2) z y1) m y1)]) (h' := (N, SH v T, exM (exM I z y2) z y1, L, Dd)) rfl ?_
      refine Ev.callV (As := [.int (nI y2)]) (rest := [.int (roM (exM (exM I z y2) z y1) m y1)]) dvX7_room mkX7_107 rfl rfl dX7_isBetter_34 (m_room (d := d - 1) (I := (exM (exM I z y2) z y1)) (t := y2) hX (by omega) hm20 ((congrFun ((exM_ne (by decide)).trans ((exM_ne (by decide)).trans rfl)) 1).trans hm) (by omega)) ⟨by omega, by show 2 + 19 + 40 * _ ≤ 40 * _; omega⟩ ⟨Nat.zero_le _, Nat.zero_le _⟩ rfl (Nat.le_of_ble_eq_true rfl) (fun v9 h9 e9 => ?_) (fun E9 h9 e9 => nomatch e9)
      cases e9
      show Ev _ _ _ _ _ _ 37 [some (.ref 396), some (.int (nI x)), some (.int (nI y1)), some (.int (nI y2)), some (.int ((miM I m z x y2 1) - (miM (exM I z y2) m z x y1 1)))] [.int (roM (exM (exM I z y2) z y1) m y2), .int (roM (exM (exM I z y2) z y1) m y1)] (N, SH v T, exM (exM I z y2) z y1, L, Dd)
      refine Ev.icmp_le (tgt := 44) dX7_isBetter_37 (by decide) (fun b3 => ?_) (fun b3 => ?_)
      · refine Ev.sg hX (sX7_isBetter_44.sub 0 1) (pc' := 45) (ls' := [some (.ref 396), some (.int (nI x)), some (.int (nI y1)), some (.int (nI y2)), some (.int ((miM I m z x y2 1) - (miM (exM I z y2) m z x y1 1)))]) (st' := [.int 0]) (h' := (N, SH v T, exM (exM I z y2) z y1, L, Dd)) rfl ?_
        refine Ev.zret dX7_isBetter_45 rfl ?_ ?_
        · rfl
        exact congrArg (fun w => Sum.inl (some (Value.int w), (N, SH v T, exM (exM I z y2) z y1, L, Dd))) (if_neg (fun w => w.elim b1 (fun w2 => absurd w2.2 (Int32.not_lt.mpr b3)))).symm
      · refine Ev.sg hX (sX7_isBetter_40.sub 0 2) (pc' := 45) (ls' := [some (.ref 396), some (.int (nI x)), some (.int (nI y1)), some (.int (nI y2)), some (.int ((miM I m z x y2 1) - (miM (exM I z y2) m z x y1 1)))]) (st' := [.int 1]) (h' := (N, SH v T, exM (exM I z y2) z y1, L, Dd)) rfl ?_
        refine Ev.zret dX7_isBetter_45 rfl ?_ ?_
        · rfl
        exact congrArg (fun w => Sum.inl (some (Value.int w), (N, SH v T, exM (exM I z y2) z y1, L, Dd))) (if_pos (Or.inr ⟨b2, Int32.not_le.mp b3⟩)).symm
theorem l_nf {Q : JR → Prop} (hX : JXok X) (hd : 6 ≤ d) (hm20 : m ≤ 20) (hm : I 397 1 = nI m) (hz8 : z ≤ 8) (hz : I 397 0 = nI z) (hx : x < 8) (hPL : PLM I m) : ∀ (n k : Nat) (b : Int32) (J : HI), k + n = z → (b = -1 ∨ ∃ b9, b9 < z ∧ b = nI b9) → J 397 = I 397 → Ev X (jm jdX7_nearestFreeTrack) d 0 0 Q 65 [some (.ref 396), some (.int (nI x)), some (.int ((fo (nfS m z x) n k (b, J)).1)), some (.int (nI z))] [] (N, SH v T, (fo (nfS m z x) n k (b, J)).2, L, Dd) → Ev X (jm jdX7_nearestFreeTrack) d 0 0 Q 18 [some (.ref 396), some (.int (nI x)), some (.int b), some (.int (nI k))] [] (N, SH v T, J, L, Dd) := by
  intro n
  induction n with
  | zero =>
    intro k b J hk hb hJ hQ
    refine Ev.sg hX (sX7_nearestFreeTrack_18.sub 0 2) (pc' := 20) (ls' := [some (.ref 396), some (.int (nI x)), some (.int b), some (.int (nI k))]) (st' := [.ref 396, .int (nI k)]) (h' := (N, SH v T, J, L, Dd)) rfl ?_
    refine Ev.getf (sX7_nearestFreeTrack_18.lk 2 (q := (20, .getfield 7, 7, 0)) rfl) rfl rfl (sX7_nearestFreeTrack_18.dc 2 (q := (20, .getfield 7, 7, 0)) rfl) ?_
    show Ev _ _ _ _ _ _ 23 [some (.ref 396), some (.int (nI x)), some (.int b), some (.int (nI k))] [.ref 397, .int (nI k)] (N, SH v T, J, L, Dd)
    refine Ev.sg hX (sX7_nearestFreeTrack_18.sub 3 1) (pc' := 24) (ls' := [some (.ref 396), some (.int (nI x)), some (.int b), some (.int (nI k))]) (st' := [.int 0, .ref 397, .int (nI k)]) (h' := (N, SH v T, J, L, Dd)) rfl ?_
    refine Ev.ialdE (n := 0) (N := 179) rfl rfl (by omega) (by decide) (sX7_nearestFreeTrack_18.dc 4 (q := (24, .iaload, 0, 0)) rfl) ?_
    show Ev _ _ _ _ _ _ 25 [some (.ref 396), some (.int (nI x)), some (.int b), some (.int (nI k))] [.int (J 397 0), .int (nI k)] (N, SH v T, J, L, Dd)
    refine Ev.eqst (st' := [.int (nI z), .int (nI k)]) (by rw [show J 397 0 = nI z from ((congrFun hJ 0).trans hz)]) ?_
    refine Ev.icmp_ge (tgt := 65) dX7_nearestFreeTrack_25 (by decide) (fun b1 => ?_) (fun b1 => ?_)
    · rw [show k = z by omega]
      exact hQ
    · exact absurd ((nI_leI (a := z) (b := k) (by omega) (by omega)).mpr (by omega)) b1
  | succ n ih =>
    intro k b J hk hb hJ hQ
    refine Ev.sg hX (sX7_nearestFreeTrack_18.sub 0 2) (pc' := 20) (ls' := [some (.ref 396), some (.int (nI x)), some (.int b), some (.int (nI k))]) (st' := [.ref 396, .int (nI k)]) (h' := (N, SH v T, J, L, Dd)) rfl ?_
    refine Ev.getf (sX7_nearestFreeTrack_18.lk 2 (q := (20, .getfield 7, 7, 0)) rfl) rfl rfl (sX7_nearestFreeTrack_18.dc 2 (q := (20, .getfield 7, 7, 0)) rfl) ?_
    show Ev _ _ _ _ _ _ 23 [some (.ref 396), some (.int (nI x)), some (.int b), some (.int (nI k))] [.ref 397, .int (nI k)] (N, SH v T, J, L, Dd)
    refine Ev.sg hX (sX7_nearestFreeTrack_18.sub 3 1) (pc' := 24) (ls' := [some (.ref 396), some (.int (nI x)), some (.int b), some (.int (nI k))]) (st' := [.int 0, .ref 397, .int (nI k)]) (h' := (N, SH v T, J, L, Dd)) rfl ?_
    refine Ev.ialdE (n := 0) (N := 179) rfl rfl (by omega) (by decide) (sX7_nearestFreeTrack_18.dc 4 (q := (24, .iaload, 0, 0)) rfl) ?_
    show Ev _ _ _ _ _ _ 25 [some (.ref 396), some (.int (nI x)), some (.int b), some (.int (nI k))] [.int (J 397 0), .int (nI k)] (N, SH v T, J, L, Dd)
    refine Ev.eqst (st' := [.int (nI z), .int (nI k)]) (by rw [show J 397 0 = nI z from ((congrFun hJ 0).trans hz)]) ?_
    refine Ev.icmp_ge (tgt := 65) dX7_nearestFreeTrack_25 (by decide) (fun b1 => ?_) (fun b1 => ?_)
    · exact absurd ((nI_leI (a := z) (b := k) (by omega) (by omega)).mp b1) (by omega)
    · have hmJ : J 397 1 = nI m := (congrFun hJ 1).trans hm
      have hzJ : J 397 0 = nI z := (congrFun hJ 0).trans hz
      have hPJ : PLM J m := PLM_congr hJ hPL
      have hW : (whM J m z (nI x) (nI k) 1).2 397 = J 397 := whM_ne (by decide)
      refine Ev.sg hX (sX7_nearestFreeTrack_28.sub 0 4) (pc' := 32) (ls' := [some (.ref 396), some (.int (nI x)), some (.int b), some (.int (nI k))]) (st' := [.int 1, .int (nI k), .int (nI x), .ref 396]) (h' := (N, SH v T, J, L, Dd)) rfl ?_
      refine Ev.callV (As := [.int (nI x), .int (nI k), .int 1]) (rest := []) dvX7_whyNot mkX7_120 rfl rfl dX7_nearestFreeTrack_32 (m_whyNot (d := d - 1) (I := J) hX (by omega) hm20 hmJ hz8 hzJ hPJ) ⟨by omega, by show 6 + 19 + 40 * _ ≤ 40 * _; omega⟩ ⟨Nat.zero_le _, Nat.zero_le _⟩ rfl (Nat.le_of_ble_eq_true rfl) (fun v9 h9 e9 => ?_) (fun E9 h9 e9 => nomatch e9)
      cases e9
      show Ev _ _ _ _ _ _ 35 [some (.ref 396), some (.int (nI x)), some (.int b), some (.int (nI k))] [.int ((whM J m z (nI x) (nI k) 1).1)] (N, SH v T, (whM J m z (nI x) (nI k) 1).2, L, Dd)
      refine Ev.if_ne (tgt := 59) dX7_nearestFreeTrack_35 (by decide) (fun b2 => ?_) (fun b2 => ?_)
      · refine Ev.sg hX (sX7_nearestFreeTrack_59.sub 0 2) (pc' := 18) (ls' := [some (.ref 396), some (.int (nI x)), some (.int b), some (.int ((nI k) + 1))]) (st' := []) (h' := (N, SH v T, (whM J m z (nI x) (nI k) 1).2, L, Dd)) rfl ?_
        have e1 : nfS m z x k (b, J) = (b, (whM J m z (nI x) (nI k) 1).2) := if_pos b2
        rw [nI_1]
        refine ih (k + 1) b (whM J m z (nI x) (nI k) 1).2 (by omega) hb (hW.trans hJ) ?_
        rw [← e1]
        exact hQ
      · refine Ev.sg hX (sX7_nearestFreeTrack_38.sub 0 2) (pc' := 40) (ls' := [some (.ref 396), some (.int (nI x)), some (.int b), some (.int (nI k))]) (st' := [.int (-1), .int b]) (h' := (N, SH v T, (whM J m z (nI x) (nI k) 1).2, L, Dd)) rfl ?_
        refine Ev.icmp_eq (tgt := 53) dX7_nearestFreeTrack_40 (by decide) (fun b3 => ?_) (fun b3 => ?_)
        · refine Ev.sg hX (sX7_nearestFreeTrack_53.sub 0 2) (pc' := 58) (ls' := [some (.ref 396), some (.int (nI x)), some (.int b), some (.int (nI k))]) (st' := [.int (nI k)]) (h' := (N, SH v T, (whM J m z (nI x) (nI k) 1).2, L, Dd)) rfl ?_
          refine Ev.sg hX (sX7_nearestFreeTrack_58.sub 0 1) (pc' := 59) (ls' := [some (.ref 396), some (.int (nI x)), some (.int (nI k)), some (.int (nI k))]) (st' := []) (h' := (N, SH v T, (whM J m z (nI x) (nI k) 1).2, L, Dd)) rfl ?_
          refine Ev.sg hX (sX7_nearestFreeTrack_59.sub 0 2) (pc' := 18) (ls' := [some (.ref 396), some (.int (nI x)), some (.int (nI k)), some (.int ((nI k) + 1))]) (st' := []) (h' := (N, SH v T, (whM J m z (nI x) (nI k) 1).2, L, Dd)) rfl ?_
          have e1 : nfS m z x k (b, J) = (nI k, (whM J m z (nI x) (nI k) 1).2) := (if_neg (fun w => w b2)).trans (if_pos (show b = -1 from b3))
          rw [nI_1]
          refine ih (k + 1) (nI k) (whM J m z (nI x) (nI k) 1).2 (by omega) (Or.inr ⟨k, by omega, rfl⟩) (hW.trans hJ) ?_
          rw [← e1]
          exact hQ
        · obtain ⟨b9, hb9, rfl⟩ := hb.resolve_left b3
          obtain ⟨x9, y9, q9, c0, ex, ey, eq9, h1, h2, h3, h4, hq, hc0, hg, hp, -⟩ := whM_ok hz8 hzJ hPJ (show ¬ 0 < (whM J m z (nI x) (nI k) 1).1 by rw [show (whM J m z (nI x) (nI k) 1).1 = 0 from b2]; decide)
          obtain rfl : x = x9 := (nI_eq (by omega) (by omega)).mp ex
          replace hq : 1 ≤ c0 := by have := (nI_eq (a := 1) (b := q9) (by decide) (by omega)).mp eq9; omega
          refine Ev.sg hX (sX7_nearestFreeTrack_43.sub 0 4) (pc' := 47) (ls' := [some (.ref 396), some (.int (nI x)), some (.int (nI b9)), some (.int (nI k))]) (st' := [.int (nI b9), .int (nI k), .int (nI x), .ref 396]) (h' := (N, SH v T, (whM J m z (nI x) (nI k) 1).2, L, Dd)) rfl ?_
          refine Ev.callV (As := [.int (nI x), .int (nI k), .int (nI b9)]) (rest := []) dvX7_isBetter mkX7_163 rfl rfl dX7_nearestFreeTrack_47 (m_isBetter (d := d - 1) (I := (whM J m z (nI x) (nI k) 1).2) (x := x) (y1 := k) (y2 := b9) hX (by omega) hm20 ((congrFun hW 1).trans hmJ) hz8 ((congrFun hW 0).trans hzJ) (by omega) (by omega) (by omega) ⟨c0, hc0, hq, (congrFun hW (31 + x)).trans hg, fun p hp9 => by obtain ⟨s, h1, h2⟩ := hp p hp9; exact ⟨s, h1, by rw [slAM_congr hW]; exact h2⟩⟩) ⟨by omega, by show 5 + 19 + 40 * _ ≤ 40 * _; omega⟩ ⟨Nat.zero_le _, Nat.zero_le _⟩ rfl (Nat.le_of_ble_eq_true rfl) (fun v9 h9 e9 => ?_) (fun E9 h9 e9 => nomatch e9)
          cases e9
          show Ev _ _ _ _ _ _ 50 [some (.ref 396), some (.int (nI x)), some (.int (nI b9)), some (.int (nI k))] [.int (bi (beM (whM J m z (nI x) (nI k) 1).2 m z x k b9))] (N, SH v T, exM (exM (whM J m z (nI x) (nI k) 1).2 z b9) z k, L, Dd)
          refine Ev.if_eq (tgt := 57) dX7_nearestFreeTrack_50 (by decide) (fun b4 => ?_) (fun b4 => ?_)
          · refine Ev.sg hX (sX7_nearestFreeTrack_57.sub 0 1) (pc' := 58) (ls' := [some (.ref 396), some (.int (nI x)), some (.int (nI b9)), some (.int (nI k))]) (st' := [.int (nI b9)]) (h' := (N, SH v T, exM (exM (whM J m z (nI x) (nI k) 1).2 z b9) z k, L, Dd)) rfl ?_
            refine Ev.sg hX (sX7_nearestFreeTrack_58.sub 0 1) (pc' := 59) (ls' := [some (.ref 396), some (.int (nI x)), some (.int (nI b9)), some (.int (nI k))]) (st' := []) (h' := (N, SH v T, exM (exM (whM J m z (nI x) (nI k) 1).2 z b9) z k, L, Dd)) rfl ?_
            refine Ev.sg hX (sX7_nearestFreeTrack_59.sub 0 2) (pc' := 18) (ls' := [some (.ref 396), some (.int (nI x)), some (.int (nI b9)), some (.int ((nI k) + 1))]) (st' := []) (h' := (N, SH v T, exM (exM (whM J m z (nI x) (nI k) 1).2 z b9) z k, L, Dd)) rfl ?_
            have e1 : nfS m z x k (nI b9, J) = (nI b9, exM (exM (whM J m z (nI x) (nI k) 1).2 z b9) z k) := (if_neg (fun w => w b2)).trans ((if_neg (nI_mi (by omega))).trans (by dsimp only; rw [show (nI b9).toNatClampNeg = b9 from nI_clamp (by omega), if_neg (bi_0.mp b4)]))
            rw [nI_1]
            refine ih (k + 1) (nI b9) (exM (exM (whM J m z (nI x) (nI k) 1).2 z b9) z k) (by omega) (Or.inr ⟨b9, by omega, rfl⟩) ((exM_ne (by decide)).trans ((exM_ne (by decide)).trans (hW.trans hJ))) ?_
            rw [← e1]
            exact hQ
          · refine Ev.sg hX (sX7_nearestFreeTrack_53.sub 0 2) (pc' := 58) (ls' := [some (.ref 396), some (.int (nI x)), some (.int (nI b9)), some (.int (nI k))]) (st' := [.int (nI k)]) (h' := (N, SH v T, exM (exM (whM J m z (nI x) (nI k) 1).2 z b9) z k, L, Dd)) rfl ?_
            refine Ev.sg hX (sX7_nearestFreeTrack_58.sub 0 1) (pc' := 59) (ls' := [some (.ref 396), some (.int (nI x)), some (.int (nI k)), some (.int (nI k))]) (st' := []) (h' := (N, SH v T, exM (exM (whM J m z (nI x) (nI k) 1).2 z b9) z k, L, Dd)) rfl ?_
            refine Ev.sg hX (sX7_nearestFreeTrack_59.sub 0 2) (pc' := 18) (ls' := [some (.ref 396), some (.int (nI x)), some (.int (nI k)), some (.int ((nI k) + 1))]) (st' := []) (h' := (N, SH v T, exM (exM (whM J m z (nI x) (nI k) 1).2 z b9) z k, L, Dd)) rfl ?_
            have e1 : nfS m z x k (nI b9, J) = (nI k, exM (exM (whM J m z (nI x) (nI k) 1).2 z b9) z k) := (if_neg (fun w => w b2)).trans ((if_neg (nI_mi (by omega))).trans (by dsimp only; rw [show (nI b9).toNatClampNeg = b9 from nI_clamp (by omega), if_pos (bi_1.mp b4)]))
            rw [nI_1]
            refine ih (k + 1) (nI k) (exM (exM (whM J m z (nI x) (nI k) 1).2 z b9) z k) (by omega) (Or.inr ⟨k, by omega, rfl⟩) ((exM_ne (by decide)).trans ((exM_ne (by decide)).trans (hW.trans hJ))) ?_
            rw [← e1]
            exact hQ
theorem m_nearestFreeTrack (hX : JXok X) (hd : 6 ≤ d) (hm20 : m ≤ 20) (hm : I 397 1 = nI m) (hz8 : z ≤ 8) (hz : I 397 0 = nI z) (hPL : PLM I m) : MT X d 0 0 jdX7_nearestFreeTrack [.ref 396, .int t] (N, SH v T, I, L, Dd) (fun R => R = .inl (some (.int (nfM I m z t).1), (N, SH v T, (nfM I m z t).2, L, Dd))) := by
  refine MT.mk dvX7_nearestFreeTrack.1 ?_
  refine Ev.sg hX (sX7_nearestFreeTrack_0.sub 0 2) (pc' := 2) (ls' := [some (.ref 396), some (.int t), none, none]) (st' := [.int t, .ref 396]) (h' := (N, SH v T, I, L, Dd)) rfl ?_
  refine Ev.callV (As := [.int t]) (rest := []) dvX7_isTrack mkX7_56 rfl rfl dX7_nearestFreeTrack_2 (m_isTrack (d := d - 1) (I := I) hX (by omega)) ⟨by omega, by show 2 + 19 + 40 * _ ≤ 40 * _; omega⟩ ⟨Nat.zero_le _, Nat.zero_le _⟩ rfl (Nat.le_of_ble_eq_true rfl) (fun v9 h9 e9 => ?_) (fun E9 h9 e9 => nomatch e9)
  cases e9
  show Ev _ _ _ _ _ _ 5 [some (.ref 396), some (.int t), none, none] [.int (bi (tkM I t))] (N, SH v T, I, L, Dd)
  refine Ev.if_ne (tgt := 14) dX7_nearestFreeTrack_5 (by decide) (fun b1 => ?_) (fun b1 => ?_)
  · have htt := bi_1.mp b1
    obtain ⟨x, hx, rfl⟩ := tkM_nI hz8 hz htt
    have hcx : (nI x).toNatClampNeg = x := nI_clamp (by omega)
    refine Ev.sg hX (sX7_nearestFreeTrack_14.sub 0 4) (pc' := 18) (ls' := [some (.ref 396), some (.int (nI x)), some (.int (-1)), some (.int 0)]) (st' := []) (h' := (N, SH v T, I, L, Dd)) rfl ?_
    refine l_nf hX (by omega) hm20 hm hz8 hz (by omega) hPL z 0 (-1) I (Nat.zero_add z) (Or.inl rfl) rfl ?_
    refine Ev.sg hX (sX7_nearestFreeTrack_65.sub 0 2) (pc' := 67) (ls' := [some (.ref 396), some (.int (nI x)), some (.int ((fo (nfS m z x) z 0 (-1, I)).1)), some (.int (nI z))]) (st' := [.int (-1), .int ((fo (nfS m z x) z 0 (-1, I)).1)]) (h' := (N, SH v T, (fo (nfS m z x) z 0 (-1, I)).2, L, Dd)) rfl ?_
    refine Ev.icmp_ne (tgt := 78) dX7_nearestFreeTrack_67 (by decide) (fun b2 => ?_) (fun b2 => ?_)
    · refine Ev.sg hX (sX7_nearestFreeTrack_78.sub 0 2) (pc' := 80) (ls' := [some (.ref 396), some (.int (nI x)), some (.int ((fo (nfS m z x) z 0 (-1, I)).1)), some (.int (nI z))]) (st' := [.int ((fo (nfS m z x) z 0 (-1, I)).1), .ref 396]) (h' := (N, SH v T, (fo (nfS m z x) z 0 (-1, I)).2, L, Dd)) rfl ?_
      refine Ev.callV (As := [.int ((fo (nfS m z x) z 0 (-1, I)).1)]) (rest := []) dvX7_done mkX7_79 rfl rfl dX7_nearestFreeTrack_80 (m_done (d := d - 1) (I := ((fo (nfS m z x) z 0 (-1, I)).2)) hX (by omega)) ⟨by omega, by show 2 + 19 + 40 * _ ≤ 40 * _; omega⟩ ⟨Nat.zero_le _, Nat.zero_le _⟩ rfl (Nat.le_of_ble_eq_true rfl) (fun v9 h9 e9 => ?_) (fun E9 h9 e9 => nomatch e9)
      cases e9
      show Ev _ _ _ _ _ _ 83 [some (.ref 396), some (.int (nI x)), some (.int ((fo (nfS m z x) z 0 (-1, I)).1)), some (.int (nI z))] [.int ((fo (nfS m z x) z 0 (-1, I)).1)] (N, SH v T, up2 ((fo (nfS m z x) z 0 (-1, I)).2) 396 12 0, L, Dd)
      refine Ev.iret dX7_nearestFreeTrack_83 rfl ?_
      rw [nfM, if_neg (fun w => w htt), hcx, if_neg b2]
    · refine Ev.sg hX (sX7_nearestFreeTrack_70.sub 0 2) (pc' := 72) (ls' := [some (.ref 396), some (.int (nI x)), some (.int ((fo (nfS m z x) z 0 (-1, I)).1)), some (.int (nI z))]) (st' := [.int 2, .ref 396]) (h' := (N, SH v T, (fo (nfS m z x) z 0 (-1, I)).2, L, Dd)) rfl ?_
      refine Ev.callV (As := [.int 2]) (rest := []) dvX7_fails mkX7_75 rfl rfl dX7_nearestFreeTrack_72 (m_fails (d := d - 1) (I := ((fo (nfS m z x) z 0 (-1, I)).2)) hX (by omega)) ⟨by omega, by show 2 + 19 + 40 * _ ≤ 40 * _; omega⟩ ⟨Nat.zero_le _, Nat.zero_le _⟩ rfl (Nat.le_of_ble_eq_true rfl) (fun v9 h9 e9 => ?_) (fun E9 h9 e9 => nomatch e9)
      cases e9
      show Ev _ _ _ _ _ _ 75 [some (.ref 396), some (.int (nI x)), some (.int ((fo (nfS m z x) z 0 (-1, I)).1)), some (.int (nI z))] [.int 0] (N, SH v T, up2 ((fo (nfS m z x) z 0 (-1, I)).2) 396 12 2, L, Dd)
      refine Ev.sg hX (sX7_nearestFreeTrack_75.sub 0 1) (pc' := 83) (ls' := [some (.ref 396), some (.int (nI x)), some (.int ((fo (nfS m z x) z 0 (-1, I)).1)), some (.int (nI z))]) (st' := [.int 0]) (h' := (N, SH v T, up2 ((fo (nfS m z x) z 0 (-1, I)).2) 396 12 2, L, Dd)) rfl ?_
      refine Ev.iret dX7_nearestFreeTrack_83 rfl ?_
      rw [nfM, if_neg (fun w => w htt), hcx, if_pos b2]
  · refine Ev.sg hX (sX7_nearestFreeTrack_8.sub 0 2) (pc' := 10) (ls' := [some (.ref 396), some (.int t), none, none]) (st' := [.int 1, .ref 396]) (h' := (N, SH v T, I, L, Dd)) rfl ?_
    refine Ev.callV (As := [.int 1]) (rest := []) dvX7_fails mkX7_75 rfl rfl dX7_nearestFreeTrack_10 (m_fails (d := d - 1) (I := I) hX (by omega)) ⟨by omega, by show 2 + 19 + 40 * _ ≤ 40 * _; omega⟩ ⟨Nat.zero_le _, Nat.zero_le _⟩ rfl (Nat.le_of_ble_eq_true rfl) (fun v9 h9 e9 => ?_) (fun E9 h9 e9 => nomatch e9)
    cases e9
    show Ev _ _ _ _ _ _ 13 [some (.ref 396), some (.int t), none, none] [.int 0] (N, SH v T, up2 I 396 12 1, L, Dd)
    refine Ev.iret dX7_nearestFreeTrack_13 rfl ?_
    rw [nfM, if_pos (bi_0.mp b1)]
end MODA
