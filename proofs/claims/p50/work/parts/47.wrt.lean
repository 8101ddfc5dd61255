/-! the text line of a track -/
def carT (num de : Nat) (b : Int32) : List Int32 := [32] ++ dgL num ++ [58] ++ dgL de ++ (if b = 1 then [33] else [])
def carI (I : HI) (s : Nat) : List Int32 := carT (I 17 s).toNatClampNeg (I 19 s).toNatClampNeg (I 21 s)
def carsT (I : HI) (t : Nat) : Nat → Nat → List Int32
  | 0, _ => []
  | n + 1, p => carI I (slotAt I (nI t) (nI p)).toNatClampNeg ++ carsT I t n (p + 1)
def trkT (I : HI) (t : Nat) : List Int32 := dgL t ++ [47] ++ dgL (I 5 t).toNatClampNeg ++ [91] ++ dgL (I 33 t).toNatClampNeg ++ [47] ++ dgL (I 3 t).toNatClampNeg ++ [93] ++ carsT I t (I 31 t).toNatClampNeg 0
def BC (nf C0 M0 cap mc ms N : Nat) : Prop := gc cap nf ≤ mc ∧ gs cap nf ≤ ms ∧ N + gc cap nf = M0 ∧ M0 + 1 < BIG ∧ gr cap nf = C0 ∧ nf ≤ 2 * cap + 2 ∧ (nf ≤ cap ∨ 2 * cap + 2 ≤ 700)
theorem BC.st {nf C0 M0 cap mc ms N q : Nat} (h : BC nf C0 M0 cap mc ms N) (hq : q ≤ nf) : gc cap q ≤ mc ∧ gs cap q ≤ ms ∧ N + 1 < BIG ∧ q ≤ 2 * cap + 2 ∧ (q ≤ cap ∨ 2 * cap + 2 ≤ 700) ∧ BC nf C0 M0 (gr cap q) (mc - gc cap q) (ms - gs cap q) (N + gc cap q) := by
  unfold BC gc gs gr at *
  by_cases h1 : nf ≤ cap
  · rw [if_pos (show q ≤ cap by omega), if_pos (show q ≤ cap by omega), if_pos (show q ≤ cap by omega)]
    rw [if_pos h1, if_pos h1, if_pos h1] at *
    omega
  · by_cases h2 : q ≤ cap
    · rw [if_pos h2, if_pos h2, if_pos h2]
      rw [if_neg h1, if_neg h1, if_neg h1] at *
      omega
    · rw [if_neg h2, if_neg h2, if_neg h2]
      rw [if_neg h1, if_neg h1, if_neg h1] at h
      rw [if_pos (show nf ≤ 2 * cap + 2 by omega), if_pos (show nf ≤ 2 * cap + 2 by omega), if_pos (show nf ≤ 2 * cap + 2 by omega)]
      omega
def BT (M0 cap mc ms N : Nat) : Prop := 2 * (700 - cap) ≤ mc ∧ 2 * (700 - cap) ≤ ms ∧ N + 2 * (700 - cap) ≤ M0 ∧ M0 + 2 < BIG ∧ 16 ≤ cap ∧ cap ≤ 700
theorem BT.st {M0 cap mc ms N q : Nat} (h : BT M0 cap mc ms N) (hq : q ≤ 340) (hq2 : q ≤ 2 * cap + 2) : gc cap q ≤ mc ∧ gs cap q ≤ ms ∧ N + 1 < BIG ∧ q ≤ 2 * cap + 2 ∧ (q ≤ cap ∨ 2 * cap + 2 ≤ 700) ∧ BT M0 (gr cap q) (mc - gc cap q) (ms - gs cap q) (N + gc cap q) := by
  unfold BT gc gs gr at *
  by_cases h2 : q ≤ cap
  · rw [if_pos h2, if_pos h2, if_pos h2]
    omega
  · rw [if_neg h2, if_neg h2, if_neg h2]
    omega
theorem slotAt_congr {I J : HI} {t p : Int32} (h1 : J 23 = I 23) (h2 : J 25 = I 25) : slotAt J t p = slotAt I t p := by unfold slotAt; rw [h1, h2]
section WRT
variable {X : JX} {d N v cap n q k s mc ms : Nat} {T : Nat → Option JS} {I : HI} {L : HL} {Dd : HD} {c i0 : Int32} {w : List Int32} {Q : JR → Prop} {P : PF}
theorem l_writeCar {num de nf C0 M0 e : Nat} (hX : JXok X) (hd : 7 ≤ d) (hs : s < 20) (h17 : I 17 s = nI num) (hnum : num < 10000) (h19 : I 19 s = nI de) (hde : de < 10000) (hL0 : Ln P w cap N v T I L Dd) (he : e = if I 21 s = 1 then 1 else 0) (hnf : nf = w.length + 1 + sb_dg num + 1 + sb_dg de + e) (hB0 : BC nf C0 M0 cap mc ms N)
    (hQ : ∀ N' v' T' I', Ln P (w ++ carT num de (I 21 s)) C0 N' v' T' I' L Dd → Fr I I' → N' = M0 → Q (.inl (none, (N', SH v' T', I', L, Dd)))) : Ev X (jm jdX6_writeCar) d mc ms Q 0 [some (.ref 0), some (.int (nI s))] [] (N, SH v T, I, L, Dd) := by
  have hd1 := dgL_len num hnum
  have hd2 := dgL_len de hde
  refine Ev.sg hX sX6_writeCar_0 (pc' := 6) (ls' := [some (.ref 0), some (.int (nI s))]) (st' := [.int 32, .ref 394]) (h' := (N, SH v T, I, L, Dd)) rfl ?_
  obtain ⟨ba1, bb1, bN1, bq1, b71, hB1⟩ := hB0.st (q := (w).length + 1) (by (try simp only [List.length_append, List.length_cons, List.length_nil, hd1, hd2]) <;> omega)
  refine Ev.callV (As := [.int 32]) (rest := []) dvJ4_append_cf468 mkX6_312 rfl rfl dX6_writeCar_6 (c_appC (d := d - 1) (w := w) hX (by omega) hL0 bq1 b71 bN1 ⟨by decide, by decide, by decide, by decide⟩) ⟨by omega, by show 2 + 19 + 40 * _ ≤ 40 * _; omega⟩ ⟨ba1, bb1⟩ rfl (Nat.le_of_ble_eq_true rfl) (fun v9 h9 e9 => ?_) (fun E9 h9 e9 => nomatch e9)
  obtain ⟨N1, v1, T1, I1, e9, hL1, hF1, hN1⟩ := e9
  cases e9
  rw [← hN1] at hB1
  have hFr1 := hF1
  generalize hc1 : gr cap ((w).length + 1) = c1 at hL1 hB1
  generalize mc - gc cap ((w).length + 1) = m1 at hB1 ⊢
  generalize ms - gs cap ((w).length + 1) = k1 at hB1 ⊢
  show Ev _ _ _ _ _ _ 9 [some (.ref 0), some (.int (nI s))] [.ref 394] (N1, SH v1 T1, I1, L, Dd)
  refine Ev.sg hX sX6_writeCar_9 (pc' := 20) (ls' := [some (.ref 0), some (.int (nI s))]) (st' := [.int (nI s), .ref 16, .ref 394]) (h' := (N1, SH v1 T1, I1, L, Dd)) rfl ?_
  refine Ev.callV (As := [.int (nI s)]) (rest := [.ref 394]) dvX4_get mkX6_127 rfl rfl dX6_writeCar_20 (c_Row_getN (d := d - 1) (h := (N1, SH v1 T1, I1, L, Dd)) (r := 16) (a := 17) (n := 20) hX rfl rfl (by decide) hs) ⟨by omega, by show 2 + 19 + 40 * _ ≤ 40 * _; omega⟩ ⟨Nat.zero_le _, Nat.zero_le _⟩ rfl (Nat.le_of_ble_eq_true rfl) (fun v9 h9 e9 => ?_) (fun E9 h9 e9 => nomatch e9)
  cases e9
  show Ev _ _ _ _ _ _ 23 [some (.ref 0), some (.int (nI s))] [.int (I1 17 s), .ref 394] (N1, SH v1 T1, I1, L, Dd)
  rw [hFr1 17 (Or.inl (by decide))]
  rw [h17]
  show Ev _ _ _ _ _ _ 23 [some (.ref 0), some (.int (nI s))] [.int (nI num), .ref 394] (N1, SH v1 T1, I1, L, Dd)
  obtain ⟨ba2, bb2, bN2, bq2, b72, hB2⟩ := hB1.st (q := (w ++ [32]).length + sb_dg num) (by (try simp only [List.length_append, List.length_cons, List.length_nil, hd1, hd2]) <;> omega)
  refine Ev.callV (As := [.int (nI num)]) (rest := []) dvJ4_append_bf812 mkX6_308 rfl rfl dX6_writeCar_23 (c_appI (d := d - 1) (w := w ++ [32]) hX (by omega) hL1 bq2 b72 bN2 hnum) ⟨by omega, by show 2 + 19 + 40 * _ ≤ 40 * _; omega⟩ ⟨ba2, bb2⟩ rfl (Nat.le_of_ble_eq_true rfl) (fun v9 h9 e9 => ?_) (fun E9 h9 e9 => nomatch e9)
  obtain ⟨N2, v2, T2, I2, e9, hL2, hF2, hN2⟩ := e9
  cases e9
  rw [← hN2] at hB2
  have hFr2 := hFr1.tr hF2
  generalize hc2 : gr c1 ((w ++ [32]).length + sb_dg num) = c2 at hL2 hB2
  generalize m1 - gc c1 ((w ++ [32]).length + sb_dg num) = m2 at hB2 ⊢
  generalize k1 - gs c1 ((w ++ [32]).length + sb_dg num) = k2 at hB2 ⊢
  show Ev _ _ _ _ _ _ 26 [some (.ref 0), some (.int (nI s))] [.ref 394] (N2, SH v2 T2, I2, L, Dd)
  refine Ev.sg hX sX6_writeCar_26 (pc' := 33) (ls' := [some (.ref 0), some (.int (nI s))]) (st' := [.int 58, .ref 394]) (h' := (N2, SH v2 T2, I2, L, Dd)) rfl ?_
  obtain ⟨ba3, bb3, bN3, bq3, b73, hB3⟩ := hB2.st (q := (w ++ [32] ++ dgL num).length + 1) (by (try simp only [List.length_append, List.length_cons, List.length_nil, hd1, hd2]) <;> omega)
  refine Ev.callV (As := [.int 58]) (rest := []) dvJ4_append_cf468 mkX6_312 rfl rfl dX6_writeCar_33 (c_appC (d := d - 1) (w := w ++ [32] ++ dgL num) hX (by omega) hL2 bq3 b73 bN3 ⟨by decide, by decide, by decide, by decide⟩) ⟨by omega, by show 2 + 19 + 40 * _ ≤ 40 * _; omega⟩ ⟨ba3, bb3⟩ rfl (Nat.le_of_ble_eq_true rfl) (fun v9 h9 e9 => ?_) (fun E9 h9 e9 => nomatch e9)
  obtain ⟨N3, v3, T3, I3, e9, hL3, hF3, hN3⟩ := e9
  cases e9
  rw [← hN3] at hB3
  have hFr3 := hFr2.tr hF3
  generalize hc3 : gr c2 ((w ++ [32] ++ dgL num).length + 1) = c3 at hL3 hB3
  generalize m2 - gc c2 ((w ++ [32] ++ dgL num).length + 1) = m3 at hB3 ⊢
  generalize k2 - gs c2 ((w ++ [32] ++ dgL num).length + 1) = k3 at hB3 ⊢
  show Ev _ _ _ _ _ _ 36 [some (.ref 0), some (.int (nI s))] [.ref 394] (N3, SH v3 T3, I3, L, Dd)
  refine Ev.sg hX sX6_writeCar_36 (pc' := 47) (ls' := [some (.ref 0), some (.int (nI s))]) (st' := [.int (nI s), .ref 18, .ref 394]) (h' := (N3, SH v3 T3, I3, L, Dd)) rfl ?_
  refine Ev.callV (As := [.int (nI s)]) (rest := [.ref 394]) dvX4_get mkX6_127 rfl rfl dX6_writeCar_47 (c_Row_getN (d := d - 1) (h := (N3, SH v3 T3, I3, L, Dd)) (r := 18) (a := 19) (n := 20) hX rfl rfl (by decide) hs) ⟨by omega, by show 2 + 19 + 40 * _ ≤ 40 * _; omega⟩ ⟨Nat.zero_le _, Nat.zero_le _⟩ rfl (Nat.le_of_ble_eq_true rfl) (fun v9 h9 e9 => ?_) (fun E9 h9 e9 => nomatch e9)
  cases e9
  show Ev _ _ _ _ _ _ 50 [some (.ref 0), some (.int (nI s))] [.int (I3 19 s), .ref 394] (N3, SH v3 T3, I3, L, Dd)
  rw [hFr3 19 (Or.inl (by decide))]
  rw [h19]
  show Ev _ _ _ _ _ _ 50 [some (.ref 0), some (.int (nI s))] [.int (nI de), .ref 394] (N3, SH v3 T3, I3, L, Dd)
  obtain ⟨ba4, bb4, bN4, bq4, b74, hB4⟩ := hB3.st (q := (w ++ [32] ++ dgL num ++ [58]).length + sb_dg de) (by (try simp only [List.length_append, List.length_cons, List.length_nil, hd1, hd2]) <;> omega)
  refine Ev.callV (As := [.int (nI de)]) (rest := []) dvJ4_append_bf812 mkX6_308 rfl rfl dX6_writeCar_50 (c_appI (d := d - 1) (w := w ++ [32] ++ dgL num ++ [58]) hX (by omega) hL3 bq4 b74 bN4 hde) ⟨by omega, by show 2 + 19 + 40 * _ ≤ 40 * _; omega⟩ ⟨ba4, bb4⟩ rfl (Nat.le_of_ble_eq_true rfl) (fun v9 h9 e9 => ?_) (fun E9 h9 e9 => nomatch e9)
  obtain ⟨N4, v4, T4, I4, e9, hL4, hF4, hN4⟩ := e9
  cases e9
  rw [← hN4] at hB4
  have hFr4 := hFr3.tr hF4
  generalize hc4 : gr c3 ((w ++ [32] ++ dgL num ++ [58]).length + sb_dg de) = c4 at hL4 hB4
  generalize m3 - gc c3 ((w ++ [32] ++ dgL num ++ [58]).length + sb_dg de) = m4 at hB4 ⊢
  generalize k3 - gs c3 ((w ++ [32] ++ dgL num ++ [58]).length + sb_dg de) = k4 at hB4 ⊢
  show Ev _ _ _ _ _ _ 53 [some (.ref 0), some (.int (nI s))] [.ref 394] (N4, SH v4 T4, I4, L, Dd)
  refine Ev.sg hX sX6_writeCar_53 (pc' := 65) (ls' := [some (.ref 0), some (.int (nI s))]) (st' := [.int (nI s), .ref 20]) (h' := (N4, SH v4 T4, I4, L, Dd)) rfl ?_
  refine Ev.callV (As := [.int (nI s)]) (rest := []) dvX4_get mkX6_127 rfl rfl dX6_writeCar_65 (c_Row_getN (d := d - 1) (h := (N4, SH v4 T4, I4, L, Dd)) (r := 20) (a := 21) (n := 20) hX rfl rfl (by decide) hs) ⟨by omega, by show 2 + 19 + 40 * _ ≤ 40 * _; omega⟩ ⟨Nat.zero_le _, Nat.zero_le _⟩ rfl (Nat.le_of_ble_eq_true rfl) (fun v9 h9 e9 => ?_) (fun E9 h9 e9 => nomatch e9)
  cases e9
  show Ev _ _ _ _ _ _ 68 [some (.ref 0), some (.int (nI s))] [.int (I4 21 s)] (N4, SH v4 T4, I4, L, Dd)
  rw [hFr4 21 (Or.inl (by decide))]
  show Ev _ _ _ _ _ _ 68 [some (.ref 0), some (.int (nI s))] [.int (I 21 s)] (N4, SH v4 T4, I4, L, Dd)
  refine Ev.sg hX sX6_writeCar_68 (pc' := 69) (ls' := [some (.ref 0), some (.int (nI s))]) (st' := [.int 1, .int (I 21 s)]) (h' := (N4, SH v4 T4, I4, L, Dd)) rfl ?_
  refine Ev.icmp_ne (tgt := 82) dX6_writeCar_69 (by decide) (fun b1 => ?_) (fun b1 => ?_)
  · refine Ev.vret dX6_writeCar_82 rfl ?_
    have hqf : ((w ++ [32] ++ dgL num ++ [58]).length + sb_dg de) = nf := by rw [hnf, he, (if_neg b1)]; simp only [List.length_append, List.length_cons, List.length_nil, hd1, hd2] <;> omega
    refine hQ N4 v4 T4 I4 ?_ hFr4 ?_
    · have e1 : c4 = C0 := by rw [← hc4, hqf]; exact hB3.2.2.2.2.1
      rw [e1] at hL4
      rw [carT, (if_neg b1)]
      simpa [List.append_assoc] using hL4
    · rw [hN4, hqf]; exact hB3.2.2.1
  · have he1 : e = 1 := by rw [he, if_pos b1]
    refine Ev.sg hX sX6_writeCar_72 (pc' := 78) (ls' := [some (.ref 0), some (.int (nI s))]) (st' := [.int 33, .ref 394]) (h' := (N4, SH v4 T4, I4, L, Dd)) rfl ?_
    obtain ⟨ba5, bb5, bN5, bq5, b75, hB5⟩ := hB4.st (q := (w ++ [32] ++ dgL num ++ [58] ++ dgL de).length + 1) (by (try simp only [List.length_append, List.length_cons, List.length_nil, hd1, hd2]) <;> omega)
    refine Ev.callV (As := [.int 33]) (rest := []) dvJ4_append_cf468 mkX6_312 rfl rfl dX6_writeCar_78 (c_appC (d := d - 1) (w := w ++ [32] ++ dgL num ++ [58] ++ dgL de) hX (by omega) hL4 bq5 b75 bN5 ⟨by decide, by decide, by decide, by decide⟩) ⟨by omega, by show 2 + 19 + 40 * _ ≤ 40 * _; omega⟩ ⟨ba5, bb5⟩ rfl (Nat.le_of_ble_eq_true rfl) (fun v9 h9 e9 => ?_) (fun E9 h9 e9 => nomatch e9)
    obtain ⟨N5, v5, T5, I5, e9, hL5, hF5, hN5⟩ := e9
    cases e9
    rw [← hN5] at hB5
    have hFr5 := hFr4.tr hF5
    generalize hc5 : gr c4 ((w ++ [32] ++ dgL num ++ [58] ++ dgL de).length + 1) = c5 at hL5 hB5
    generalize m4 - gc c4 ((w ++ [32] ++ dgL num ++ [58] ++ dgL de).length + 1) = m5 at hB5 ⊢
    generalize k4 - gs c4 ((w ++ [32] ++ dgL num ++ [58] ++ dgL de).length + 1) = k5 at hB5 ⊢
    show Ev _ _ _ _ _ _ 81 [some (.ref 0), some (.int (nI s))] [.ref 394] (N5, SH v5 T5, I5, L, Dd)
    refine Ev.sg hX sX6_writeCar_81 (pc' := 82) (ls' := [some (.ref 0), some (.int (nI s))]) (st' := []) (h' := (N5, SH v5 T5, I5, L, Dd)) rfl ?_
    refine Ev.vret dX6_writeCar_82 rfl ?_
    have hqf : ((w ++ [32] ++ dgL num ++ [58] ++ dgL de).length + 1) = nf := by rw [hnf, he, (if_pos b1)]; simp only [List.length_append, List.length_cons, List.length_nil, hd1, hd2] <;> omega
    refine hQ N5 v5 T5 I5 ?_ hFr5 ?_
    · have e1 : c5 = C0 := by rw [← hc5, hqf]; exact hB4.2.2.2.2.1
      rw [e1] at hL5
      rw [carT, (if_pos b1)]
      simpa [List.append_assoc] using hL5
    · rw [hN5, hqf]; exact hB4.2.2.1
theorem c_writeCar {num de nf : Nat} (hX : JXok X) (hd : 7 ≤ d) (hs : s < 20) (h17 : I 17 s = nI num) (hnum : num < 10000) (h19 : I 19 s = nI de) (hde : de < 10000) (h : Ln P w cap N v T I L Dd) (hnf : nf = (w.length + 1 + sb_dg num + 1 + sb_dg de + (if I 21 s = 1 then 1 else 0))) (h700 : nf ≤ cap ∨ 2 * cap + 2 ≤ 700) (hNB : N + 2 < BIG) : MT X d (gc cap nf) (gs cap nf) jdX6_writeCar [.ref 0, .int (nI s)] (N, SH v T, I, L, Dd) (fun R => ∃ N' v' T' I', R = .inl (none, (N', SH v' T', I', L, Dd)) ∧ Ln P (w ++ carT num de (I 21 s)) (gr cap nf) N' v' T' I' L Dd ∧ Fr I I' ∧ N' = N + gc cap nf) := by
  refine MT.mk dvX6_writeCar.1 ?_
  refine l_writeCar (nf := nf) (C0 := gr cap nf) (M0 := N + gc cap nf) hX hd hs h17 hnum h19 hde h rfl hnf ⟨Nat.le_refl _, Nat.le_refl _, rfl, ?_, rfl, ?_, h700⟩ (fun N' v' T' I' a b c => ⟨N', v', T', I', rfl, a, b, c⟩)
  · unfold gc
    split <;> omega
  · have h1 := h.le
    have h2 := (sb_dg_in num).2
    have h3 := (sb_dg_in de).2
    have h4 : (if I 21 s = 1 then 1 else 0) ≤ 1 := by split <;> omega
    rw [hnf]
    have : 16 ≤ cap := h1.2.1
    have h5 : sb_dg num ≤ 4 := by unfold sb_dg; (repeat' split) <;> omega
    have h6 : sb_dg de ≤ 4 := by unfold sb_dg; (repeat' split) <;> omega
    omega
end WRT
