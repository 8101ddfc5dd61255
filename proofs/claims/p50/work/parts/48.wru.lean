/-! the text line of a track, and its letters -/
theorem sb_dg4 {k : Nat} (h : k < 10000) : sb_dg k ≤ 4 := by
  unfold sb_dg
  (repeat' split) <;> omega
theorem carT_len {num de : Nat} {b : Int32} (h1 : num < 10000) (h2 : de < 10000) : (carT num de b).length = 1 + sb_dg num + 1 + sb_dg de + (if b = 1 then 1 else 0) := by
  unfold carT
  by_cases h : b = 1
  · rw [if_pos h, if_pos h]
    simp only [List.length_append, List.length_cons, List.length_nil, dgL_len num h1, dgL_len de h2] <;> omega
  · rw [if_neg h, if_neg h]
    simp only [List.length_append, List.length_cons, List.length_nil, dgL_len num h1, dgL_len de h2] <;> omega
def QW (P : PF) (W : List Int32) (M0 : Nat) (I : HI) (L : HL) (Dd : HD) : JR → Prop := fun R => ∃ N' v' T' I' cap', R = .inl (some (.int (nI W.length)), (N', SH v' T', I', L, Dd)) ∧ Ln P W cap' N' v' T' I' L Dd ∧ Fr I I' ∧ N' ≤ M0
section WRU
variable {X : JX} {d N v cap n q k s mc ms : Nat} {T : Nat → Option JS} {I : HI} {L : HL} {Dd : HD} {c i0 : Int32} {w : List Int32} {Q : JR → Prop} {P : PF}
theorem l_wt {t ht M0 : Nat} {I0 : HI} (hX : JXok X) (hd : 8 ≤ d) (hht : ht ≤ 20) (hcar : ∀ p, p < ht → ∃ s num de, s < 20 ∧ slotAt I0 (nI t) (nI p) = nI s ∧ I0 17 s = nI num ∧ num < 10000 ∧ I0 19 s = nI de ∧ de < 10000) : ∀ (n p : Nat) (w : List Int32) (cap N v mc ms : Nat) (T : Nat → Option JS) (I : HI), p + n = ht → Ln P w cap N v T I L Dd → Fr I0 I → BT M0 cap mc ms N → w.length + 11 * n ≤ 330 → Ev X (jm jdX6_writeTrack) d mc ms (QW P (w ++ carsT I0 t n p) M0 I0 L Dd) 114 [some (.ref 0), some (.int (nI t)), some (.int (nI ht)), some (.int (nI p))] [] (N, SH v T, I, L, Dd) := by
  intro n
  induction n with
  | zero =>
    intro p w cap N v mc ms T I hk hL hFr hB hlen
    refine Ev.sg hX sX6_writeTrack_114 (pc' := 116) (ls' := [some (.ref 0), some (.int (nI t)), some (.int (nI ht)), some (.int (nI p))]) (st' := [.int (nI ht), .int (nI p)]) (h' := (N, SH v T, I, L, Dd)) rfl ?_
    refine Ev.icmp_ge (tgt := 141) dX6_writeTrack_116 (by decide) (fun b1 => ?_) (fun b1 => ?_)
    · have e0 : w ++ carsT I0 t 0 p = w := List.append_nil w
      rw [e0]
      refine Ev.sg hX sX6_writeTrack_141 (pc' := 145) (ls' := [some (.ref 0), some (.int (nI t)), some (.int (nI ht)), some (.int (nI p))]) (st' := [.ref 394]) (h' := (N, SH v T, I, L, Dd)) rfl ?_
      refine Ev.callV (As := []) (rest := []) dvJ4_length_8abf5 mkX6_327 rfl rfl dX6_writeTrack_145 (c_len (d := d - 1) (w := w) hX (by omega) hL.2.2.2.2.1) ⟨by omega, by show 1 + 19 + 40 * _ ≤ 40 * _; omega⟩ ⟨Nat.zero_le _, Nat.zero_le _⟩ rfl (Nat.le_of_ble_eq_true rfl) (fun v9 h9 e9 => ?_) (fun E9 h9 e9 => nomatch e9)
      cases e9
      show Ev _ _ _ _ _ _ 148 [some (.ref 0), some (.int (nI t)), some (.int (nI ht)), some (.int (nI p))] [.int (nI (w).length)] (N, SH v T, I, L, Dd)
      refine Ev.iret dX6_writeTrack_148 rfl ?_
      exact ⟨N, v, T, I, cap, rfl, hL, hFr, (by have := hB.2.2.1; omega)⟩
    · exact absurd ((nI_leI (a := ht) (b := p) (by omega) (by omega)).mpr (by omega)) b1
  | succ n ih =>
    intro p w cap N v mc ms T I hk hL hFr hB hlen
    refine Ev.sg hX sX6_writeTrack_114 (pc' := 116) (ls' := [some (.ref 0), some (.int (nI t)), some (.int (nI ht)), some (.int (nI p))]) (st' := [.int (nI ht), .int (nI p)]) (h' := (N, SH v T, I, L, Dd)) rfl ?_
    refine Ev.icmp_ge (tgt := 141) dX6_writeTrack_116 (by decide) (fun b1 => ?_) (fun b1 => ?_)
    · exact absurd ((nI_leI (a := ht) (b := p) (by omega) (by omega)).mp b1) (by omega)
    · obtain ⟨s, num, de, hs, hs9, h17, hnum, h19, hde⟩ := hcar p (by omega)
      refine Ev.sg hX sX6_writeTrack_119 (pc' := 129) (ls' := [some (.ref 0), some (.int (nI t)), some (.int (nI ht)), some (.int (nI p))]) (st' := [.int (nI p), .int (nI t), .ref 15, .ref 0]) (h' := (N, SH v T, I, L, Dd)) rfl ?_
      refine Ev.callV (As := [.int (nI t), .int (nI p)]) (rest := [.ref 0]) dvX0_slotAt mkX6_135 rfl rfl dX6_writeTrack_129 (c_slotAt (d := d - 1) (I := I) hX (by omega)) ⟨by omega, by show 4 + 19 + 40 * _ ≤ 40 * _; omega⟩ ⟨Nat.zero_le _, Nat.zero_le _⟩ rfl (Nat.le_of_ble_eq_true rfl) (fun v9 h9 e9 => ?_) (fun E9 h9 e9 => nomatch e9)
      cases e9
      show Ev _ _ _ _ _ _ 132 [some (.ref 0), some (.int (nI t)), some (.int (nI ht)), some (.int (nI p))] [.int (slotAt I (nI t) (nI p)), .ref 0] (N, SH v T, I, L, Dd)
      rw [slotAt_congr (hFr 23 (Or.inl (by decide))) (hFr 25 (Or.inl (by decide))), hs9]
      show Ev _ _ _ _ _ _ 132 [some (.ref 0), some (.int (nI t)), some (.int (nI ht)), some (.int (nI p))] [.int (nI s), .ref 0] (N, SH v T, I, L, Dd)
      have hb4 : (if I 21 s = 1 then 1 else 0) ≤ 1 := by split <;> omega
      have hle := hL.le
      have hg1 := sb_dg4 hnum
      have hg2 := sb_dg4 hde
      obtain ⟨ba, bb, bN, bq, b7, hB1⟩ := hB.st (q := (w.length + 1 + sb_dg num + 1 + sb_dg de + (if I 21 s = 1 then 1 else 0))) (by omega) (by omega)
      refine Ev.callV (As := [.int (nI s)]) (rest := []) dvX6_writeCar mkX6_324 rfl rfl dX6_writeTrack_132 (c_writeCar (d := d - 1) hX (by omega) hs (by rw [hFr 17 (Or.inl (by decide))]; exact h17) hnum (by rw [hFr 19 (Or.inl (by decide))]; exact h19) hde hL rfl b7 (by have := hB.2.2.2.1; have := hB.2.2.1; omega)) ⟨by omega, by show 2 + 19 + 40 * _ ≤ 40 * _; omega⟩ ⟨ba, bb⟩ rfl (Nat.le_of_ble_eq_true rfl) (fun v9 h9 e9 => ?_) (fun E9 h9 e9 => nomatch e9)
      obtain ⟨N1, v1, T1, I1, e9, hL1, hF1, hN1⟩ := e9
      cases e9
      show Ev _ _ _ _ _ _ 135 [some (.ref 0), some (.int (nI t)), some (.int (nI ht)), some (.int (nI p))] [] (N1, SH v1 T1, I1, L, Dd)
      refine Ev.sg hX sX6_writeTrack_135 (pc' := 114) (ls' := [some (.ref 0), some (.int (nI t)), some (.int (nI ht)), some (.int ((nI p) + 1))]) (st' := []) (h' := (N1, SH v1 T1, I1, L, Dd)) rfl ?_
      rw [nI_1]
      have hc21 : I 21 = I0 21 := hFr 21 (Or.inl (by decide))
      have e1 : w ++ carsT I0 t (n + 1) p = (w ++ carT num de (I 21 s)) ++ carsT I0 t n (p + 1) := by
        rw [carsT, hs9, show (nI s).toNatClampNeg = s from nI_clamp (by omega), carI, h17, h19, show (nI num).toNatClampNeg = num from nI_clamp (by omega), show (nI de).toNatClampNeg = de from nI_clamp (by omega), hc21, List.append_assoc]
      rw [e1]
      exact ih (p + 1) _ _ _ _ _ _ _ _ (by omega) hL1 (hFr.tr hF1) (by rw [hN1]; exact hB1) (by rw [List.length_append, carT_len hnum hde]; omega)
theorem l_wtrk {t ht sl us ca M0 : Nat} (hX : JXok X) (hd : 8 ≤ d) (ht8 : t < 8) (hht : ht ≤ 20) (h5 : I 5 t = nI sl) (hsl : sl < 10000) (h33 : I 33 t = nI us) (hus : us < 10000) (h3 : I 3 t = nI ca) (hca : ca < 10000) (h31 : I 31 t = nI ht) (hcar : ∀ p, p < ht → ∃ s num de, s < 20 ∧ slotAt I (nI t) (nI p) = nI s ∧ I 17 s = nI num ∧ num < 10000 ∧ I 19 s = nI de ∧ de < 10000) (hL : Ln P w cap N v T I L Dd) (hB0 : BT M0 cap mc ms N) : Ev X (jm jdX6_writeTrack) d mc ms (QW P (trkT I t) M0 I L Dd) 5 [some (.ref 0), some (.int (nI t)), none, none] [] (N, SH v T, I, L, Dd) := by
  have hd0 := dgL_len t (by omega)
  have hd1 := dgL_len sl hsl
  have hd2 := dgL_len us hus
  have hd3 := dgL_len ca hca
  have hg0 := sb_dg4 (k := t) (by omega)
  have hg1 := sb_dg4 hsl
  have hg2 := sb_dg4 hus
  have hg3 := sb_dg4 hca
  refine Ev.sg hX sX6_writeTrack_5 (pc' := 10) (ls' := [some (.ref 0), some (.int (nI t)), none, none]) (st' := [.int 0, .ref 394]) (h' := (N, SH v T, I, L, Dd)) rfl ?_
  refine Ev.callV (As := [.int 0]) (rest := []) dvJ4_setLength_d00df mkX6_305 rfl rfl dX6_writeTrack_10 (c_setL (d := d - 1) hX (by omega) hL) ⟨by omega, by show 2 + 19 + 40 * _ ≤ 40 * _; omega⟩ ⟨Nat.zero_le _, Nat.zero_le _⟩ rfl (Nat.le_of_ble_eq_true rfl) (fun v9 h9 e9 => ?_) (fun E9 h9 e9 => nomatch e9)
  obtain ⟨I0, e9, hL0, hFr0⟩ := e9
  cases e9
  show Ev _ _ _ _ _ _ 13 [some (.ref 0), some (.int (nI t)), none, none] [] (N, SH v T, I0, L, Dd)
  refine Ev.sg hX sX6_writeTrack_13 (pc' := 18) (ls' := [some (.ref 0), some (.int (nI t)), none, none]) (st' := [.int (nI t), .ref 394]) (h' := (N, SH v T, I0, L, Dd)) rfl ?_
  obtain ⟨ba1, bb1, bN1, bq1, b71, hB1⟩ := hB0.st (q := ([]).length + sb_dg t) (by have := hL0.le; (try simp only [List.length_append, List.length_cons, List.length_nil, hd0, hd1, hd2, hd3]) <;> omega) (by have := hL0.le; omega)
  refine Ev.callV (As := [.int (nI t)]) (rest := []) dvJ4_append_bf812 mkX6_308 rfl rfl dX6_writeTrack_18 (c_appI (d := d - 1) (w := []) hX (by omega) hL0 bq1 b71 bN1 (by omega)) ⟨by omega, by show 2 + 19 + 40 * _ ≤ 40 * _; omega⟩ ⟨ba1, bb1⟩ rfl (Nat.le_of_ble_eq_true rfl) (fun v9 h9 e9 => ?_) (fun E9 h9 e9 => nomatch e9)
  obtain ⟨N1, v1, T1, I1, e9, hL1, hF1, hN1⟩ := e9
  cases e9
  rw [← hN1] at hB1
  have hFr1 := hFr0.tr hF1
  generalize hc1 : gr cap (([]).length + sb_dg t) = c1 at hL1 hB1
  generalize mc - gc cap (([]).length + sb_dg t) = m1 at hB1 ⊢
  generalize ms - gs cap (([]).length + sb_dg t) = k1 at hB1 ⊢
  show Ev _ _ _ _ _ _ 21 [some (.ref 0), some (.int (nI t)), none, none] [.ref 394] (N1, SH v1 T1, I1, L, Dd)
  refine Ev.sg hX sX6_writeTrack_21 (pc' := 23) (ls' := [some (.ref 0), some (.int (nI t)), none, none]) (st' := [.int 47, .ref 394]) (h' := (N1, SH v1 T1, I1, L, Dd)) rfl ?_
  obtain ⟨ba2, bb2, bN2, bq2, b72, hB2⟩ := hB1.st (q := ([] ++ dgL t).length + 1) (by have := hL1.le; (try simp only [List.length_append, List.length_cons, List.length_nil, hd0, hd1, hd2, hd3]) <;> omega) (by have := hL1.le; omega)
  refine Ev.callV (As := [.int 47]) (rest := []) dvJ4_append_cf468 mkX6_312 rfl rfl dX6_writeTrack_23 (c_appC (d := d - 1) (w := [] ++ dgL t) hX (by omega) hL1 bq2 b72 bN2 ⟨by decide, by decide, by decide, by decide⟩) ⟨by omega, by show 2 + 19 + 40 * _ ≤ 40 * _; omega⟩ ⟨ba2, bb2⟩ rfl (Nat.le_of_ble_eq_true rfl) (fun v9 h9 e9 => ?_) (fun E9 h9 e9 => nomatch e9)
  obtain ⟨N2, v2, T2, I2, e9, hL2, hF2, hN2⟩ := e9
  cases e9
  rw [← hN2] at hB2
  have hFr2 := hFr1.tr hF2
  generalize hc2 : gr c1 (([] ++ dgL t).length + 1) = c2 at hL2 hB2
  generalize m1 - gc c1 (([] ++ dgL t).length + 1) = m2 at hB2 ⊢
  generalize k1 - gs c1 (([] ++ dgL t).length + 1) = k2 at hB2 ⊢
  show Ev _ _ _ _ _ _ 26 [some (.ref 0), some (.int (nI t)), none, none] [.ref 394] (N2, SH v2 T2, I2, L, Dd)
  refine Ev.sg hX sX6_writeTrack_26 (pc' := 34) (ls' := [some (.ref 0), some (.int (nI t)), none, none]) (st' := [.int (nI t), .ref 4, .ref 394]) (h' := (N2, SH v2 T2, I2, L, Dd)) rfl ?_
  refine Ev.callV (As := [.int (nI t)]) (rest := [.ref 394]) dvX4_get mkX6_127 rfl rfl dX6_writeTrack_34 (c_Row_getN (d := d - 1) (h := (N2, SH v2 T2, I2, L, Dd)) (r := 4) (a := 5) (n := 8) hX rfl rfl (by decide) ht8) ⟨by omega, by show 2 + 19 + 40 * _ ≤ 40 * _; omega⟩ ⟨Nat.zero_le _, Nat.zero_le _⟩ rfl (Nat.le_of_ble_eq_true rfl) (fun v9 h9 e9 => ?_) (fun E9 h9 e9 => nomatch e9)
  cases e9
  show Ev _ _ _ _ _ _ 37 [some (.ref 0), some (.int (nI t)), none, none] [.int (I2 5 t), .ref 394] (N2, SH v2 T2, I2, L, Dd)
  rw [hFr2 5 (Or.inl (by decide))]
  rw [h5]
  show Ev _ _ _ _ _ _ 37 [some (.ref 0), some (.int (nI t)), none, none] [.int (nI sl), .ref 394] (N2, SH v2 T2, I2, L, Dd)
  obtain ⟨ba3, bb3, bN3, bq3, b73, hB3⟩ := hB2.st (q := ([] ++ dgL t ++ [47]).length + sb_dg sl) (by have := hL2.le; (try simp only [List.length_append, List.length_cons, List.length_nil, hd0, hd1, hd2, hd3]) <;> omega) (by have := hL2.le; omega)
  refine Ev.callV (As := [.int (nI sl)]) (rest := []) dvJ4_append_bf812 mkX6_308 rfl rfl dX6_writeTrack_37 (c_appI (d := d - 1) (w := [] ++ dgL t ++ [47]) hX (by omega) hL2 bq3 b73 bN3 hsl) ⟨by omega, by show 2 + 19 + 40 * _ ≤ 40 * _; omega⟩ ⟨ba3, bb3⟩ rfl (Nat.le_of_ble_eq_true rfl) (fun v9 h9 e9 => ?_) (fun E9 h9 e9 => nomatch e9)
  obtain ⟨N3, v3, T3, I3, e9, hL3, hF3, hN3⟩ := e9
  cases e9
  rw [← hN3] at hB3
  have hFr3 := hFr2.tr hF3
  generalize hc3 : gr c2 (([] ++ dgL t ++ [47]).length + sb_dg sl) = c3 at hL3 hB3
  generalize m2 - gc c2 (([] ++ dgL t ++ [47]).length + sb_dg sl) = m3 at hB3 ⊢
  generalize k2 - gs c2 (([] ++ dgL t ++ [47]).length + sb_dg sl) = k3 at hB3 ⊢
  show Ev _ _ _ _ _ _ 40 [some (.ref 0), some (.int (nI t)), none, none] [.ref 394] (N3, SH v3 T3, I3, L, Dd)
  refine Ev.sg hX sX6_writeTrack_40 (pc' := 47) (ls' := [some (.ref 0), some (.int (nI t)), none, none]) (st' := [.int 91, .ref 394]) (h' := (N3, SH v3 T3, I3, L, Dd)) rfl ?_
  obtain ⟨ba4, bb4, bN4, bq4, b74, hB4⟩ := hB3.st (q := ([] ++ dgL t ++ [47] ++ dgL sl).length + 1) (by have := hL3.le; (try simp only [List.length_append, List.length_cons, List.length_nil, hd0, hd1, hd2, hd3]) <;> omega) (by have := hL3.le; omega)
  refine Ev.callV (As := [.int 91]) (rest := []) dvJ4_append_cf468 mkX6_312 rfl rfl dX6_writeTrack_47 (c_appC (d := d - 1) (w := [] ++ dgL t ++ [47] ++ dgL sl) hX (by omega) hL3 bq4 b74 bN4 ⟨by decide, by decide, by decide, by decide⟩) ⟨by omega, by show 2 + 19 + 40 * _ ≤ 40 * _; omega⟩ ⟨ba4, bb4⟩ rfl (Nat.le_of_ble_eq_true rfl) (fun v9 h9 e9 => ?_) (fun E9 h9 e9 => nomatch e9)
  obtain ⟨N4, v4, T4, I4, e9, hL4, hF4, hN4⟩ := e9
  cases e9
  rw [← hN4] at hB4
  have hFr4 := hFr3.tr hF4
  generalize hc4 : gr c3 (([] ++ dgL t ++ [47] ++ dgL sl).length + 1) = c4 at hL4 hB4
  generalize m3 - gc c3 (([] ++ dgL t ++ [47] ++ dgL sl).length + 1) = m4 at hB4 ⊢
  generalize k3 - gs c3 (([] ++ dgL t ++ [47] ++ dgL sl).length + 1) = k4 at hB4 ⊢
  show Ev _ _ _ _ _ _ 50 [some (.ref 0), some (.int (nI t)), none, none] [.ref 394] (N4, SH v4 T4, I4, L, Dd)
  refine Ev.sg hX sX6_writeTrack_50 (pc' := 61) (ls' := [some (.ref 0), some (.int (nI t)), none, none]) (st' := [.int (nI t), .ref 32, .ref 394]) (h' := (N4, SH v4 T4, I4, L, Dd)) rfl ?_
  refine Ev.callV (As := [.int (nI t)]) (rest := [.ref 394]) dvX4_get mkX6_127 rfl rfl dX6_writeTrack_61 (c_Row_getN (d := d - 1) (h := (N4, SH v4 T4, I4, L, Dd)) (r := 32) (a := 33) (n := 8) hX rfl rfl (by decide) ht8) ⟨by omega, by show 2 + 19 + 40 * _ ≤ 40 * _; omega⟩ ⟨Nat.zero_le _, Nat.zero_le _⟩ rfl (Nat.le_of_ble_eq_true rfl) (fun v9 h9 e9 => ?_) (fun E9 h9 e9 => nomatch e9)
  cases e9
  show Ev _ _ _ _ _ _ 64 [some (.ref 0), some (.int (nI t)), none, none] [.int (I4 33 t), .ref 394] (N4, SH v4 T4, I4, L, Dd)
  rw [hFr4 33 (Or.inl (by decide))]
  rw [h33]
  show Ev _ _ _ _ _ _ 64 [some (.ref 0), some (.int (nI t)), none, none] [.int (nI us), .ref 394] (N4, SH v4 T4, I4, L, Dd)
  obtain ⟨ba5, bb5, bN5, bq5, b75, hB5⟩ := hB4.st (q := ([] ++ dgL t ++ [47] ++ dgL sl ++ [91]).length + sb_dg us) (by have := hL4.le; (try simp only [List.length_append, List.length_cons, List.length_nil, hd0, hd1, hd2, hd3]) <;> omega) (by have := hL4.le; omega)
  refine Ev.callV (As := [.int (nI us)]) (rest := []) dvJ4_append_bf812 mkX6_308 rfl rfl dX6_writeTrack_64 (c_appI (d := d - 1) (w := [] ++ dgL t ++ [47] ++ dgL sl ++ [91]) hX (by omega) hL4 bq5 b75 bN5 hus) ⟨by omega, by show 2 + 19 + 40 * _ ≤ 40 * _; omega⟩ ⟨ba5, bb5⟩ rfl (Nat.le_of_ble_eq_true rfl) (fun v9 h9 e9 => ?_) (fun E9 h9 e9 => nomatch e9)
  obtain ⟨N5, v5, T5, I5, e9, hL5, hF5, hN5⟩ := e9
  cases e9
  rw [← hN5] at hB5
  have hFr5 := hFr4.tr hF5
  generalize hc5 : gr c4 (([] ++ dgL t ++ [47] ++ dgL sl ++ [91]).length + sb_dg us) = c5 at hL5 hB5
  generalize m4 - gc c4 (([] ++ dgL t ++ [47] ++ dgL sl ++ [91]).length + sb_dg us) = m5 at hB5 ⊢
  generalize k4 - gs c4 (([] ++ dgL t ++ [47] ++ dgL sl ++ [91]).length + sb_dg us) = k5 at hB5 ⊢
  show Ev _ _ _ _ _ _ 67 [some (.ref 0), some (.int (nI t)), none, none] [.ref 394] (N5, SH v5 T5, I5, L, Dd)
  refine Ev.sg hX sX6_writeTrack_67 (pc' := 74) (ls' := [some (.ref 0), some (.int (nI t)), none, none]) (st' := [.int 47, .ref 394]) (h' := (N5, SH v5 T5, I5, L, Dd)) rfl ?_
  obtain ⟨ba6, bb6, bN6, bq6, b76, hB6⟩ := hB5.st (q := ([] ++ dgL t ++ [47] ++ dgL sl ++ [91] ++ dgL us).length + 1) (by have := hL5.le; (try simp only [List.length_append, List.length_cons, List.length_nil, hd0, hd1, hd2, hd3]) <;> omega) (by have := hL5.le; omega)
  refine Ev.callV (As := [.int 47]) (rest := []) dvJ4_append_cf468 mkX6_312 rfl rfl dX6_writeTrack_74 (c_appC (d := d - 1) (w := [] ++ dgL t ++ [47] ++ dgL sl ++ [91] ++ dgL us) hX (by omega) hL5 bq6 b76 bN6 ⟨by decide, by decide, by decide, by decide⟩) ⟨by omega, by show 2 + 19 + 40 * _ ≤ 40 * _; omega⟩ ⟨ba6, bb6⟩ rfl (Nat.le_of_ble_eq_true rfl) (fun v9 h9 e9 => ?_) (fun E9 h9 e9 => nomatch e9)
  obtain ⟨N6, v6, T6, I6, e9, hL6, hF6, hN6⟩ := e9
  cases e9
  rw [← hN6] at hB6
  have hFr6 := hFr5.tr hF6
  generalize hc6 : gr c5 (([] ++ dgL t ++ [47] ++ dgL sl ++ [91] ++ dgL us).length + 1) = c6 at hL6 hB6
  generalize m5 - gc c5 (([] ++ dgL t ++ [47] ++ dgL sl ++ [91] ++ dgL us).length + 1) = m6 at hB6 ⊢
  generalize k5 - gs c5 (([] ++ dgL t ++ [47] ++ dgL sl ++ [91] ++ dgL us).length + 1) = k6 at hB6 ⊢
  show Ev _ _ _ _ _ _ 77 [some (.ref 0), some (.int (nI t)), none, none] [.ref 394] (N6, SH v6 T6, I6, L, Dd)
  refine Ev.sg hX sX6_writeTrack_77 (pc' := 85) (ls' := [some (.ref 0), some (.int (nI t)), none, none]) (st' := [.int (nI t), .ref 2, .ref 394]) (h' := (N6, SH v6 T6, I6, L, Dd)) rfl ?_
  refine Ev.callV (As := [.int (nI t)]) (rest := [.ref 394]) dvX4_get mkX6_127 rfl rfl dX6_writeTrack_85 (c_Row_getN (d := d - 1) (h := (N6, SH v6 T6, I6, L, Dd)) (r := 2) (a := 3) (n := 8) hX rfl rfl (by decide) ht8) ⟨by omega, by show 2 + 19 + 40 * _ ≤ 40 * _; omega⟩ ⟨Nat.zero_le _, Nat.zero_le _⟩ rfl (Nat.le_of_ble_eq_true rfl) (fun v9 h9 e9 => ?_) (fun E9 h9 e9 => nomatch e9)
  cases e9
  show Ev _ _ _ _ _ _ 88 [some (.ref 0), some (.int (nI t)), none, none] [.int (I6 3 t), .ref 394] (N6, SH v6 T6, I6, L, Dd)
  rw [hFr6 3 (Or.inl (by decide))]
  rw [h3]
  show Ev _ _ _ _ _ _ 88 [some (.ref 0), some (.int (nI t)), none, none] [.int (nI ca), .ref 394] (N6, SH v6 T6, I6, L, Dd)
  obtain ⟨ba7, bb7, bN7, bq7, b77, hB7⟩ := hB6.st (q := ([] ++ dgL t ++ [47] ++ dgL sl ++ [91] ++ dgL us ++ [47]).length + sb_dg ca) (by have := hL6.le; (try simp only [List.length_append, List.length_cons, List.length_nil, hd0, hd1, hd2, hd3]) <;> omega) (by have := hL6.le; omega)
  refine Ev.callV (As := [.int (nI ca)]) (rest := []) dvJ4_append_bf812 mkX6_308 rfl rfl dX6_writeTrack_88 (c_appI (d := d - 1) (w := [] ++ dgL t ++ [47] ++ dgL sl ++ [91] ++ dgL us ++ [47]) hX (by omega) hL6 bq7 b77 bN7 hca) ⟨by omega, by show 2 + 19 + 40 * _ ≤ 40 * _; omega⟩ ⟨ba7, bb7⟩ rfl (Nat.le_of_ble_eq_true rfl) (fun v9 h9 e9 => ?_) (fun E9 h9 e9 => nomatch e9)
  obtain ⟨N7, v7, T7, I7, e9, hL7, hF7, hN7⟩ := e9
  cases e9
  rw [← hN7] at hB7
  have hFr7 := hFr6.tr hF7
  generalize hc7 : gr c6 (([] ++ dgL t ++ [47] ++ dgL sl ++ [91] ++ dgL us ++ [47]).length + sb_dg ca) = c7 at hL7 hB7
  generalize m6 - gc c6 (([] ++ dgL t ++ [47] ++ dgL sl ++ [91] ++ dgL us ++ [47]).length + sb_dg ca) = m7 at hB7 ⊢
  generalize k6 - gs c6 (([] ++ dgL t ++ [47] ++ dgL sl ++ [91] ++ dgL us ++ [47]).length + sb_dg ca) = k7 at hB7 ⊢
  show Ev _ _ _ _ _ _ 91 [some (.ref 0), some (.int (nI t)), none, none] [.ref 394] (N7, SH v7 T7, I7, L, Dd)
  refine Ev.sg hX sX6_writeTrack_91 (pc' := 93) (ls' := [some (.ref 0), some (.int (nI t)), none, none]) (st' := [.int 93, .ref 394]) (h' := (N7, SH v7 T7, I7, L, Dd)) rfl ?_
  obtain ⟨ba8, bb8, bN8, bq8, b78, hB8⟩ := hB7.st (q := ([] ++ dgL t ++ [47] ++ dgL sl ++ [91] ++ dgL us ++ [47] ++ dgL ca).length + 1) (by have := hL7.le; (try simp only [List.length_append, List.length_cons, List.length_nil, hd0, hd1, hd2, hd3]) <;> omega) (by have := hL7.le; omega)
  refine Ev.callV (As := [.int 93]) (rest := []) dvJ4_append_cf468 mkX6_312 rfl rfl dX6_writeTrack_93 (c_appC (d := d - 1) (w := [] ++ dgL t ++ [47] ++ dgL sl ++ [91] ++ dgL us ++ [47] ++ dgL ca) hX (by omega) hL7 bq8 b78 bN8 ⟨by decide, by decide, by decide, by decide⟩) ⟨by omega, by show 2 + 19 + 40 * _ ≤ 40 * _; omega⟩ ⟨ba8, bb8⟩ rfl (Nat.le_of_ble_eq_true rfl) (fun v9 h9 e9 => ?_) (fun E9 h9 e9 => nomatch e9)
  obtain ⟨N8, v8, T8, I8, e9, hL8, hF8, hN8⟩ := e9
  cases e9
  rw [← hN8] at hB8
  have hFr8 := hFr7.tr hF8
  generalize hc8 : gr c7 (([] ++ dgL t ++ [47] ++ dgL sl ++ [91] ++ dgL us ++ [47] ++ dgL ca).length + 1) = c8 at hL8 hB8
  generalize m7 - gc c7 (([] ++ dgL t ++ [47] ++ dgL sl ++ [91] ++ dgL us ++ [47] ++ dgL ca).length + 1) = m8 at hB8 ⊢
  generalize k7 - gs c7 (([] ++ dgL t ++ [47] ++ dgL sl ++ [91] ++ dgL us ++ [47] ++ dgL ca).length + 1) = k8 at hB8 ⊢
  show Ev _ _ _ _ _ _ 96 [some (.ref 0), some (.int (nI t)), none, none] [.ref 394] (N8, SH v8 T8, I8, L, Dd)
  refine Ev.sg hX sX6_writeTrack_96 (pc' := 108) (ls' := [some (.ref 0), some (.int (nI t)), none, none]) (st' := [.int (nI t), .ref 30]) (h' := (N8, SH v8 T8, I8, L, Dd)) rfl ?_
  refine Ev.callV (As := [.int (nI t)]) (rest := []) dvX4_get mkX6_127 rfl rfl dX6_writeTrack_108 (c_Row_getN (d := d - 1) (h := (N8, SH v8 T8, I8, L, Dd)) (r := 30) (a := 31) (n := 8) hX rfl rfl (by decide) ht8) ⟨by omega, by show 2 + 19 + 40 * _ ≤ 40 * _; omega⟩ ⟨Nat.zero_le _, Nat.zero_le _⟩ rfl (Nat.le_of_ble_eq_true rfl) (fun v9 h9 e9 => ?_) (fun E9 h9 e9 => nomatch e9)
  cases e9
  show Ev _ _ _ _ _ _ 111 [some (.ref 0), some (.int (nI t)), none, none] [.int (I8 31 t)] (N8, SH v8 T8, I8, L, Dd)
  rw [hFr8 31 (Or.inl (by decide))]
  rw [h31]
  show Ev _ _ _ _ _ _ 111 [some (.ref 0), some (.int (nI t)), none, none] [.int (nI ht)] (N8, SH v8 T8, I8, L, Dd)
  refine Ev.sg hX sX6_writeTrack_111 (pc' := 114) (ls' := [some (.ref 0), some (.int (nI t)), some (.int (nI ht)), some (.int 0)]) (st' := []) (h' := (N8, SH v8 T8, I8, L, Dd)) rfl ?_
  have e2 : trkT I t = ([] ++ dgL t ++ [47] ++ dgL sl ++ [91] ++ dgL us ++ [47] ++ dgL ca ++ [93]) ++ carsT I t ht 0 := by
    rw [trkT, h5, h33, h3, h31, show (nI sl).toNatClampNeg = sl from nI_clamp (by omega), show (nI us).toNatClampNeg = us from nI_clamp (by omega), show (nI ca).toNatClampNeg = ca from nI_clamp (by omega), show (nI ht).toNatClampNeg = ht from nI_clamp (by omega), List.nil_append]
  rw [e2]
  exact l_wt hX (by omega) hht hcar ht 0 _ _ _ _ _ _ _ _ (Nat.zero_add ht) hL8 hFr8 hB8 (by simp only [List.length_append, List.length_cons, List.length_nil, hd0, hd1, hd2, hd3] <;> omega)
theorem c_writeTrack {t ht sl us ca : Nat} (hX : JXok X) (hd : 9 ≤ d) (htk : hasT I (nI t)) (ht8 : t < 8) (hht : ht ≤ 20) (h5 : I 5 t = nI sl) (hsl : sl < 10000) (h33 : I 33 t = nI us) (hus : us < 10000) (h3 : I 3 t = nI ca) (hca : ca < 10000) (h31 : I 31 t = nI ht) (hcar : ∀ p, p < ht → ∃ s num de, s < 20 ∧ slotAt I (nI t) (nI p) = nI s ∧ I 17 s = nI num ∧ num < 10000 ∧ I 19 s = nI de ∧ de < 10000) (hL : Ln P w cap N v T I L Dd) (hN4 : 396 ≤ N) (hN : N + 1500 < BIG) : MT X d 1400 1400 jdX6_writeTrack [.ref 0, .int (nI t)] (N, SH v T, I, L, Dd) (QW P (trkT I t) (N + 1400) I L Dd) := by
  have hN9 := hN
  replace hN : N + 1 < BIG := by omega
  refine MT.mk dvX6_writeTrack.1 ?_
  refine Ev.sg hX sX6_writeTrack_0 (pc' := 2) (ls' := [some (.ref 0), some (.int (nI t)), none, none]) (st' := [.int (nI t), .ref 0]) (h' := (N, SH v T, I, L, Dd)) rfl ?_
  refine opt_split (trkX I (nI t)) (fun E2 f1 => ?_) (fun f1 => ?_)
  · refine Ev.callV (As := [.int (nI t)]) (rest := []) dvX6_requireTrack mkX6_117 rfl rfl dX6_writeTrack_2 ((c_requireTrack (d := d - 1) (t := (nI t)) (N := N) (v := v) (T := T) (I := I) (L := L) (Dd := Dd) hX (by omega) hN4 hN).some f1) ⟨by omega, by show 2 + 19 + 40 * _ ≤ 40 * _; omega⟩ ⟨by omega, by omega⟩ rfl (Nat.le_of_ble_eq_true rfl) (fun v9 h9 e9 => by obtain ⟨T9, e9⟩ := e9; cases e9) (fun E9 h9 e9 => ?_)
    obtain ⟨T9, e9⟩ := e9
    cases e9
    refine EvX.out rfl ?_
    exact absurd f1 (by rw [trkX, if_pos htk]; exact fun z => nomatch z)
  refine Ev.callV (As := [.int (nI t)]) (rest := []) dvX6_requireTrack mkX6_117 rfl rfl dX6_writeTrack_2 ((c_requireTrack (d := d - 1) (t := (nI t)) (N := N) (v := v) (T := T) (I := I) (L := L) (Dd := Dd) hX (by omega) hN4 hN).none f1) ⟨by omega, by show 2 + 19 + 40 * _ ≤ 40 * _; omega⟩ ⟨by omega, by omega⟩ rfl (Nat.le_of_ble_eq_true rfl) (fun v9 h9 e9 => ?_) (fun E9 h9 e9 => nomatch e9)
  cases e9
  show Ev _ _ _ _ _ _ 5 [some (.ref 0), some (.int (nI t)), none, none] [] (N, SH v T, I, L, Dd)
  exact l_wtrk hX (by omega) ht8 hht h5 hsl h33 hus h3 hca h31 hcar hL ⟨by have := hL.le; omega, by have := hL.le; omega, by have := hL.le; omega, by omega, hL.le.2⟩
theorem c_writeTrackX {t : Int32} (hX : JXok X) (hd : 7 ≤ d) (htk : ¬ hasT I t) (hN4 : 396 ≤ N) (hN : N + 1 < BIG) : MT X d 4 24 jdX6_writeTrack [.ref 0, .int t] (N, SH v T, I, L, Dd) (fun R => ∃ sh, R = .inr ("java/lang/IndexOutOfBoundsException", (N + 1, SH v (upS T N sh), I, L, Dd))) := by
  refine MT.mk dvX6_writeTrack.1 ?_
  refine Ev.sg hX sX6_writeTrack_0 (pc' := 2) (ls' := [some (.ref 0), some (.int t), none, none]) (st' := [.int t, .ref 0]) (h' := (N, SH v T, I, L, Dd)) rfl ?_
  refine opt_split (trkX I t) (fun E2 f1 => ?_) (fun f1 => ?_)
  · refine Ev.callV (As := [.int t]) (rest := []) dvX6_requireTrack mkX6_117 rfl rfl dX6_writeTrack_2 ((c_requireTrack (d := d - 1) (t := t) (N := N) (v := v) (T := T) (I := I) (L := L) (Dd := Dd) hX (by omega) hN4 hN).some f1) ⟨by omega, by show 2 + 19 + 40 * _ ≤ 40 * _; omega⟩ ⟨by omega, by omega⟩ rfl (Nat.le_of_ble_eq_true rfl) (fun v9 h9 e9 => by obtain ⟨T9, e9⟩ := e9; cases e9) (fun E9 h9 e9 => ?_)
    obtain ⟨T9, e9⟩ := e9
    cases e9
    refine EvX.out rfl ?_
    (rw [trkX, if_neg htk] at f1; cases f1; exact ⟨_, rfl⟩)
  refine Ev.callV (As := [.int t]) (rest := []) dvX6_requireTrack mkX6_117 rfl rfl dX6_writeTrack_2 ((c_requireTrack (d := d - 1) (t := t) (N := N) (v := v) (T := T) (I := I) (L := L) (Dd := Dd) hX (by omega) hN4 hN).none f1) ⟨by omega, by show 2 + 19 + 40 * _ ≤ 40 * _; omega⟩ ⟨by omega, by omega⟩ rfl (Nat.le_of_ble_eq_true rfl) (fun v9 h9 e9 => ?_) (fun E9 h9 e9 => nomatch e9)
  cases e9
  show Ev _ _ _ _ _ _ 5 [some (.ref 0), some (.int t), none, none] [] (N, SH v T, I, L, Dd)
  exact absurd f1 (by rw [trkX, if_neg htk]; exact fun z => nomatch z)
theorem c_outputAt (hX : JXok X) (hd : 6 ≤ d) (hN4 : 396 ≤ N) (hN : N + 1 < BIG) (hL : Ln P w cap N v T I L Dd) (hchw : ∀ x ∈ w, chW x) : MT X d 4 24 jdX6_outputAt [.ref 0, .int i0] (N, SH v T, I, L, Dd) (outE (if ¬ i0 < 0 ∧ i0 < nI w.length then none else some "java/lang/IndexOutOfBoundsException") N v T I L Dd (.inl (some (.int (w.getD i0.toNatClampNeg 0)), (N, SH v T, I, L, Dd)))) := by
  refine MT.mk dvX6_outputAt.1 ?_
  refine Ev.sg hX sX6_outputAt_0 (pc' := 1) (ls' := [some (.ref 0), some (.int i0)]) (st' := [.int i0]) (h' := (N, SH v T, I, L, Dd)) rfl ?_
  refine Ev.if_lt (tgt := 15) dX6_outputAt_1 (by decide) (fun b1 => ?_) (fun b1 => ?_)
  · refine Ev.mkSW (E := "java/lang/IndexOutOfBoundsException") (si := 33) hX je_11 (by decide +kernel) (by decide +kernel) rfl dX6_outputAt_15 (sX6_outputAt_18.dc 0 (q := (18, .dup, 0, 0)) rfl) dX6_outputAt_19 dX6_outputAt_22 (by omega) ⟨by omega, by omega⟩ hN (Nat.le_of_ble_eq_true rfl) ?_
    refine Ev.athrow hX upS_eq rfl dX6_outputAt_25 (EvX.out rfl ?_)
    exact outE_new hN4 (if_neg (fun z => absurd b1 z.1))
  · refine Ev.sg hX sX6_outputAt_4 (pc' := 9) (ls' := [some (.ref 0), some (.int i0)]) (st' := [.ref 394, .int i0]) (h' := (N, SH v T, I, L, Dd)) rfl ?_
    refine Ev.callV (As := []) (rest := [.int i0]) dvJ4_length_8abf5 mkX6_327 rfl rfl dX6_outputAt_9 (c_len (d := d - 1) (w := w) hX (by omega) hL.2.2.2.2.1) ⟨by omega, by show 1 + 19 + 40 * _ ≤ 40 * _; omega⟩ ⟨Nat.zero_le _, Nat.zero_le _⟩ rfl (Nat.le_of_ble_eq_true rfl) (fun v9 h9 e9 => ?_) (fun E9 h9 e9 => nomatch e9)
    cases e9
    show Ev _ _ _ _ _ _ 12 [some (.ref 0), some (.int i0)] [.int (nI (w).length), .int i0] (N, SH v T, I, L, Dd)
    refine Ev.icmp_lt (tgt := 26) dX6_outputAt_12 (by decide) (fun b2 => ?_) (fun b2 => ?_)
    · obtain ⟨k, hk31, rfl⟩ := nI_of b1
      have hk : k < w.length := (nI_ltI hk31 (by have := hL.le; omega)).mp b2
      have hch : chW (w.getD k 0) := by rw [List.getD_eq_getElem?_getD, List.getElem?_eq_getElem hk]; exact hchw _ (List.getElem_mem hk)
      refine Ev.sg hX sX6_outputAt_26 (pc' := 31) (ls' := [some (.ref 0), some (.int (nI k))]) (st' := [.int (nI k), .ref 394]) (h' := (N, SH v T, I, L, Dd)) rfl ?_
      refine Ev.callV (As := [.int (nI k)]) (rest := []) dvJ4_charAt_5068e mkX6_334 rfl rfl dX6_outputAt_31 (c_chAt (d := d - 1) hX (by omega) hL hk hch) ⟨by omega, by show 2 + 19 + 40 * _ ≤ 40 * _; omega⟩ ⟨Nat.zero_le _, Nat.zero_le _⟩ rfl (Nat.le_of_ble_eq_true rfl) (fun v9 h9 e9 => ?_) (fun E9 h9 e9 => nomatch e9)
      cases e9
      show Ev _ _ _ _ _ _ 34 [some (.ref 0), some (.int (nI k))] [.int (w.getD k 0)] (N, SH v T, I, L, Dd)
      refine Ev.zret dX6_outputAt_34 rfl ?_ ?_
      · exact hch.2
      (rw [show w.getD k 0 = w.getD (nI k).toNatClampNeg 0 by rw [nI_clamp hk31]]; exact outE_ret (if_pos ⟨b1, b2⟩))
    · refine Ev.mkSW (E := "java/lang/IndexOutOfBoundsException") (si := 33) hX je_11 (by decide +kernel) (by decide +kernel) rfl dX6_outputAt_15 (sX6_outputAt_18.dc 0 (q := (18, .dup, 0, 0)) rfl) dX6_outputAt_19 dX6_outputAt_22 (by omega) ⟨by omega, by omega⟩ hN (Nat.le_of_ble_eq_true rfl) ?_
      refine Ev.athrow hX upS_eq rfl dX6_outputAt_25 (EvX.out rfl ?_)
      exact outE_new hN4 (if_neg (fun z => absurd z.2 b2))
end WRU
