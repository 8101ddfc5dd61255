/-! the law's walk: z's last calls -/
section LWI
variable {X : JX} {mc ms : Nat} {Q : JR → Prop} {h : MH} {bY b v k w K Kz : Nat} {now c n : Int32} {sx s : GS}
set_option maxHeartbeats 8000000 in
set_option maxRecDepth 100000 in
theorem law_i1 (hX : JXok X) (hM : jM X ≤ 396) (b4 : 396 ≤ b) (hk : k < 4) (djv : DJ 0 395 b v) (ox : OB K 0 395 sx h) (oz : OB Kz b v s h) (hs : ZL (zl10 k) s) (hKz : Kz ≤ 1000) (hN : zN h ≤ 80000) (hm : 2000 ≤ mc ∧ 10000 ≤ ms)
    (kk : ∀ h' mc' ms' s', OB K 0 395 sx h' → OB (Kz + 3) b v s' h' → (ZL (zl11 k) s' ∧ ZL (zl10 k) (ub s') ∧ 1 ≤ s'.2.2.1 ∧ s'.2.2.1 ≤ 8) → zN h' ≤ zN h + 100 → mc ≤ mc' + 100 → ms ≤ ms' + 1000 → Ev X (jm jdL_law) 17 mc' ms' Q 1101 [some (.ref (BIG + 300)), some (.ref 0), some (.ref bY), some (.int now), some (.int n), some (.int c), some (.int (nI k)), some (.int (nI w)), some (.ref b)] [] h') :
    Ev X (jm jdL_law) 17 mc ms Q 1062 [some (.ref (BIG + 300)), some (.ref 0), some (.ref bY), some (.int now), some (.int n), some (.int c), some (.int (nI k)), some (.int (nI w)), some (.ref b)] [] h := by
  have b0 : (0 : Nat) = 0 ∨ 396 ≤ 0 := Or.inl rfl
  have bz : b = 0 ∨ 396 ≤ b := Or.inr b4
  have hBIG : 500000 < BIG := by decide
  have d8 := oz.d8.1
  obtain ⟨s1, e1⟩ : ∃ t, t = cmG s 1 2 0 0 0 2 := ⟨_, rfl⟩
  have q1 := z_11 hk hs
  have eu : (ub s1).1 = s.1 ∧ s1.2.2.1 = min 8 (s.2.2.1 + 1) := by
    have ec : cmG s 1 2 0 0 0 2 = (canonG ((cmF s 1 2 0 0 0 2).2 397), pushG s.2.1 s.2.2.1 s.1, min 8 (s.2.2.1 + 1), s.2.2.2) := if_pos q1.2.1
    rw [e1, ec]
    exact ⟨pop_1 d8, rfl⟩
  rw [← e1] at q1
  have r7 := z_f7 hk q1.2.2
  have r8 := z_f8 hk q1.2.2
  have v7 : cmV s1 2 0 1 0 0 4 = -4 := (cmV_x (j := 3) (E := xNE) r7 rfl (by decide)).trans (by decide +kernel)
  have v8 : cmV s1 1 1 0 0 0 2 = -3 := (cmV_x (j := 1) (E := xIS) r8 rfl (by decide)).trans (by decide +kernel)
  have n7 : cmG s1 2 0 1 0 0 4 = s1 := cm_no (by rw [r7]; decide)
  have n8 : cmG s1 1 1 0 0 0 2 = s1 := cm_no (by rw [r8]; decide)
  have hsu : ZL (zl10 k) (ub s1) := fun j h6 h7 => by rw [eu.1]; exact hs j h6 h7
  have dd : 1 ≤ s1.2.2.1 ∧ s1.2.2.1 ≤ 8 := by rw [eu.2]; omega
  clear eu d8
  refine Ev.sg hX sL_law_1062 (pc' := 1066) (ls' := [some (.ref (BIG + 300)), some (.ref 0), some (.ref bY), some (.int now), some (.int n), some (.int c), some (.int (nI k)), some (.int (nI w)), some (.ref b)]) (st' := [.int 2, .int 1, .ref b]) (h' := h) rfl ?_
  refine Ev.askV (K' := Kz + 1) (mc1 := 4) (ms1 := 24) (As := [.int 1, .int 2]) (rest := []) (xs := xsK 2) (val := some (.int (nI 1))) (s' := s1) hX hM bz b0 djv oz ox (by omega) dvX6_disconnect mkL_48 rfl dL_law_1066 (by decide) (by decide) ⟨⟨by omega, by omega⟩, by omega, by omega⟩ rfl (Nat.le_of_ble_eq_true rfl) nr_2 (fun _ => rfl) (by decide) (fun X' T I L D hX' c9 => by
    have q := q_disconnect (a := 1) (b := 2) hX' c9 (by omega) (by omega)
    have v1 := q1.1
    have d1 := q1.2.1
    unfold cmF at v1 d1
    rw [v1, d1] at q
    rw [e1]
    exact q) (fun g1 mc1 ms1 a1 c1 o1 p1 m1 k1 => ?_)
  show Ev _ _ _ _ _ _ 1069 [some (.ref (BIG + 300)), some (.ref 0), some (.ref bY), some (.int now), some (.int n), some (.int c), some (.int (nI k)), some (.int (nI w)), some (.ref b)] [.int (nI 1)] g1
  refine Ev.sg hX sL_law_1069 (pc' := 1070) (ls' := [some (.ref (BIG + 300)), some (.ref 0), some (.ref bY), some (.int now), some (.int n), some (.int c), some (.int (nI k)), some (.int (nI w)), some (.ref b)]) (st' := [.int 1, .int (nI 1)]) (h' := g1) rfl ?_
  refine Ev.icmp_ne (tgt := 1163) dL_law_1070 (by decide) (fun b1 => absurd rfl b1) (fun _ => ?_)
  refine Ev.sg hX sL_law_1073 (pc' := 1079) (ls' := [some (.ref (BIG + 300)), some (.ref 0), some (.ref bY), some (.int now), some (.int n), some (.int c), some (.int (nI k)), some (.int (nI w)), some (.ref b)]) (st' := [.int 1, .int 0, .int 2, .int 3, .ref b]) (h' := g1) rfl ?_
  have C2 := c_act3 (a0 := 2) (a1 := 0) (a2 := 1) hX hM (by omega) bz o1 (by omega)
  rw [n7, v7] at C2
  refine Ev.lawV (ex := 4) (As := [.ref b, .int 3, .int 2, .int 0, .int 1]) (rest := []) bz b0 djv p1 dhL_act mkL_30 dL_law_1079 C2 ⟨by decide, by show 6 + 19 + 40 * _ ≤ 40 * _; omega⟩ ⟨by omega, by omega⟩ rfl (Nat.le_of_ble_eq_true rfl) (fun g2 mc2 ms2 a2 c2 o2 p2 m2 k2 => ?_)
  show Ev _ _ _ _ _ _ 1082 [some (.ref (BIG + 300)), some (.ref 0), some (.ref bY), some (.int now), some (.int n), some (.int c), some (.int (nI k)), some (.int (nI w)), some (.ref b)] [.int (-4)] g2
  refine Ev.sg hX sL_law_1082 (pc' := 1084) (ls' := [some (.ref (BIG + 300)), some (.ref 0), some (.ref bY), some (.int now), some (.int n), some (.int c), some (.int (nI k)), some (.int (nI w)), some (.ref b)]) (st' := [.int (-4), .int (-4)]) (h' := g2) rfl ?_
  refine Ev.icmp_ne (tgt := 1163) dL_law_1084 (by decide) (fun b1 => absurd rfl b1) (fun _ => ?_)
  refine Ev.sg hX sL_law_1087 (pc' := 1093) (ls' := [some (.ref (BIG + 300)), some (.ref 0), some (.ref bY), some (.int now), some (.int n), some (.int c), some (.int (nI k)), some (.int (nI w)), some (.ref b)]) (st' := [.int 0, .int 1, .int 1, .int 2, .ref b]) (h' := g2) rfl ?_
  have C3 := c_act2 (a0 := 1) (a1 := 1) (a2 := 0) hX hM (by omega) bz o2 (by omega)
  rw [n8, v8] at C3
  refine Ev.lawV (ex := 4) (As := [.ref b, .int 2, .int 1, .int 1, .int 0]) (rest := []) bz b0 djv p2 dhL_act mkL_30 dL_law_1093 C3 ⟨by decide, by show 6 + 19 + 40 * _ ≤ 40 * _; omega⟩ ⟨by omega, by omega⟩ rfl (Nat.le_of_ble_eq_true rfl) (fun g3 mc3 ms3 a3 c3 o3 p3 m3 k3 => ?_)
  show Ev _ _ _ _ _ _ 1096 [some (.ref (BIG + 300)), some (.ref 0), some (.ref bY), some (.int now), some (.int n), some (.int c), some (.int (nI k)), some (.int (nI w)), some (.ref b)] [.int (-3)] g3
  refine Ev.sg hX sL_law_1096 (pc' := 1098) (ls' := [some (.ref (BIG + 300)), some (.ref 0), some (.ref bY), some (.int now), some (.int n), some (.int c), some (.int (nI k)), some (.int (nI w)), some (.ref b)]) (st' := [.int (-3), .int (-3)]) (h' := g3) rfl ?_
  refine Ev.icmp_ne (tgt := 1163) dL_law_1098 (by decide) (fun b1 => absurd rfl b1) (fun _ => ?_)
  exact kk g3 _ _ s1 p3 o3 ⟨q1.2.2, hsu, dd⟩ (by omega) (by omega) (by omega)
set_option maxHeartbeats 8000000 in
set_option maxRecDepth 100000 in
theorem law_i2 (hX : JXok X) (hM : jM X ≤ 396) (b4 : 396 ≤ b) (hk : k < 4) (djv : DJ 0 395 b v) (ox : OB K 0 395 sx h) (oz : OB Kz b v s h) (hs : ZL (zl11 k) s) (hKz : Kz ≤ 1000) (hN : zN h ≤ 80000) (hm : 2000 ≤ mc ∧ 10000 ≤ ms)
    (kk : ∀ h' mc' ms' s', OB K 0 395 sx h' → OB (Kz + 0) b v s' h' → s' = s → zN h' ≤ zN h + 100 → mc ≤ mc' + 100 → ms ≤ ms' + 1000 → Ev X (jm jdL_law) 17 mc' ms' Q 1135 [some (.ref (BIG + 300)), some (.ref 0), some (.ref bY), some (.int now), some (.int n), some (.int c), some (.int (nI k)), some (.int (nI w)), some (.ref b)] [] h') :
    Ev X (jm jdL_law) 17 mc ms Q 1101 [some (.ref (BIG + 300)), some (.ref 0), some (.ref bY), some (.int now), some (.int n), some (.int c), some (.int (nI k)), some (.int (nI w)), some (.ref b)] [] h := by
  have b0 : (0 : Nat) = 0 ∨ 396 ≤ 0 := Or.inl rfl
  have bz : b = 0 ∨ 396 ≤ b := Or.inr b4
  have hBIG : 500000 < BIG := by decide
  obtain ⟨⟨f4, f5⟩, ⟨f6, f7⟩, f8⟩ := zn11 k hk
  have y0 : s.1 0 = 3 := (hs 0 (by decide) (by decide)).trans (zl_01 k hk).2.2.2.2.2.2.2.2.2.2.2.1
  have y1 : s.1 1 = 2 := (hs 1 (by decide) (by decide)).trans (zl_01 k hk).2.2.2.2.2.2.2.2.2.2.2.2
  have E1 := hs.e6
  have r0 := rk_c (m := 2) (z := 3) (c := 0) E1 (by decide) (by decide)
  have r2 := rk_c (m := 2) (z := 3) (c := 2) E1 (by decide) (by decide)
  have t0 := rkP_c (I := GJ s.1) (J := GJ (LN (zl11 k))) (v := rkF (GJ (LN (zl11 k))) 2 3 0 3 0)
  have t2 := rkP_c (I := GJ s.1) (J := GJ (LN (zl11 k))) (v := rkF (GJ (LN (zl11 k))) 2 3 2 3 0)
  have r6 : (stiM (GJ s.1) (s.1 1) (s.1 0) 2 2 1).2 396 12 = nI 2 := by
    rw [y0, y1]
    exact ((sti_c (m := 2) (z := 3) (a := 2) (b := 2) (c := 1) E1 (by decide) (by decide) (by decide) (by decide)).2.o (by decide)).trans f8
  refine Ev.sg hX sL_law_1101 (pc' := 1104) (ls' := [some (.ref (BIG + 300)), some (.ref 0), some (.ref bY), some (.int now), some (.int n), some (.int c), some (.int (nI k)), some (.int (nI w)), some (.ref b)]) (st' := [.int 0, .ref b]) (h' := h) rfl ?_
  refine Ev.askV (K' := Kz) (mc1 := 4) (ms1 := 24) (As := [.int 0]) (rest := []) (xs := [xNE]) (val := some (.int (0))) (s' := s) hX hM bz b0 djv oz ox (by omega) dvX6_trackAtRank mkL_271 rfl dL_law_1104 (by decide) (by decide) ⟨⟨by omega, by omega⟩, by omega, by omega⟩ rfl (Nat.le_of_ble_eq_true rfl) nr_1 (fun _ => rfl) (by decide) (fun X' T I L D hX' c9 => by
    have q := q_trackAtRank (c := 0) hX' c9 (by omega)
    rw [y1, y0, r0, t0.1, t0.2, f4, f5] at q
    exact q) (fun g1 mc1 ms1 a1 c1 o1 p1 m1 k1 => ?_)
  show Ev _ _ _ _ _ _ 1107 [some (.ref (BIG + 300)), some (.ref 0), some (.ref bY), some (.int now), some (.int n), some (.int c), some (.int (nI k)), some (.int (nI w)), some (.ref b)] [.int (0)] g1
  refine Ev.if_ne (tgt := 1163) dL_law_1107 (by decide) (fun b1 => absurd rfl b1) (fun _ => ?_)
  refine Ev.sg hX sL_law_1110 (pc' := 1113) (ls' := [some (.ref (BIG + 300)), some (.ref 0), some (.ref bY), some (.int now), some (.int n), some (.int c), some (.int (nI k)), some (.int (nI w)), some (.ref b)]) (st' := [.int 2, .ref b]) (h' := g1) rfl ?_
  refine Ev.askV (K' := Kz) (mc1 := 4) (ms1 := 24) (As := [.int 2]) (rest := []) (xs := [xNE]) (val := some (.int (2))) (s' := s) hX hM bz b0 djv o1 p1 (by omega) dvX6_trackAtRank mkL_271 rfl dL_law_1113 (by decide) (by decide) ⟨⟨by omega, by omega⟩, by omega, by omega⟩ rfl (Nat.le_of_ble_eq_true rfl) nr_1 (fun _ => rfl) (by decide) (fun X' T I L D hX' c9 => by
    have q := q_trackAtRank (c := 2) hX' c9 (by omega)
    rw [y1, y0, r2, t2.1, t2.2, f6, f7] at q
    exact q) (fun g2 mc2 ms2 a2 c2 o2 p2 m2 k2 => ?_)
  show Ev _ _ _ _ _ _ 1116 [some (.ref (BIG + 300)), some (.ref 0), some (.ref bY), some (.int now), some (.int n), some (.int c), some (.int (nI k)), some (.int (nI w)), some (.ref b)] [.int (2)] g2
  refine Ev.sg hX sL_law_1116 (pc' := 1117) (ls' := [some (.ref (BIG + 300)), some (.ref 0), some (.ref bY), some (.int now), some (.int n), some (.int c), some (.int (nI k)), some (.int (nI w)), some (.ref b)]) (st' := [.int 2, .int 2]) (h' := g2) rfl ?_
  refine Ev.icmp_ne (tgt := 1163) dL_law_1117 (by decide) (fun b1 => absurd rfl b1) (fun _ => ?_)
  refine Ev.sg hX sL_law_1120 (pc' := 1127) (ls' := [some (.ref (BIG + 300)), some (.ref 0), some (.ref bY), some (.int now), some (.int n), some (.int c), some (.int (nI k)), some (.int (nI w)), some (.ref b)]) (st' := [.int 1, .int 2, .int 2, .int 6, .ref b]) (h' := g2) rfl ?_
  have C3 := c_act6 (a0 := 2) (a1 := 2) (a2 := 1) hX hM (by omega) bz o2 r6
  refine Ev.lawV (ex := 4) (As := [.ref b, .int 6, .int 2, .int 2, .int 1]) (rest := []) bz b0 djv p2 dhL_act mkL_30 dL_law_1127 C3 ⟨by decide, by show 6 + 19 + 40 * _ ≤ 40 * _; omega⟩ ⟨by omega, by omega⟩ rfl (Nat.le_of_ble_eq_true rfl) (fun g3 mc3 ms3 a3 c3 o3 p3 m3 k3 => ?_)
  show Ev _ _ _ _ _ _ 1130 [some (.ref (BIG + 300)), some (.ref 0), some (.ref bY), some (.int now), some (.int n), some (.int c), some (.int (nI k)), some (.int (nI w)), some (.ref b)] [.int (-2)] g3
  refine Ev.sg hX sL_law_1130 (pc' := 1132) (ls' := [some (.ref (BIG + 300)), some (.ref 0), some (.ref bY), some (.int now), some (.int n), some (.int c), some (.int (nI k)), some (.int (nI w)), some (.ref b)]) (st' := [.int (-2), .int (-2)]) (h' := g3) rfl ?_
  refine Ev.icmp_ne (tgt := 1163) dL_law_1132 (by decide) (fun b1 => absurd rfl b1) (fun _ => ?_)
  exact kk g3 _ _ s p3 o3 rfl (by omega) (by omega) (by omega)
set_option maxHeartbeats 8000000 in
set_option maxRecDepth 100000 in
theorem law_i3 (hX : JXok X) (hM : jM X ≤ 396) (b4 : 396 ≤ b) (hk : k < 4) (djv : DJ 0 395 b v) (ox : OB K 0 395 sx h) (oz : OB Kz b v s h) (hsu : ZL (zl10 k) (ub s)) (dd : 1 ≤ s.2.2.1 ∧ s.2.2.1 ≤ 8) (hKz : Kz ≤ 1000) (hN : zN h ≤ 80000) (hm : 2000 ≤ mc ∧ 10000 ≤ ms)
    (kk : ∀ h' mc' ms' s', OB K 0 395 sx h' → OB (Kz + 0) b v s' h' → True → zN h' ≤ zN h + 100 → mc ≤ mc' + 100 → ms ≤ ms' + 1000 → Ev X (jm jdL_law) 17 mc' ms' Q 1165 [some (.ref (BIG + 300)), some (.ref 0), some (.ref bY), some (.int now), some (.int n), some (.int c), some (.int (nI k)), some (.int (nI w)), some (.ref b)] [] h') :
    Ev X (jm jdL_law) 17 mc ms Q 1135 [some (.ref (BIG + 300)), some (.ref 0), some (.ref bY), some (.int now), some (.int n), some (.int c), some (.int (nI k)), some (.int (nI w)), some (.ref b)] [] h := by
  have b0 : (0 : Nat) = 0 ∨ 396 ≤ 0 := Or.inl rfl
  have bz : b = 0 ∨ 396 ≤ b := Or.inr b4
  have hBIG : 500000 < BIG := by decide
  obtain ⟨-, -, ⟨f1, f2⟩, f3⟩ := zn10 k hk
  obtain ⟨u, hu⟩ : ∃ t, t = ub s := ⟨_, rfl⟩
  rw [← hu] at hsu
  have u0 : u.1 0 = 3 := (hsu 0 (by decide) (by decide)).trans (zl_01 k hk).2.2.2.2.2.2.2.2.2.2.1.1
  have u3 : u.1 3 = 3 := (hsu 3 (by decide) (by decide)).trans f3
  have d3 := rl_c (z := 3) (a := 2) (b := 0) hsu.e6 (by decide)
  refine Ev.sg hX sL_law_1135 (pc' := 1137) (ls' := [some (.ref (BIG + 300)), some (.ref 0), some (.ref bY), some (.int now), some (.int n), some (.int c), some (.int (nI k)), some (.int (nI w)), some (.ref b)]) (st' := [.ref b]) (h' := h) rfl ?_
  refine Ev.askV (K' := Kz) (mc1 := 4) (ms1 := 24) (As := []) (rest := []) (xs := [xIS]) (val := some (.int (nI (s.2.2.1 - 1)))) (s' := u) hX hM bz b0 djv oz ox (by omega) dvX6_undo mkL_167 rfl dL_law_1137 (by decide) (by decide) ⟨⟨by omega, by omega⟩, by omega, by omega⟩ rfl (Nat.le_of_ble_eq_true rfl) nr_0 (fun _ => rfl) (by decide) (fun X' T I L D hX' c9 => by
    rw [hu]
    exact q_ub hX' c9 (by omega) (by omega)) (fun g1 mc1 ms1 a1 c1 o1 p1 m1 k1 => ?_)
  show Ev _ _ _ _ _ _ 1140 [some (.ref (BIG + 300)), some (.ref 0), some (.ref bY), some (.int now), some (.int n), some (.int c), some (.int (nI k)), some (.int (nI w)), some (.ref b)] [.int (nI (s.2.2.1 - 1))] g1
  refine Ev.if_lt (tgt := 1163) dL_law_1140 (by decide) (fun b1 => absurd b1 (nI_pos (by omega))) (fun _ => ?_)
  refine Ev.sg hX sL_law_1143 (pc' := 1147) (ls' := [some (.ref (BIG + 300)), some (.ref 0), some (.ref bY), some (.int now), some (.int n), some (.int c), some (.int (nI k)), some (.int (nI w)), some (.ref b)]) (st' := [.int 0, .int 2, .ref b]) (h' := g1) rfl ?_
  refine Ev.askV (K' := Kz) (mc1 := 4) (ms1 := 24) (As := [.int 2, .int 0]) (rest := []) (xs := [xIO, xNE]) (val := some (.int (2))) (s' := u) hX hM bz b0 djv o1 p1 (by omega) dvX6_routeLengthByMatrix mkL_126 rfl dL_law_1147 (by decide) (by decide) ⟨⟨by omega, by omega⟩, by omega, by omega⟩ rfl (Nat.le_of_ble_eq_true rfl) nr_2 (fun _ => rfl) (by decide) (fun X' T I L D hX' c9 => by
    have q := q_routeLengthByMatrix (a := 2) (b := 0) hX' c9 (by omega)
    rw [u0, d3.1, d3.2.1 396 (by decide), f1, f2] at q
    exact q) (fun g2 mc2 ms2 a2 c2 o2 p2 m2 k2 => ?_)
  show Ev _ _ _ _ _ _ 1150 [some (.ref (BIG + 300)), some (.ref 0), some (.ref bY), some (.int now), some (.int n), some (.int c), some (.int (nI k)), some (.int (nI w)), some (.ref b)] [.int (2)] g2
  refine Ev.sg hX sL_law_1150 (pc' := 1151) (ls' := [some (.ref (BIG + 300)), some (.ref 0), some (.ref bY), some (.int now), some (.int n), some (.int c), some (.int (nI k)), some (.int (nI w)), some (.ref b)]) (st' := [.int 2, .int 2]) (h' := g2) rfl ?_
  refine Ev.icmp_ne (tgt := 1163) dL_law_1151 (by decide) (fun b1 => absurd rfl b1) (fun _ => ?_)
  refine Ev.sg hX sL_law_1154 (pc' := 1156) (ls' := [some (.ref (BIG + 300)), some (.ref 0), some (.ref bY), some (.int now), some (.int n), some (.int c), some (.int (nI k)), some (.int (nI w)), some (.ref b)]) (st' := [.ref b]) (h' := g2) rfl ?_
  refine Ev.askV (K' := Kz) (mc1 := 0) (ms1 := 0) (As := []) (rest := []) (xs := []) (val := some (.int (nI 3))) (s' := u) hX hM bz b0 djv o2 p2 (by omega) dvX6_moveCount mkL_85 rfl dL_law_1156 (by decide) (by decide) ⟨⟨by omega, by omega⟩, by omega, by omega⟩ rfl (Nat.le_of_ble_eq_true rfl) nr_0 (fun _ => rfl) (by decide) (fun X' T I L D hX' c9 => by
    have q := q_moveCount hX' c9
    rw [u3] at q
    exact q) (fun g3 mc3 ms3 a3 c3 o3 p3 m3 k3 => ?_)
  show Ev _ _ _ _ _ _ 1159 [some (.ref (BIG + 300)), some (.ref 0), some (.ref bY), some (.int now), some (.int n), some (.int c), some (.int (nI k)), some (.int (nI w)), some (.ref b)] [.int (nI 3)] g3
  refine Ev.sg hX sL_law_1159 (pc' := 1160) (ls' := [some (.ref (BIG + 300)), some (.ref 0), some (.ref bY), some (.int now), some (.int n), some (.int c), some (.int (nI k)), some (.int (nI w)), some (.ref b)]) (st' := [.int 3, .int (nI 3)]) (h' := g3) rfl ?_
  refine Ev.icmp_eq (tgt := 1165) dL_law_1160 (by decide) (fun _ => ?_) (fun b1 => absurd rfl b1)
  exact kk g3 _ _ u p3 o3 trivial (by omega) (by omega) (by omega)
end LWI
