/-! the law's walk: z's repairs, its train -/
section LWF
variable {X : JX} {mc ms : Nat} {Q : JR → Prop} {h : MH} {bY b k w K Kz : Nat} {now c n : Int32} {sx s : GS}
set_option maxHeartbeats 8000000 in
set_option maxRecDepth 100000 in
theorem law_f1 (hX : JXok X) (hM : jM X ≤ 396) (b4 : 396 ≤ b) (hk : k < 4) (ox : OB K 0 395 sx h) (oz : OB Kz b 395 s h) (hs : ZL (zl6 k) s) (h67 : s.1 6 = 0 ∧ s.1 79 = w) (hw : w ≤ 73) (hKz : Kz ≤ 1000) (hN : zN h ≤ 60000) (hm : 2000 ≤ mc ∧ 20000 ≤ ms)
    (kk : ∀ h' mc' ms' s', OB K 0 395 sx h' → OB (Kz + 3) b 395 s' h' → (ZL (zl7 k) s' ∧ s'.1 6 = 0 ∧ s'.1 79 = w) → zN h' ≤ zN h + 100 → mc ≤ mc' + 100 → ms ≤ ms' + 1000 → Ev X (jm jdL_law) 17 mc' ms' Q 911 [some (.ref (BIG + 300)), some (.ref 0), some (.ref bY), some (.int now), some (.int n), some (.int c), some (.int (nI k)), some (.int (nI w)), some (.ref b)] [] h') :
    Ev X (jm jdL_law) 17 mc ms Q 872 [some (.ref (BIG + 300)), some (.ref 0), some (.ref bY), some (.int now), some (.int n), some (.int c), some (.int (nI k)), some (.int (nI w)), some (.ref b)] [] h := by
  have b0 : (0 : Nat) = 0 ∨ 396 ≤ 0 := Or.inl rfl
  have bz : b = 0 ∨ 396 ≤ b := Or.inr b4
  have hBIG : 500000 < BIG := by decide
  have dj : DJ 0 395 b 395 := dj_of (Or.inl (by omega))
  obtain ⟨s7, e7⟩ : ∃ t, t = cmG s 3 0 0 0 0 5 := ⟨_, rfl⟩
  have q7 := z_7 hk hs
  have w7 := z_67 (g := s) (a := 3) (b := 0) (c := 0) (e := 0) (f := 0) (kk := 5) (fun p r q => rep_67 q) q7.2.1 (by decide) (by omega) h67.1 h67.2
  rw [← e7] at q7 w7
  have r5 := z_f5 hk q7.2.2
  have r6 := z_f6 hk q7.2.2
  have v5 : cmV s7 0 7 0 0 0 6 = -5 := (cmV_x (j := 3) (E := xUO) r5 rfl (by decide)).trans (by decide +kernel)
  have v6 : cmV s7 3 0 0 0 0 5 = -3 := (cmV_x (j := 1) (E := xIS) r6 rfl (by decide)).trans (by decide +kernel)
  have n5 : cmG s7 0 7 0 0 0 6 = s7 := cm_no (by rw [r5]; decide)
  have n6 : cmG s7 3 0 0 0 0 5 = s7 := cm_no (by rw [r6]; decide)
  refine Ev.sg hX sL_law_872 (pc' := 875) (ls' := [some (.ref (BIG + 300)), some (.ref 0), some (.ref bY), some (.int now), some (.int n), some (.int c), some (.int (nI k)), some (.int (nI w)), some (.ref b)]) (st' := [.int 3, .ref b]) (h' := h) rfl ?_
  refine Ev.askW (K' := Kz + 1) (mc1 := 4) (ms1 := 24) (As := [.int 3]) (rest := []) (xs := xsK 5) (val := some (.int (nI 1))) (s' := s7) hX hM bz b0 dj oz ox (by omega) dvX6_repair mkL_55 rfl dL_law_875 (by decide) (by decide) ⟨⟨by omega, by omega⟩, by omega, by omega⟩ rfl (Nat.le_of_ble_eq_true rfl) nr_1 (fun _ => rfl) (by decide) (fun X' T I L D hX' c9 => by
    have q := q_repair (a := 3) hX' c9 (by omega) (by omega)
    have v1 := q7.1
    have d1 := q7.2.1
    unfold cmF at v1 d1
    rw [v1, d1] at q
    rw [e7]
    exact q) (fun g1 mc1 ms1 a1 c1 o1 p1 m1 k1 => ?_)
  show Ev _ _ _ _ _ _ 878 [some (.ref (BIG + 300)), some (.ref 0), some (.ref bY), some (.int now), some (.int n), some (.int c), some (.int (nI k)), some (.int (nI w)), some (.ref b)] [.int (nI 1)] g1
  refine Ev.sg hX sL_law_878 (pc' := 879) (ls' := [some (.ref (BIG + 300)), some (.ref 0), some (.ref bY), some (.int now), some (.int n), some (.int c), some (.int (nI k)), some (.int (nI w)), some (.ref b)]) (st' := [.int 1, .int (nI 1)]) (h' := g1) rfl ?_
  refine Ev.icmp_ne (tgt := 1033) dL_law_879 (by decide) (fun b1 => absurd rfl b1) (fun _ => ?_)
  refine Ev.sg hX sL_law_882 (pc' := 889) (ls' := [some (.ref (BIG + 300)), some (.ref 0), some (.ref bY), some (.int now), some (.int n), some (.int c), some (.int (nI k)), some (.int (nI w)), some (.ref b)]) (st' := [.int 0, .int 7, .int 0, .int 5, .ref b]) (h' := g1) rfl ?_
  have C2 := c_act5 (a0 := 0) (a1 := 7) (a2 := 0) hX hM (by omega) bz o1 (by omega)
  rw [n5, v5] at C2
  refine Ev.lawX (ex := 4) (As := [.ref b, .int 5, .int 0, .int 7, .int 0]) (rest := []) bz b0 dj p1 dhL_act mkL_30 dL_law_889 C2 ⟨by decide, by show 6 + 19 + 40 * _ ≤ 40 * _; omega⟩ ⟨by omega, by omega⟩ rfl (Nat.le_of_ble_eq_true rfl) (fun g2 mc2 ms2 a2 c2 o2 p2 m2 k2 => ?_)
  show Ev _ _ _ _ _ _ 892 [some (.ref (BIG + 300)), some (.ref 0), some (.ref bY), some (.int now), some (.int n), some (.int c), some (.int (nI k)), some (.int (nI w)), some (.ref b)] [.int (-5)] g2
  refine Ev.sg hX sL_law_892 (pc' := 894) (ls' := [some (.ref (BIG + 300)), some (.ref 0), some (.ref bY), some (.int now), some (.int n), some (.int c), some (.int (nI k)), some (.int (nI w)), some (.ref b)]) (st' := [.int (-5), .int (-5)]) (h' := g2) rfl ?_
  refine Ev.icmp_ne (tgt := 1033) dL_law_894 (by decide) (fun b1 => absurd rfl b1) (fun _ => ?_)
  refine Ev.sg hX sL_law_897 (pc' := 903) (ls' := [some (.ref (BIG + 300)), some (.ref 0), some (.ref bY), some (.int now), some (.int n), some (.int c), some (.int (nI k)), some (.int (nI w)), some (.ref b)]) (st' := [.int 0, .int 0, .int 3, .int 4, .ref b]) (h' := g2) rfl ?_
  have C3 := c_act4 (a0 := 3) (a1 := 0) (a2 := 0) hX hM (by omega) bz o2 (by omega)
  rw [n6, v6] at C3
  refine Ev.lawX (ex := 4) (As := [.ref b, .int 4, .int 3, .int 0, .int 0]) (rest := []) bz b0 dj p2 dhL_act mkL_30 dL_law_903 C3 ⟨by decide, by show 6 + 19 + 40 * _ ≤ 40 * _; omega⟩ ⟨by omega, by omega⟩ rfl (Nat.le_of_ble_eq_true rfl) (fun g3 mc3 ms3 a3 c3 o3 p3 m3 k3 => ?_)
  show Ev _ _ _ _ _ _ 906 [some (.ref (BIG + 300)), some (.ref 0), some (.ref bY), some (.int now), some (.int n), some (.int c), some (.int (nI k)), some (.int (nI w)), some (.ref b)] [.int (-3)] g3
  refine Ev.sg hX sL_law_906 (pc' := 908) (ls' := [some (.ref (BIG + 300)), some (.ref 0), some (.ref bY), some (.int now), some (.int n), some (.int c), some (.int (nI k)), some (.int (nI w)), some (.ref b)]) (st' := [.int (-3), .int (-3)]) (h' := g3) rfl ?_
  refine Ev.icmp_ne (tgt := 1033) dL_law_908 (by decide) (fun b1 => absurd rfl b1) (fun _ => ?_)
  exact kk g3 _ _ s7 p3 o3 ⟨q7.2.2, w7⟩ (by omega) (by omega) (by omega)
set_option maxHeartbeats 8000000 in
set_option maxRecDepth 100000 in
theorem law_f2 (hX : JXok X) (hM : jM X ≤ 396) (b4 : 396 ≤ b) (hk : k < 4) (ox : OB K 0 395 sx h) (oz : OB Kz b 395 s h) (hs : ZL (zl7 k) s) (h67 : s.1 6 = 0 ∧ s.1 79 = w) (hw : w ≤ 73) (hKz : Kz ≤ 1000) (hN : zN h ≤ 60000) (hm : 2000 ≤ mc ∧ 20000 ≤ ms)
    (kk : ∀ h' mc' ms' s', OB K 0 395 sx h' → OB (Kz + 2) b 395 s' h' → (ZL (zl9 k) s' ∧ s'.1 6 = w + 10) → zN h' ≤ zN h + 100 → mc ≤ mc' + 100 → ms ≤ ms' + 1000 → Ev X (jm jdL_law) 17 mc' ms' Q 932 [some (.ref (BIG + 300)), some (.ref 0), some (.ref bY), some (.int now), some (.int n), some (.int c), some (.int (nI k)), some (.int (nI w)), some (.ref b)] [] h') :
    Ev X (jm jdL_law) 17 mc ms Q 911 [some (.ref (BIG + 300)), some (.ref 0), some (.ref bY), some (.int now), some (.int n), some (.int c), some (.int (nI k)), some (.int (nI w)), some (.ref b)] [] h := by
  have b0 : (0 : Nat) = 0 ∨ 396 ≤ 0 := Or.inl rfl
  have bz : b = 0 ∨ 396 ≤ b := Or.inr b4
  have hBIG : 500000 < BIG := by decide
  have dj : DJ 0 395 b 395 := dj_of (Or.inl (by omega))
  obtain ⟨s8, e8⟩ : ∃ t, t = cmG s 1 0 0 0 0 5 := ⟨_, rfl⟩
  have q8 := z_8 hk hs
  have w8 := z_67 (g := s) (a := 1) (b := 0) (c := 0) (e := 0) (f := 0) (kk := 5) (fun p r q => rep_67 q) q8.2.1 (by decide) (by omega) h67.1 h67.2
  rw [← e8] at q8 w8
  obtain ⟨s9, e9⟩ : ∃ t, t = cmG s8 0 7 0 0 0 6 := ⟨_, rfl⟩
  have q9 := z_9 hk q8.2.2 w8.1 w8.2 hw
  rw [← e9] at q9
  refine Ev.sg hX sL_law_911 (pc' := 914) (ls' := [some (.ref (BIG + 300)), some (.ref 0), some (.ref bY), some (.int now), some (.int n), some (.int c), some (.int (nI k)), some (.int (nI w)), some (.ref b)]) (st' := [.int 1, .ref b]) (h' := h) rfl ?_
  refine Ev.askW (K' := Kz + 1) (mc1 := 4) (ms1 := 24) (As := [.int 1]) (rest := []) (xs := xsK 5) (val := some (.int (nI 0))) (s' := s8) hX hM bz b0 dj oz ox (by omega) dvX6_repair mkL_55 rfl dL_law_914 (by decide) (by decide) ⟨⟨by omega, by omega⟩, by omega, by omega⟩ rfl (Nat.le_of_ble_eq_true rfl) nr_1 (fun _ => rfl) (by decide) (fun X' T I L D hX' c9 => by
    have q := q_repair (a := 1) hX' c9 (by omega) (by omega)
    have v1 := q8.1
    have d1 := q8.2.1
    unfold cmF at v1 d1
    rw [v1, d1] at q
    rw [e8]
    exact q) (fun g1 mc1 ms1 a1 c1 o1 p1 m1 k1 => ?_)
  show Ev _ _ _ _ _ _ 917 [some (.ref (BIG + 300)), some (.ref 0), some (.ref bY), some (.int now), some (.int n), some (.int c), some (.int (nI k)), some (.int (nI w)), some (.ref b)] [.int (nI 0)] g1
  refine Ev.if_ne (tgt := 1033) dL_law_917 (by decide) (fun b1 => absurd rfl b1) (fun _ => ?_)
  refine Ev.sg hX sL_law_920 (pc' := 925) (ls' := [some (.ref (BIG + 300)), some (.ref 0), some (.ref bY), some (.int now), some (.int n), some (.int c), some (.int (nI k)), some (.int (nI w)), some (.ref b)]) (st' := [.int 7, .int 0, .ref b]) (h' := g1) rfl ?_
  refine Ev.askW (K' := Kz + 1 + 1) (mc1 := 4) (ms1 := 24) (As := [.int 0, .int 7]) (rest := []) (xs := xsK 6) (val := some (.int (nI 2))) (s' := s9) hX hM bz b0 dj o1 p1 (by omega) dvX6_depart mkL_59 rfl dL_law_925 (by decide) (by decide) ⟨⟨by omega, by omega⟩, by omega, by omega⟩ rfl (Nat.le_of_ble_eq_true rfl) nr_2 (fun _ => rfl) (by decide) (fun X' T I L D hX' c9 => by
    have q := q_depart (a := 0) (b := 7) hX' c9 (by omega) (by omega)
    have v1 := q9.1
    have d1 := q9.2.1
    unfold cmF at v1 d1
    rw [v1, d1] at q
    rw [e9]
    exact q) (fun g2 mc2 ms2 a2 c2 o2 p2 m2 k2 => ?_)
  show Ev _ _ _ _ _ _ 928 [some (.ref (BIG + 300)), some (.ref 0), some (.ref bY), some (.int now), some (.int n), some (.int c), some (.int (nI k)), some (.int (nI w)), some (.ref b)] [.int (nI 2)] g2
  refine Ev.sg hX sL_law_928 (pc' := 929) (ls' := [some (.ref (BIG + 300)), some (.ref 0), some (.ref bY), some (.int now), some (.int n), some (.int c), some (.int (nI k)), some (.int (nI w)), some (.ref b)]) (st' := [.int 2, .int (nI 2)]) (h' := g2) rfl ?_
  refine Ev.icmp_ne (tgt := 1033) dL_law_929 (by decide) (fun b1 => absurd rfl b1) (fun _ => ?_)
  exact kk g2 _ _ s9 p2 o2 ⟨q9.2.2.1, q9.2.2.2⟩ (by omega) (by omega) (by omega)
set_option maxHeartbeats 8000000 in
set_option maxRecDepth 100000 in
theorem law_f3 (hX : JXok X) (hM : jM X ≤ 396) (b4 : 396 ≤ b) (hk : k < 4) (ox : OB K 0 395 sx h) (oz : OB Kz b 395 s h) (hs : ZL (zl9 k) s) (x6 : s.1 6 = w + 10) (hw : w ≤ 73) (hKz : Kz ≤ 1000) (hN : zN h ≤ 60000) (hm : 2000 ≤ mc ∧ 20000 ≤ ms)
    (kk : ∀ h' mc' ms' s', OB K 0 395 sx h' → OB (Kz + 0) b 395 s' h' → s' = s → zN h' ≤ zN h + 100 → mc ≤ mc' + 100 → ms ≤ ms' + 1000 → Ev X (jm jdL_law) 17 mc' ms' Q 957 [some (.ref (BIG + 300)), some (.ref 0), some (.ref bY), some (.int now), some (.int n), some (.int c), some (.int (nI k)), some (.int (nI w)), some (.ref b)] [] h') :
    Ev X (jm jdL_law) 17 mc ms Q 932 [some (.ref (BIG + 300)), some (.ref 0), some (.ref bY), some (.int now), some (.int n), some (.int c), some (.int (nI k)), some (.int (nI w)), some (.ref b)] [] h := by
  have b0 : (0 : Nat) = 0 ∨ 396 ≤ 0 := Or.inl rfl
  have bz : b = 0 ∨ 396 ≤ b := Or.inr b4
  have hBIG : 500000 < BIG := by decide
  have dj : DJ 0 395 b 395 := dj_of (Or.inl (by omega))
  obtain ⟨-, -, -, ⟨-, f5⟩, -⟩ := zn9 k hk
  have x4 : s.1 4 = 2 := (hs 4 (by decide) (by decide)).trans f5
  have gw := zl_w w (by omega)
  refine Ev.sg hX sL_law_932 (pc' := 934) (ls' := [some (.ref (BIG + 300)), some (.ref 0), some (.ref bY), some (.int now), some (.int n), some (.int c), some (.int (nI k)), some (.int (nI w)), some (.ref b)]) (st' := [.ref b]) (h' := h) rfl ?_
  refine Ev.askW (K' := Kz) (mc1 := 0) (ms1 := 0) (As := []) (rest := []) (xs := []) (val := some (.int (nI 2))) (s' := s) hX hM bz b0 dj oz ox (by omega) dvX6_departedCars mkL_92 rfl dL_law_934 (by decide) (by decide) ⟨⟨by omega, by omega⟩, by omega, by omega⟩ rfl (Nat.le_of_ble_eq_true rfl) nr_0 (fun _ => rfl) (by decide) (fun X' T I L D hX' c9 => by
    have q := q_departedCars hX' c9
    rw [x4] at q
    exact q) (fun g1 mc1 ms1 a1 c1 o1 p1 m1 k1 => ?_)
  show Ev _ _ _ _ _ _ 937 [some (.ref (BIG + 300)), some (.ref 0), some (.ref bY), some (.int now), some (.int n), some (.int c), some (.int (nI k)), some (.int (nI w)), some (.ref b)] [.int (nI 2)] g1
  refine Ev.sg hX sL_law_937 (pc' := 938) (ls' := [some (.ref (BIG + 300)), some (.ref 0), some (.ref bY), some (.int now), some (.int n), some (.int c), some (.int (nI k)), some (.int (nI w)), some (.ref b)]) (st' := [.int 2, .int (nI 2)]) (h' := g1) rfl ?_
  refine Ev.icmp_ne (tgt := 1033) dL_law_938 (by decide) (fun b1 => absurd rfl b1) (fun _ => ?_)
  refine Ev.sg hX sL_law_941 (pc' := 943) (ls' := [some (.ref (BIG + 300)), some (.ref 0), some (.ref bY), some (.int now), some (.int n), some (.int c), some (.int (nI k)), some (.int (nI w)), some (.ref b)]) (st' := [.ref b]) (h' := g1) rfl ?_
  refine Ev.askW (K' := Kz) (mc1 := 0) (ms1 := 0) (As := []) (rest := []) (xs := []) (val := some (.long (lN (w + 10)))) (s' := s) hX hM bz b0 dj o1 p1 (by omega) dvX6_departedWeight mkL_95 rfl dL_law_943 (by decide) (by decide) ⟨⟨by omega, by omega⟩, by omega, by omega⟩ rfl (Nat.le_of_ble_eq_true rfl) nr_0 (fun _ => rfl) (by decide) (fun X' T I L D hX' c9 => by
    have q := q_departedWeight hX' c9
    rw [x6] at q
    exact q) (fun g2 mc2 ms2 a2 c2 o2 p2 m2 k2 => ?_)
  show Ev _ _ _ _ _ _ 946 [some (.ref (BIG + 300)), some (.ref 0), some (.ref bY), some (.int now), some (.int n), some (.int c), some (.int (nI k)), some (.int (nI w)), some (.ref b)] [.long (lN (w + 10))] g2
  refine Ev.sg hX sL_law_946 (pc' := 949) (ls' := [some (.ref (BIG + 300)), some (.ref 0), some (.ref bY), some (.int now), some (.int n), some (.int c), some (.int (nI k)), some (.int (nI w)), some (.ref b)]) (st' := [.long (nI w).toInt64, .long (lN (w + 10))]) (h' := g2) rfl ?_
  refine Ev.ldcJ (v := 10) (bw_of 1415 (by decide +kernel) (by decide +kernel)) dL_law_949 ?_
  show Ev _ _ _ _ _ _ 952 [some (.ref (BIG + 300)), some (.ref 0), some (.ref bY), some (.int now), some (.int n), some (.int c), some (.int (nI k)), some (.int (nI w)), some (.ref b)] [.long 10, .long (nI w).toInt64, .long (lN (w + 10))] g2
  refine Ev.sg hX sL_law_952 (pc' := 954) (ls' := [some (.ref (BIG + 300)), some (.ref 0), some (.ref bY), some (.int now), some (.int n), some (.int c), some (.int (nI k)), some (.int (nI w)), some (.ref b)]) (st' := [.int (lg_cmp (lN (w + 10)) ((nI w).toInt64 + 10))]) (h' := g2) rfl ?_
  rw [gw]
  refine Ev.if_ne (tgt := 1033) dL_law_954 (by decide) (fun b1 => absurd rfl b1) (fun _ => ?_)
  exact kk g2 _ _ s p2 o2 rfl (by omega) (by omega) (by omega)
end LWF
