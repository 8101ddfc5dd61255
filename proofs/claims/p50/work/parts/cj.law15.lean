/-! the law's walk: z behind its train, its last car -/
section LWG
variable {X : JX} {mc ms : Nat} {Q : JR → Prop} {h : MH} {bY b k w K Kz : Nat} {now c n : Int32} {sx s : GS}
set_option maxHeartbeats 8000000 in
set_option maxRecDepth 100000 in
theorem law_g1 (hX : JXok X) (hM : jM X ≤ 396) (b4 : 396 ≤ b) (hk : k < 4) (ox : OB K 0 395 sx h) (oz : OB Kz b 395 s h) (hs : ZL (zl9 k) s) (hKz : Kz ≤ 1000) (hN : zN h ≤ 60000) (hm : 2000 ≤ mc ∧ 20000 ≤ ms)
    (kk : ∀ h' mc' ms' s', OB K 0 395 sx h' → OB (Kz + 0) b 395 s' h' → s' = s → zN h' ≤ zN h + 100 → mc ≤ mc' + 100 → ms ≤ ms' + 1000 → Ev X (jm jdL_law) 17 mc' ms' Q 984 [some (.ref (BIG + 300)), some (.ref 0), some (.ref bY), some (.int now), some (.int n), some (.int c), some (.int (nI k)), some (.int (nI w)), some (.ref b)] [] h') :
    Ev X (jm jdL_law) 17 mc ms Q 957 [some (.ref (BIG + 300)), some (.ref 0), some (.ref bY), some (.int now), some (.int n), some (.int c), some (.int (nI k)), some (.int (nI w)), some (.ref b)] [] h := by
  have b0 : (0 : Nat) = 0 ∨ 396 ≤ 0 := Or.inl rfl
  have bz : b = 0 ∨ 396 ≤ b := Or.inr b4
  have hBIG : 500000 < BIG := by decide
  have dj : DJ 0 395 b 395 := dj_of (Or.inl (by omega))
  obtain ⟨f1, f2, -⟩ := zn9 k hk
  have E := hs.e6
  have z1 : s.1 1 = 1 := (hs 1 (by decide) (by decide)).trans (zl_01 k hk).2.2.2.2.2.2.2.2.2.1.2
  have d1 := slO_c (c := 1) E (show 1 ≤ 20 by decide)
  have d2 := slO_c (c := 2) E (show 1 ≤ 20 by decide)
  refine Ev.sg hX sL_law_957 (pc' := 959) (ls' := [some (.ref (BIG + 300)), some (.ref 0), some (.ref bY), some (.int now), some (.int n), some (.int c), some (.int (nI k)), some (.int (nI w)), some (.ref b)]) (st' := [.ref b]) (h' := h) rfl ?_
  refine Ev.askW (K' := Kz) (mc1 := 0) (ms1 := 0) (As := []) (rest := []) (xs := []) (val := some (.int (nI 1))) (s' := s) hX hM bz b0 dj oz ox (by omega) dvX6_carCount mkL_210 rfl dL_law_959 (by decide) (by decide) ⟨⟨by omega, by omega⟩, by omega, by omega⟩ rfl (Nat.le_of_ble_eq_true rfl) nr_0 (fun _ => rfl) (by decide) (fun X' T I L D hX' c9 => by
    have q := q_carCount hX' c9
    rw [z1] at q
    exact q) (fun g1 mc1 ms1 a1 c1 o1 p1 m1 k1 => ?_)
  show Ev _ _ _ _ _ _ 962 [some (.ref (BIG + 300)), some (.ref 0), some (.ref bY), some (.int now), some (.int n), some (.int c), some (.int (nI k)), some (.int (nI w)), some (.ref b)] [.int (nI 1)] g1
  refine Ev.sg hX sL_law_962 (pc' := 963) (ls' := [some (.ref (BIG + 300)), some (.ref 0), some (.ref bY), some (.int now), some (.int n), some (.int c), some (.int (nI k)), some (.int (nI w)), some (.ref b)]) (st' := [.int 1, .int (nI 1)]) (h' := g1) rfl ?_
  refine Ev.icmp_ne (tgt := 1033) dL_law_963 (by decide) (fun b1 => absurd rfl b1) (fun _ => ?_)
  refine Ev.sg hX sL_law_966 (pc' := 969) (ls' := [some (.ref (BIG + 300)), some (.ref 0), some (.ref bY), some (.int now), some (.int n), some (.int c), some (.int (nI k)), some (.int (nI w)), some (.ref b)]) (st' := [.int 1, .ref b]) (h' := g1) rfl ?_
  refine Ev.askW (K' := Kz) (mc1 := 0) (ms1 := 0) (As := [.int 1]) (rest := []) (xs := []) (val := some (.int (0))) (s' := s) hX hM bz b0 dj o1 p1 (by omega) dvX6_isInYard mkL_213 rfl dL_law_969 (by decide) (by decide) ⟨⟨by omega, by omega⟩, by omega, by omega⟩ rfl (Nat.le_of_ble_eq_true rfl) nr_1 (fun _ => rfl) (by decide) (fun X' T I L D hX' c9 => by
    have q := q_isInYard (c := 1) hX' c9
    have t0 : (0 : Int32).toNatClampNeg = 0 := rfl
    have t2 : (2 : Int32).toNatClampNeg = 2 := rfl
    rw [z1, d1, f1] at q
    exact q) (fun g2 mc2 ms2 a2 c2 o2 p2 m2 k2 => ?_)
  show Ev _ _ _ _ _ _ 972 [some (.ref (BIG + 300)), some (.ref 0), some (.ref bY), some (.int now), some (.int n), some (.int c), some (.int (nI k)), some (.int (nI w)), some (.ref b)] [.int (0)] g2
  refine Ev.if_ne (tgt := 1033) dL_law_972 (by decide) (fun b1 => absurd rfl b1) (fun _ => ?_)
  refine Ev.sg hX sL_law_975 (pc' := 978) (ls' := [some (.ref (BIG + 300)), some (.ref 0), some (.ref bY), some (.int now), some (.int n), some (.int c), some (.int (nI k)), some (.int (nI w)), some (.ref b)]) (st' := [.int 2, .ref b]) (h' := g2) rfl ?_
  refine Ev.askW (K' := Kz) (mc1 := 0) (ms1 := 0) (As := [.int 2]) (rest := []) (xs := []) (val := some (.int (1))) (s' := s) hX hM bz b0 dj o2 p2 (by omega) dvX6_isInYard mkL_213 rfl dL_law_978 (by decide) (by decide) ⟨⟨by omega, by omega⟩, by omega, by omega⟩ rfl (Nat.le_of_ble_eq_true rfl) nr_1 (fun _ => rfl) (by decide) (fun X' T I L D hX' c9 => by
    have q := q_isInYard (c := 2) hX' c9
    have t0 : (0 : Int32).toNatClampNeg = 0 := rfl
    have t2 : (2 : Int32).toNatClampNeg = 2 := rfl
    rw [z1, d2, f2] at q
    exact q) (fun g3 mc3 ms3 a3 c3 o3 p3 m3 k3 => ?_)
  show Ev _ _ _ _ _ _ 981 [some (.ref (BIG + 300)), some (.ref 0), some (.ref bY), some (.int now), some (.int n), some (.int c), some (.int (nI k)), some (.int (nI w)), some (.ref b)] [.int (1)] g3
  refine Ev.if_eq (tgt := 1033) dL_law_981 (by decide) (fun b1 => absurd b1 (by decide)) (fun _ => ?_)
  exact kk g3 _ _ s p3 o3 rfl (by omega) (by omega) (by omega)
set_option maxHeartbeats 8000000 in
set_option maxRecDepth 100000 in
theorem law_g2 (hX : JXok X) (hM : jM X ≤ 396) (b4 : 396 ≤ b) (hk : k < 4) (ox : OB K 0 395 sx h) (oz : OB Kz b 395 s h) (hs : ZL (zl9 k) s) (hKz : Kz ≤ 1000) (hN : zN h ≤ 60000) (hm : 2000 ≤ mc ∧ 20000 ≤ ms)
    (kk : ∀ h' mc' ms' s', OB K 0 395 sx h' → OB (Kz + 0) b 395 s' h' → s' = s → zN h' ≤ zN h + 100 → mc ≤ mc' + 100 → ms ≤ ms' + 1000 → Ev X (jm jdL_law) 17 mc' ms' Q 1004 [some (.ref (BIG + 300)), some (.ref 0), some (.ref bY), some (.int now), some (.int n), some (.int c), some (.int (nI k)), some (.int (nI w)), some (.ref b)] [] h') :
    Ev X (jm jdL_law) 17 mc ms Q 984 [some (.ref (BIG + 300)), some (.ref 0), some (.ref bY), some (.int now), some (.int n), some (.int c), some (.int (nI k)), some (.int (nI w)), some (.ref b)] [] h := by
  have b0 : (0 : Nat) = 0 ∨ 396 ≤ 0 := Or.inl rfl
  have bz : b = 0 ∨ 396 ≤ b := Or.inr b4
  have hBIG : 500000 < BIG := by decide
  have dj : DJ 0 395 b 395 := dj_of (Or.inl (by omega))
  obtain ⟨-, -, ⟨f3, f4⟩, ⟨f5, -⟩, -⟩ := zn9 k hk
  have E := hs.e6
  have z1 : s.1 1 = 1 := (hs 1 (by decide) (by decide)).trans (zl_01 k hk).2.2.2.2.2.2.2.2.2.1.2
  have z39 : GJ s.1 397 39 = 2 := congrArg nI ((hs 39 (by decide) (by decide)).trans f5)
  have d3 := cf_c (c := 7) E (show 1 ≤ 20 by decide)
  have d4 := cr_1 (I := GJ s.1)
  refine Ev.sg hX sL_law_984 (pc' := 988) (ls' := [some (.ref (BIG + 300)), some (.ref 0), some (.ref bY), some (.int now), some (.int n), some (.int c), some (.int (nI k)), some (.int (nI w)), some (.ref b)]) (st' := [.int 7, .ref b]) (h' := h) rfl ?_
  refine Ev.askW (K' := Kz) (mc1 := 4) (ms1 := 24) (As := [.int 7]) (rest := []) (xs := [xIA]) (val := some (.int (0))) (s' := s) hX hM bz b0 dj oz ox (by omega) dvX6_carsFor mkL_251 rfl dL_law_988 (by decide) (by decide) ⟨⟨by omega, by omega⟩, by omega, by omega⟩ rfl (Nat.le_of_ble_eq_true rfl) nr_1 (fun _ => rfl) (by decide) (fun X' T I L D hX' c9 => by
    have q := q_carsFor (c := 7) hX' c9 (by omega)
    have t0 : (0 : Int32).toNatClampNeg = 0 := rfl
    have t2 : (2 : Int32).toNatClampNeg = 2 := rfl
    rw [z1, d3.1, d3.2, f3, f4] at q
    exact q) (fun g1 mc1 ms1 a1 c1 o1 p1 m1 k1 => ?_)
  show Ev _ _ _ _ _ _ 991 [some (.ref (BIG + 300)), some (.ref 0), some (.ref bY), some (.int now), some (.int n), some (.int c), some (.int (nI k)), some (.int (nI w)), some (.ref b)] [.int (0)] g1
  refine Ev.if_ne (tgt := 1033) dL_law_991 (by decide) (fun b1 => absurd rfl b1) (fun _ => ?_)
  refine Ev.sg hX sL_law_994 (pc' := 997) (ls' := [some (.ref (BIG + 300)), some (.ref 0), some (.ref bY), some (.int now), some (.int n), some (.int c), some (.int (nI k)), some (.int (nI w)), some (.ref b)]) (st' := [.int 0, .ref b]) (h' := g1) rfl ?_
  refine Ev.askW (K' := Kz) (mc1 := 4) (ms1 := 24) (As := [.int 0]) (rest := []) (xs := [xNE]) (val := some (.int (2))) (s' := s) hX hM bz b0 dj o1 p1 (by omega) dvX6_carAtRank mkL_254 rfl dL_law_997 (by decide) (by decide) ⟨⟨by omega, by omega⟩, by omega, by omega⟩ rfl (Nat.le_of_ble_eq_true rfl) nr_1 (fun _ => rfl) (by decide) (fun X' T I L D hX' c9 => by
    have q := q_carAtRank (c := 0) hX' c9 (by omega)
    have t0 : (0 : Int32).toNatClampNeg = 0 := rfl
    have t2 : (2 : Int32).toNatClampNeg = 2 := rfl
    rw [z1, d4.1, d4.2, z39] at q
    exact q) (fun g2 mc2 ms2 a2 c2 o2 p2 m2 k2 => ?_)
  show Ev _ _ _ _ _ _ 1000 [some (.ref (BIG + 300)), some (.ref 0), some (.ref bY), some (.int now), some (.int n), some (.int c), some (.int (nI k)), some (.int (nI w)), some (.ref b)] [.int (2)] g2
  refine Ev.sg hX sL_law_1000 (pc' := 1001) (ls' := [some (.ref (BIG + 300)), some (.ref 0), some (.ref bY), some (.int now), some (.int n), some (.int c), some (.int (nI k)), some (.int (nI w)), some (.ref b)]) (st' := [.int 2, .int 2]) (h' := g2) rfl ?_
  refine Ev.icmp_ne (tgt := 1033) dL_law_1001 (by decide) (fun b1 => absurd rfl b1) (fun _ => ?_)
  exact kk g2 _ _ s p2 o2 rfl (by omega) (by omega) (by omega)
set_option maxHeartbeats 8000000 in
set_option maxRecDepth 100000 in
theorem law_g3 (hX : JXok X) (hM : jM X ≤ 396) (b4 : 396 ≤ b) (hk : k < 4) (ox : OB K 0 395 sx h) (oz : OB Kz b 395 s h) (hs : ZL (zl9 k) s) (hKz : Kz ≤ 1000) (hN : zN h ≤ 60000) (hm : 2000 ≤ mc ∧ 20000 ≤ ms)
    (kk : ∀ h' mc' ms' s', OB K 0 395 sx h' → OB (Kz + 1) b 395 s' h' → ZL (zl10 k) s' → zN h' ≤ zN h + 100 → mc ≤ mc' + 100 → ms ≤ ms' + 1000 → Ev X (jm jdL_law) 17 mc' ms' Q 1035 [some (.ref (BIG + 300)), some (.ref 0), some (.ref bY), some (.int now), some (.int n), some (.int c), some (.int (nI k)), some (.int (nI w)), some (.ref b)] [] h') :
    Ev X (jm jdL_law) 17 mc ms Q 1004 [some (.ref (BIG + 300)), some (.ref 0), some (.ref bY), some (.int now), some (.int n), some (.int c), some (.int (nI k)), some (.int (nI w)), some (.ref b)] [] h := by
  have b0 : (0 : Nat) = 0 ∨ 396 ≤ 0 := Or.inl rfl
  have bz : b = 0 ∨ 396 ≤ b := Or.inr b4
  have hBIG : 500000 < BIG := by decide
  have dj : DJ 0 395 b 395 := dj_of (Or.inl (by omega))
  obtain ⟨-, -, -, -, ⟨f6, f7, f8⟩, f9, f10⟩ := zn9 k hk
  obtain ⟨r1, r2⟩ := zf_u
  have z0 : s.1 0 = 3 := (hs 0 (by decide) (by decide)).trans (zl_01 k hk).2.2.2.2.2.2.2.2.2.1.1
  have z1 : s.1 1 = 1 := (hs 1 (by decide) (by decide)).trans (zl_01 k hk).2.2.2.2.2.2.2.2.2.1.2
  have z7 : s.1 7 = 60 := (hs 7 (by decide) (by decide)).trans f6
  have z8 : s.1 8 = 40 := (hs 8 (by decide) (by decide)).trans f7
  have z9 : s.1 9 = 50 := (hs 9 (by decide) (by decide)).trans f8
  have z139 : s.1 139 = 2 := (hs 139 (by decide) (by decide)).trans f9
  have z59 : s.1 59 = 20 := (hs 59 (by decide) (by decide)).trans f10
  have u1 : sN (fun t => s.1 (7 + t)) (s.1 0) = 150 := by
    rw [z0]
    show 0 + s.1 7 + s.1 8 + s.1 9 = 150
    rw [z7, z8, z9]
  have us : ∀ t, usN s.1 t = if 2 = t then 20 else 0 := fun t => by
    unfold usN
    rw [z1]
    show 0 + (if s.1 139 = t then s.1 59 else 0) = _
    rw [z139, z59, Nat.zero_add]
  have u2 : sN (fun t => usN s.1 t) (s.1 0) = 20 := by
    rw [z0]
    show 0 + usN s.1 0 + usN s.1 1 + usN s.1 2 = 20
    rw [us, us, us]
    rfl
  obtain ⟨uu, huu⟩ : ∃ x, x = FP.fdiv (FP.i2f (nI 20)) (FP.i2f (nI 150)) := ⟨_, rfl⟩
  obtain ⟨cc, hcc⟩ : ∃ x : UInt32, x = 1040746633 := ⟨_, rfl⟩
  have hw : Cond.constantFloat "ClassificationYardLaw" 261 cc ∈ BW := by
    rw [hcc]
    exact bw_of 1416 (by decide +kernel) (by decide +kernel)
  rw [← huu] at r1 r2
  rw [← hcc] at r2
  obtain ⟨s1, e1⟩ : ∃ t, t = cmG s 2 30 10 9 0 3 := ⟨_, rfl⟩
  have q1 := z_10 hk hs
  have v1 := cmV_0 ⟨q1.1, q1.2.1⟩
  rw [← e1] at q1
  refine Ev.sg hX sL_law_1004 (pc' := 1006) (ls' := [some (.ref (BIG + 300)), some (.ref 0), some (.ref bY), some (.int now), some (.int n), some (.int c), some (.int (nI k)), some (.int (nI w)), some (.ref b)]) (st' := [.ref b]) (h' := h) rfl ?_
  refine Ev.askW (K' := Kz) (mc1 := 4) (ms1 := 24) (As := []) (rest := []) (xs := [xAE]) (val := some (.float (uu))) (s' := s) hX hM bz b0 dj oz ox (by omega) dvX6_usedShare mkL_257 rfl dL_law_1006 (by decide) (by decide) ⟨⟨by omega, by omega⟩, by omega, by omega⟩ rfl (Nat.le_of_ble_eq_true rfl) nr_0 (fun _ => rfl) (by decide) (fun X' T I L D hX' c9 => by
    have q := q_usedShare hX' c9 (by omega) (by rw [u1]; decide) (by rw [u1, u2, ← huu]; exact r1)
    rw [u1, u2, ← huu] at q
    exact q) (fun g1 mc1 ms1 a1 c1 o1 p1 m1 k1 => ?_)
  show Ev _ _ _ _ _ _ 1009 [some (.ref (BIG + 300)), some (.ref 0), some (.ref bY), some (.int now), some (.int n), some (.int c), some (.int (nI k)), some (.int (nI w)), some (.ref b)] [.float (uu)] g1
  refine Ev.ldcFW (v := cc) hw dL_law_1009 ?_
  show Ev _ _ _ _ _ _ 1012 [some (.ref (BIG + 300)), some (.ref 0), some (.ref bY), some (.int now), some (.int n), some (.int c), some (.int (nI k)), some (.int (nI w)), some (.ref b)] [.float cc, .float uu] g1
  refine Ev.sg hX sL_law_1012 (pc' := 1013) (ls' := [some (.ref (BIG + 300)), some (.ref 0), some (.ref bY), some (.int now), some (.int n), some (.int c), some (.int (nI k)), some (.int (nI w)), some (.ref b)]) (st' := [.int (Op.cmpValue (FP.fcmp uu cc) .l)]) (h' := g1) rfl ?_
  rw [r2]
  refine Ev.if_ne (tgt := 1033) dL_law_1013 (by decide) (fun b1 => absurd rfl b1) (fun _ => ?_)
  refine Ev.sg hX sL_law_1016 (pc' := 1026) (ls' := [some (.ref (BIG + 300)), some (.ref 0), some (.ref bY), some (.int now), some (.int n), some (.int c), some (.int (nI k)), some (.int (nI w)), some (.ref b)]) (st' := [.int 0, .int 9, .int 10, .int 30, .int 2, .ref b]) (h' := g1) rfl ?_
  have C2 := c_car (a0 := 2) (a1 := 30) (a2 := 10) (a3 := 9) (f := 0) hX hM (by omega) bz o1 (by omega) (Or.inl rfl)
  rw [← e1, v1] at C2
  refine Ev.lawX (ex := 4) (As := [.ref b, .int 2, .int 30, .int 10, .int 9, .int 0]) (rest := []) bz b0 dj p1 dhL_car mkL_37 dL_law_1026 C2 ⟨by decide, by show 7 + 19 + 40 * _ ≤ 40 * _; omega⟩ ⟨by omega, by omega⟩ rfl (Nat.le_of_ble_eq_true rfl) (fun g2 mc2 ms2 a2 c2 o2 p2 m2 k2 => ?_)
  show Ev _ _ _ _ _ _ 1029 [some (.ref (BIG + 300)), some (.ref 0), some (.ref bY), some (.int now), some (.int n), some (.int c), some (.int (nI k)), some (.int (nI w)), some (.ref b)] [.int (nI 4)] g2
  refine Ev.sg hX sL_law_1029 (pc' := 1030) (ls' := [some (.ref (BIG + 300)), some (.ref 0), some (.ref bY), some (.int now), some (.int n), some (.int c), some (.int (nI k)), some (.int (nI w)), some (.ref b)]) (st' := [.int 4, .int (nI 4)]) (h' := g2) rfl ?_
  refine Ev.icmp_eq (tgt := 1035) dL_law_1030 (by decide) (fun _ => ?_) (fun b1 => absurd rfl b1)
  exact kk g2 _ _ s1 p2 o2 q1.2.2 (by omega) (by omega) (by omega)
end LWG
