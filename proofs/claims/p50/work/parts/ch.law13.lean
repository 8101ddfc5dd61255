/-! the law's walk: z's next shunts, its mean time -/
section LWE
variable {X : JX} {mc ms : Nat} {Q : JR → Prop} {h : MH} {bY b k w K Kz : Nat} {now c n : Int32} {sx s : GS}
set_option maxHeartbeats 8000000 in
set_option maxRecDepth 100000 in
theorem law_e1 (hX : JXok X) (hM : jM X ≤ 396) (b4 : 396 ≤ b) (hk : k < 4) (ox : OB K 0 395 sx h) (oz : OB Kz b 395 s h) (hs : ZL (zl4 k) s) (h67 : s.1 6 = 0 ∧ s.1 79 = w) (hw : w ≤ 73) (hKz : Kz ≤ 1000) (hN : zN h ≤ 60000) (hm : 2000 ≤ mc ∧ 20000 ≤ ms)
    (kk : ∀ h' mc' ms' s', OB K 0 395 sx h' → OB (Kz + 2) b 395 s' h' → (ZL (zl6 k) s' ∧ s'.1 6 = 0 ∧ s'.1 79 = w) → zN h' ≤ zN h + 100 → mc ≤ mc' + 100 → ms ≤ ms' + 1000 → Ev X (jm jdL_law) 17 mc' ms' Q 822 [some (.ref (BIG + 300)), some (.ref 0), some (.ref bY), some (.int now), some (.int n), some (.int c), some (.int (nI k)), some (.int (nI w)), some (.ref b)] [] h') :
    Ev X (jm jdL_law) 17 mc ms Q 787 [some (.ref (BIG + 300)), some (.ref 0), some (.ref bY), some (.int now), some (.int n), some (.int c), some (.int (nI k)), some (.int (nI w)), some (.ref b)] [] h := by
  have b0 : (0 : Nat) = 0 ∨ 396 ≤ 0 := Or.inl rfl
  have bz : b = 0 ∨ 396 ≤ b := Or.inr b4
  have hBIG : 500000 < BIG := by decide
  have dj : DJ 0 395 b 395 := dj_of (Or.inl (by omega))
  obtain ⟨f1, f2⟩ := zn5 k hk
  obtain ⟨s5, e5⟩ : ∃ t, t = cmG s 1 2 1 0 0 4 := ⟨_, rfl⟩
  have q5 := z_5 hk hs
  have w5 := z_67 (g := s) (a := 1) (b := 2) (c := 1) (e := 0) (f := 0) (kk := 4) (fun p r q => shu_67 (by decide) (by decide) q) q5.2.1 (by decide) (by omega) h67.1 h67.2
  rw [← e5] at q5 w5
  have E5 := q5.2.2.e6
  have y1 : s5.1 1 = 3 := (q5.2.2 1 (by decide) (by decide)).trans (zl_01 k hk).2.2.2.2.2.1.2
  have d1 := carAt_c (m := 3) (t := 2) (c := 0) E5 (by decide) (by decide)
  obtain ⟨s6, e6⟩ : ∃ t, t = cmG s5 1 0 1 0 0 4 := ⟨_, rfl⟩
  have q6 := z_6 hk q5.2.2
  have w6 := z_67 (g := s5) (a := 1) (b := 0) (c := 1) (e := 0) (f := 0) (kk := 4) (fun p r q => shu_67 (by decide) (by decide) q) q6.2.1 (by decide) (by omega) w5.1 w5.2
  rw [← e6] at q6 w6
  refine Ev.sg hX sL_law_787 (pc' := 792) (ls' := [some (.ref (BIG + 300)), some (.ref 0), some (.ref bY), some (.int now), some (.int n), some (.int c), some (.int (nI k)), some (.int (nI w)), some (.ref b)]) (st' := [.int 1, .int 2, .int 1, .ref b]) (h' := h) rfl ?_
  refine Ev.askW (K' := Kz + 1) (mc1 := 4) (ms1 := 24) (As := [.int 1, .int 2, .int 1]) (rest := []) (xs := xsK 4) (val := some (.int (nI 3))) (s' := s5) hX hM bz b0 dj oz ox (by omega) dvX6_shunt mkL_51 rfl dL_law_792 (by decide) (by decide) ⟨⟨by omega, by omega⟩, by omega, by omega⟩ rfl (Nat.le_of_ble_eq_true rfl) nr_3 (fun _ => rfl) (by decide) (fun X' T I L D hX' c9 => by
    have q := q_shunt (a := 1) (b := 2) (c := 1) hX' c9 (by omega) (by omega)
    have v1 := q5.1
    have d1 := q5.2.1
    unfold cmF at v1 d1
    rw [v1, d1] at q
    rw [e5]
    exact q) (fun g1 mc1 ms1 a1 c1 o1 p1 m1 k1 => ?_)
  show Ev _ _ _ _ _ _ 795 [some (.ref (BIG + 300)), some (.ref 0), some (.ref bY), some (.int now), some (.int n), some (.int c), some (.int (nI k)), some (.int (nI w)), some (.ref b)] [.int (nI 3)] g1
  refine Ev.sg hX sL_law_795 (pc' := 796) (ls' := [some (.ref (BIG + 300)), some (.ref 0), some (.ref bY), some (.int now), some (.int n), some (.int c), some (.int (nI k)), some (.int (nI w)), some (.ref b)]) (st' := [.int 3, .int (nI 3)]) (h' := g1) rfl ?_
  refine Ev.icmp_ne (tgt := 870) dL_law_796 (by decide) (fun b1 => absurd rfl b1) (fun _ => ?_)
  refine Ev.sg hX sL_law_799 (pc' := 803) (ls' := [some (.ref (BIG + 300)), some (.ref 0), some (.ref bY), some (.int now), some (.int n), some (.int c), some (.int (nI k)), some (.int (nI w)), some (.ref b)]) (st' := [.int 0, .int 2, .ref b]) (h' := g1) rfl ?_
  refine Ev.askW (K' := Kz + 1) (mc1 := 4) (ms1 := 24) (As := [.int 2, .int 0]) (rest := []) (xs := [xIO, xNE]) (val := some (.int (2))) (s' := s5) hX hM bz b0 dj o1 p1 (by omega) dvX6_carAt mkL_82 rfl dL_law_803 (by decide) (by decide) ⟨⟨by omega, by omega⟩, by omega, by omega⟩ rfl (Nat.le_of_ble_eq_true rfl) nr_2 (fun _ => rfl) (by decide) (fun X' T I L D hX' c9 => by
    have q := q_carAt (t := 2) (c := 0) hX' c9 (by omega)
    have t0 : (0 : Int32).toNatClampNeg = 0 := rfl
    have t2 : (2 : Int32).toNatClampNeg = 2 := rfl
    rw [y1, d1.1, d1.2, f1, f2] at q
    exact q) (fun g2 mc2 ms2 a2 c2 o2 p2 m2 k2 => ?_)
  show Ev _ _ _ _ _ _ 806 [some (.ref (BIG + 300)), some (.ref 0), some (.ref bY), some (.int now), some (.int n), some (.int c), some (.int (nI k)), some (.int (nI w)), some (.ref b)] [.int (2)] g2
  refine Ev.sg hX sL_law_806 (pc' := 807) (ls' := [some (.ref (BIG + 300)), some (.ref 0), some (.ref bY), some (.int now), some (.int n), some (.int c), some (.int (nI k)), some (.int (nI w)), some (.ref b)]) (st' := [.int 2, .int 2]) (h' := g2) rfl ?_
  refine Ev.icmp_ne (tgt := 870) dL_law_807 (by decide) (fun b1 => absurd rfl b1) (fun _ => ?_)
  refine Ev.sg hX sL_law_810 (pc' := 815) (ls' := [some (.ref (BIG + 300)), some (.ref 0), some (.ref bY), some (.int now), some (.int n), some (.int c), some (.int (nI k)), some (.int (nI w)), some (.ref b)]) (st' := [.int 1, .int 0, .int 1, .ref b]) (h' := g2) rfl ?_
  refine Ev.askW (K' := Kz + 1 + 1) (mc1 := 4) (ms1 := 24) (As := [.int 1, .int 0, .int 1]) (rest := []) (xs := xsK 4) (val := some (.int (nI 4))) (s' := s6) hX hM bz b0 dj o2 p2 (by omega) dvX6_shunt mkL_51 rfl dL_law_815 (by decide) (by decide) ⟨⟨by omega, by omega⟩, by omega, by omega⟩ rfl (Nat.le_of_ble_eq_true rfl) nr_3 (fun _ => rfl) (by decide) (fun X' T I L D hX' c9 => by
    have q := q_shunt (a := 1) (b := 0) (c := 1) hX' c9 (by omega) (by omega)
    have v1 := q6.1
    have d1 := q6.2.1
    unfold cmF at v1 d1
    rw [v1, d1] at q
    rw [e6]
    exact q) (fun g3 mc3 ms3 a3 c3 o3 p3 m3 k3 => ?_)
  show Ev _ _ _ _ _ _ 818 [some (.ref (BIG + 300)), some (.ref 0), some (.ref bY), some (.int now), some (.int n), some (.int c), some (.int (nI k)), some (.int (nI w)), some (.ref b)] [.int (nI 4)] g3
  refine Ev.sg hX sL_law_818 (pc' := 819) (ls' := [some (.ref (BIG + 300)), some (.ref 0), some (.ref bY), some (.int now), some (.int n), some (.int c), some (.int (nI k)), some (.int (nI w)), some (.ref b)]) (st' := [.int 4, .int (nI 4)]) (h' := g3) rfl ?_
  refine Ev.icmp_ne (tgt := 870) dL_law_819 (by decide) (fun b1 => absurd rfl b1) (fun _ => ?_)
  exact kk g3 _ _ s6 p3 o3 ⟨q6.2.2, w6⟩ (by omega) (by omega) (by omega)
set_option maxHeartbeats 8000000 in
set_option maxRecDepth 100000 in
theorem law_e2 (hX : JXok X) (hM : jM X ≤ 396) (b4 : 396 ≤ b) (hk : k < 4) (ox : OB K 0 395 sx h) (oz : OB Kz b 395 s h) (hs : ZL (zl6 k) s) (hKz : Kz ≤ 1000) (hN : zN h ≤ 60000) (hm : 2000 ≤ mc ∧ 20000 ≤ ms)
    (kk : ∀ h' mc' ms' s', OB K 0 395 sx h' → OB (Kz + 0) b 395 s' h' → s' = s → zN h' ≤ zN h + 100 → mc ≤ mc' + 100 → ms ≤ ms' + 1000 → Ev X (jm jdL_law) 17 mc' ms' Q 851 [some (.ref (BIG + 300)), some (.ref 0), some (.ref bY), some (.int now), some (.int n), some (.int c), some (.int (nI k)), some (.int (nI w)), some (.ref b)] [] h') :
    Ev X (jm jdL_law) 17 mc ms Q 822 [some (.ref (BIG + 300)), some (.ref 0), some (.ref bY), some (.int now), some (.int n), some (.int c), some (.int (nI k)), some (.int (nI w)), some (.ref b)] [] h := by
  have b0 : (0 : Nat) = 0 ∨ 396 ≤ 0 := Or.inl rfl
  have bz : b = 0 ∨ 396 ≤ b := Or.inr b4
  have hBIG : 500000 < BIG := by decide
  have dj : DJ 0 395 b 395 := dj_of (Or.inl (by omega))
  obtain ⟨⟨f3, f4⟩, ⟨f5, f6⟩, ⟨f7, f8⟩, f9, -⟩ := zn6 k hk
  have E := hs.e6
  have x1 : s.1 1 = 3 := (hs 1 (by decide) (by decide)).trans (zl_01 k hk).2.2.2.2.2.2.1.2
  have d2 := dn_c (t := 0) (e := 1) E (trN_c (x := 0) E (show 3 ≤ 20 by decide) (by decide))
  have d3 := slP_c (c := 1) E (show 3 ≤ 20 by decide) (cb_c E f9)
  have d4 := srt_c (t := 0) E (show 3 ≤ 20 by decide) (by decide)
  refine Ev.sg hX sL_law_822 (pc' := 825) (ls' := [some (.ref (BIG + 300)), some (.ref 0), some (.ref bY), some (.int now), some (.int n), some (.int c), some (.int (nI k)), some (.int (nI w)), some (.ref b)]) (st' := [.int 0, .ref b]) (h' := h) rfl ?_
  refine Ev.askW (K' := Kz) (mc1 := 4) (ms1 := 24) (As := [.int 0]) (rest := []) (xs := [xIO]) (val := some (.int (2))) (s' := s) hX hM bz b0 dj oz ox (by omega) dvX6_trainLength mkL_232 rfl dL_law_825 (by decide) (by decide) ⟨⟨by omega, by omega⟩, by omega, by omega⟩ rfl (Nat.le_of_ble_eq_true rfl) nr_1 (fun _ => rfl) (by decide) (fun X' T I L D hX' c9 => by
    have q := q_trainLength (t := 0) hX' c9 (by omega)
    have t0 : (0 : Int32).toNatClampNeg = 0 := rfl
    have t2 : (2 : Int32).toNatClampNeg = 2 := rfl
    rw [x1, t0, d2.1, d2.2, f3, f4] at q
    exact q) (fun g1 mc1 ms1 a1 c1 o1 p1 m1 k1 => ?_)
  show Ev _ _ _ _ _ _ 828 [some (.ref (BIG + 300)), some (.ref 0), some (.ref bY), some (.int now), some (.int n), some (.int c), some (.int (nI k)), some (.int (nI w)), some (.ref b)] [.int (2)] g1
  refine Ev.sg hX sL_law_828 (pc' := 829) (ls' := [some (.ref (BIG + 300)), some (.ref 0), some (.ref bY), some (.int now), some (.int n), some (.int c), some (.int (nI k)), some (.int (nI w)), some (.ref b)]) (st' := [.int 2, .int 2]) (h' := g1) rfl ?_
  refine Ev.icmp_ne (tgt := 870) dL_law_829 (by decide) (fun b1 => absurd rfl b1) (fun _ => ?_)
  refine Ev.sg hX sL_law_832 (pc' := 835) (ls' := [some (.ref (BIG + 300)), some (.ref 0), some (.ref bY), some (.int now), some (.int n), some (.int c), some (.int (nI k)), some (.int (nI w)), some (.ref b)]) (st' := [.int 1, .ref b]) (h' := g1) rfl ?_
  refine Ev.askW (K' := Kz) (mc1 := 4) (ms1 := 24) (As := [.int 1]) (rest := []) (xs := [xNE]) (val := some (.int (1))) (s' := s) hX hM bz b0 dj o1 p1 (by omega) dvX6_carsBehind mkL_240 rfl dL_law_835 (by decide) (by decide) ⟨⟨by omega, by omega⟩, by omega, by omega⟩ rfl (Nat.le_of_ble_eq_true rfl) nr_1 (fun _ => rfl) (by decide) (fun X' T I L D hX' c9 => by
    have q := q_carsBehind (c := 1) hX' c9 (by omega)
    have t0 : (0 : Int32).toNatClampNeg = 0 := rfl
    have t2 : (2 : Int32).toNatClampNeg = 2 := rfl
    rw [x1, d3.1, d3.2, f5, f6] at q
    exact q) (fun g2 mc2 ms2 a2 c2 o2 p2 m2 k2 => ?_)
  show Ev _ _ _ _ _ _ 838 [some (.ref (BIG + 300)), some (.ref 0), some (.ref bY), some (.int now), some (.int n), some (.int c), some (.int (nI k)), some (.int (nI w)), some (.ref b)] [.int (1)] g2
  refine Ev.sg hX sL_law_838 (pc' := 839) (ls' := [some (.ref (BIG + 300)), some (.ref 0), some (.ref bY), some (.int now), some (.int n), some (.int c), some (.int (nI k)), some (.int (nI w)), some (.ref b)]) (st' := [.int 1, .int 1]) (h' := g2) rfl ?_
  refine Ev.icmp_ne (tgt := 870) dL_law_839 (by decide) (fun b1 => absurd rfl b1) (fun _ => ?_)
  refine Ev.sg hX sL_law_842 (pc' := 845) (ls' := [some (.ref (BIG + 300)), some (.ref 0), some (.ref bY), some (.int now), some (.int n), some (.int c), some (.int (nI k)), some (.int (nI w)), some (.ref b)]) (st' := [.int 0, .ref b]) (h' := g2) rfl ?_
  refine Ev.askW (K' := Kz) (mc1 := 4) (ms1 := 24) (As := [.int 0]) (rest := []) (xs := [xIO]) (val := some (.int (1))) (s' := s) hX hM bz b0 dj o2 p2 (by omega) dvX6_isSorted mkL_229 rfl dL_law_845 (by decide) (by decide) ⟨⟨by omega, by omega⟩, by omega, by omega⟩ rfl (Nat.le_of_ble_eq_true rfl) nr_1 (fun _ => rfl) (by decide) (fun X' T I L D hX' c9 => by
    have q := q_isSorted (t := 0) hX' c9 (by omega)
    have t0 : (0 : Int32).toNatClampNeg = 0 := rfl
    have t2 : (2 : Int32).toNatClampNeg = 2 := rfl
    rw [x1, d4.1, d4.2, f7, f8] at q
    exact q) (fun g3 mc3 ms3 a3 c3 o3 p3 m3 k3 => ?_)
  show Ev _ _ _ _ _ _ 848 [some (.ref (BIG + 300)), some (.ref 0), some (.ref bY), some (.int now), some (.int n), some (.int c), some (.int (nI k)), some (.int (nI w)), some (.ref b)] [.int (1)] g3
  refine Ev.if_eq (tgt := 870) dL_law_848 (by decide) (fun b1 => absurd b1 (by decide)) (fun _ => ?_)
  exact kk g3 _ _ s p3 o3 rfl (by omega) (by omega) (by omega)
set_option maxHeartbeats 8000000 in
set_option maxRecDepth 100000 in
theorem law_e3 (hX : JXok X) (hM : jM X ≤ 396) (b4 : 396 ≤ b) (hk : k < 4) (ox : OB K 0 395 sx h) (oz : OB Kz b 395 s h) (hs : ZL (zl6 k) s) (hKz : Kz ≤ 1000) (hN : zN h ≤ 60000) (hm : 2000 ≤ mc ∧ 20000 ≤ ms)
    (kk : ∀ h' mc' ms' s', OB K 0 395 sx h' → OB (Kz + 0) b 395 s' h' → s' = s → zN h' ≤ zN h + 100 → mc ≤ mc' + 100 → ms ≤ ms' + 1000 → Ev X (jm jdL_law) 17 mc' ms' Q 872 [some (.ref (BIG + 300)), some (.ref 0), some (.ref bY), some (.int now), some (.int n), some (.int c), some (.int (nI k)), some (.int (nI w)), some (.ref b)] [] h') :
    Ev X (jm jdL_law) 17 mc ms Q 851 [some (.ref (BIG + 300)), some (.ref 0), some (.ref bY), some (.int now), some (.int n), some (.int c), some (.int (nI k)), some (.int (nI w)), some (.ref b)] [] h := by
  have b0 : (0 : Nat) = 0 ∨ 396 ≤ 0 := Or.inl rfl
  have bz : b = 0 ∨ 396 ≤ b := Or.inr b4
  have hBIG : 500000 < BIG := by decide
  have dj : DJ 0 395 b 395 := dj_of (Or.inl (by omega))
  obtain ⟨-, -, -, -, f10, f11⟩ := zn6 k hk
  obtain ⟨r1, r2, r3⟩ := zf_m k hk
  have x3 : s.1 3 = 3 := (hs 3 (by decide) (by decide)).trans f10
  have x5 : s.1 5 = 10 + k := (hs 5 (by decide) (by decide)).trans f11
  obtain ⟨mm, hmm⟩ : ∃ x, x = FP.ddiv (FP.l2d (lN (10 + k))) (FP.i2d (nI 3)) := ⟨_, rfl⟩
  obtain ⟨aa, haa⟩ : ∃ x, x = FP.i2d (10 + nI k) := ⟨_, rfl⟩
  obtain ⟨cc, hcc⟩ : ∃ x : UInt64, x = 4613937818241073152 := ⟨_, rfl⟩
  have hw : Cond.constantDouble "ClassificationYardLaw" 247 cc ∈ BW := by
    rw [hcc]
    exact bw_of 1414 (by decide +kernel) (by decide +kernel)
  rw [← hmm] at r1 r3
  rw [← haa, ← hcc] at r2 r3
  refine Ev.sg hX sL_law_851 (pc' := 853) (ls' := [some (.ref (BIG + 300)), some (.ref 0), some (.ref bY), some (.int now), some (.int n), some (.int c), some (.int (nI k)), some (.int (nI w)), some (.ref b)]) (st' := [.ref b]) (h' := h) rfl ?_
  refine Ev.askW (K' := Kz) (mc1 := 4) (ms1 := 24) (As := []) (rest := []) (xs := [xAE]) (val := some (.double (mm))) (s' := s) hX hM bz b0 dj oz ox (by omega) dvX6_meanMoveTime mkL_243 rfl dL_law_853 (by decide) (by decide) ⟨⟨by omega, by omega⟩, by omega, by omega⟩ rfl (Nat.le_of_ble_eq_true rfl) nr_0 (fun _ => rfl) (by decide) (fun X' T I L D hX' c9 => by
    have q := q_meanMoveTime hX' c9 (by omega) (by rw [x3]; decide) (by rw [x3, x5, ← hmm]; exact r1)
    rw [x3, x5, ← hmm] at q
    exact q) (fun g1 mc1 ms1 a1 c1 o1 p1 m1 k1 => ?_)
  show Ev _ _ _ _ _ _ 856 [some (.ref (BIG + 300)), some (.ref 0), some (.ref bY), some (.int now), some (.int n), some (.int c), some (.int (nI k)), some (.int (nI w)), some (.ref b)] [.double (mm)] g1
  refine Ev.sg hX sL_law_856 (pc' := 862) (ls' := [some (.ref (BIG + 300)), some (.ref 0), some (.ref bY), some (.int now), some (.int n), some (.int c), some (.int (nI k)), some (.int (nI w)), some (.ref b)]) (st' := [.double (FP.i2d (10 + nI k)), .double mm]) (h' := g1) rfl ?_
  rw [← haa]
  refine Ev.ldcD (v := cc) hw dL_law_862 ?_
  show Ev _ _ _ _ _ _ 865 [some (.ref (BIG + 300)), some (.ref 0), some (.ref bY), some (.int now), some (.int n), some (.int c), some (.int (nI k)), some (.int (nI w)), some (.ref b)] [.double cc, .double aa, .double mm] g1
  refine Ev.ddiv r2 dL_law_865 ?_
  refine Ev.sg hX sL_law_866 (pc' := 867) (ls' := [some (.ref (BIG + 300)), some (.ref 0), some (.ref bY), some (.int now), some (.int n), some (.int c), some (.int (nI k)), some (.int (nI w)), some (.ref b)]) (st' := [.int (Op.cmpValue (FP.dcmp mm (FP.ddiv aa cc)) .l)]) (h' := g1) rfl ?_
  rw [r3]
  refine Ev.if_eq (tgt := 872) dL_law_867 (by decide) (fun _ => ?_) (fun b1 => absurd rfl b1)
  exact kk g1 _ _ s p1 o1 rfl (by omega) (by omega) (by omega)
end LWE
