/-! the law's walk: z's nearest track, its first shunt -/
section LWD
variable {X : JX} {mc ms : Nat} {Q : JR → Prop} {h : MH} {bY b k w K Kz : Nat} {now c n : Int32} {sx s : GS}
set_option maxRecDepth 100000 in
theorem law_d (hX : JXok X) (hM : jM X ≤ 396) (b4 : 396 ≤ b) (hk : k < 4) (ox : OB K 0 395 sx h) (oz : OB Kz b 395 s h) (hs : ZL (zl3 k) s) (h67 : s.1 6 = 0 ∧ s.1 79 = w) (hw : w ≤ 73) (hKz : Kz ≤ 1000) (hN : zN h ≤ 60000) (hm : 2000 ≤ mc ∧ 20000 ≤ ms)
    (kk : ∀ h' mc' ms' s', OB K 0 395 sx h' → OB (Kz + 1) b 395 s' h' → (ZL (zl4 k) s' ∧ s'.1 6 = 0 ∧ s'.1 79 = w) → zN h' ≤ zN h + 100 → mc ≤ mc' + 100 → ms ≤ ms' + 1000 → Ev X (jm jdL_law) 17 mc' ms' Q 787 [some (.ref (BIG + 300)), some (.ref 0), some (.ref bY), some (.int now), some (.int n), some (.int c), some (.int (nI k)), some (.int (nI w)), some (.ref b)] [] h') :
    Ev X (jm jdL_law) 17 mc ms Q 724 [some (.ref (BIG + 300)), some (.ref 0), some (.ref bY), some (.int now), some (.int n), some (.int c), some (.int (nI k)), some (.int (nI w)), some (.ref b)] [] h := by
  have b0 : (0 : Nat) = 0 ∨ 396 ≤ 0 := Or.inl rfl
  have bz : b = 0 ∨ 396 ≤ b := Or.inr b4
  have hBIG : 500000 < BIG := by decide
  have dj : DJ 0 395 b 395 := dj_of (Or.inl (by omega))
  have z0 : s.1 0 = 3 := (hs 0 (by decide) (by decide)).trans (zl_01 k hk).2.2.2.1.1
  have z1 : s.1 1 = 3 := (hs 1 (by decide) (by decide)).trans (zl_01 k hk).2.2.2.1.2
  have E := hs.e6
  obtain ⟨f1, f2⟩ := zn3 k hk
  obtain ⟨⟨f3, f4⟩, ⟨f5, f6⟩, f7, f8⟩ := zn4 k hk
  have d1 := nf_c (m := 3) (z := 3) (t := 0) E (by decide) (by decide) (by decide)
  obtain ⟨s4, e4⟩ : ∃ t, t = cmG s 0 1 2 0 0 4 := ⟨_, rfl⟩
  have q4 := z_4 hk hs
  have w4 := z_67 (g := s) (a := 0) (b := 1) (c := 2) (e := 0) (f := 0) (kk := 4) (fun p r q => shu_67 (by decide) (by decide) q) q4.2.1 (by decide) (by omega) h67.1 h67.2
  rw [← e4] at q4 w4
  have y1 : s4.1 1 = 3 := (q4.2.2 1 (by decide) (by decide)).trans (zl_01 k hk).2.2.2.2.1.2
  have y5 : s4.1 5 = 3 + k := (q4.2.2 5 (by decide) (by decide)).trans f7
  have E4 := q4.2.2.e6
  have d2 := carAt_c (m := 3) (t := 1) (c := 0) E4 (by decide) (by decide)
  have d3 := carAt_c (m := 3) (t := 1) (c := 1) E4 (by decide) (by decide)
  refine Ev.sg hX sL_law_724 (pc' := 727) (ls' := [some (.ref (BIG + 300)), some (.ref 0), some (.ref bY), some (.int now), some (.int n), some (.int c), some (.int (nI k)), some (.int (nI w)), some (.ref b)]) (st' := [.int 0, .ref b]) (h' := h) rfl ?_
  refine Ev.askW (K' := Kz) (mc1 := 4) (ms1 := 24) (As := [.int 0]) (rest := []) (xs := [xIO, xNE]) (val := some (.int (1))) (s' := s) hX hM bz b0 dj oz ox (by omega) dvX6_nearestFreeTrack mkL_235 rfl dL_law_727 (by decide) (by decide) ⟨⟨by omega, by omega⟩, by omega, by omega⟩ rfl (Nat.le_of_ble_eq_true rfl) nr_1 (fun _ => rfl) (by decide) (fun X' T I L D hX' c9 => by
    have q := q_nearestFreeTrack (t := 0) hX' c9 (by omega)
    have t0 : (0 : Int32).toNatClampNeg = 0 := rfl
    have t2 : (2 : Int32).toNatClampNeg = 2 := rfl
    rw [z1, z0, d1.1, d1.2, f1, f2] at q
    exact q) (fun g1 mc1 ms1 a1 c1 o1 p1 m1 k1 => ?_)
  show Ev _ _ _ _ _ _ 730 [some (.ref (BIG + 300)), some (.ref 0), some (.ref bY), some (.int now), some (.int n), some (.int c), some (.int (nI k)), some (.int (nI w)), some (.ref b)] [.int (1)] g1
  refine Ev.sg hX sL_law_730 (pc' := 731) (ls' := [some (.ref (BIG + 300)), some (.ref 0), some (.ref bY), some (.int now), some (.int n), some (.int c), some (.int (nI k)), some (.int (nI w)), some (.ref b)]) (st' := [.int 1, .int 1]) (h' := g1) rfl ?_
  refine Ev.icmp_ne (tgt := 870) dL_law_731 (by decide) (fun b1 => absurd rfl b1) (fun _ => ?_)
  refine Ev.sg hX sL_law_734 (pc' := 739) (ls' := [some (.ref (BIG + 300)), some (.ref 0), some (.ref bY), some (.int now), some (.int n), some (.int c), some (.int (nI k)), some (.int (nI w)), some (.ref b)]) (st' := [.int 2, .int 1, .int 0, .ref b]) (h' := g1) rfl ?_
  refine Ev.askW (K' := Kz + 1) (mc1 := 4) (ms1 := 24) (As := [.int 0, .int 1, .int 2]) (rest := []) (xs := xsK 4) (val := some (.int (nI (3 + k)))) (s' := s4) hX hM bz b0 dj o1 p1 (by omega) dvX6_shunt mkL_51 rfl dL_law_739 (by decide) (by decide) ⟨⟨by omega, by omega⟩, by omega, by omega⟩ rfl (Nat.le_of_ble_eq_true rfl) nr_3 (fun _ => rfl) (by decide) (fun X' T I L D hX' c9 => by
    have q := q_shunt (a := 0) (b := 1) (c := 2) hX' c9 (by omega) (by omega)
    have v1 := q4.1
    have d1 := q4.2.1
    unfold cmF at v1 d1
    rw [v1, d1] at q
    rw [e4]
    exact q) (fun g2 mc2 ms2 a2 c2 o2 p2 m2 k2 => ?_)
  show Ev _ _ _ _ _ _ 742 [some (.ref (BIG + 300)), some (.ref 0), some (.ref bY), some (.int now), some (.int n), some (.int c), some (.int (nI k)), some (.int (nI w)), some (.ref b)] [.int (nI (3 + k))] g2
  refine Ev.sg hX sL_law_742 (pc' := 746) (ls' := [some (.ref (BIG + 300)), some (.ref 0), some (.ref bY), some (.int now), some (.int n), some (.int c), some (.int (nI k)), some (.int (nI w)), some (.ref b)]) (st' := [.int (3 + nI k), .int (nI (3 + k))]) (h' := g2) rfl ?_
  have e3 : (3 : Int32) + nI k = nI (3 + k) := nI_add (a := 3) (b := k)
  rw [e3]
  refine Ev.icmp_ne (tgt := 870) dL_law_746 (by decide) (fun b1 => absurd rfl b1) (fun _ => ?_)
  refine Ev.sg hX sL_law_749 (pc' := 753) (ls' := [some (.ref (BIG + 300)), some (.ref 0), some (.ref bY), some (.int now), some (.int n), some (.int c), some (.int (nI k)), some (.int (nI w)), some (.ref b)]) (st' := [.int 0, .int 1, .ref b]) (h' := g2) rfl ?_
  refine Ev.askW (K' := Kz + 1) (mc1 := 4) (ms1 := 24) (As := [.int 1, .int 0]) (rest := []) (xs := [xIO, xNE]) (val := some (.int (3))) (s' := s4) hX hM bz b0 dj o2 p2 (by omega) dvX6_carAt mkL_82 rfl dL_law_753 (by decide) (by decide) ⟨⟨by omega, by omega⟩, by omega, by omega⟩ rfl (Nat.le_of_ble_eq_true rfl) nr_2 (fun _ => rfl) (by decide) (fun X' T I L D hX' c9 => by
    have q := q_carAt (t := 1) (c := 0) hX' c9 (by omega)
    have t0 : (0 : Int32).toNatClampNeg = 0 := rfl
    have t2 : (2 : Int32).toNatClampNeg = 2 := rfl
    rw [y1, d2.1, d2.2, f3, f4] at q
    exact q) (fun g3 mc3 ms3 a3 c3 o3 p3 m3 k3 => ?_)
  show Ev _ _ _ _ _ _ 756 [some (.ref (BIG + 300)), some (.ref 0), some (.ref bY), some (.int now), some (.int n), some (.int c), some (.int (nI k)), some (.int (nI w)), some (.ref b)] [.int (3)] g3
  refine Ev.sg hX sL_law_756 (pc' := 757) (ls' := [some (.ref (BIG + 300)), some (.ref 0), some (.ref bY), some (.int now), some (.int n), some (.int c), some (.int (nI k)), some (.int (nI w)), some (.ref b)]) (st' := [.int 3, .int 3]) (h' := g3) rfl ?_
  refine Ev.icmp_ne (tgt := 870) dL_law_757 (by decide) (fun b1 => absurd rfl b1) (fun _ => ?_)
  refine Ev.sg hX sL_law_760 (pc' := 764) (ls' := [some (.ref (BIG + 300)), some (.ref 0), some (.ref bY), some (.int now), some (.int n), some (.int c), some (.int (nI k)), some (.int (nI w)), some (.ref b)]) (st' := [.int 1, .int 1, .ref b]) (h' := g3) rfl ?_
  refine Ev.askW (K' := Kz + 1) (mc1 := 4) (ms1 := 24) (As := [.int 1, .int 1]) (rest := []) (xs := [xIO, xNE]) (val := some (.int (2))) (s' := s4) hX hM bz b0 dj o3 p3 (by omega) dvX6_carAt mkL_82 rfl dL_law_764 (by decide) (by decide) ⟨⟨by omega, by omega⟩, by omega, by omega⟩ rfl (Nat.le_of_ble_eq_true rfl) nr_2 (fun _ => rfl) (by decide) (fun X' T I L D hX' c9 => by
    have q := q_carAt (t := 1) (c := 1) hX' c9 (by omega)
    have t0 : (0 : Int32).toNatClampNeg = 0 := rfl
    have t2 : (2 : Int32).toNatClampNeg = 2 := rfl
    rw [y1, d3.1, d3.2, f5, f6] at q
    exact q) (fun g4 mc4 ms4 a4 c4 o4 p4 m4 k4 => ?_)
  show Ev _ _ _ _ _ _ 767 [some (.ref (BIG + 300)), some (.ref 0), some (.ref bY), some (.int now), some (.int n), some (.int c), some (.int (nI k)), some (.int (nI w)), some (.ref b)] [.int (2)] g4
  refine Ev.sg hX sL_law_767 (pc' := 768) (ls' := [some (.ref (BIG + 300)), some (.ref 0), some (.ref bY), some (.int now), some (.int n), some (.int c), some (.int (nI k)), some (.int (nI w)), some (.ref b)]) (st' := [.int 2, .int 2]) (h' := g4) rfl ?_
  refine Ev.icmp_ne (tgt := 870) dL_law_768 (by decide) (fun b1 => absurd rfl b1) (fun _ => ?_)
  refine Ev.sg hX sL_law_771 (pc' := 773) (ls' := [some (.ref (BIG + 300)), some (.ref 0), some (.ref bY), some (.int now), some (.int n), some (.int c), some (.int (nI k)), some (.int (nI w)), some (.ref b)]) (st' := [.ref b]) (h' := g4) rfl ?_
  refine Ev.askW (K' := Kz + 1) (mc1 := 0) (ms1 := 0) (As := []) (rest := []) (xs := []) (val := some (.long (lN (3 + k)))) (s' := s4) hX hM bz b0 dj o4 p4 (by omega) dvX6_time mkL_88 rfl dL_law_773 (by decide) (by decide) ⟨⟨by omega, by omega⟩, by omega, by omega⟩ rfl (Nat.le_of_ble_eq_true rfl) nr_0 (fun _ => rfl) (by decide) (fun X' T I L D hX' c9 => by
    have q := q_time hX' c9
    rw [y5] at q
    exact q) (fun g5 mc5 ms5 a5 c5 o5 p5 m5 k5 => ?_)
  show Ev _ _ _ _ _ _ 776 [some (.ref (BIG + 300)), some (.ref 0), some (.ref bY), some (.int now), some (.int n), some (.int c), some (.int (nI k)), some (.int (nI w)), some (.ref b)] [.long (lN (3 + k))] g5
  refine Ev.ldcJ (v := 3) (bw_of 1413 (by decide +kernel) (by decide +kernel)) dL_law_776 ?_
  show Ev _ _ _ _ _ _ 779 [some (.ref (BIG + 300)), some (.ref 0), some (.ref bY), some (.int now), some (.int n), some (.int c), some (.int (nI k)), some (.int (nI w)), some (.ref b)] [.long 3, .long (lN (3 + k))] g5
  refine Ev.sg hX sL_law_779 (pc' := 784) (ls' := [some (.ref (BIG + 300)), some (.ref 0), some (.ref bY), some (.int now), some (.int n), some (.int c), some (.int (nI k)), some (.int (nI w)), some (.ref b)]) (st' := [.int (lg_cmp (lN (3 + k)) (3 + (nI k).toInt64))]) (h' := g5) rfl ?_
  rw [f8]
  refine Ev.if_ne (tgt := 870) dL_law_784 (by decide) (fun b1 => absurd rfl b1) (fun _ => ?_)
  exact kk g5 _ _ s4 p5 o5 ⟨q4.2.2, w4⟩ (by omega) (by omega) (by omega)
end LWD
