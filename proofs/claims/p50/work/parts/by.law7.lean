/-! the law's walk: z's program is run, routes are asked -/
section LWY
variable {X : JX} {mc ms : Nat} {Q : JR → Prop} {h : MH} {bY b k w K Kz : Nat} {now c n : Int32} {sx s : GS}
set_option maxRecDepth 100000 in
theorem zrt : ∀ k, k < 4 → ((rlM (GJ (LN (zl0 k))) 3 0 2).1 = 2 ∧ (rlM (GJ (LN (zl0 k))) 3 0 2).2 396 12 = 0) ∧ (rtM (GJ (LN (zl0 k))) 3 0 2 1).1 = 1 ∧ (rtM (GJ (LN (zl0 k))) 3 0 2 1).2 396 12 = 0 := by decide +kernel
theorem nr_3 {a b c : Int32} : ∀ v ∈ [Value.int a, Value.int b, Value.int c], nref v := fun v hv => by
  rcases List.mem_map.mp (show v ∈ [a, b, c].map Value.int from hv) with ⟨x, -, rfl⟩
  exact fun _ => rfl
theorem zl0_eq (hk : k < 4) (h : ZL (zl0 k) s) (h6 : s.1 6 = LN (zl0 k) 6) (h7 : s.1 79 = LN (zl0 k) 79) : s.1 = LN (zl0 k) := by
  funext j
  by_cases c6 : j = 6
  · rw [c6, h6]
  · by_cases c7 : j = 79
    · rw [c7, h7]
    · exact h j c6 c7
set_option maxRecDepth 100000 in
theorem law_W (hX : JXok X) (hM : jM X ≤ 396) (b4 : 396 ≤ b) (hk : k < 4) (ox : OB K 0 395 sx h) (oz : OB Kz b 395 ((T2 k).foldl appS st_s) h) (R : rnG ((T2 k).foldl appS st_s) = (nI 5, 0, s)) (hs : s.1 = LN (zl0 k)) (hKz : Kz ≤ 100) (hN : zN h ≤ 60000) (hm : 2000 ≤ mc ∧ 20000 ≤ ms)
    (kk : ∀ h' mc' ms', OB K 0 395 sx h' → OB (Kz + 8) b 395 s h' → zN h' ≤ zN h + 100 → mc ≤ mc' + 100 → ms ≤ ms' + 1000 → Ev X (jm jdL_law) 17 mc' ms' Q 534 [some (.ref (BIG + 300)), some (.ref 0), some (.ref bY), some (.int now), some (.int n), some (.int c), some (.int (nI k)), some (.int (nI w)), some (.ref b)] [] h') :
    Ev X (jm jdL_law) 17 mc ms Q 502 [some (.ref (BIG + 300)), some (.ref 0), some (.ref bY), some (.int now), some (.int n), some (.int c), some (.int (nI k)), some (.int (nI w)), some (.ref b)] [] h := by
  have b0 : (0 : Nat) = 0 ∨ 396 ≤ 0 := Or.inl rfl
  have bz : b = 0 ∨ 396 ≤ b := Or.inr b4
  have hBIG : 500000 < BIG := by decide
  have dj : DJ 0 395 b 395 := dj_of (Or.inl (by omega))
  obtain ⟨⟨u1, u2⟩, u3, u4⟩ := zrt k hk
  have z0 : LN (zl0 k) 0 = 3 := (zl_01 k hk).1.1
  refine Ev.sg hX sL_law_502 (pc' := 504) (ls' := [some (.ref (BIG + 300)), some (.ref 0), some (.ref bY), some (.int now), some (.int n), some (.int c), some (.int (nI k)), some (.int (nI w)), some (.ref b)]) (st' := [.ref b]) (h' := h) rfl ?_
  refine Ev.askW (K' := Kz + 8) (mc1 := 4) (ms1 := 24) (As := []) (rest := []) (xs := [xIA, xUO]) (val := some (.int (nI 5))) (s' := s) hX hM bz b0 dj oz ox (by omega) dvX6_run mkL_164 rfl dL_law_504 (by decide) (by decide) ⟨⟨by omega, by omega⟩, by omega, by omega⟩ rfl (Nat.le_of_ble_eq_true rfl) nr_0 (fun _ => rfl) (by decide) (fun X' T I L D hX' c9 => by
    have q := q_run hX' c9 (by omega) (by omega)
    have R' := R
    unfold rnG at R'
    rw [R'] at q
    exact q) (fun g1 mc1 ms1 a1 c1 o1 p1 m1 k1 => ?_)
  show Ev _ _ _ _ _ _ 507 [some (.ref (BIG + 300)), some (.ref 0), some (.ref bY), some (.int now), some (.int n), some (.int c), some (.int (nI k)), some (.int (nI w)), some (.ref b)] [.int (nI 5)] g1
  refine Ev.sg hX sL_law_507 (pc' := 508) (ls' := [some (.ref (BIG + 300)), some (.ref 0), some (.ref bY), some (.int now), some (.int n), some (.int c), some (.int (nI k)), some (.int (nI w)), some (.ref b)]) (st' := [.int 5, .int (nI 5)]) (h' := g1) rfl ?_
  refine Ev.icmp_ne (tgt := 680) dL_law_508 (by decide) (fun b1 => absurd rfl b1) (fun _ => ?_)
  refine Ev.sg hX sL_law_511 (pc' := 515) (ls' := [some (.ref (BIG + 300)), some (.ref 0), some (.ref bY), some (.int now), some (.int n), some (.int c), some (.int (nI k)), some (.int (nI w)), some (.ref b)]) (st' := [.int 2, .int 0, .ref b]) (h' := g1) rfl ?_
  refine Ev.askW (K' := Kz + 8) (mc1 := 4) (ms1 := 24) (As := [.int 0, .int 2]) (rest := []) (xs := [xIO, xNE]) (val := some (.int (2))) (s' := s) hX hM bz b0 dj o1 p1 (by omega) dvX6_routeLength mkL_129 rfl dL_law_515 (by decide) (by decide) ⟨⟨by omega, by omega⟩, by omega, by omega⟩ rfl (Nat.le_of_ble_eq_true rfl) nr_2 (fun _ => rfl) (by decide) (fun X' T I L D hX' c9 => by
    have q := q_routeLength (a := 0) (b := 2) hX' c9 (by omega)
    rw [hs, z0, u1, u2, ← hs] at q
    exact q) (fun g2 mc2 ms2 a2 c2 o2 p2 m2 k2 => ?_)
  show Ev _ _ _ _ _ _ 518 [some (.ref (BIG + 300)), some (.ref 0), some (.ref bY), some (.int now), some (.int n), some (.int c), some (.int (nI k)), some (.int (nI w)), some (.ref b)] [.int (2)] g2
  refine Ev.sg hX sL_law_518 (pc' := 519) (ls' := [some (.ref (BIG + 300)), some (.ref 0), some (.ref bY), some (.int now), some (.int n), some (.int c), some (.int (nI k)), some (.int (nI w)), some (.ref b)]) (st' := [.int 2, .int 2]) (h' := g2) rfl ?_
  refine Ev.icmp_ne (tgt := 680) dL_law_519 (by decide) (fun b1 => absurd rfl b1) (fun _ => ?_)
  refine Ev.sg hX sL_law_522 (pc' := 527) (ls' := [some (.ref (BIG + 300)), some (.ref 0), some (.ref bY), some (.int now), some (.int n), some (.int c), some (.int (nI k)), some (.int (nI w)), some (.ref b)]) (st' := [.int 1, .int 2, .int 0, .ref b]) (h' := g2) rfl ?_
  refine Ev.askW (K' := Kz + 8) (mc1 := 4) (ms1 := 24) (As := [.int 0, .int 2, .int 1]) (rest := []) (xs := [xIO, xNE]) (val := some (.int (1))) (s' := s) hX hM bz b0 dj o2 p2 (by omega) dvX6_routeTrack mkL_220 rfl dL_law_527 (by decide) (by decide) ⟨⟨by omega, by omega⟩, by omega, by omega⟩ rfl (Nat.le_of_ble_eq_true rfl) nr_3 (fun _ => rfl) (by decide) (fun X' T I L D hX' c9 => by
    have q := q_routeTrack (a := 0) (b := 2) (c := 1) hX' c9 (by omega)
    rw [hs, z0, u3, u4, ← hs] at q
    exact q) (fun g3 mc3 ms3 a3 c3 o3 p3 m3 k3 => ?_)
  show Ev _ _ _ _ _ _ 530 [some (.ref (BIG + 300)), some (.ref 0), some (.ref bY), some (.int now), some (.int n), some (.int c), some (.int (nI k)), some (.int (nI w)), some (.ref b)] [.int (1)] g3
  refine Ev.sg hX sL_law_530 (pc' := 531) (ls' := [some (.ref (BIG + 300)), some (.ref 0), some (.ref bY), some (.int now), some (.int n), some (.int c), some (.int (nI k)), some (.int (nI w)), some (.ref b)]) (st' := [.int 1, .int 1]) (h' := g3) rfl ?_
  refine Ev.icmp_ne (tgt := 680) dL_law_531 (by decide) (fun b1 => absurd rfl b1) (fun _ => ?_)
  exact kk g3 _ _ p3 o3 (by omega) (by omega) (by omega)
end LWY
