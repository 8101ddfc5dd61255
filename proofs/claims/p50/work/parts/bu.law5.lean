/-! the law's walk: z's first questions -/
section LWU
variable {X : JX} {mc ms : Nat} {Q : JR → Prop} {h : MH} {bY b k w K Kz : Nat} {now c n : Int32} {sx s : GS}
theorem cm_no {a b c e f : Int32} {kk : Nat} (h : ¬ (cmF s a b c e f kk).2 396 12 = 0) : cmG s a b c e f kk = s := if_neg h
theorem zu1 : cmV st_s 0 0 0 0 0 6 = -1 ∧ ¬ (cmF st_s 0 0 0 0 0 6).2 396 12 = 0 ∧ cmV st_s 1 0 0 0 0 5 = -4 ∧ ¬ (cmF st_s 1 0 0 0 0 5).2 396 12 = 0 ∧ slOM (GJ st_s.1) (st_s.1 1) 1 = -1 := by decide +kernel
set_option maxRecDepth 100000 in
theorem law_U (hX : JXok X) (hM : jM X ≤ 396) (b4 : 396 ≤ b) (ox : OB K 0 395 sx h) (oz : OB 0 b 395 st_s h) (hN : zN h ≤ 50000) (hm : 2000 ≤ mc ∧ 20000 ≤ ms)
    (kk : ∀ h' mc' ms', OB K 0 395 sx h' → OB 2 b 395 st_s h' → zN h' ≤ zN h + 100 → mc ≤ mc' + 100 → ms ≤ ms' + 1000 → Ev X (jm jdL_law) 17 mc' ms' Q 472 [some (.ref (BIG + 300)), some (.ref 0), some (.ref bY), some (.int now), some (.int n), some (.int c), some (.int (nI k)), some (.int (nI w)), some (.ref b)] [] h') :
    Ev X (jm jdL_law) 17 mc ms Q 408 [some (.ref (BIG + 300)), some (.ref 0), some (.ref bY), some (.int now), some (.int n), some (.int c), some (.int (nI k)), some (.int (nI w)), some (.ref b)] [] h := by
  have b0 : (0 : Nat) = 0 ∨ 396 ≤ 0 := Or.inl rfl
  have bz : b = 0 ∨ 396 ≤ b := Or.inr b4
  have hBIG : 500000 < BIG := by decide
  have dj : DJ 0 395 b 395 := dj_of (Or.inl (by omega))
  obtain ⟨u1, u2, u3, u4, u5⟩ := zu1
  refine Ev.sg hX (sL_law_406.sub 1 1) (pc' := 410) (ls' := [some (.ref (BIG + 300)), some (.ref 0), some (.ref bY), some (.int now), some (.int n), some (.int c), some (.int (nI k)), some (.int (nI w)), some (.ref b)]) (st' := [.ref b]) (h' := h) rfl ?_
  refine Ev.askW (K' := 0) (mc1 := 0) (ms1 := 0) (As := []) (rest := []) (xs := []) (val := some (.int (1))) (s' := st_s) hX hM bz b0 dj oz ox (by omega) dvX6_isConsistent mkL_206 rfl dL_law_410 (by decide) (by decide) ⟨⟨by omega, by omega⟩, by omega, by omega⟩ rfl (Nat.le_of_ble_eq_true rfl) nr_0 (fun _ => rfl) (by decide) (fun X' T I L D hX' c9 => q_isConsistent hX' c9) (fun g1 mc1 ms1 a1 c1 o1 p1 m1 k1 => ?_)
  show Ev _ _ _ _ _ _ 413 [some (.ref (BIG + 300)), some (.ref 0), some (.ref bY), some (.int now), some (.int n), some (.int c), some (.int (nI k)), some (.int (nI w)), some (.ref b)] [.int (1)] g1
  refine Ev.if_eq (tgt := 470) dL_law_413 (by decide) (fun b1 => absurd b1 (by decide)) (fun _ => ?_)
  refine Ev.sg hX sL_law_416 (pc' := 418) (ls' := [some (.ref (BIG + 300)), some (.ref 0), some (.ref bY), some (.int now), some (.int n), some (.int c), some (.int (nI k)), some (.int (nI w)), some (.ref b)]) (st' := [.ref b]) (h' := g1) rfl ?_
  refine Ev.askW (K' := 0) (mc1 := 0) (ms1 := 0) (As := []) (rest := []) (xs := []) (val := some (.int (nI 0))) (s' := st_s) hX hM bz b0 dj o1 p1 (by omega) dvX6_carCount mkL_210 rfl dL_law_418 (by decide) (by decide) ⟨⟨by omega, by omega⟩, by omega, by omega⟩ rfl (Nat.le_of_ble_eq_true rfl) nr_0 (fun _ => rfl) (by decide) (fun X' T I L D hX' c9 => q_carCount hX' c9) (fun g2 mc2 ms2 a2 c2 o2 p2 m2 k2 => ?_)
  show Ev _ _ _ _ _ _ 421 [some (.ref (BIG + 300)), some (.ref 0), some (.ref bY), some (.int now), some (.int n), some (.int c), some (.int (nI k)), some (.int (nI w)), some (.ref b)] [.int (nI 0)] g2
  refine Ev.if_ne (tgt := 470) dL_law_421 (by decide) (fun b1 => absurd rfl b1) (fun _ => ?_)
  refine Ev.sg hX sL_law_424 (pc' := 426) (ls' := [some (.ref (BIG + 300)), some (.ref 0), some (.ref bY), some (.int now), some (.int n), some (.int c), some (.int (nI k)), some (.int (nI w)), some (.ref b)]) (st' := [.ref b]) (h' := g2) rfl ?_
  refine Ev.askW (K' := 0) (mc1 := 0) (ms1 := 0) (As := []) (rest := []) (xs := []) (val := some (.long (lN 0))) (s' := st_s) hX hM bz b0 dj o2 p2 (by omega) dvX6_time mkL_88 rfl dL_law_426 (by decide) (by decide) ⟨⟨by omega, by omega⟩, by omega, by omega⟩ rfl (Nat.le_of_ble_eq_true rfl) nr_0 (fun _ => rfl) (by decide) (fun X' T I L D hX' c9 => q_time hX' c9) (fun g3 mc3 ms3 a3 c3 o3 p3 m3 k3 => ?_)
  show Ev _ _ _ _ _ _ 429 [some (.ref (BIG + 300)), some (.ref 0), some (.ref bY), some (.int now), some (.int n), some (.int c), some (.int (nI k)), some (.int (nI w)), some (.ref b)] [.long (lN 0)] g3
  refine Ev.sg hX sL_law_429 (pc' := 431) (ls' := [some (.ref (BIG + 300)), some (.ref 0), some (.ref bY), some (.int now), some (.int n), some (.int c), some (.int (nI k)), some (.int (nI w)), some (.ref b)]) (st' := [.int 0]) (h' := g3) rfl ?_
  refine Ev.if_ne (tgt := 470) dL_law_431 (by decide) (fun b1 => absurd rfl b1) (fun _ => ?_)
  refine Ev.sg hX sL_law_434 (pc' := 437) (ls' := [some (.ref (BIG + 300)), some (.ref 0), some (.ref bY), some (.int now), some (.int n), some (.int c), some (.int (nI k)), some (.int (nI w)), some (.ref b)]) (st' := [.int 1, .ref b]) (h' := g3) rfl ?_
  refine Ev.askW (K' := 0) (mc1 := 0) (ms1 := 0) (As := [.int 1]) (rest := []) (xs := []) (val := some (.int (0))) (s' := st_s) hX hM bz b0 dj o3 p3 (by omega) dvX6_isInYard mkL_213 rfl dL_law_437 (by decide) (by decide) ⟨⟨by omega, by omega⟩, by omega, by omega⟩ rfl (Nat.le_of_ble_eq_true rfl) nr_1 (fun _ => rfl) (by decide) (fun X' T I L D hX' c9 => by
    have q := q_isInYard (c := 1) hX' c9
    have u5' := u5
    rw [u5'] at q
    exact q) (fun g4 mc4 ms4 a4 c4 o4 p4 m4 k4 => ?_)
  show Ev _ _ _ _ _ _ 440 [some (.ref (BIG + 300)), some (.ref 0), some (.ref bY), some (.int now), some (.int n), some (.int c), some (.int (nI k)), some (.int (nI w)), some (.ref b)] [.int (0)] g4
  refine Ev.if_ne (tgt := 470) dL_law_440 (by decide) (fun b1 => absurd rfl b1) (fun _ => ?_)
  refine Ev.sg hX sL_law_443 (pc' := 449) (ls' := [some (.ref (BIG + 300)), some (.ref 0), some (.ref bY), some (.int now), some (.int n), some (.int c), some (.int (nI k)), some (.int (nI w)), some (.ref b)]) (st' := [.int 0, .int 0, .int 0, .int 5, .ref b]) (h' := g4) rfl ?_
  have C5 := c_act5 (a0 := 0) (a1 := 0) (a2 := 0) hX hM (by omega) bz o4 (by omega)
  rw [cm_no u2, u1] at C5
  refine Ev.lawX (ex := 4) (As := [.ref b, .int 5, .int 0, .int 0, .int 0]) (rest := []) bz b0 dj p4 dhL_act mkL_30 dL_law_449 C5 ⟨by decide, by show 6 + 19 + 40 * _ ≤ 40 * _; omega⟩ ⟨by omega, by omega⟩ rfl (Nat.le_of_ble_eq_true rfl) (fun g5 mc5 ms5 a5 c5 o5 p5 m5 k5 => ?_)
  show Ev _ _ _ _ _ _ 452 [some (.ref (BIG + 300)), some (.ref 0), some (.ref bY), some (.int now), some (.int n), some (.int c), some (.int (nI k)), some (.int (nI w)), some (.ref b)] [.int (-1)] g5
  refine Ev.sg hX sL_law_452 (pc' := 453) (ls' := [some (.ref (BIG + 300)), some (.ref 0), some (.ref bY), some (.int now), some (.int n), some (.int c), some (.int (nI k)), some (.int (nI w)), some (.ref b)]) (st' := [.int (-1), .int (-1)]) (h' := g5) rfl ?_
  refine Ev.icmp_ne (tgt := 470) dL_law_453 (by decide) (fun b1 => absurd rfl b1) (fun _ => ?_)
  refine Ev.sg hX sL_law_456 (pc' := 462) (ls' := [some (.ref (BIG + 300)), some (.ref 0), some (.ref bY), some (.int now), some (.int n), some (.int c), some (.int (nI k)), some (.int (nI w)), some (.ref b)]) (st' := [.int 0, .int 0, .int 1, .int 4, .ref b]) (h' := g5) rfl ?_
  have C6 := c_act4 (a0 := 1) (a1 := 0) (a2 := 0) hX hM (by omega) bz o5 (by omega)
  rw [cm_no u4, u3] at C6
  refine Ev.lawX (ex := 4) (As := [.ref b, .int 4, .int 1, .int 0, .int 0]) (rest := []) bz b0 dj p5 dhL_act mkL_30 dL_law_462 C6 ⟨by decide, by show 6 + 19 + 40 * _ ≤ 40 * _; omega⟩ ⟨by omega, by omega⟩ rfl (Nat.le_of_ble_eq_true rfl) (fun g6 mc6 ms6 a6 c6 o6 p6 m6 k6 => ?_)
  show Ev _ _ _ _ _ _ 465 [some (.ref (BIG + 300)), some (.ref 0), some (.ref bY), some (.int now), some (.int n), some (.int c), some (.int (nI k)), some (.int (nI w)), some (.ref b)] [.int (-4)] g6
  refine Ev.sg hX sL_law_465 (pc' := 467) (ls' := [some (.ref (BIG + 300)), some (.ref 0), some (.ref bY), some (.int now), some (.int n), some (.int c), some (.int (nI k)), some (.int (nI w)), some (.ref b)]) (st' := [.int (-4), .int (-4)]) (h' := g6) rfl ?_
  refine Ev.icmp_eq (tgt := 472) dL_law_467 (by decide) (fun _ => ?_) (fun b1 => absurd rfl b1)
  exact kk g6 _ _ p6 o6 (by omega) (by omega) (by omega)
end LWU
