/-! the law's walk: z's cars -/
section LWX
variable {X : JX} {mc ms : Nat} {Q : JR → Prop} {h : MH} {bY b k w K Kz : Nat} {now c n : Int32} {sx s : GS}
theorem cmV_0 {a b c e f v : Int32} {kk : Nat} (h : (cmF s a b c e f kk).1 = v ∧ (cmF s a b c e f kk).2 396 12 = 0) : cmV s a b c e f kk = v := (rsV_0 h.2).trans h.1
theorem cmV_x {a b c e f : Int32} {kk j : Nat} {E : String} (h : (cmF s a b c e f kk).2 396 12 = nI (j + 1)) (hx : (xsK kk)[j]? = some E) (hj : j < 100) : cmV s a b c e f kk = exR E := rsV_k hx h hj
set_option maxRecDepth 100000 in
theorem law_X (hX : JXok X) (hM : jM X ≤ 396) (b4 : 396 ≤ b) (hk : k < 4) (hw : 10 ≤ w ∧ w ≤ 73) (ox : OB K 0 395 sx h) (oz : OB Kz b 395 s h) (hs : ZL (zl0 k) s) (hKz : Kz ≤ 1000) (hN : zN h ≤ 60000) (hm : 2000 ≤ mc ∧ 20000 ≤ ms)
    (kk : ∀ h' mc' ms' s', OB K 0 395 sx h' → OB (Kz + 4) b 395 s' h' → s' = cmG (cmG (cmG s 0 15 (nI w) 7 1 3) 0 20 90 2 0 3) 0 10 10 7 1 3 → ZL (zl3 k) s' → zN h' ≤ zN h + 100 → mc ≤ mc' + 100 → ms ≤ ms' + 1000 → Ev X (jm jdL_law) 17 mc' ms' Q 601 [some (.ref (BIG + 300)), some (.ref 0), some (.ref bY), some (.int now), some (.int n), some (.int c), some (.int (nI k)), some (.int (nI w)), some (.ref b)] [] h') :
    Ev X (jm jdL_law) 17 mc ms Q 534 [some (.ref (BIG + 300)), some (.ref 0), some (.ref bY), some (.int now), some (.int n), some (.int c), some (.int (nI k)), some (.int (nI w)), some (.ref b)] [] h := by
  have b0 : (0 : Nat) = 0 ∨ 396 ≤ 0 := Or.inl rfl
  have bz : b = 0 ∨ 396 ≤ b := Or.inr b4
  have hBIG : 500000 < BIG := by decide
  have dj : DJ 0 395 b 395 := dj_of (Or.inl (by omega))
  obtain ⟨s1, e1⟩ : ∃ t, t = cmG s 0 15 (nI w) 7 1 3 := ⟨_, rfl⟩
  have q1 := z_1 hk hw hs
  have v1 := cmV_0 ⟨q1.1, q1.2.1⟩
  rw [← e1] at q1 kk
  obtain ⟨s2, e2⟩ : ∃ t, t = cmG s1 0 20 90 2 0 3 := ⟨_, rfl⟩
  have q2 := z_2 hk q1.2.2
  have v2 := cmV_0 ⟨q2.1, q2.2.1⟩
  rw [← e2] at q2 kk
  obtain ⟨s3, e3⟩ : ∃ t, t = cmG s2 0 10 10 7 1 3 := ⟨_, rfl⟩
  have q3 := z_3 hk q2.2.2
  have v3 := cmV_0 ⟨q3.1, q3.2.1⟩
  rw [← e3] at q3 kk
  have q4 := z_f1 hk q3.2.2
  have v4 : cmV s3 0 16 10 1 1 3 = -5 := (cmV_x (j := 3) (E := xUO) q4 rfl (by decide)).trans (by decide +kernel)
  have n4 : cmG s3 0 16 10 1 1 3 = s3 := cm_no (by rw [q4]; decide)
  refine Ev.sg hX sL_law_534 (pc' := 544) (ls' := [some (.ref (BIG + 300)), some (.ref 0), some (.ref bY), some (.int now), some (.int n), some (.int c), some (.int (nI k)), some (.int (nI w)), some (.ref b)]) (st' := [.int 1, .int 7, .int (nI w), .int 15, .int 0, .ref b]) (h' := h) rfl ?_
  have C1 := c_car (a0 := 0) (a1 := 15) (a2 := nI w) (a3 := 7) (f := 1) hX hM (by omega) bz oz (by omega) (Or.inr rfl)
  rw [← e1, v1] at C1
  refine Ev.lawX (ex := 4) (As := [.ref b, .int 0, .int 15, .int (nI w), .int 7, .int 1]) (rest := []) bz b0 dj ox dhL_car mkL_37 dL_law_544 C1 ⟨by decide, by show 7 + 19 + 40 * _ ≤ 40 * _; omega⟩ ⟨by omega, by omega⟩ rfl (Nat.le_of_ble_eq_true rfl) (fun g1 mc1 ms1 a1 c1 o1 p1 m1 k1 => ?_)
  show Ev _ _ _ _ _ _ 547 [some (.ref (BIG + 300)), some (.ref 0), some (.ref bY), some (.int now), some (.int n), some (.int c), some (.int (nI k)), some (.int (nI w)), some (.ref b)] [.int (nI 1)] g1
  refine Ev.sg hX sL_law_547 (pc' := 548) (ls' := [some (.ref (BIG + 300)), some (.ref 0), some (.ref bY), some (.int now), some (.int n), some (.int c), some (.int (nI k)), some (.int (nI w)), some (.ref b)]) (st' := [.int 1, .int (nI 1)]) (h' := g1) rfl ?_
  refine Ev.icmp_ne (tgt := 680) dL_law_548 (by decide) (fun b1 => absurd rfl b1) (fun _ => ?_)
  refine Ev.sg hX sL_law_551 (pc' := 560) (ls' := [some (.ref (BIG + 300)), some (.ref 0), some (.ref bY), some (.int now), some (.int n), some (.int c), some (.int (nI k)), some (.int (nI w)), some (.ref b)]) (st' := [.int 0, .int 2, .int 90, .int 20, .int 0, .ref b]) (h' := g1) rfl ?_
  have C2 := c_car (a0 := 0) (a1 := 20) (a2 := 90) (a3 := 2) (f := 0) hX hM (by omega) bz o1 (by omega) (Or.inl rfl)
  rw [← e2, v2] at C2
  refine Ev.lawX (ex := 4) (As := [.ref b, .int 0, .int 20, .int 90, .int 2, .int 0]) (rest := []) bz b0 dj p1 dhL_car mkL_37 dL_law_560 C2 ⟨by decide, by show 7 + 19 + 40 * _ ≤ 40 * _; omega⟩ ⟨by omega, by omega⟩ rfl (Nat.le_of_ble_eq_true rfl) (fun g2 mc2 ms2 a2 c2 o2 p2 m2 k2 => ?_)
  show Ev _ _ _ _ _ _ 563 [some (.ref (BIG + 300)), some (.ref 0), some (.ref bY), some (.int now), some (.int n), some (.int c), some (.int (nI k)), some (.int (nI w)), some (.ref b)] [.int (nI 2)] g2
  refine Ev.sg hX sL_law_563 (pc' := 564) (ls' := [some (.ref (BIG + 300)), some (.ref 0), some (.ref bY), some (.int now), some (.int n), some (.int c), some (.int (nI k)), some (.int (nI w)), some (.ref b)]) (st' := [.int 2, .int (nI 2)]) (h' := g2) rfl ?_
  refine Ev.icmp_ne (tgt := 680) dL_law_564 (by decide) (fun b1 => absurd rfl b1) (fun _ => ?_)
  refine Ev.sg hX sL_law_567 (pc' := 577) (ls' := [some (.ref (BIG + 300)), some (.ref 0), some (.ref bY), some (.int now), some (.int n), some (.int c), some (.int (nI k)), some (.int (nI w)), some (.ref b)]) (st' := [.int 1, .int 7, .int 10, .int 10, .int 0, .ref b]) (h' := g2) rfl ?_
  have C3 := c_car (a0 := 0) (a1 := 10) (a2 := 10) (a3 := 7) (f := 1) hX hM (by omega) bz o2 (by omega) (Or.inr rfl)
  rw [← e3, v3] at C3
  refine Ev.lawX (ex := 4) (As := [.ref b, .int 0, .int 10, .int 10, .int 7, .int 1]) (rest := []) bz b0 dj p2 dhL_car mkL_37 dL_law_577 C3 ⟨by decide, by show 7 + 19 + 40 * _ ≤ 40 * _; omega⟩ ⟨by omega, by omega⟩ rfl (Nat.le_of_ble_eq_true rfl) (fun g3 mc3 ms3 a3 c3 o3 p3 m3 k3 => ?_)
  show Ev _ _ _ _ _ _ 580 [some (.ref (BIG + 300)), some (.ref 0), some (.ref bY), some (.int now), some (.int n), some (.int c), some (.int (nI k)), some (.int (nI w)), some (.ref b)] [.int (nI 3)] g3
  refine Ev.sg hX sL_law_580 (pc' := 581) (ls' := [some (.ref (BIG + 300)), some (.ref 0), some (.ref bY), some (.int now), some (.int n), some (.int c), some (.int (nI k)), some (.int (nI w)), some (.ref b)]) (st' := [.int 3, .int (nI 3)]) (h' := g3) rfl ?_
  refine Ev.icmp_ne (tgt := 680) dL_law_581 (by decide) (fun b1 => absurd rfl b1) (fun _ => ?_)
  refine Ev.sg hX sL_law_584 (pc' := 593) (ls' := [some (.ref (BIG + 300)), some (.ref 0), some (.ref bY), some (.int now), some (.int n), some (.int c), some (.int (nI k)), some (.int (nI w)), some (.ref b)]) (st' := [.int 1, .int 1, .int 10, .int 16, .int 0, .ref b]) (h' := g3) rfl ?_
  have C4 := c_car (a0 := 0) (a1 := 16) (a2 := 10) (a3 := 1) (f := 1) hX hM (by omega) bz o3 (by omega) (Or.inr rfl)
  rw [n4, v4] at C4
  refine Ev.lawX (ex := 4) (As := [.ref b, .int 0, .int 16, .int 10, .int 1, .int 1]) (rest := []) bz b0 dj p3 dhL_car mkL_37 dL_law_593 C4 ⟨by decide, by show 7 + 19 + 40 * _ ≤ 40 * _; omega⟩ ⟨by omega, by omega⟩ rfl (Nat.le_of_ble_eq_true rfl) (fun g4 mc4 ms4 a4 c4 o4 p4 m4 k4 => ?_)
  show Ev _ _ _ _ _ _ 596 [some (.ref (BIG + 300)), some (.ref 0), some (.ref bY), some (.int now), some (.int n), some (.int c), some (.int (nI k)), some (.int (nI w)), some (.ref b)] [.int (-5)] g4
  refine Ev.sg hX sL_law_596 (pc' := 598) (ls' := [some (.ref (BIG + 300)), some (.ref 0), some (.ref bY), some (.int now), some (.int n), some (.int c), some (.int (nI k)), some (.int (nI w)), some (.ref b)]) (st' := [.int (-5), .int (-5)]) (h' := g4) rfl ?_
  refine Ev.icmp_ne (tgt := 680) dL_law_598 (by decide) (fun b1 => absurd rfl b1) (fun _ => ?_)
  exact kk g4 _ _ s3 p4 o4 rfl q3.2.2 (by omega) (by omega) (by omega)
end LWX
