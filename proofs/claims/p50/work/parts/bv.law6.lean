/-! the law's walk: z's program is made and put in -/
theorem l22 : jshl.getD 22 0 = 20 ∧ jshl.getD 23 0 = 33 := by decide +kernel
theorem T2_ok : ∀ n, n < 4 → (∀ c ∈ T2 n, ((c &&& 255).toUInt32 % 65536).toInt32 = c ∧ narrow .char (.int c) = .int c ∧ vp_nar .char c = c) ∧ (T2 n).length = 54 := by decide +kernel
section LWV
variable {X : JX} {mc ms : Nat} {Q : JR → Prop} {h : MH} {bY bZ k w Kx Kz : Nat} {now c n : Int32} {sx sz : GS}
set_option maxRecDepth 8000 in
theorem law_V (hX : JXok X) (hM : jM X ≤ 396) (bZ4 : 396 ≤ bZ) (hk : k < 4) (ox : OB Kx 0 395 sx h) (oz : OB Kz bZ 395 sz h) (hq : sz.2.2.2.2.1 = 0) (hN : zN h ≤ 60000) (hm : 2000 ≤ mc ∧ 20000 ≤ ms)
    (kk : ∀ h' mc' ms', OB Kx 0 395 sx h' → OB Kz bZ 395 ((T2 k).foldl appS sz) h' → zN h' ≤ zN h + 400 → mc ≤ mc' + 400 → ms ≤ ms' + 4000 → Ev X (jm jdL_law) 17 mc' ms' Q 502 [some (.ref (BIG + 300)), some (.ref 0), some (.ref bY), some (.int now), some (.int n), some (.int c), some (.int (nI k)), some (.int (nI w)), some (.ref bZ)] [] h') :
    Ev X (jm jdL_law) 17 mc ms Q 472 [some (.ref (BIG + 300)), some (.ref 0), some (.ref bY), some (.int now), some (.int n), some (.int c), some (.int (nI k)), some (.int (nI w)), some (.ref bZ)] [] h := by
  have b0 : (0 : Nat) = 0 ∨ 396 ≤ 0 := Or.inl rfl
  have bz0 : bZ = 0 ∨ 396 ≤ bZ := Or.inr bZ4
  have hBIG : 500000 < BIG := by decide
  have dj : DJ 0 395 bZ 395 := dj_of (Or.inl (by omega))
  have hz : Z0 (zN h) (zI h) (zL h) (zD h) := (ox.fresh b0).2
  have ozN := oz.1
  obtain ⟨b, S, I, L, D⟩ := h
  have hz : Z0 b I L D := hz
  have hN : b ≤ 60000 := hN
  have ozN : bZ + 396 ≤ b := ozN
  have b4 : 396 ≤ b := by omega
  refine Ev.sg hX sL_law_472 (pc' := 474) (ls' := [some (.ref (BIG + 300)), some (.ref 0), some (.ref bY), some (.int now), some (.int n), some (.int c), some (.int (nI k)), some (.int (nI w)), some (.ref bZ)]) (st' := [.ref bZ]) (h' := (b, S, I, L, D)) rfl ?_
  refine Ev.eqh (h' := (b + 0, ovl S b [], I, L, D)) (by rw [ovl_no]; rfl) ?_
  refine Ev.newO (ci := 8) (fs := [.inl .null, .inr false, .inr false, .inr false]) hX ci_J4 (bw_of 1391 (by decide +kernel) (by decide +kernel)) hz.z2 fs_J4 ⟨by omega, by omega⟩ (by show b + 1 < BIG; omega) dL_law_474 ?_
  refine Ev.eqh (h' := (b + 1, ovl S b [.inr (8, [.inl .null, .inr false, .inr false, .inr false])], I, L, D)) (newS_ovl (b := b) (k := 0) (l := []) rfl) ?_
  show Ev _ _ _ _ _ _ 477 [some (.ref (BIG + 300)), some (.ref 0), some (.ref bY), some (.int now), some (.int n), some (.int c), some (.int (nI k)), some (.int (nI w)), some (.ref bZ)] [.ref b, .ref bZ] (b + 1, ovl S b [.inr (8, [.inl .null, .inr false, .inr false, .inr false])], I, L, D)
  refine Ev.sg hX sL_law_477 (pc' := 478) (ls' := [some (.ref (BIG + 300)), some (.ref 0), some (.ref bY), some (.int now), some (.int n), some (.int c), some (.int (nI k)), some (.int (nI w)), some (.ref bZ)]) (st' := [.ref b, .ref b, .ref bZ]) (h' := (b + 1, ovl S b [.inr (8, [.inl .null, .inr false, .inr false, .inr false])], I, L, D)) rfl ?_
  refine Ev.callI (As := []) (rest := [.ref b, .ref bZ]) diJ4_init_da8c8 rfl mkL_145 dL_law_478 (c_SBInit (d := 15) hX (by decide) hz (by omega)) ⟨by decide, by show 1 + 19 + 40 * _ ≤ 40 * _; omega⟩ ⟨by omega, by omega⟩ rfl (Nat.le_of_ble_eq_true rfl) (fun v9 h9 e9 => ?_) (fun E9 h9 e9 => nomatch e9)
  cases e9
  have bl1 := BL.start (S := S) (I := I) (L := L) (D := D) b4 hz
  have nc : NEWC 2 (b, S, I, L, D) (b + 2, ovl S b [.inr (8, [.inl (.ref (b + 1)), .inr false, .inr false, .inr false]), .inl (.byte, 16)], up2 I b 1 0, L, D) := by
    refine ⟨Nat.le_add_right _ _, Nat.le_refl _, fun a ha => ?_⟩
    have ha : a < b := ha
    refine ⟨?_, up2_ne (by omega), rfl, rfl⟩
    show ovl S b _ a = S a
    unfold ovl
    rw [if_neg (by omega)]
  have n1 : zN ((b + 2, ovl S b [.inr (8, [.inl (.ref (b + 1)), .inr false, .inr false, .inr false]), .inl (.byte, 16)], up2 I b 1 0, L, D) : MH) = b + 2 := rfl
  obtain ⟨h1, eh1⟩ : ∃ h1 : MH, h1 = (b + 2, ovl S b [.inr (8, [.inl (.ref (b + 1)), .inr false, .inr false, .inr false]), .inl (.byte, 16)], up2 I b 1 0, L, D) := ⟨_, rfl⟩
  rw [← eh1] at bl1 nc n1 ⊢
  have u1 := bl1.bu b4
  have ox1 := ox.newc b0 nc u1.2.1
  have oz1 := oz.newc bz0 nc u1.2.1
  have T := T2_ok k hk
  obtain ⟨t7, t8⟩ := l22
  have i7 : (22 : Nat) < jnS := by decide
  have i8 : (23 : Nat) < jnS := by decide
  have j7 := jsh_len 22 i7
  have j8 := jsh_len 23 i8
  rw [t7] at j7
  rw [t8] at j8
  show Ev _ _ _ _ _ _ 481 [some (.ref (BIG + 300)), some (.ref 0), some (.ref bY), some (.int now), some (.int n), some (.int c), some (.int (nI k)), some (.int (nI w)), some (.ref bZ)] [.ref b, .ref bZ] h1
  refine Ev.ldcS (si := 58) rfl dL_law_481 ?_
  show Ev _ _ _ _ _ _ 483 [some (.ref (BIG + 300)), some (.ref 0), some (.ref bY), some (.int now), some (.int n), some (.int c), some (.int (nI k)), some (.int (nI w)), some (.ref bZ)] [.ref (jsh0 + 22), .ref b, .ref bZ] h1
  refine Ev.callV (As := [.ref (jsh0 + 22)]) (rest := [.ref bZ]) dvJ4_append_15ec4 mkL_148 u1.1.1 rfl dL_law_483 (BL.appS (d := 15) hX (by omega) b4 (by decide) i7 bl1 (by rw [t7]; decide) (Or.inr (by decide)) (by omega)) ⟨by decide, by show 2 + 19 + 40 * _ ≤ 40 * _; omega⟩ ⟨by rw [t7, show gc 16 (([] : List Int32).length + 20) = 1 by decide]; omega, by rw [t7, show gs 16 (([] : List Int32).length + 20) = 34 by decide]; omega⟩ rfl (Nat.le_of_ble_eq_true rfl) (fun v9 h9 e9 => ?_) (fun E9 h9 e9 => ?_)
  · obtain ⟨v2, h2, bl2, a2, n2, e⟩ := e9
    cases e
    rw [t7, show gc 16 (([] : List Int32).length + 20) = 1 by decide] at n2
    rw [t7, show gr 16 (([] : List Int32).length + 20) = 34 by decide, List.nil_append] at bl2
    rw [t7, show gc 16 (([] : List Int32).length + 20) = 1 by decide, show gs 16 (([] : List Int32).length + 20) = 34 by decide]
    have u2 := bl2.bu b4
    show Ev _ _ _ _ _ _ 486 [some (.ref (BIG + 300)), some (.ref 0), some (.ref bY), some (.int now), some (.int n), some (.int c), some (.int (nI k)), some (.int (nI w)), some (.ref bZ)] [.ref b, .ref bZ] h9
    refine Ev.sg hX sL_law_486 (pc' := 488) (ls' := [some (.ref (BIG + 300)), some (.ref 0), some (.ref bY), some (.int now), some (.int n), some (.int c), some (.int (nI k)), some (.int (nI w)), some (.ref bZ)]) (st' := [.int (nI k), .ref b, .ref bZ]) (h' := h9) rfl ?_
    have g1 : gc 34 ((jshb.getD 22 []).length + 1) = 0 ∧ gs 34 ((jshb.getD 22 []).length + 1) = 0 ∧ gr 34 ((jshb.getD 22 []).length + 1) = 34 := by rw [j7]; decide
    refine Ev.callV (As := [.int (nI k)]) (rest := [.ref bZ]) dvJ4_append_bf812 mkL_151 u2.1.1 rfl dL_law_488 (BL.appI (d := 15) hX (by omega) b4 (by decide) (k := k) (by omega) bl2 (by omega) (Or.inl (by omega)) (by omega)) ⟨by decide, by show 2 + 19 + 40 * _ ≤ 40 * _; omega⟩ ⟨by rw [g1.1]; omega, by rw [g1.2.1]; omega⟩ rfl (Nat.le_of_ble_eq_true rfl) (fun v8 h8 e8 => ?_) (fun E8 h8 e8 => ?_)
    · obtain ⟨v3, h3, bl3, a3, n3, e⟩ := e8
      cases e
      rw [g1.1] at n3
      rw [g1.2.2] at bl3
      rw [g1.1, g1.2.1]
      have u3 := bl3.bu b4
      show Ev _ _ _ _ _ _ 491 [some (.ref (BIG + 300)), some (.ref 0), some (.ref bY), some (.int now), some (.int n), some (.int c), some (.int (nI k)), some (.int (nI w)), some (.ref bZ)] [.ref b, .ref bZ] h8
      refine Ev.ldcS (si := 59) rfl dL_law_491 ?_
      show Ev _ _ _ _ _ _ 493 [some (.ref (BIG + 300)), some (.ref 0), some (.ref bY), some (.int now), some (.int n), some (.int c), some (.int (nI k)), some (.int (nI w)), some (.ref bZ)] [.ref (jsh0 + 23), .ref b, .ref bZ] h8
      have l3 : (jshb.getD 22 [] ++ [nI (48 + k)]).length = 21 := by rw [List.length_append, j7]; rfl
      have g2 : gc 34 ((jshb.getD 22 [] ++ [nI (48 + k)]).length + jshl.getD 23 0) = 1 ∧ gs 34 ((jshb.getD 22 [] ++ [nI (48 + k)]).length + jshl.getD 23 0) = 70 ∧ gr 34 ((jshb.getD 22 [] ++ [nI (48 + k)]).length + jshl.getD 23 0) = 70 := by rw [l3, t8]; decide
      refine Ev.callV (As := [.ref (jsh0 + 23)]) (rest := [.ref bZ]) dvJ4_append_15ec4 mkL_148 u3.1.1 rfl dL_law_493 (BL.appS (d := 15) hX (by omega) b4 (by decide) i8 bl3 (by omega) (Or.inr (by decide)) (by omega)) ⟨by decide, by show 2 + 19 + 40 * _ ≤ 40 * _; omega⟩ ⟨by rw [g2.1]; omega, by rw [g2.2.1]; omega⟩ rfl (Nat.le_of_ble_eq_true rfl) (fun v7 h7 e7 => ?_) (fun E7 h7 e7 => ?_)
      · obtain ⟨v5, h5, bl5, a5, n5, e⟩ := e7
        cases e
        rw [g2.1] at n5
        rw [g2.2.2] at bl5
        rw [g2.1, g2.2.1]
        have ew : jshb.getD 22 [] ++ [nI (48 + k)] ++ jshb.getD 23 [] = T2 k := by
          unfold T2
          rw [List.append_assoc]
        rw [ew] at bl5
        have u5 := bl5.bu b4
        have ox5 : OB Kx 0 395 sx h7 := ox1.frame b0 (by omega) (fun a ha q => by
          have e1 : swp 0 395 = 395 := rfl
          have := bl5.old b4 (a := a) (by omega)
          exact ⟨this.1, this.2.1, this.2.2.1⟩) u5.2.1
        have oz5 : OB Kz bZ 395 sz h7 := oz1.frame bz0 (by omega) (fun a ha q => by
          have e1 : swp bZ 395 = bZ + 395 := if_pos (by decide)
          have := bl5.old b4 (a := a) (by omega)
          exact ⟨this.1, this.2.1, this.2.2.1⟩) u5.2.1
        show Ev _ _ _ _ _ _ 496 [some (.ref (BIG + 300)), some (.ref 0), some (.ref bY), some (.int now), some (.int n), some (.int c), some (.int (nI k)), some (.int (nI w)), some (.ref bZ)] [.ref b, .ref bZ] h7
        have mt := mk_TS u5.1 u5.2.1
        refine Ev.callV (As := []) (rest := [.ref bZ]) dvJ4_toString_0e30d mkL_156 u5.1.1 rfl dL_law_496 (c_toStr (d := 15) hX (by decide) u5.1 (by omega) (by omega) u5.2.1) ⟨by decide, by show 1 + 19 + 40 * _ ≤ 40 * _; omega⟩ ⟨by omega, by omega⟩ rfl (Nat.le_of_ble_eq_true rfl) (fun v0 h0' e0 => ?_) (fun E0 h0' e0 => nomatch e0)
        cases e0
        obtain ⟨hf, ehf⟩ : ∃ hf, hf = mkH h7 (swq b v5) (T2 k) := ⟨_, rfl⟩
        obtain ⟨r, hr⟩ : ∃ r, r = zN h7 := ⟨_, rfl⟩
        rw [← ehf, ← hr] at mt ⊢
        have nf := mt.2.2.1
        have zf : Z0 (zN hf) (zI hf) (zL hf) (zD hf) := fun a ha j => by
          have nn : zN hf = zN h7 + 2 := by rw [ehf]; rfl
          have q := u5.2.1 a (by omega) j
          rw [ehf]
          refine ⟨?_, q.2⟩
          show (if a = zN h7 + 1 then _ else up2 (zI h7) (zN h7) 1 0 a j) = 0
          rw [if_neg (by omega), up2_ne (by omega)]
          exact q.1
        have ox6 := ox5.newc b0 mt.2 zf
        have oz6 := oz5.newc bz0 mt.2 zf
        show Ev _ _ _ _ _ _ 499 [some (.ref (BIG + 300)), some (.ref 0), some (.ref bY), some (.int now), some (.int n), some (.int c), some (.int (nI k)), some (.int (nI w)), some (.ref bZ)] [.ref r, .ref bZ] hf
        have P := c_put (v := 395) (P := TS r (T2 k)) hX hM bz0 (str_ok hX (by omega) (fun c hc => ⟨(T.1 c hc).1, (T.1 c hc).2.1⟩)) (fun h h' t st => t.step st (by omega) (Or.inl (by rw [show swp bZ 395 = bZ + 395 from if_pos (by decide)]; omega))) (fun c hc => (T.1 c hc).2.2) oz6 mt.1 (by omega) (by omega)
        rw [T.2] at P
        refine Ev.callS (As := [.ref bZ, .ref r]) (rest := []) dsL_put mkL_160 dL_law_499 P ⟨by decide, by show 3 + 19 + 40 * _ ≤ 40 * _; omega⟩ ⟨by omega, by omega⟩ rfl (Nat.le_of_ble_eq_true rfl) (fun v9' h9' e9' => ?_) (fun E9' h9' e9' => ?_)
        · obtain ⟨hg, stg, obg, -, e⟩ := e9'
          cases e
          have s1 := stg.2.1
          exact kk h9' _ _ (OB.keep2 bz0 b0 dj ox6 stg obg) obg (by show zN h9' ≤ b + 400; omega) (by omega) (by omega)
        · obtain ⟨hg, stg, obg, -, e⟩ := e9'
          cases e
      · obtain ⟨v5, h5, bl5, a5, n5, e⟩ := e7
        cases e
    · obtain ⟨v3, h3, bl3, a3, n3, e⟩ := e8
      cases e
  · obtain ⟨v2, h2, bl2, a2, n2, e⟩ := e9
    cases e
end LWV
