/-! the law's walk: two yards of one script -/
section LW1
variable {X : JX} {mc ms : Nat} {Q : JR → Prop} {h h0 : MH} {bY n : Nat} {now : Int32}
set_option maxRecDepth 100000 in
theorem law_1 (hX : JXok X) (hM : jM X ≤ 396) (hs : jSn X < 2 ^ 31) (hN : zN h0 = 0) (hz : Z0 (zN h0) (zI h0) (zL h0) (zD h0)) (hm : 10000 ≤ mc ∧ 60000 ≤ ms)
    (kk : ∀ h bY mc' ms', 396 ≤ bY → OB 120 0 395 (svS (bG (scA X))) h → OB 120 bY 395 (bG (scA X)) h → zN h ≤ 6000 → mc - 6000 ≤ mc' → ms - 40000 ≤ ms' → Ev X (jm jdL_law) 17 mc' ms' Q 25 [some (.ref (BIG + 300)), some (.ref 0), some (.ref bY), some (.int (stGF (bG (scA X)).1)), some (.int (nI ((bG (scA X)).1 0))), none, none, none, none] [] h) :
    Ev X (jm jdL_law) 17 mc ms Q 0 [some (.ref (BIG + 300)), none, none, none, none, none, none, none, none] [] h0 := by
  refine Ev.sg hX sL_law_0 (pc' := 1) (ls' := [some (.ref (BIG + 300)), none, none, none, none, none, none, none, none]) (st' := [.ref (BIG + 300)]) (h' := h0) rfl ?_
  refine Ev.callS (As := [.ref (BIG + 300)]) (rest := []) dsL_build mkL_132 dL_law_1 (c_lbuild hX hM (Or.inl hN) hs hz (by rw [hN]; decide)) ⟨by decide, by show 7 + 19 + 40 * _ ≤ 40 * _; omega⟩ ⟨by omega, by omega⟩ rfl (Nat.le_of_ble_eq_true rfl) (fun v9 h9 e9 => ?_) (fun E9 h9 e9 => ?_)
  · obtain ⟨h1, n1, ox, e⟩ := e9
    cases e
    rw [hN] at ox ⊢
    have b0 : (0 : Nat) = 0 ∨ 396 ≤ 0 := Or.inl rfl
    have hBIG : 50000 < BIG := by decide
    have hz1 : Z0 (zN h9) (zI h9) (zL h9) (zD h9) := (ox.fresh b0).2
    have hN1 := ox.1
    have hN2 := n1.2.1
    rw [hN] at hN2
    show Ev _ _ _ _ _ _ 4 [some (.ref (BIG + 300)), none, none, none, none, none, none, none, none] [.ref 0] h9
    refine Ev.sg hX sL_law_4 (pc' := 6) (ls' := [some (.ref (BIG + 300)), some (.ref 0), none, none, none, none, none, none, none]) (st' := [.ref (BIG + 300)]) (h' := h9) rfl ?_
    refine Ev.callS (As := [.ref (BIG + 300)]) (rest := []) dsL_build mkL_132 dL_law_6 (c_lbuild hX hM (Or.inr (by omega)) hs hz1 (by omega)) ⟨by decide, by show 7 + 19 + 40 * _ ≤ 40 * _; omega⟩ ⟨by omega, by omega⟩ rfl (Nat.le_of_ble_eq_true rfl) (fun v7 h7 e7 => ?_) (fun E7 h7 e7 => ?_)
    · obtain ⟨h2, n2, oy, e⟩ := e7
      cases e
      obtain ⟨bY, hbY⟩ : ∃ b, b = zN h9 := ⟨_, rfl⟩
      rw [← hbY] at oy ⊢
      have bY4 : 396 ≤ bY := by omega
      have by0 : bY = 0 ∨ 396 ≤ bY := Or.inr bY4
      have ox2 : OB 120 0 395 (bG (scA X)) h7 := ox.newc b0 n2 (oy.fresh by0).2
      have n2' := n2.2.1
      have dj : DJ bY 395 0 395 := dj_of (Or.inr (by omega))
      show Ev _ _ _ _ _ _ 9 [some (.ref (BIG + 300)), some (.ref 0), none, none, none, none, none, none, none] [.ref bY] h7
      refine Ev.sg hX sL_law_9 (pc' := 11) (ls' := [some (.ref (BIG + 300)), some (.ref 0), some (.ref bY), none, none, none, none, none, none]) (st' := [.ref 0]) (h' := h7) rfl ?_
      refine Ev.askW (K' := 120) (mc1 := 0) (ms1 := 0) (As := []) (rest := []) (xs := []) (val := none) (s' := svS (bG (scA X))) hX hM b0 by0 dj ox2 oy (by omega) dvX6_save mkL_136 rfl dL_law_11 (by decide) (by decide) ⟨⟨by omega, by omega⟩, by omega, by omega⟩ rfl (Nat.le_of_ble_eq_true rfl) nr_0 (fun _ => rfl) (by decide) (fun X' T I L D hX' c9 => q_save hX' c9) (fun h3 mc3 ms3 a3 c3 ox3 oy3 m3 k3 => ?_)
      show Ev _ _ _ _ _ _ 14 [some (.ref (BIG + 300)), some (.ref 0), some (.ref bY), none, none, none, none, none, none] [] h3
      refine Ev.sg hX sL_law_14 (pc' := 15) (ls' := [some (.ref (BIG + 300)), some (.ref 0), some (.ref bY), none, none, none, none, none, none]) (st' := [.ref 0]) (h' := h3) rfl ?_
      refine Ev.lawW (As := [.ref 0]) (rest := []) b0 by0 dj oy3 dsL_state mkL_139 dL_law_15 (c_state hX hM b0 ox3 (by omega)) ⟨by decide, by show 7 + 19 + 40 * _ ≤ 40 * _; omega⟩ ⟨by omega, by omega⟩ rfl (Nat.le_of_ble_eq_true rfl) (fun h4 mc4 ms4 a4 c4 ox4 oy4 m4 k4 => ?_)
      show Ev _ _ _ _ _ _ 18 [some (.ref (BIG + 300)), some (.ref 0), some (.ref bY), none, none, none, none, none, none] [.int (stGF (bG (scA X)).1)] h4
      obtain ⟨now, hnow⟩ : ∃ x, x = stGF (bG (scA X)).1 := ⟨_, rfl⟩
      rw [← hnow] at kk ⊢
      refine Ev.sg hX sL_law_18 (pc' := 20) (ls' := [some (.ref (BIG + 300)), some (.ref 0), some (.ref bY), some (.int now), none, none, none, none, none]) (st' := [.ref 0]) (h' := h4) rfl ?_
      refine Ev.askW (K' := 120) (mc1 := 0) (ms1 := 0) (As := []) (rest := []) (xs := []) (val := some (.int (nI ((bG (scA X)).1 0)))) (s' := svS (bG (scA X))) hX hM b0 by0 dj ox4 oy4 (by omega) dvX6_trackCount mkL_34 rfl dL_law_20 (by decide) (by decide) ⟨⟨by omega, by omega⟩, by omega, by omega⟩ rfl (Nat.le_of_ble_eq_true rfl) nr_0 (fun _ => rfl) (by decide) (fun X' T I L D hX' c9 => q_trackCount hX' c9) (fun h5 mc5 ms5 a5 c5 ox5 oy5 m5 k5 => ?_)
      show Ev _ _ _ _ _ _ 23 [some (.ref (BIG + 300)), some (.ref 0), some (.ref bY), some (.int now), none, none, none, none, none] [.int (nI ((bG (scA X)).1 0))] h5
      obtain ⟨n, hn⟩ : ∃ x, x = (bG (scA X)).1 0 := ⟨_, rfl⟩
      rw [← hn] at kk ⊢
      refine Ev.sg hX (sL_law_23.sub 0 1) (pc' := 25) (ls' := [some (.ref (BIG + 300)), some (.ref 0), some (.ref bY), some (.int now), some (.int (nI n)), none, none, none, none]) (st' := []) (h' := h5) rfl ?_
      exact kk h5 bY mc5 ms5 bY4 ox5 oy5 (by omega) (by omega) (by omega)
    · obtain ⟨h2, n2, oy, e⟩ := e7
      cases e
  · obtain ⟨h1, n1, ox, e⟩ := e9
    cases e
/-- the text of two tracks and their link is made -/
theorem dgL_1 {n : Nat} (h : n < 10) : dgL n = [nI (48 + n)] := by
  unfold dgL
  rw [if_pos h]
theorem sbd_1 {n : Nat} (h : n < 10) : sb_dg n = 1 := by
  have q := dgL_len n (by omega)
  rw [dgL_1 h] at q
  exact q.symm
theorem T1_ok : ∀ n, n < 7 → (∀ c ∈ T1 n, ((c &&& 255).toUInt32 % 65536).toInt32 = c ∧ narrow .char (.int c) = .int c ∧ vp_nar .char c = c) ∧ (T1 n).length = 32 := by decide +kernel
theorem l7 : jshl.getD 7 0 = 29 ∧ jshl.getD 8 0 = 1 := by decide +kernel
section BLA
variable {d cap v i k : Nat} {w : List Int32}
theorem BL.appS (hX : JXok X) (hM : jM X ≤ n + 2) (hn : 396 ≤ n) (hd : 6 ≤ d) (hi : i < jnS) (hl : BL h0 w cap n v h) (hq2 : w.length + jshl.getD i 0 ≤ 2 * cap + 2) (h700 : w.length + jshl.getD i 0 ≤ cap ∨ 2 * cap + 2 ≤ 700) (hB : zN h + 1 < BIG) : MT X d (gc cap (w.length + jshl.getD i 0)) (gs cap (w.length + jshl.getD i 0)) jdJ4_append_15ec4 [.ref n, .ref (jsh0 + i)] h (fun R => ∃ v' h', BL h0 (w ++ jshb.getD i []) (gr cap (w.length + jshl.getD i 0)) n v' h' ∧ zN h ≤ zN h' ∧ zN h' = zN h + gc cap (w.length + jshl.getD i 0) ∧ R = .inl (some (.ref n), h')) := by
  refine hl.call hX hM hn (by omega) (Or.inr ⟨i, rfl⟩) (fun X' T I L D hX' ln => (c_appSB hX' hd hi ln hq2 h700 hB).mono fun R hR => ?_)
  obtain ⟨N', v', T', I', e, ln', -, eN⟩ := hR
  exact ⟨N', v', T', I', _, _, e, ln', by omega, fun h' e1 b1 => ⟨v', h', b1, by omega, by omega, rfl⟩⟩
theorem BL.appI (hX : JXok X) (hM : jM X ≤ n + 2) (hn : 396 ≤ n) (hd : 6 ≤ d) (hk : k < 10) (hl : BL h0 w cap n v h) (hq2 : w.length + 1 ≤ 2 * cap + 2) (h700 : w.length + 1 ≤ cap ∨ 2 * cap + 2 ≤ 700) (hB : zN h + 1 < BIG) : MT X d (gc cap (w.length + 1)) (gs cap (w.length + 1)) jdJ4_append_bf812 [.ref n, .int (nI k)] h (fun R => ∃ v' h', BL h0 (w ++ [nI (48 + k)]) (gr cap (w.length + 1)) n v' h' ∧ zN h ≤ zN h' ∧ zN h' = zN h + gc cap (w.length + 1) ∧ R = .inl (some (.ref n), h')) := by
  refine hl.call hX hM hn (by omega) (Or.inl (fun _ => rfl)) (fun X' T I L D hX' ln => ?_)
  have C := c_appIB hX' hd (k := k) ln (by rw [sbd_1 hk]; exact hq2) (by rw [sbd_1 hk]; exact h700) hB (by omega)
  rw [sbd_1 hk, dgL_1 hk] at C
  refine C.mono fun R hR => ?_
  obtain ⟨N', v', T', I', e, ln', -, eN⟩ := hR
  exact ⟨N', v', T', I', _, _, e, ln', by omega, fun h' e1 b1 => ⟨v', h', b1, by omega, by omega, rfl⟩⟩
end BLA
set_option maxRecDepth 8000 in
/-- the first text is made and put into x -/
theorem law_2 {Kx Ky : Nat} {sx sy : GS} (hX : JXok X) (hM : jM X ≤ 396) (bY4 : 396 ≤ bY) (hn : n < 7) (ox : OB Kx 0 395 sx h) (oy : OB Ky bY 395 sy h) (hq : sx.2.2.2.2.1 = 0) (hN : zN h ≤ 7000) (hm : 2000 ≤ mc ∧ 20000 ≤ ms)
    (kk : ∀ h' mc' ms', OB Kx 0 395 ((T1 n).foldl appS sx) h' → OB Ky bY 395 sy h' → zN h' ≤ 7400 → mc - 400 ≤ mc' → ms - 4000 ≤ ms' → Ev X (jm jdL_law) 17 mc' ms' Q 68 [some (.ref (BIG + 300)), some (.ref 0), some (.ref bY), some (.int now), some (.int (nI n)), none, none, none, none] [] h') :
    Ev X (jm jdL_law) 17 mc ms Q 25 [some (.ref (BIG + 300)), some (.ref 0), some (.ref bY), some (.int now), some (.int (nI n)), none, none, none, none] [] h := by
  have b0 : (0 : Nat) = 0 ∨ 396 ≤ 0 := Or.inl rfl
  have by0 : bY = 0 ∨ 396 ≤ bY := Or.inr bY4
  have hBIG : 50000 < BIG := by decide
  have dj : DJ bY 395 0 395 := dj_of (Or.inr (by omega))
  have hz : Z0 (zN h) (zI h) (zL h) (zD h) := (ox.fresh b0).2
  have oyN := oy.1
  obtain ⟨b, S, I, L, D⟩ := h
  have hz : Z0 b I L D := hz
  have hN : b ≤ 7000 := hN
  have oyN : bY + 396 ≤ b := oyN
  have b4 : 396 ≤ b := by omega
  refine Ev.sg hX (sL_law_23.sub 1 2) (pc' := 29) (ls' := [some (.ref (BIG + 300)), some (.ref 0), some (.ref bY), some (.int now), some (.int (nI n)), none, none, none, none]) (st' := [.int 7, .int (nI n)]) (h' := (b, S, I, L, D)) rfl ?_
  refine Ev.icmp_ge (tgt := 208) dL_law_29 (by decide) (fun b1 => absurd ((nI_leI (a := 7) (b := n) (by omega) (by omega)).mp b1) (by omega)) (fun _ => ?_)
  refine Ev.sg hX sL_law_32 (pc' := 33) (ls' := [some (.ref (BIG + 300)), some (.ref 0), some (.ref bY), some (.int now), some (.int (nI n)), none, none, none, none]) (st' := [.ref 0]) (h' := (b, S, I, L, D)) rfl ?_
  refine Ev.eqh (h' := (b + 0, ovl S b [], I, L, D)) (by rw [ovl_no]; rfl) ?_
  refine Ev.newO (ci := 8) (fs := [.inl .null, .inr false, .inr false, .inr false]) hX ci_J4 (bw_of 1391 (by decide +kernel) (by decide +kernel)) hz.z2 fs_J4 ⟨by omega, by omega⟩ (by show b + 1 < BIG; omega) dL_law_33 ?_
  refine Ev.eqh (h' := (b + 1, ovl S b [.inr (8, [.inl .null, .inr false, .inr false, .inr false])], I, L, D)) (newS_ovl (b := b) (k := 0) (l := []) rfl) ?_
  show Ev _ _ _ _ _ _ 36 [some (.ref (BIG + 300)), some (.ref 0), some (.ref bY), some (.int now), some (.int (nI n)), none, none, none, none] [.ref b, .ref 0] (b + 1, ovl S b [.inr (8, [.inl .null, .inr false, .inr false, .inr false])], I, L, D)
  refine Ev.sg hX sL_law_36 (pc' := 37) (ls' := [some (.ref (BIG + 300)), some (.ref 0), some (.ref bY), some (.int now), some (.int (nI n)), none, none, none, none]) (st' := [.ref b, .ref b, .ref 0]) (h' := (b + 1, ovl S b [.inr (8, [.inl .null, .inr false, .inr false, .inr false])], I, L, D)) rfl ?_
  refine Ev.callI (As := []) (rest := [.ref b, .ref 0]) diJ4_init_da8c8 rfl mkL_145 dL_law_37 (c_SBInit (d := 15) hX (by decide) hz (by omega)) ⟨by decide, by show 1 + 19 + 40 * _ ≤ 40 * _; omega⟩ ⟨by omega, by omega⟩ rfl (Nat.le_of_ble_eq_true rfl) (fun v9 h9 e9 => ?_) (fun E9 h9 e9 => nomatch e9)
  cases e9
  have bl1 := BL.start (S := S) (I := I) (L := L) (D := D) b4 hz
  have nc : NEWC 2 (b, S, I, L, D) (b + 2, ovl S b [.inr (8, [.inl (.ref (b + 1)), .inr false, .inr false, .inr false]), .inl (.byte, 16)], up2 I b 1 0, L, D) := by
    refine ⟨Nat.le_add_right _ _, Nat.le_refl _, fun a ha => ?_⟩
    have ha : a < b := ha
    refine ⟨?_, up2_ne (by omega), rfl, rfl⟩
    show ovl S b _ a = S a
    unfold ovl
    rw [if_neg (by omega)]
  have n1 : zN ((b + 2, ovl S b [.inr (8, [.inl (.ref (b + 1)), .inr false, .inr false, .inr false]), .inl (.byte, 16)], up2 I b 1 0, L, D) : MH) = b + 2 := rfl
  obtain ⟨h1, eh1⟩ : ∃ h1 : MH, h1 = (b + 2, ovl S b [.inr (8, [.inl (.ref (b + 1)), .inr false, .inr false, .inr false]), .inl (.byte, 16)], up2 I b 1 0, L, D) := ⟨_, rfl⟩
  rw [← eh1] at bl1 nc n1 ⊢
  have u1 := bl1.bu b4
  have ox1 := ox.newc b0 nc u1.2.1
  have oy1 := oy.newc by0 nc u1.2.1
  have T := T1_ok n hn
  obtain ⟨t7, t8⟩ := l7
  have i7 : (7 : Nat) < jnS := by decide
  have i8 : (8 : Nat) < jnS := by decide
  have j7 := jsh_len 7 i7
  have j8 := jsh_len 8 i8
  rw [t7] at j7
  rw [t8] at j8
  show Ev _ _ _ _ _ _ 40 [some (.ref (BIG + 300)), some (.ref 0), some (.ref bY), some (.int now), some (.int (nI n)), none, none, none, none] [.ref b, .ref 0] h1
  refine Ev.ldcS (si := 43) rfl dL_law_40 ?_
  show Ev _ _ _ _ _ _ 42 [some (.ref (BIG + 300)), some (.ref 0), some (.ref bY), some (.int now), some (.int (nI n)), none, none, none, none] [.ref (jsh0 + 7), .ref b, .ref 0] h1
  refine Ev.callV (As := [.ref (jsh0 + 7)]) (rest := [.ref 0]) dvJ4_append_15ec4 mkL_148 u1.1.1 rfl dL_law_42 (BL.appS (d := 15) hX (by omega) b4 (by decide) i7 bl1 (by rw [t7]; decide) (Or.inr (by decide)) (by omega)) ⟨by decide, by show 2 + 19 + 40 * _ ≤ 40 * _; omega⟩ ⟨by rw [t7, show gc 16 (([] : List Int32).length + 29) = 1 by decide]; omega, by rw [t7, show gs 16 (([] : List Int32).length + 29) = 34 by decide]; omega⟩ rfl (Nat.le_of_ble_eq_true rfl) (fun v9 h9 e9 => ?_) (fun E9 h9 e9 => ?_)
  · obtain ⟨v2, h2, bl2, a2, n2, e⟩ := e9
    cases e
    rw [t7, show gc 16 (([] : List Int32).length + 29) = 1 by decide] at n2
    rw [t7, show gr 16 (([] : List Int32).length + 29) = 34 by decide, List.nil_append] at bl2
    rw [t7, show gc 16 (([] : List Int32).length + 29) = 1 by decide, show gs 16 (([] : List Int32).length + 29) = 34 by decide]
    have u2 := bl2.bu b4
    show Ev _ _ _ _ _ _ 45 [some (.ref (BIG + 300)), some (.ref 0), some (.ref bY), some (.int now), some (.int (nI n)), none, none, none, none] [.ref b, .ref 0] h9
    refine Ev.sg hX sL_law_45 (pc' := 47) (ls' := [some (.ref (BIG + 300)), some (.ref 0), some (.ref bY), some (.int now), some (.int (nI n)), none, none, none, none]) (st' := [.int (nI n), .ref b, .ref 0]) (h' := h9) rfl ?_
    have g1 : gc 34 ((jshb.getD 7 []).length + 1) = 0 ∧ gs 34 ((jshb.getD 7 []).length + 1) = 0 ∧ gr 34 ((jshb.getD 7 []).length + 1) = 34 := by rw [j7]; decide
    refine Ev.callV (As := [.int (nI n)]) (rest := [.ref 0]) dvJ4_append_bf812 mkL_151 u2.1.1 rfl dL_law_47 (BL.appI (d := 15) hX (by omega) b4 (by decide) (k := n) (by omega) bl2 (by omega) (Or.inl (by omega)) (by omega)) ⟨by decide, by show 2 + 19 + 40 * _ ≤ 40 * _; omega⟩ ⟨by rw [g1.1]; omega, by rw [g1.2.1]; omega⟩ rfl (Nat.le_of_ble_eq_true rfl) (fun v8 h8 e8 => ?_) (fun E8 h8 e8 => ?_)
    · obtain ⟨v3, h3, bl3, a3, n3, e⟩ := e8
      cases e
      rw [g1.1] at n3
      rw [g1.2.2] at bl3
      rw [g1.1, g1.2.1]
      have u3 := bl3.bu b4
      show Ev _ _ _ _ _ _ 50 [some (.ref (BIG + 300)), some (.ref 0), some (.ref bY), some (.int now), some (.int (nI n)), none, none, none, none] [.ref b, .ref 0] h8
      refine Ev.ldcS (si := 44) rfl dL_law_50 ?_
      show Ev _ _ _ _ _ _ 52 [some (.ref (BIG + 300)), some (.ref 0), some (.ref bY), some (.int now), some (.int (nI n)), none, none, none, none] [.ref (jsh0 + 8), .ref b, .ref 0] h8
      have l3 : (jshb.getD 7 [] ++ [nI (48 + n)]).length = 30 := by rw [List.length_append, j7]; rfl
      have g2 : gc 34 ((jshb.getD 7 [] ++ [nI (48 + n)]).length + jshl.getD 8 0) = 0 ∧ gs 34 ((jshb.getD 7 [] ++ [nI (48 + n)]).length + jshl.getD 8 0) = 0 ∧ gr 34 ((jshb.getD 7 [] ++ [nI (48 + n)]).length + jshl.getD 8 0) = 34 := by rw [l3, t8]; decide
      refine Ev.callV (As := [.ref (jsh0 + 8)]) (rest := [.ref 0]) dvJ4_append_15ec4 mkL_148 u3.1.1 rfl dL_law_52 (BL.appS (d := 15) hX (by omega) b4 (by decide) i8 bl3 (by omega) (Or.inl (by omega)) (by omega)) ⟨by decide, by show 2 + 19 + 40 * _ ≤ 40 * _; omega⟩ ⟨by rw [g2.1]; omega, by rw [g2.2.1]; omega⟩ rfl (Nat.le_of_ble_eq_true rfl) (fun v7 h7 e7 => ?_) (fun E7 h7 e7 => ?_)
      · obtain ⟨v4, h4, bl4, a4, n4, e⟩ := e7
        cases e
        rw [g2.1] at n4
        rw [g2.2.2] at bl4
        rw [g2.1, g2.2.1]
        have u4 := bl4.bu b4
        show Ev _ _ _ _ _ _ 55 [some (.ref (BIG + 300)), some (.ref 0), some (.ref bY), some (.int now), some (.int (nI n)), none, none, none, none] [.ref b, .ref 0] h7
        refine Ev.sg hX sL_law_55 (pc' := 59) (ls' := [some (.ref (BIG + 300)), some (.ref 0), some (.ref bY), some (.int now), some (.int (nI n)), none, none, none, none]) (st' := [.int (nI n + 1), .ref b, .ref 0]) (h' := h7) rfl ?_
        rw [nI_1]
        have l4 : (jshb.getD 7 [] ++ [nI (48 + n)] ++ jshb.getD 8 []).length = 31 := by rw [List.length_append, l3, j8]
        have g3 : gc 34 ((jshb.getD 7 [] ++ [nI (48 + n)] ++ jshb.getD 8 []).length + 1) = 0 ∧ gs 34 ((jshb.getD 7 [] ++ [nI (48 + n)] ++ jshb.getD 8 []).length + 1) = 0 ∧ gr 34 ((jshb.getD 7 [] ++ [nI (48 + n)] ++ jshb.getD 8 []).length + 1) = 34 := by rw [l4]; decide
        refine Ev.callV (As := [.int (nI (n + 1))]) (rest := [.ref 0]) dvJ4_append_bf812 mkL_151 u4.1.1 rfl dL_law_59 (BL.appI (d := 15) hX (by omega) b4 (by decide) (k := n + 1) (by omega) bl4 (by omega) (Or.inl (by omega)) (by omega)) ⟨by decide, by show 2 + 19 + 40 * _ ≤ 40 * _; omega⟩ ⟨by rw [g3.1]; omega, by rw [g3.2.1]; omega⟩ rfl (Nat.le_of_ble_eq_true rfl) (fun v6 h6 e6 => ?_) (fun E6 h6 e6 => ?_)
        · obtain ⟨v5, h5, bl5, a5, n5, e⟩ := e6
          cases e
          rw [g3.1] at n5
          rw [g3.2.2] at bl5
          rw [g3.1, g3.2.1]
          have ew : jshb.getD 7 [] ++ [nI (48 + n)] ++ jshb.getD 8 [] ++ [nI (48 + (n + 1))] = T1 n := by
            unfold T1
            rw [List.append_assoc, List.append_assoc]
          rw [ew] at bl5
          have u5 := bl5.bu b4
          have ox5 : OB Kx 0 395 sx h6 := ox1.frame b0 (by omega) (fun a ha q => by
            have e1 : swp 0 395 = 395 := rfl
            have := bl5.old b4 (a := a) (by omega)
            exact ⟨this.1, this.2.1, this.2.2.1⟩) u5.2.1
          have oy5 : OB Ky bY 395 sy h6 := oy1.frame by0 (by omega) (fun a ha q => by
            have e1 : swp bY 395 = bY + 395 := if_pos (by decide)
            have := bl5.old b4 (a := a) (by omega)
            exact ⟨this.1, this.2.1, this.2.2.1⟩) u5.2.1
          show Ev _ _ _ _ _ _ 62 [some (.ref (BIG + 300)), some (.ref 0), some (.ref bY), some (.int now), some (.int (nI n)), none, none, none, none] [.ref b, .ref 0] h6
          have mt := mk_TS u5.1 u5.2.1
          refine Ev.callV (As := []) (rest := [.ref 0]) dvJ4_toString_0e30d mkL_156 u5.1.1 rfl dL_law_62 (c_toStr (d := 15) hX (by decide) u5.1 (by omega) (by omega) u5.2.1) ⟨by decide, by show 1 + 19 + 40 * _ ≤ 40 * _; omega⟩ ⟨by omega, by omega⟩ rfl (Nat.le_of_ble_eq_true rfl) (fun v0 h0' e0 => ?_) (fun E0 h0' e0 => nomatch e0)
          cases e0
          obtain ⟨hf, ehf⟩ : ∃ hf, hf = mkH h6 (swq b v5) (T1 n) := ⟨_, rfl⟩
          obtain ⟨r, hr⟩ : ∃ r, r = zN h6 := ⟨_, rfl⟩
          rw [← ehf, ← hr] at mt ⊢
          have nf := mt.2.2.1
          have zf : Z0 (zN hf) (zI hf) (zL hf) (zD hf) := fun a ha j => by
            have nn : zN hf = zN h6 + 2 := by rw [ehf]; rfl
            have q := u5.2.1 a (by omega) j
            have u5I := u5.1
            rw [ehf]
            refine ⟨?_, q.2⟩
            show (if a = zN h6 + 1 then _ else up2 (zI h6) (zN h6) 1 0 a j) = 0
            rw [if_neg (by omega), up2_ne (by omega)]
            exact q.1
          have ox6 := ox5.newc b0 mt.2 zf
          have oy6 := oy5.newc by0 mt.2 zf
          show Ev _ _ _ _ _ _ 65 [some (.ref (BIG + 300)), some (.ref 0), some (.ref bY), some (.int now), some (.int (nI n)), none, none, none, none] [.ref r, .ref 0] hf
          have P := c_put (v := 395) (P := TS r (T1 n)) hX hM b0 (str_ok hX (by omega) (fun c hc => ⟨(T.1 c hc).1, (T.1 c hc).2.1⟩)) (fun h h' t st => t.step st (by omega) (Or.inl (by show 395 < r; omega))) (fun c hc => (T.1 c hc).2.2) ox6 mt.1 (by omega) (by omega)
          rw [T.2] at P
          refine Ev.callS (As := [.ref 0, .ref r]) (rest := []) dsL_put mkL_160 dL_law_65 P ⟨by decide, by show 3 + 19 + 40 * _ ≤ 40 * _; omega⟩ ⟨by omega, by omega⟩ rfl (Nat.le_of_ble_eq_true rfl) (fun v9' h9' e9' => ?_) (fun E9' h9' e9' => ?_)
          · obtain ⟨hg, stg, obg, -, e⟩ := e9'
            cases e
            have s1 := stg.2.1
            exact kk h9' _ _ obg (OB.keep2 b0 by0 dj oy6 stg obg) (by omega) (by omega) (by omega)
          · obtain ⟨hg, stg, obg, -, e⟩ := e9'
            cases e
        · obtain ⟨v5, h5, bl5, a5, n5, e⟩ := e6
          cases e
      · obtain ⟨v4, h4, bl4, a4, n4, e⟩ := e7
        cases e
    · obtain ⟨v3, h3, bl3, a3, n3, e⟩ := e8
      cases e
  · obtain ⟨v2, h2, bl2, a2, n2, e⟩ := e9
    cases e
end LW1
