/-! the law's loop: its branches -/
section LBX
variable {X : JX} {mc ms N v i K : Nat} {T : Nat → Option JS} {I : HI} {L : HL} {Dd : HD} {l6 l7 l8 : Option Value}
theorem br_addTrack (hX : JXok X) (hI : INV K N v T I L Dd) (hK : K + 8 ≤ 5000) (hN : N + 1500 < BIG) (hs : i + 6 ≤ jSn X ∧ jSn X ≤ 3072) (hm : 1160 ≤ mc ∧ 1160 ≤ ms) (bk : BK X mc ms N (K + 8) i) : Ev X (jm jdL_law) 20 mc ms lwR 248 (lsW i l6 l7 l8) [] (N, SH v T, I, L, Dd) := by
  have hI0 := hI
  obtain ⟨g, gs, d, sv, qq, tx, er, fl, w, hp, hq⟩ := hI
  have hN4 := hp.N4
  refine Ev.sg hX sL_law_248 (pc' := 254) (ls' := [some (.ref (BIG + 300)), some (.ref (0)), some (.ref (396)), some (.ref (405)), some (.ref (406)), some (.int (nI i)), l6, l7, l8]) (st' := [.int ((nI i) + 1), .ref (BIG + 300), .ref (0)]) (h' := (N, SH v T, I, L, Dd)) rfl ?_
  refine Ev.ialdX (n := i + 1) (naI rfl rfl) (by omega) (by omega) dL_law_254 ?_
  show Ev _ _ _ _ _ _ 255 [some (.ref (BIG + 300)), some (.ref (0)), some (.ref (396)), some (.ref (405)), some (.ref (406)), some (.int (nI i)), l6, l7, l8] [.int (jSf X (i + 1)), .ref (0)] (N, SH v T, I, L, Dd)
  refine Ev.sg hX sL_law_255 (pc' := 260) (ls' := [some (.ref (BIG + 300)), some (.ref (0)), some (.ref (396)), some (.ref (405)), some (.ref (406)), some (.int (nI i)), l6, l7, l8]) (st' := [.int ((nI i) + 2), .ref (BIG + 300), .int (jSf X (i + 1)), .ref (0)]) (h' := (N, SH v T, I, L, Dd)) rfl ?_
  refine Ev.ialdX (n := i + 2) (naI rfl rfl) (by omega) (by omega) dL_law_260 ?_
  show Ev _ _ _ _ _ _ 261 [some (.ref (BIG + 300)), some (.ref (0)), some (.ref (396)), some (.ref (405)), some (.ref (406)), some (.int (nI i)), l6, l7, l8] [.int (jSf X (i + 2)), .int (jSf X (i + 1)), .ref (0)] (N, SH v T, I, L, Dd)
  refine Ev.sg hX sL_law_261 (pc' := 262) (ls' := [some (.ref (BIG + 300)), some (.ref (0)), some (.ref (396)), some (.ref (405)), some (.ref (406)), some (.int (nI i)), l6, l7, l8]) (st' := [.ref (405), .int (jSf X (i + 2)), .int (jSf X (i + 1)), .ref (0)]) (h' := (N, SH v T, I, L, Dd)) rfl ?_
  obtain ⟨Q', C, hC⟩ := CLS.cr (show CLS X _ _ _ jdX6_addTrack [.int (jSf X (i + 1)), .int (jSf X (i + 2))] jdX7_addTrack [.int (jSf X (i + 1)), .int (jSf X (i + 2))] _ _ N v T I L Dd from b_addTrack hX hp hq (by omega) (by omega))
  refine Ev.callSX (As := [.ref (0), .int (jSf X (i + 1)), .int (jSf X (i + 2)), .ref (405)]) (rest := []) dhL_addTrack mkL_150 dL_law_262 (wL_addTrack hX rfl C (cr_hI hC) (fun E h' e => by obtain ⟨k, hk⟩ := cr_ex hC e; exact xor2 hk)) ⟨by decide, by decide⟩ ⟨by omega, by omega⟩ rfl (Nat.le_of_ble_eq_true rfl) (fun v9 h9 e9 => ?_) (fun E9 h9 e9 => (wq_no e9).elim)
  obtain ⟨N1, v1, T1, I1, L1, D1, c, hN1, hN2, e8, hM⟩ := wq_g (G := GI) hC (cd_of (l := ["java/lang/IllegalArgumentException", "java/lang/IllegalStateException"]) (by decide +kernel) (by decide)) (fun x N1 v1 T1 I1 L1 h2 hb hw => w_I hw) e9
  cases e8
  show Ev _ _ _ _ _ _ 265 [some (.ref (BIG + 300)), some (.ref (0)), some (.ref (396)), some (.ref (405)), some (.ref (406)), some (.int (nI i)), l6, l7, l8] [.int (c)] (N1, SH v1 T1, I1, L1, D1)
  refine Ev.sg hX sL_law_265 (pc' := 273) (ls' := [some (.ref (BIG + 300)), some (.ref (0)), some (.ref (396)), some (.ref (405)), some (.ref (406)), some (.int (nI i)), some (.int (c)), l7, l8]) (st' := [.int ((nI i) + 1), .ref (BIG + 300), .ref (396)]) (h' := (N1, SH v1 T1, I1, L1, D1)) rfl ?_
  refine Ev.ialdX (n := i + 1) (naI rfl rfl) (by omega) (by omega) dL_law_273 ?_
  show Ev _ _ _ _ _ _ 274 [some (.ref (BIG + 300)), some (.ref (0)), some (.ref (396)), some (.ref (405)), some (.ref (406)), some (.int (nI i)), some (.int (c)), l7, l8] [.int (jSf X (i + 1)), .ref (396)] (N1, SH v1 T1, I1, L1, D1)
  refine Ev.sg hX sL_law_274 (pc' := 279) (ls' := [some (.ref (BIG + 300)), some (.ref (0)), some (.ref (396)), some (.ref (405)), some (.ref (406)), some (.int (nI i)), some (.int (c)), l7, l8]) (st' := [.int ((nI i) + 2), .ref (BIG + 300), .int (jSf X (i + 1)), .ref (396)]) (h' := (N1, SH v1 T1, I1, L1, D1)) rfl ?_
  refine Ev.ialdX (n := i + 2) (naI rfl rfl) (by omega) (by omega) dL_law_279 ?_
  show Ev _ _ _ _ _ _ 280 [some (.ref (BIG + 300)), some (.ref (0)), some (.ref (396)), some (.ref (405)), some (.ref (406)), some (.int (nI i)), some (.int (c)), l7, l8] [.int (jSf X (i + 2)), .int (jSf X (i + 1)), .ref (396)] (N1, SH v1 T1, I1, L1, D1)
  refine Ev.callV (As := [.int (jSf X (i + 1)), .int (jSf X (i + 2))]) (rest := []) dvX7_addTrack mkL_155 rfl rfl dL_law_280 hM ⟨by decide, by decide⟩ ⟨Nat.zero_le _, Nat.zero_le _⟩ rfl (Nat.le_of_ble_eq_true rfl) (fun v9 h9 e9 => ?_) (fun E9 h9 e9 => by obtain ⟨_, _, e, _⟩ := e9; cases e)
  obtain ⟨b, J, e7, ⟨⟨x8, w8, f1, f2⟩, hG⟩, h12, hinv⟩ := e9
  cases e7
  subst f2
  show Ev _ _ _ _ _ _ 283 [some (.ref (BIG + 300)), some (.ref (0)), some (.ref (396)), some (.ref (405)), some (.ref (406)), some (.int (nI i)), some (.int (c)), l7, l8] [.int (w8)] (N1, SH v1 T1, J, L1, D1)
  refine Ev.sg hX sL_law_283 (pc' := 286) (ls' := [some (.ref (BIG + 300)), some (.ref (0)), some (.ref (396)), some (.ref (405)), some (.ref (406)), some (.int (nI i)), some (.int (c)), some (.int (w8)), l8]) (st' := [.ref (396)]) (h' := (N1, SH v1 T1, J, L1, D1)) rfl ?_
  refine Ev.callV (As := []) (rest := []) dvX7_thrown mkL_156 rfl rfl dL_law_286 (m_thrown (d := 12) hX (by decide)) ⟨by decide, by decide⟩ ⟨Nat.zero_le _, Nat.zero_le _⟩ rfl (Nat.le_of_ble_eq_true rfl) (fun v9 h9 e9 => ?_) (fun E9 h9 e9 => nomatch e9)
  cases e9
  show Ev _ _ _ _ _ _ 289 [some (.ref (BIG + 300)), some (.ref (0)), some (.ref (396)), some (.ref (405)), some (.ref (406)), some (.int (nI i)), some (.int (c)), some (.int (w8)), l8] [.int (J 396 12)] (N1, SH v1 T1, J, L1, D1)
  rw [h12]
  refine Ev.sg hX sL_law_289 (pc' := 291) (ls' := [some (.ref (BIG + 300)), some (.ref (0)), some (.ref (396)), some (.ref (405)), some (.ref (406)), some (.int (nI i)), some (.int (c)), some (.int (w8)), l8]) (st' := [.int (c), .int (c)]) (h' := (N1, SH v1 T1, J, L1, D1)) rfl ?_
  refine Ev.icmp_eq (tgt := 296) dL_law_291 (by decide) (fun _ => ?_) (fun q => absurd rfl q)
  refine Ev.sg hX sL_law_296 (pc' := 298) (ls' := [some (.ref (BIG + 300)), some (.ref (0)), some (.ref (396)), some (.ref (405)), some (.ref (406)), some (.int (nI i)), some (.int (c)), some (.int (w8)), l8]) (st' := [.int (c)]) (h' := (N1, SH v1 T1, J, L1, D1)) rfl ?_
  refine Ev.if_ne (tgt := 313) dL_law_298 (by decide) (fun hc0 => ?_) (fun hc0 => ?_)
  · refine Ev.sg hX sL_law_313 (pc' := 2699) (ls' := [some (.ref (BIG + 300)), some (.ref (0)), some (.ref (396)), some (.ref (405)), some (.ref (406)), some (.int (nI i)), some (.int (c)), some (.int (w8)), l8]) (st' := []) (h' := (N1, SH v1 T1, J, L1, D1)) rfl ?_
    exact Ev.roomL (by omega) (by omega) (bk _ _ _ _ _ _ _ _ _ hN1 hN2 (hinv.mono (by omega) hK))
  · refine Ev.sg hX sL_law_301 (pc' := 303) (ls' := [some (.ref (BIG + 300)), some (.ref (0)), some (.ref (396)), some (.ref (405)), some (.ref (406)), some (.int (nI i)), some (.int (c)), some (.int (w8)), l8]) (st' := [.int (0), .ref (405)]) (h' := (N1, SH v1 T1, J, L1, D1)) rfl ?_
    refine Ev.lald (n := 1) rfl (vp_in_nI (n := 0) (N := 1) (by decide) (by decide)) dL_law_303 ?_
    show Ev _ _ _ _ _ _ 304 [some (.ref (BIG + 300)), some (.ref (0)), some (.ref (396)), some (.ref (405)), some (.ref (406)), some (.int (nI i)), some (.int (c)), some (.int (w8)), l8] [.long (L1 405 0)] (N1, SH v1 T1, J, L1, D1)
    rw [gi_eq (hG hc0)]
    refine Ev.sg hX sL_law_304 (pc' := 308) (ls' := [some (.ref (BIG + 300)), some (.ref (0)), some (.ref (396)), some (.ref (405)), some (.ref (406)), some (.int (nI i)), some (.int (c)), some (.int (w8)), l8]) (st' := [.int (lg_cmp w8.toInt64 w8.toInt64)]) (h' := (N1, SH v1 T1, J, L1, D1)) rfl ?_
    rw [lcmp_self]
    refine Ev.if_eq (tgt := 313) dL_law_308 (by decide) (fun _ => ?_) (fun q => absurd rfl q)
    refine Ev.sg hX sL_law_313 (pc' := 2699) (ls' := [some (.ref (BIG + 300)), some (.ref (0)), some (.ref (396)), some (.ref (405)), some (.ref (406)), some (.int (nI i)), some (.int (c)), some (.int (w8)), l8]) (st' := []) (h' := (N1, SH v1 T1, J, L1, D1)) rfl ?_
    exact Ev.roomL (by omega) (by omega) (bk _ _ _ _ _ _ _ _ _ hN1 hN2 (hinv.mono (by omega) hK))
theorem br_connect (hX : JXok X) (hI : INV K N v T I L Dd) (hK : K + 8 ≤ 5000) (hN : N + 1500 < BIG) (hs : i + 6 ≤ jSn X ∧ jSn X ≤ 3072) (hm : 1160 ≤ mc ∧ 1160 ≤ ms) (bk : BK X mc ms N (K + 8) i) : Ev X (jm jdL_law) 20 mc ms lwR 316 (lsW i l6 l7 l8) [] (N, SH v T, I, L, Dd) := by
  have hI0 := hI
  obtain ⟨g, gs, d, sv, qq, tx, er, fl, w, hp, hq⟩ := hI
  have hN4 := hp.N4
  refine Ev.sg hX sL_law_316 (pc' := 322) (ls' := [some (.ref (BIG + 300)), some (.ref (0)), some (.ref (396)), some (.ref (405)), some (.ref (406)), some (.int (nI i)), l6, l7, l8]) (st' := [.int ((nI i) + 1), .ref (BIG + 300), .ref (0)]) (h' := (N, SH v T, I, L, Dd)) rfl ?_
  refine Ev.ialdX (n := i + 1) (naI rfl rfl) (by omega) (by omega) dL_law_322 ?_
  show Ev _ _ _ _ _ _ 323 [some (.ref (BIG + 300)), some (.ref (0)), some (.ref (396)), some (.ref (405)), some (.ref (406)), some (.int (nI i)), l6, l7, l8] [.int (jSf X (i + 1)), .ref (0)] (N, SH v T, I, L, Dd)
  refine Ev.sg hX sL_law_323 (pc' := 328) (ls' := [some (.ref (BIG + 300)), some (.ref (0)), some (.ref (396)), some (.ref (405)), some (.ref (406)), some (.int (nI i)), l6, l7, l8]) (st' := [.int ((nI i) + 2), .ref (BIG + 300), .int (jSf X (i + 1)), .ref (0)]) (h' := (N, SH v T, I, L, Dd)) rfl ?_
  refine Ev.ialdX (n := i + 2) (naI rfl rfl) (by omega) (by omega) dL_law_328 ?_
  show Ev _ _ _ _ _ _ 329 [some (.ref (BIG + 300)), some (.ref (0)), some (.ref (396)), some (.ref (405)), some (.ref (406)), some (.int (nI i)), l6, l7, l8] [.int (jSf X (i + 2)), .int (jSf X (i + 1)), .ref (0)] (N, SH v T, I, L, Dd)
  refine Ev.sg hX sL_law_329 (pc' := 330) (ls' := [some (.ref (BIG + 300)), some (.ref (0)), some (.ref (396)), some (.ref (405)), some (.ref (406)), some (.int (nI i)), l6, l7, l8]) (st' := [.ref (405), .int (jSf X (i + 2)), .int (jSf X (i + 1)), .ref (0)]) (h' := (N, SH v T, I, L, Dd)) rfl ?_
  obtain ⟨Q', C, hC⟩ := CLS.cr (show CLS X _ _ _ jdX6_connect [.int (jSf X (i + 1)), .int (jSf X (i + 2))] jdX7_connect [.int (jSf X (i + 1)), .int (jSf X (i + 2))] _ _ N v T I L Dd from b_connect hX hp hq (by omega) (by omega))
  refine Ev.callSX (As := [.ref (0), .int (jSf X (i + 1)), .int (jSf X (i + 2)), .ref (405)]) (rest := []) dhL_connect mkL_159 dL_law_330 (wL_connect hX rfl C (cr_hI hC) (fun E h' e => by obtain ⟨k, hk⟩ := cr_ex hC e; exact xor3 hk)) ⟨by decide, by decide⟩ ⟨by omega, by omega⟩ rfl (Nat.le_of_ble_eq_true rfl) (fun v9 h9 e9 => ?_) (fun E9 h9 e9 => (wq_no e9).elim)
  obtain ⟨N1, v1, T1, I1, L1, D1, c, hN1, hN2, e8, hM⟩ := wq_g (G := GI) hC (cd_of (l := ["java/lang/IndexOutOfBoundsException", "java/lang/IllegalArgumentException", "java/lang/IllegalStateException"]) (by decide +kernel) (by decide)) (fun x N1 v1 T1 I1 L1 h2 hb hw => w_I hw) e9
  cases e8
  show Ev _ _ _ _ _ _ 333 [some (.ref (BIG + 300)), some (.ref (0)), some (.ref (396)), some (.ref (405)), some (.ref (406)), some (.int (nI i)), l6, l7, l8] [.int (c)] (N1, SH v1 T1, I1, L1, D1)
  refine Ev.sg hX sL_law_333 (pc' := 341) (ls' := [some (.ref (BIG + 300)), some (.ref (0)), some (.ref (396)), some (.ref (405)), some (.ref (406)), some (.int (nI i)), some (.int (c)), l7, l8]) (st' := [.int ((nI i) + 1), .ref (BIG + 300), .ref (396)]) (h' := (N1, SH v1 T1, I1, L1, D1)) rfl ?_
  refine Ev.ialdX (n := i + 1) (naI rfl rfl) (by omega) (by omega) dL_law_341 ?_
  show Ev _ _ _ _ _ _ 342 [some (.ref (BIG + 300)), some (.ref (0)), some (.ref (396)), some (.ref (405)), some (.ref (406)), some (.int (nI i)), some (.int (c)), l7, l8] [.int (jSf X (i + 1)), .ref (396)] (N1, SH v1 T1, I1, L1, D1)
  refine Ev.sg hX sL_law_342 (pc' := 347) (ls' := [some (.ref (BIG + 300)), some (.ref (0)), some (.ref (396)), some (.ref (405)), some (.ref (406)), some (.int (nI i)), some (.int (c)), l7, l8]) (st' := [.int ((nI i) + 2), .ref (BIG + 300), .int (jSf X (i + 1)), .ref (396)]) (h' := (N1, SH v1 T1, I1, L1, D1)) rfl ?_
  refine Ev.ialdX (n := i + 2) (naI rfl rfl) (by omega) (by omega) dL_law_347 ?_
  show Ev _ _ _ _ _ _ 348 [some (.ref (BIG + 300)), some (.ref (0)), some (.ref (396)), some (.ref (405)), some (.ref (406)), some (.int (nI i)), some (.int (c)), l7, l8] [.int (jSf X (i + 2)), .int (jSf X (i + 1)), .ref (396)] (N1, SH v1 T1, I1, L1, D1)
  refine Ev.callV (As := [.int (jSf X (i + 1)), .int (jSf X (i + 2))]) (rest := []) dvX7_connect mkL_161 rfl rfl dL_law_348 hM ⟨by decide, by decide⟩ ⟨Nat.zero_le _, Nat.zero_le _⟩ rfl (Nat.le_of_ble_eq_true rfl) (fun v9 h9 e9 => ?_) (fun E9 h9 e9 => by obtain ⟨_, _, e, _⟩ := e9; cases e)
  obtain ⟨b, J, e7, ⟨⟨x8, w8, f1, f2⟩, hG⟩, h12, hinv⟩ := e9
  cases e7
  subst f2
  show Ev _ _ _ _ _ _ 351 [some (.ref (BIG + 300)), some (.ref (0)), some (.ref (396)), some (.ref (405)), some (.ref (406)), some (.int (nI i)), some (.int (c)), l7, l8] [.int (w8)] (N1, SH v1 T1, J, L1, D1)
  refine Ev.sg hX sL_law_351 (pc' := 354) (ls' := [some (.ref (BIG + 300)), some (.ref (0)), some (.ref (396)), some (.ref (405)), some (.ref (406)), some (.int (nI i)), some (.int (c)), some (.int (w8)), l8]) (st' := [.ref (396)]) (h' := (N1, SH v1 T1, J, L1, D1)) rfl ?_
  refine Ev.callV (As := []) (rest := []) dvX7_thrown mkL_156 rfl rfl dL_law_354 (m_thrown (d := 12) hX (by decide)) ⟨by decide, by decide⟩ ⟨Nat.zero_le _, Nat.zero_le _⟩ rfl (Nat.le_of_ble_eq_true rfl) (fun v9 h9 e9 => ?_) (fun E9 h9 e9 => nomatch e9)
  cases e9
  show Ev _ _ _ _ _ _ 357 [some (.ref (BIG + 300)), some (.ref (0)), some (.ref (396)), some (.ref (405)), some (.ref (406)), some (.int (nI i)), some (.int (c)), some (.int (w8)), l8] [.int (J 396 12)] (N1, SH v1 T1, J, L1, D1)
  rw [h12]
  refine Ev.sg hX sL_law_357 (pc' := 359) (ls' := [some (.ref (BIG + 300)), some (.ref (0)), some (.ref (396)), some (.ref (405)), some (.ref (406)), some (.int (nI i)), some (.int (c)), some (.int (w8)), l8]) (st' := [.int (c), .int (c)]) (h' := (N1, SH v1 T1, J, L1, D1)) rfl ?_
  refine Ev.icmp_eq (tgt := 364) dL_law_359 (by decide) (fun _ => ?_) (fun q => absurd rfl q)
  refine Ev.sg hX sL_law_364 (pc' := 366) (ls' := [some (.ref (BIG + 300)), some (.ref (0)), some (.ref (396)), some (.ref (405)), some (.ref (406)), some (.int (nI i)), some (.int (c)), some (.int (w8)), l8]) (st' := [.int (c)]) (h' := (N1, SH v1 T1, J, L1, D1)) rfl ?_
  refine Ev.if_ne (tgt := 381) dL_law_366 (by decide) (fun hc0 => ?_) (fun hc0 => ?_)
  · refine Ev.sg hX sL_law_381 (pc' := 2699) (ls' := [some (.ref (BIG + 300)), some (.ref (0)), some (.ref (396)), some (.ref (405)), some (.ref (406)), some (.int (nI i)), some (.int (c)), some (.int (w8)), l8]) (st' := []) (h' := (N1, SH v1 T1, J, L1, D1)) rfl ?_
    exact Ev.roomL (by omega) (by omega) (bk _ _ _ _ _ _ _ _ _ hN1 hN2 (hinv.mono (by omega) hK))
  · refine Ev.sg hX sL_law_369 (pc' := 371) (ls' := [some (.ref (BIG + 300)), some (.ref (0)), some (.ref (396)), some (.ref (405)), some (.ref (406)), some (.int (nI i)), some (.int (c)), some (.int (w8)), l8]) (st' := [.int (0), .ref (405)]) (h' := (N1, SH v1 T1, J, L1, D1)) rfl ?_
    refine Ev.lald (n := 1) rfl (vp_in_nI (n := 0) (N := 1) (by decide) (by decide)) dL_law_371 ?_
    show Ev _ _ _ _ _ _ 372 [some (.ref (BIG + 300)), some (.ref (0)), some (.ref (396)), some (.ref (405)), some (.ref (406)), some (.int (nI i)), some (.int (c)), some (.int (w8)), l8] [.long (L1 405 0)] (N1, SH v1 T1, J, L1, D1)
    rw [gi_eq (hG hc0)]
    refine Ev.sg hX sL_law_372 (pc' := 376) (ls' := [some (.ref (BIG + 300)), some (.ref (0)), some (.ref (396)), some (.ref (405)), some (.ref (406)), some (.int (nI i)), some (.int (c)), some (.int (w8)), l8]) (st' := [.int (lg_cmp w8.toInt64 w8.toInt64)]) (h' := (N1, SH v1 T1, J, L1, D1)) rfl ?_
    rw [lcmp_self]
    refine Ev.if_eq (tgt := 381) dL_law_376 (by decide) (fun _ => ?_) (fun q => absurd rfl q)
    refine Ev.sg hX sL_law_381 (pc' := 2699) (ls' := [some (.ref (BIG + 300)), some (.ref (0)), some (.ref (396)), some (.ref (405)), some (.ref (406)), some (.int (nI i)), some (.int (c)), some (.int (w8)), l8]) (st' := []) (h' := (N1, SH v1 T1, J, L1, D1)) rfl ?_
    exact Ev.roomL (by omega) (by omega) (bk _ _ _ _ _ _ _ _ _ hN1 hN2 (hinv.mono (by omega) hK))
theorem br_disconnect (hX : JXok X) (hI : INV K N v T I L Dd) (hK : K + 8 ≤ 5000) (hN : N + 1500 < BIG) (hs : i + 6 ≤ jSn X ∧ jSn X ≤ 3072) (hm : 1160 ≤ mc ∧ 1160 ≤ ms) (bk : BK X mc ms N (K + 8) i) : Ev X (jm jdL_law) 20 mc ms lwR 384 (lsW i l6 l7 l8) [] (N, SH v T, I, L, Dd) := by
  have hI0 := hI
  obtain ⟨g, gs, d, sv, qq, tx, er, fl, w, hp, hq⟩ := hI
  have hN4 := hp.N4
  refine Ev.sg hX sL_law_384 (pc' := 390) (ls' := [some (.ref (BIG + 300)), some (.ref (0)), some (.ref (396)), some (.ref (405)), some (.ref (406)), some (.int (nI i)), l6, l7, l8]) (st' := [.int ((nI i) + 1), .ref (BIG + 300), .ref (0)]) (h' := (N, SH v T, I, L, Dd)) rfl ?_
  refine Ev.ialdX (n := i + 1) (naI rfl rfl) (by omega) (by omega) dL_law_390 ?_
  show Ev _ _ _ _ _ _ 391 [some (.ref (BIG + 300)), some (.ref (0)), some (.ref (396)), some (.ref (405)), some (.ref (406)), some (.int (nI i)), l6, l7, l8] [.int (jSf X (i + 1)), .ref (0)] (N, SH v T, I, L, Dd)
  refine Ev.sg hX sL_law_391 (pc' := 396) (ls' := [some (.ref (BIG + 300)), some (.ref (0)), some (.ref (396)), some (.ref (405)), some (.ref (406)), some (.int (nI i)), l6, l7, l8]) (st' := [.int ((nI i) + 2), .ref (BIG + 300), .int (jSf X (i + 1)), .ref (0)]) (h' := (N, SH v T, I, L, Dd)) rfl ?_
  refine Ev.ialdX (n := i + 2) (naI rfl rfl) (by omega) (by omega) dL_law_396 ?_
  show Ev _ _ _ _ _ _ 397 [some (.ref (BIG + 300)), some (.ref (0)), some (.ref (396)), some (.ref (405)), some (.ref (406)), some (.int (nI i)), l6, l7, l8] [.int (jSf X (i + 2)), .int (jSf X (i + 1)), .ref (0)] (N, SH v T, I, L, Dd)
  refine Ev.sg hX sL_law_397 (pc' := 398) (ls' := [some (.ref (BIG + 300)), some (.ref (0)), some (.ref (396)), some (.ref (405)), some (.ref (406)), some (.int (nI i)), l6, l7, l8]) (st' := [.ref (405), .int (jSf X (i + 2)), .int (jSf X (i + 1)), .ref (0)]) (h' := (N, SH v T, I, L, Dd)) rfl ?_
  obtain ⟨Q', C, hC⟩ := CLS.cr (show CLS X _ _ _ jdX6_disconnect [.int (jSf X (i + 1)), .int (jSf X (i + 2))] jdX7_disconnect [.int (jSf X (i + 1)), .int (jSf X (i + 2))] _ _ N v T I L Dd from b_disconnect hX hp hq (by omega) (by omega))
  refine Ev.callSX (As := [.ref (0), .int (jSf X (i + 1)), .int (jSf X (i + 2)), .ref (405)]) (rest := []) dhL_disconnect mkL_162 dL_law_398 (wL_disconnect hX rfl C (cr_hI hC) (fun E h' e => by obtain ⟨k, hk⟩ := cr_ex hC e; exact xor2 hk)) ⟨by decide, by decide⟩ ⟨by omega, by omega⟩ rfl (Nat.le_of_ble_eq_true rfl) (fun v9 h9 e9 => ?_) (fun E9 h9 e9 => (wq_no e9).elim)
  obtain ⟨N1, v1, T1, I1, L1, D1, c, hN1, hN2, e8, hM⟩ := wq_g (G := GI) hC (cd_of (l := ["java/lang/IndexOutOfBoundsException", "java/lang/IllegalStateException"]) (by decide +kernel) (by decide)) (fun x N1 v1 T1 I1 L1 h2 hb hw => w_I hw) e9
  cases e8
  show Ev _ _ _ _ _ _ 401 [some (.ref (BIG + 300)), some (.ref (0)), some (.ref (396)), some (.ref (405)), some (.ref (406)), some (.int (nI i)), l6, l7, l8] [.int (c)] (N1, SH v1 T1, I1, L1, D1)
  refine Ev.sg hX sL_law_401 (pc' := 409) (ls' := [some (.ref (BIG + 300)), some (.ref (0)), some (.ref (396)), some (.ref (405)), some (.ref (406)), some (.int (nI i)), some (.int (c)), l7, l8]) (st' := [.int ((nI i) + 1), .ref (BIG + 300), .ref (396)]) (h' := (N1, SH v1 T1, I1, L1, D1)) rfl ?_
  refine Ev.ialdX (n := i + 1) (naI rfl rfl) (by omega) (by omega) dL_law_409 ?_
  show Ev _ _ _ _ _ _ 410 [some (.ref (BIG + 300)), some (.ref (0)), some (.ref (396)), some (.ref (405)), some (.ref (406)), some (.int (nI i)), some (.int (c)), l7, l8] [.int (jSf X (i + 1)), .ref (396)] (N1, SH v1 T1, I1, L1, D1)
  refine Ev.sg hX sL_law_410 (pc' := 415) (ls' := [some (.ref (BIG + 300)), some (.ref (0)), some (.ref (396)), some (.ref (405)), some (.ref (406)), some (.int (nI i)), some (.int (c)), l7, l8]) (st' := [.int ((nI i) + 2), .ref (BIG + 300), .int (jSf X (i + 1)), .ref (396)]) (h' := (N1, SH v1 T1, I1, L1, D1)) rfl ?_
  refine Ev.ialdX (n := i + 2) (naI rfl rfl) (by omega) (by omega) dL_law_415 ?_
  show Ev _ _ _ _ _ _ 416 [some (.ref (BIG + 300)), some (.ref (0)), some (.ref (396)), some (.ref (405)), some (.ref (406)), some (.int (nI i)), some (.int (c)), l7, l8] [.int (jSf X (i + 2)), .int (jSf X (i + 1)), .ref (396)] (N1, SH v1 T1, I1, L1, D1)
  refine Ev.callV (As := [.int (jSf X (i + 1)), .int (jSf X (i + 2))]) (rest := []) dvX7_disconnect mkL_164 rfl rfl dL_law_416 hM ⟨by decide, by decide⟩ ⟨Nat.zero_le _, Nat.zero_le _⟩ rfl (Nat.le_of_ble_eq_true rfl) (fun v9 h9 e9 => ?_) (fun E9 h9 e9 => by obtain ⟨_, _, e, _⟩ := e9; cases e)
  obtain ⟨b, J, e7, ⟨⟨x8, w8, f1, f2⟩, hG⟩, h12, hinv⟩ := e9
  cases e7
  subst f2
  show Ev _ _ _ _ _ _ 419 [some (.ref (BIG + 300)), some (.ref (0)), some (.ref (396)), some (.ref (405)), some (.ref (406)), some (.int (nI i)), some (.int (c)), l7, l8] [.int (w8)] (N1, SH v1 T1, J, L1, D1)
  refine Ev.sg hX sL_law_419 (pc' := 422) (ls' := [some (.ref (BIG + 300)), some (.ref (0)), some (.ref (396)), some (.ref (405)), some (.ref (406)), some (.int (nI i)), some (.int (c)), some (.int (w8)), l8]) (st' := [.ref (396)]) (h' := (N1, SH v1 T1, J, L1, D1)) rfl ?_
  refine Ev.callV (As := []) (rest := []) dvX7_thrown mkL_156 rfl rfl dL_law_422 (m_thrown (d := 12) hX (by decide)) ⟨by decide, by decide⟩ ⟨Nat.zero_le _, Nat.zero_le _⟩ rfl (Nat.le_of_ble_eq_true rfl) (fun v9 h9 e9 => ?_) (fun E9 h9 e9 => nomatch e9)
  cases e9
  show Ev _ _ _ _ _ _ 425 [some (.ref (BIG + 300)), some (.ref (0)), some (.ref (396)), some (.ref (405)), some (.ref (406)), some (.int (nI i)), some (.int (c)), some (.int (w8)), l8] [.int (J 396 12)] (N1, SH v1 T1, J, L1, D1)
  rw [h12]
  refine Ev.sg hX sL_law_425 (pc' := 427) (ls' := [some (.ref (BIG + 300)), some (.ref (0)), some (.ref (396)), some (.ref (405)), some (.ref (406)), some (.int (nI i)), some (.int (c)), some (.int (w8)), l8]) (st' := [.int (c), .int (c)]) (h' := (N1, SH v1 T1, J, L1, D1)) rfl ?_
  refine Ev.icmp_eq (tgt := 432) dL_law_427 (by decide) (fun _ => ?_) (fun q => absurd rfl q)
  refine Ev.sg hX sL_law_432 (pc' := 434) (ls' := [some (.ref (BIG + 300)), some (.ref (0)), some (.ref (396)), some (.ref (405)), some (.ref (406)), some (.int (nI i)), some (.int (c)), some (.int (w8)), l8]) (st' := [.int (c)]) (h' := (N1, SH v1 T1, J, L1, D1)) rfl ?_
  refine Ev.if_ne (tgt := 449) dL_law_434 (by decide) (fun hc0 => ?_) (fun hc0 => ?_)
  · refine Ev.sg hX sL_law_449 (pc' := 2699) (ls' := [some (.ref (BIG + 300)), some (.ref (0)), some (.ref (396)), some (.ref (405)), some (.ref (406)), some (.int (nI i)), some (.int (c)), some (.int (w8)), l8]) (st' := []) (h' := (N1, SH v1 T1, J, L1, D1)) rfl ?_
    exact Ev.roomL (by omega) (by omega) (bk _ _ _ _ _ _ _ _ _ hN1 hN2 (hinv.mono (by omega) hK))
  · refine Ev.sg hX sL_law_437 (pc' := 439) (ls' := [some (.ref (BIG + 300)), some (.ref (0)), some (.ref (396)), some (.ref (405)), some (.ref (406)), some (.int (nI i)), some (.int (c)), some (.int (w8)), l8]) (st' := [.int (0), .ref (405)]) (h' := (N1, SH v1 T1, J, L1, D1)) rfl ?_
    refine Ev.lald (n := 1) rfl (vp_in_nI (n := 0) (N := 1) (by decide) (by decide)) dL_law_439 ?_
    show Ev _ _ _ _ _ _ 440 [some (.ref (BIG + 300)), some (.ref (0)), some (.ref (396)), some (.ref (405)), some (.ref (406)), some (.int (nI i)), some (.int (c)), some (.int (w8)), l8] [.long (L1 405 0)] (N1, SH v1 T1, J, L1, D1)
    rw [gi_eq (hG hc0)]
    refine Ev.sg hX sL_law_440 (pc' := 444) (ls' := [some (.ref (BIG + 300)), some (.ref (0)), some (.ref (396)), some (.ref (405)), some (.ref (406)), some (.int (nI i)), some (.int (c)), some (.int (w8)), l8]) (st' := [.int (lg_cmp w8.toInt64 w8.toInt64)]) (h' := (N1, SH v1 T1, J, L1, D1)) rfl ?_
    rw [lcmp_self]
    refine Ev.if_eq (tgt := 449) dL_law_444 (by decide) (fun _ => ?_) (fun q => absurd rfl q)
    refine Ev.sg hX sL_law_449 (pc' := 2699) (ls' := [some (.ref (BIG + 300)), some (.ref (0)), some (.ref (396)), some (.ref (405)), some (.ref (406)), some (.int (nI i)), some (.int (c)), some (.int (w8)), l8]) (st' := []) (h' := (N1, SH v1 T1, J, L1, D1)) rfl ?_
    exact Ev.roomL (by omega) (by omega) (bk _ _ _ _ _ _ _ _ _ hN1 hN2 (hinv.mono (by omega) hK))
theorem br_addCar0 (hX : JXok X) (hI : INV K N v T I L Dd) (hK : K + 8 ≤ 5000) (hN : N + 1500 < BIG) (hs : i + 6 ≤ jSn X ∧ jSn X ≤ 3072) (hm : 1160 ≤ mc ∧ 1160 ≤ ms) (bk : BK X mc ms N (K + 8) i) (hb : jSf X (i + 5) = 0) : Ev X (jm jdL_law) 20 mc ms lwR 452 (lsW i l6 l7 l8) [] (N, SH v T, I, L, Dd) := by
  have hI0 := hI
  obtain ⟨g, gs, d, sv, qq, tx, er, fl, w, hp, hq⟩ := hI
  have hN4 := hp.N4
  have hf : (0 : Int32) = 0 ∨ (0 : Int32) = 1 := by decide
  refine Ev.sg hX sL_law_452 (pc' := 458) (ls' := [some (.ref (BIG + 300)), some (.ref (0)), some (.ref (396)), some (.ref (405)), some (.ref (406)), some (.int (nI i)), l6, l7, l8]) (st' := [.int ((nI i) + 1), .ref (BIG + 300), .ref (0)]) (h' := (N, SH v T, I, L, Dd)) rfl ?_
  refine Ev.ialdX (n := i + 1) (naI rfl rfl) (by omega) (by omega) dL_law_458 ?_
  show Ev _ _ _ _ _ _ 459 [some (.ref (BIG + 300)), some (.ref (0)), some (.ref (396)), some (.ref (405)), some (.ref (406)), some (.int (nI i)), l6, l7, l8] [.int (jSf X (i + 1)), .ref (0)] (N, SH v T, I, L, Dd)
  refine Ev.sg hX sL_law_459 (pc' := 464) (ls' := [some (.ref (BIG + 300)), some (.ref (0)), some (.ref (396)), some (.ref (405)), some (.ref (406)), some (.int (nI i)), l6, l7, l8]) (st' := [.int ((nI i) + 2), .ref (BIG + 300), .int (jSf X (i + 1)), .ref (0)]) (h' := (N, SH v T, I, L, Dd)) rfl ?_
  refine Ev.ialdX (n := i + 2) (naI rfl rfl) (by omega) (by omega) dL_law_464 ?_
  show Ev _ _ _ _ _ _ 465 [some (.ref (BIG + 300)), some (.ref (0)), some (.ref (396)), some (.ref (405)), some (.ref (406)), some (.int (nI i)), l6, l7, l8] [.int (jSf X (i + 2)), .int (jSf X (i + 1)), .ref (0)] (N, SH v T, I, L, Dd)
  refine Ev.sg hX sL_law_465 (pc' := 470) (ls' := [some (.ref (BIG + 300)), some (.ref (0)), some (.ref (396)), some (.ref (405)), some (.ref (406)), some (.int (nI i)), l6, l7, l8]) (st' := [.int ((nI i) + 3), .ref (BIG + 300), .int (jSf X (i + 2)), .int (jSf X (i + 1)), .ref (0)]) (h' := (N, SH v T, I, L, Dd)) rfl ?_
  refine Ev.ialdX (n := i + 3) (naI rfl rfl) (by omega) (by omega) dL_law_470 ?_
  show Ev _ _ _ _ _ _ 471 [some (.ref (BIG + 300)), some (.ref (0)), some (.ref (396)), some (.ref (405)), some (.ref (406)), some (.int (nI i)), l6, l7, l8] [.int (jSf X (i + 3)), .int (jSf X (i + 2)), .int (jSf X (i + 1)), .ref (0)] (N, SH v T, I, L, Dd)
  refine Ev.sg hX sL_law_471 (pc' := 476) (ls' := [some (.ref (BIG + 300)), some (.ref (0)), some (.ref (396)), some (.ref (405)), some (.ref (406)), some (.int (nI i)), l6, l7, l8]) (st' := [.int ((nI i) + 4), .ref (BIG + 300), .int (jSf X (i + 3)), .int (jSf X (i + 2)), .int (jSf X (i + 1)), .ref (0)]) (h' := (N, SH v T, I, L, Dd)) rfl ?_
  refine Ev.ialdX (n := i + 4) (naI rfl rfl) (by omega) (by omega) dL_law_476 ?_
  show Ev _ _ _ _ _ _ 477 [some (.ref (BIG + 300)), some (.ref (0)), some (.ref (396)), some (.ref (405)), some (.ref (406)), some (.int (nI i)), l6, l7, l8] [.int (jSf X (i + 4)), .int (jSf X (i + 3)), .int (jSf X (i + 2)), .int (jSf X (i + 1)), .ref (0)] (N, SH v T, I, L, Dd)
  refine Ev.sg hX sL_law_477 (pc' := 482) (ls' := [some (.ref (BIG + 300)), some (.ref (0)), some (.ref (396)), some (.ref (405)), some (.ref (406)), some (.int (nI i)), l6, l7, l8]) (st' := [.int ((nI i) + 5), .ref (BIG + 300), .int (jSf X (i + 4)), .int (jSf X (i + 3)), .int (jSf X (i + 2)), .int (jSf X (i + 1)), .ref (0)]) (h' := (N, SH v T, I, L, Dd)) rfl ?_
  refine Ev.ialdX (n := i + 5) (naI rfl rfl) (by omega) (by omega) dL_law_482 ?_
  show Ev _ _ _ _ _ _ 483 [some (.ref (BIG + 300)), some (.ref (0)), some (.ref (396)), some (.ref (405)), some (.ref (406)), some (.int (nI i)), l6, l7, l8] [.int (jSf X (i + 5)), .int (jSf X (i + 4)), .int (jSf X (i + 3)), .int (jSf X (i + 2)), .int (jSf X (i + 1)), .ref (0)] (N, SH v T, I, L, Dd)
  refine Ev.if_eq (tgt := 490) dL_law_483 (by decide) (fun q7 => ?_) (fun q7 => ?_)
  · refine Ev.sg hX sL_law_490 (pc' := 491) (ls' := [some (.ref (BIG + 300)), some (.ref (0)), some (.ref (396)), some (.ref (405)), some (.ref (406)), some (.int (nI i)), l6, l7, l8]) (st' := [.int (0), .int (jSf X (i + 4)), .int (jSf X (i + 3)), .int (jSf X (i + 2)), .int (jSf X (i + 1)), .ref (0)]) (h' := (N, SH v T, I, L, Dd)) rfl ?_
    refine Ev.sg hX sL_law_491 (pc' := 492) (ls' := [some (.ref (BIG + 300)), some (.ref (0)), some (.ref (396)), some (.ref (405)), some (.ref (406)), some (.int (nI i)), l6, l7, l8]) (st' := [.ref (405), .int (0), .int (jSf X (i + 4)), .int (jSf X (i + 3)), .int (jSf X (i + 2)), .int (jSf X (i + 1)), .ref (0)]) (h' := (N, SH v T, I, L, Dd)) rfl ?_
    obtain ⟨Q', C, hC⟩ := CLS.cr (show CLS X _ _ _ jdX6_addCar [.int (jSf X (i + 1)), .int (jSf X (i + 2)), .int (jSf X (i + 3)), .int (jSf X (i + 4)), .int (0)] jdX7_addCar [.int (jSf X (i + 1)), .int (jSf X (i + 2)), .int (jSf X (i + 3)), .int (jSf X (i + 4)), .int (0)] _ _ N v T I L Dd from b_addCar hX hp hq (by omega) (by omega) hf)
    refine Ev.callSX (As := [.ref (0), .int (jSf X (i + 1)), .int (jSf X (i + 2)), .int (jSf X (i + 3)), .int (jSf X (i + 4)), .int (0), .ref (405)]) (rest := []) dhL_addCar mkL_165 dL_law_492 (wL_addCar hX rfl C (cr_hI hC) (fun E h' e => by obtain ⟨k, hk⟩ := cr_ex hC e; exact xor4 hk)) ⟨by decide, by decide⟩ ⟨by omega, by omega⟩ rfl (Nat.le_of_ble_eq_true rfl) (fun v9 h9 e9 => ?_) (fun E9 h9 e9 => (wq_no e9).elim)
    obtain ⟨N1, v1, T1, I1, L1, D1, c, hN1, hN2, e8, hM⟩ := wq_g (G := GI) hC (cd_of (l := ["java/lang/IndexOutOfBoundsException", "java/lang/IllegalArgumentException", "java/lang/IllegalStateException", "java/lang/UnsupportedOperationException"]) (by decide +kernel) (by decide)) (fun x N1 v1 T1 I1 L1 h2 hb hw => w_I hw) e9
    cases e8
    show Ev _ _ _ _ _ _ 495 [some (.ref (BIG + 300)), some (.ref (0)), some (.ref (396)), some (.ref (405)), some (.ref (406)), some (.int (nI i)), l6, l7, l8] [.int (c)] (N1, SH v1 T1, I1, L1, D1)
    refine Ev.sg hX sL_law_495 (pc' := 503) (ls' := [some (.ref (BIG + 300)), some (.ref (0)), some (.ref (396)), some (.ref (405)), some (.ref (406)), some (.int (nI i)), some (.int (c)), l7, l8]) (st' := [.int ((nI i) + 1), .ref (BIG + 300), .ref (396)]) (h' := (N1, SH v1 T1, I1, L1, D1)) rfl ?_
    refine Ev.ialdX (n := i + 1) (naI rfl rfl) (by omega) (by omega) dL_law_503 ?_
    show Ev _ _ _ _ _ _ 504 [some (.ref (BIG + 300)), some (.ref (0)), some (.ref (396)), some (.ref (405)), some (.ref (406)), some (.int (nI i)), some (.int (c)), l7, l8] [.int (jSf X (i + 1)), .ref (396)] (N1, SH v1 T1, I1, L1, D1)
    refine Ev.sg hX sL_law_504 (pc' := 509) (ls' := [some (.ref (BIG + 300)), some (.ref (0)), some (.ref (396)), some (.ref (405)), some (.ref (406)), some (.int (nI i)), some (.int (c)), l7, l8]) (st' := [.int ((nI i) + 2), .ref (BIG + 300), .int (jSf X (i + 1)), .ref (396)]) (h' := (N1, SH v1 T1, I1, L1, D1)) rfl ?_
    refine Ev.ialdX (n := i + 2) (naI rfl rfl) (by omega) (by omega) dL_law_509 ?_
    show Ev _ _ _ _ _ _ 510 [some (.ref (BIG + 300)), some (.ref (0)), some (.ref (396)), some (.ref (405)), some (.ref (406)), some (.int (nI i)), some (.int (c)), l7, l8] [.int (jSf X (i + 2)), .int (jSf X (i + 1)), .ref (396)] (N1, SH v1 T1, I1, L1, D1)
    refine Ev.sg hX sL_law_510 (pc' := 515) (ls' := [some (.ref (BIG + 300)), some (.ref (0)), some (.ref (396)), some (.ref (405)), some (.ref (406)), some (.int (nI i)), some (.int (c)), l7, l8]) (st' := [.int ((nI i) + 3), .ref (BIG + 300), .int (jSf X (i + 2)), .int (jSf X (i + 1)), .ref (396)]) (h' := (N1, SH v1 T1, I1, L1, D1)) rfl ?_
    refine Ev.ialdX (n := i + 3) (naI rfl rfl) (by omega) (by omega) dL_law_515 ?_
    show Ev _ _ _ _ _ _ 516 [some (.ref (BIG + 300)), some (.ref (0)), some (.ref (396)), some (.ref (405)), some (.ref (406)), some (.int (nI i)), some (.int (c)), l7, l8] [.int (jSf X (i + 3)), .int (jSf X (i + 2)), .int (jSf X (i + 1)), .ref (396)] (N1, SH v1 T1, I1, L1, D1)
    refine Ev.sg hX sL_law_516 (pc' := 521) (ls' := [some (.ref (BIG + 300)), some (.ref (0)), some (.ref (396)), some (.ref (405)), some (.ref (406)), some (.int (nI i)), some (.int (c)), l7, l8]) (st' := [.int ((nI i) + 4), .ref (BIG + 300), .int (jSf X (i + 3)), .int (jSf X (i + 2)), .int (jSf X (i + 1)), .ref (396)]) (h' := (N1, SH v1 T1, I1, L1, D1)) rfl ?_
    refine Ev.ialdX (n := i + 4) (naI rfl rfl) (by omega) (by omega) dL_law_521 ?_
    show Ev _ _ _ _ _ _ 522 [some (.ref (BIG + 300)), some (.ref (0)), some (.ref (396)), some (.ref (405)), some (.ref (406)), some (.int (nI i)), some (.int (c)), l7, l8] [.int (jSf X (i + 4)), .int (jSf X (i + 3)), .int (jSf X (i + 2)), .int (jSf X (i + 1)), .ref (396)] (N1, SH v1 T1, I1, L1, D1)
    refine Ev.sg hX sL_law_522 (pc' := 527) (ls' := [some (.ref (BIG + 300)), some (.ref (0)), some (.ref (396)), some (.ref (405)), some (.ref (406)), some (.int (nI i)), some (.int (c)), l7, l8]) (st' := [.int ((nI i) + 5), .ref (BIG + 300), .int (jSf X (i + 4)), .int (jSf X (i + 3)), .int (jSf X (i + 2)), .int (jSf X (i + 1)), .ref (396)]) (h' := (N1, SH v1 T1, I1, L1, D1)) rfl ?_
    refine Ev.ialdX (n := i + 5) (naI rfl rfl) (by omega) (by omega) dL_law_527 ?_
    show Ev _ _ _ _ _ _ 528 [some (.ref (BIG + 300)), some (.ref (0)), some (.ref (396)), some (.ref (405)), some (.ref (406)), some (.int (nI i)), some (.int (c)), l7, l8] [.int (jSf X (i + 5)), .int (jSf X (i + 4)), .int (jSf X (i + 3)), .int (jSf X (i + 2)), .int (jSf X (i + 1)), .ref (396)] (N1, SH v1 T1, I1, L1, D1)
    refine Ev.if_eq (tgt := 535) dL_law_528 (by decide) (fun q7 => ?_) (fun q7 => ?_)
    · refine Ev.sg hX sL_law_535 (pc' := 536) (ls' := [some (.ref (BIG + 300)), some (.ref (0)), some (.ref (396)), some (.ref (405)), some (.ref (406)), some (.int (nI i)), some (.int (c)), l7, l8]) (st' := [.int (0), .int (jSf X (i + 4)), .int (jSf X (i + 3)), .int (jSf X (i + 2)), .int (jSf X (i + 1)), .ref (396)]) (h' := (N1, SH v1 T1, I1, L1, D1)) rfl ?_
      refine Ev.callV (As := [.int (jSf X (i + 1)), .int (jSf X (i + 2)), .int (jSf X (i + 3)), .int (jSf X (i + 4)), .int (0)]) (rest := []) dvX7_addCar mkL_168 rfl rfl dL_law_536 hM ⟨by decide, by decide⟩ ⟨Nat.zero_le _, Nat.zero_le _⟩ rfl (Nat.le_of_ble_eq_true rfl) (fun v9 h9 e9 => ?_) (fun E9 h9 e9 => by obtain ⟨_, _, e, _⟩ := e9; cases e)
      obtain ⟨b, J, e7, ⟨⟨x8, w8, f1, f2⟩, hG⟩, h12, hinv⟩ := e9
      cases e7
      subst f2
      show Ev _ _ _ _ _ _ 539 [some (.ref (BIG + 300)), some (.ref (0)), some (.ref (396)), some (.ref (405)), some (.ref (406)), some (.int (nI i)), some (.int (c)), l7, l8] [.int (w8)] (N1, SH v1 T1, J, L1, D1)
      refine Ev.sg hX sL_law_539 (pc' := 542) (ls' := [some (.ref (BIG + 300)), some (.ref (0)), some (.ref (396)), some (.ref (405)), some (.ref (406)), some (.int (nI i)), some (.int (c)), some (.int (w8)), l8]) (st' := [.ref (396)]) (h' := (N1, SH v1 T1, J, L1, D1)) rfl ?_
      refine Ev.callV (As := []) (rest := []) dvX7_thrown mkL_156 rfl rfl dL_law_542 (m_thrown (d := 12) hX (by decide)) ⟨by decide, by decide⟩ ⟨Nat.zero_le _, Nat.zero_le _⟩ rfl (Nat.le_of_ble_eq_true rfl) (fun v9 h9 e9 => ?_) (fun E9 h9 e9 => nomatch e9)
      cases e9
      show Ev _ _ _ _ _ _ 545 [some (.ref (BIG + 300)), some (.ref (0)), some (.ref (396)), some (.ref (405)), some (.ref (406)), some (.int (nI i)), some (.int (c)), some (.int (w8)), l8] [.int (J 396 12)] (N1, SH v1 T1, J, L1, D1)
      rw [h12]
      refine Ev.sg hX sL_law_545 (pc' := 547) (ls' := [some (.ref (BIG + 300)), some (.ref (0)), some (.ref (396)), some (.ref (405)), some (.ref (406)), some (.int (nI i)), some (.int (c)), some (.int (w8)), l8]) (st' := [.int (c), .int (c)]) (h' := (N1, SH v1 T1, J, L1, D1)) rfl ?_
      refine Ev.icmp_eq (tgt := 552) dL_law_547 (by decide) (fun _ => ?_) (fun q => absurd rfl q)
      refine Ev.sg hX sL_law_552 (pc' := 554) (ls' := [some (.ref (BIG + 300)), some (.ref (0)), some (.ref (396)), some (.ref (405)), some (.ref (406)), some (.int (nI i)), some (.int (c)), some (.int (w8)), l8]) (st' := [.int (c)]) (h' := (N1, SH v1 T1, J, L1, D1)) rfl ?_
      refine Ev.if_ne (tgt := 569) dL_law_554 (by decide) (fun hc0 => ?_) (fun hc0 => ?_)
      · refine Ev.sg hX sL_law_569 (pc' := 2699) (ls' := [some (.ref (BIG + 300)), some (.ref (0)), some (.ref (396)), some (.ref (405)), some (.ref (406)), some (.int (nI i)), some (.int (c)), some (.int (w8)), l8]) (st' := []) (h' := (N1, SH v1 T1, J, L1, D1)) rfl ?_
        exact Ev.roomL (by omega) (by omega) (bk _ _ _ _ _ _ _ _ _ hN1 hN2 (hinv.mono (by omega) hK))
      · refine Ev.sg hX sL_law_557 (pc' := 559) (ls' := [some (.ref (BIG + 300)), some (.ref (0)), some (.ref (396)), some (.ref (405)), some (.ref (406)), some (.int (nI i)), some (.int (c)), some (.int (w8)), l8]) (st' := [.int (0), .ref (405)]) (h' := (N1, SH v1 T1, J, L1, D1)) rfl ?_
        refine Ev.lald (n := 1) rfl (vp_in_nI (n := 0) (N := 1) (by decide) (by decide)) dL_law_559 ?_
        show Ev _ _ _ _ _ _ 560 [some (.ref (BIG + 300)), some (.ref (0)), some (.ref (396)), some (.ref (405)), some (.ref (406)), some (.int (nI i)), some (.int (c)), some (.int (w8)), l8] [.long (L1 405 0)] (N1, SH v1 T1, J, L1, D1)
        rw [gi_eq (hG hc0)]
        refine Ev.sg hX sL_law_560 (pc' := 564) (ls' := [some (.ref (BIG + 300)), some (.ref (0)), some (.ref (396)), some (.ref (405)), some (.ref (406)), some (.int (nI i)), some (.int (c)), some (.int (w8)), l8]) (st' := [.int (lg_cmp w8.toInt64 w8.toInt64)]) (h' := (N1, SH v1 T1, J, L1, D1)) rfl ?_
        rw [lcmp_self]
        refine Ev.if_eq (tgt := 569) dL_law_564 (by decide) (fun _ => ?_) (fun q => absurd rfl q)
        refine Ev.sg hX sL_law_569 (pc' := 2699) (ls' := [some (.ref (BIG + 300)), some (.ref (0)), some (.ref (396)), some (.ref (405)), some (.ref (406)), some (.int (nI i)), some (.int (c)), some (.int (w8)), l8]) (st' := []) (h' := (N1, SH v1 T1, J, L1, D1)) rfl ?_
        exact Ev.roomL (by omega) (by omega) (bk _ _ _ _ _ _ _ _ _ hN1 hN2 (hinv.mono (by omega) hK))
    · exact absurd hb q7
  · exact absurd hb q7
theorem br_addCar1 (hX : JXok X) (hI : INV K N v T I L Dd) (hK : K + 8 ≤ 5000) (hN : N + 1500 < BIG) (hs : i + 6 ≤ jSn X ∧ jSn X ≤ 3072) (hm : 1160 ≤ mc ∧ 1160 ≤ ms) (bk : BK X mc ms N (K + 8) i) (hb : ¬ jSf X (i + 5) = 0) : Ev X (jm jdL_law) 20 mc ms lwR 452 (lsW i l6 l7 l8) [] (N, SH v T, I, L, Dd) := by
  have hI0 := hI
  obtain ⟨g, gs, d, sv, qq, tx, er, fl, w, hp, hq⟩ := hI
  have hN4 := hp.N4
  have hf : (1 : Int32) = 0 ∨ (1 : Int32) = 1 := by decide
  refine Ev.sg hX sL_law_452 (pc' := 458) (ls' := [some (.ref (BIG + 300)), some (.ref (0)), some (.ref (396)), some (.ref (405)), some (.ref (406)), some (.int (nI i)), l6, l7, l8]) (st' := [.int ((nI i) + 1), .ref (BIG + 300), .ref (0)]) (h' := (N, SH v T, I, L, Dd)) rfl ?_
  refine Ev.ialdX (n := i + 1) (naI rfl rfl) (by omega) (by omega) dL_law_458 ?_
  show Ev _ _ _ _ _ _ 459 [some (.ref (BIG + 300)), some (.ref (0)), some (.ref (396)), some (.ref (405)), some (.ref (406)), some (.int (nI i)), l6, l7, l8] [.int (jSf X (i + 1)), .ref (0)] (N, SH v T, I, L, Dd)
  refine Ev.sg hX sL_law_459 (pc' := 464) (ls' := [some (.ref (BIG + 300)), some (.ref (0)), some (.ref (396)), some (.ref (405)), some (.ref (406)), some (.int (nI i)), l6, l7, l8]) (st' := [.int ((nI i) + 2), .ref (BIG + 300), .int (jSf X (i + 1)), .ref (0)]) (h' := (N, SH v T, I, L, Dd)) rfl ?_
  refine Ev.ialdX (n := i + 2) (naI rfl rfl) (by omega) (by omega) dL_law_464 ?_
  show Ev _ _ _ _ _ _ 465 [some (.ref (BIG + 300)), some (.ref (0)), some (.ref (396)), some (.ref (405)), some (.ref (406)), some (.int (nI i)), l6, l7, l8] [.int (jSf X (i + 2)), .int (jSf X (i + 1)), .ref (0)] (N, SH v T, I, L, Dd)
  refine Ev.sg hX sL_law_465 (pc' := 470) (ls' := [some (.ref (BIG + 300)), some (.ref (0)), some (.ref (396)), some (.ref (405)), some (.ref (406)), some (.int (nI i)), l6, l7, l8]) (st' := [.int ((nI i) + 3), .ref (BIG + 300), .int (jSf X (i + 2)), .int (jSf X (i + 1)), .ref (0)]) (h' := (N, SH v T, I, L, Dd)) rfl ?_
  refine Ev.ialdX (n := i + 3) (naI rfl rfl) (by omega) (by omega) dL_law_470 ?_
  show Ev _ _ _ _ _ _ 471 [some (.ref (BIG + 300)), some (.ref (0)), some (.ref (396)), some (.ref (405)), some (.ref (406)), some (.int (nI i)), l6, l7, l8] [.int (jSf X (i + 3)), .int (jSf X (i + 2)), .int (jSf X (i + 1)), .ref (0)] (N, SH v T, I, L, Dd)
  refine Ev.sg hX sL_law_471 (pc' := 476) (ls' := [some (.ref (BIG + 300)), some (.ref (0)), some (.ref (396)), some (.ref (405)), some (.ref (406)), some (.int (nI i)), l6, l7, l8]) (st' := [.int ((nI i) + 4), .ref (BIG + 300), .int (jSf X (i + 3)), .int (jSf X (i + 2)), .int (jSf X (i + 1)), .ref (0)]) (h' := (N, SH v T, I, L, Dd)) rfl ?_
  refine Ev.ialdX (n := i + 4) (naI rfl rfl) (by omega) (by omega) dL_law_476 ?_
  show Ev _ _ _ _ _ _ 477 [some (.ref (BIG + 300)), some (.ref (0)), some (.ref (396)), some (.ref (405)), some (.ref (406)), some (.int (nI i)), l6, l7, l8] [.int (jSf X (i + 4)), .int (jSf X (i + 3)), .int (jSf X (i + 2)), .int (jSf X (i + 1)), .ref (0)] (N, SH v T, I, L, Dd)
  refine Ev.sg hX sL_law_477 (pc' := 482) (ls' := [some (.ref (BIG + 300)), some (.ref (0)), some (.ref (396)), some (.ref (405)), some (.ref (406)), some (.int (nI i)), l6, l7, l8]) (st' := [.int ((nI i) + 5), .ref (BIG + 300), .int (jSf X (i + 4)), .int (jSf X (i + 3)), .int (jSf X (i + 2)), .int (jSf X (i + 1)), .ref (0)]) (h' := (N, SH v T, I, L, Dd)) rfl ?_
  refine Ev.ialdX (n := i + 5) (naI rfl rfl) (by omega) (by omega) dL_law_482 ?_
  show Ev _ _ _ _ _ _ 483 [some (.ref (BIG + 300)), some (.ref (0)), some (.ref (396)), some (.ref (405)), some (.ref (406)), some (.int (nI i)), l6, l7, l8] [.int (jSf X (i + 5)), .int (jSf X (i + 4)), .int (jSf X (i + 3)), .int (jSf X (i + 2)), .int (jSf X (i + 1)), .ref (0)] (N, SH v T, I, L, Dd)
  refine Ev.if_eq (tgt := 490) dL_law_483 (by decide) (fun q7 => ?_) (fun q7 => ?_)
  · exact absurd q7 hb
  · refine Ev.sg hX sL_law_486 (pc' := 491) (ls' := [some (.ref (BIG + 300)), some (.ref (0)), some (.ref (396)), some (.ref (405)), some (.ref (406)), some (.int (nI i)), l6, l7, l8]) (st' := [.int (1), .int (jSf X (i + 4)), .int (jSf X (i + 3)), .int (jSf X (i + 2)), .int (jSf X (i + 1)), .ref (0)]) (h' := (N, SH v T, I, L, Dd)) rfl ?_
    refine Ev.sg hX sL_law_491 (pc' := 492) (ls' := [some (.ref (BIG + 300)), some (.ref (0)), some (.ref (396)), some (.ref (405)), some (.ref (406)), some (.int (nI i)), l6, l7, l8]) (st' := [.ref (405), .int (1), .int (jSf X (i + 4)), .int (jSf X (i + 3)), .int (jSf X (i + 2)), .int (jSf X (i + 1)), .ref (0)]) (h' := (N, SH v T, I, L, Dd)) rfl ?_
    obtain ⟨Q', C, hC⟩ := CLS.cr (show CLS X _ _ _ jdX6_addCar [.int (jSf X (i + 1)), .int (jSf X (i + 2)), .int (jSf X (i + 3)), .int (jSf X (i + 4)), .int (1)] jdX7_addCar [.int (jSf X (i + 1)), .int (jSf X (i + 2)), .int (jSf X (i + 3)), .int (jSf X (i + 4)), .int (1)] _ _ N v T I L Dd from b_addCar hX hp hq (by omega) (by omega) hf)
    refine Ev.callSX (As := [.ref (0), .int (jSf X (i + 1)), .int (jSf X (i + 2)), .int (jSf X (i + 3)), .int (jSf X (i + 4)), .int (1), .ref (405)]) (rest := []) dhL_addCar mkL_165 dL_law_492 (wL_addCar hX rfl C (cr_hI hC) (fun E h' e => by obtain ⟨k, hk⟩ := cr_ex hC e; exact xor4 hk)) ⟨by decide, by decide⟩ ⟨by omega, by omega⟩ rfl (Nat.le_of_ble_eq_true rfl) (fun v9 h9 e9 => ?_) (fun E9 h9 e9 => (wq_no e9).elim)
    obtain ⟨N1, v1, T1, I1, L1, D1, c, hN1, hN2, e8, hM⟩ := wq_g (G := GI) hC (cd_of (l := ["java/lang/IndexOutOfBoundsException", "java/lang/IllegalArgumentException", "java/lang/IllegalStateException", "java/lang/UnsupportedOperationException"]) (by decide +kernel) (by decide)) (fun x N1 v1 T1 I1 L1 h2 hb hw => w_I hw) e9
    cases e8
    show Ev _ _ _ _ _ _ 495 [some (.ref (BIG + 300)), some (.ref (0)), some (.ref (396)), some (.ref (405)), some (.ref (406)), some (.int (nI i)), l6, l7, l8] [.int (c)] (N1, SH v1 T1, I1, L1, D1)
    refine Ev.sg hX sL_law_495 (pc' := 503) (ls' := [some (.ref (BIG + 300)), some (.ref (0)), some (.ref (396)), some (.ref (405)), some (.ref (406)), some (.int (nI i)), some (.int (c)), l7, l8]) (st' := [.int ((nI i) + 1), .ref (BIG + 300), .ref (396)]) (h' := (N1, SH v1 T1, I1, L1, D1)) rfl ?_
    refine Ev.ialdX (n := i + 1) (naI rfl rfl) (by omega) (by omega) dL_law_503 ?_
    show Ev _ _ _ _ _ _ 504 [some (.ref (BIG + 300)), some (.ref (0)), some (.ref (396)), some (.ref (405)), some (.ref (406)), some (.int (nI i)), some (.int (c)), l7, l8] [.int (jSf X (i + 1)), .ref (396)] (N1, SH v1 T1, I1, L1, D1)
    refine Ev.sg hX sL_law_504 (pc' := 509) (ls' := [some (.ref (BIG + 300)), some (.ref (0)), some (.ref (396)), some (.ref (405)), some (.ref (406)), some (.int (nI i)), some (.int (c)), l7, l8]) (st' := [.int ((nI i) + 2), .ref (BIG + 300), .int (jSf X (i + 1)), .ref (396)]) (h' := (N1, SH v1 T1, I1, L1, D1)) rfl ?_
    refine Ev.ialdX (n := i + 2) (naI rfl rfl) (by omega) (by omega) dL_law_509 ?_
    show Ev _ _ _ _ _ _ 510 [some (.ref (BIG + 300)), some (.ref (0)), some (.ref (396)), some (.ref (405)), some (.ref (406)), some (.int (nI i)), some (.int (c)), l7, l8] [.int (jSf X (i + 2)), .int (jSf X (i + 1)), .ref (396)] (N1, SH v1 T1, I1, L1, D1)
    refine Ev.sg hX sL_law_510 (pc' := 515) (ls' := [some (.ref (BIG + 300)), some (.ref (0)), some (.ref (396)), some (.ref (405)), some (.ref (406)), some (.int (nI i)), some (.int (c)), l7, l8]) (st' := [.int ((nI i) + 3), .ref (BIG + 300), .int (jSf X (i + 2)), .int (jSf X (i + 1)), .ref (396)]) (h' := (N1, SH v1 T1, I1, L1, D1)) rfl ?_
    refine Ev.ialdX (n := i + 3) (naI rfl rfl) (by omega) (by omega) dL_law_515 ?_
    show Ev _ _ _ _ _ _ 516 [some (.ref (BIG + 300)), some (.ref (0)), some (.ref (396)), some (.ref (405)), some (.ref (406)), some (.int (nI i)), some (.int (c)), l7, l8] [.int (jSf X (i + 3)), .int (jSf X (i + 2)), .int (jSf X (i + 1)), .ref (396)] (N1, SH v1 T1, I1, L1, D1)
    refine Ev.sg hX sL_law_516 (pc' := 521) (ls' := [some (.ref (BIG + 300)), some (.ref (0)), some (.ref (396)), some (.ref (405)), some (.ref (406)), some (.int (nI i)), some (.int (c)), l7, l8]) (st' := [.int ((nI i) + 4), .ref (BIG + 300), .int (jSf X (i + 3)), .int (jSf X (i + 2)), .int (jSf X (i + 1)), .ref (396)]) (h' := (N1, SH v1 T1, I1, L1, D1)) rfl ?_
    refine Ev.ialdX (n := i + 4) (naI rfl rfl) (by omega) (by omega) dL_law_521 ?_
    show Ev _ _ _ _ _ _ 522 [some (.ref (BIG + 300)), some (.ref (0)), some (.ref (396)), some (.ref (405)), some (.ref (406)), some (.int (nI i)), some (.int (c)), l7, l8] [.int (jSf X (i + 4)), .int (jSf X (i + 3)), .int (jSf X (i + 2)), .int (jSf X (i + 1)), .ref (396)] (N1, SH v1 T1, I1, L1, D1)
    refine Ev.sg hX sL_law_522 (pc' := 527) (ls' := [some (.ref (BIG + 300)), some (.ref (0)), some (.ref (396)), some (.ref (405)), some (.ref (406)), some (.int (nI i)), some (.int (c)), l7, l8]) (st' := [.int ((nI i) + 5), .ref (BIG + 300), .int (jSf X (i + 4)), .int (jSf X (i + 3)), .int (jSf X (i + 2)), .int (jSf X (i + 1)), .ref (396)]) (h' := (N1, SH v1 T1, I1, L1, D1)) rfl ?_
    refine Ev.ialdX (n := i + 5) (naI rfl rfl) (by omega) (by omega) dL_law_527 ?_
    show Ev _ _ _ _ _ _ 528 [some (.ref (BIG + 300)), some (.ref (0)), some (.ref (396)), some (.ref (405)), some (.ref (406)), some (.int (nI i)), some (.int (c)), l7, l8] [.int (jSf X (i + 5)), .int (jSf X (i + 4)), .int (jSf X (i + 3)), .int (jSf X (i + 2)), .int (jSf X (i + 1)), .ref (396)] (N1, SH v1 T1, I1, L1, D1)
    refine Ev.if_eq (tgt := 535) dL_law_528 (by decide) (fun q7 => ?_) (fun q7 => ?_)
    · exact absurd q7 hb
    · refine Ev.sg hX sL_law_531 (pc' := 536) (ls' := [some (.ref (BIG + 300)), some (.ref (0)), some (.ref (396)), some (.ref (405)), some (.ref (406)), some (.int (nI i)), some (.int (c)), l7, l8]) (st' := [.int (1), .int (jSf X (i + 4)), .int (jSf X (i + 3)), .int (jSf X (i + 2)), .int (jSf X (i + 1)), .ref (396)]) (h' := (N1, SH v1 T1, I1, L1, D1)) rfl ?_
      refine Ev.callV (As := [.int (jSf X (i + 1)), .int (jSf X (i + 2)), .int (jSf X (i + 3)), .int (jSf X (i + 4)), .int (1)]) (rest := []) dvX7_addCar mkL_168 rfl rfl dL_law_536 hM ⟨by decide, by decide⟩ ⟨Nat.zero_le _, Nat.zero_le _⟩ rfl (Nat.le_of_ble_eq_true rfl) (fun v9 h9 e9 => ?_) (fun E9 h9 e9 => by obtain ⟨_, _, e, _⟩ := e9; cases e)
      obtain ⟨b, J, e7, ⟨⟨x8, w8, f1, f2⟩, hG⟩, h12, hinv⟩ := e9
      cases e7
      subst f2
      show Ev _ _ _ _ _ _ 539 [some (.ref (BIG + 300)), some (.ref (0)), some (.ref (396)), some (.ref (405)), some (.ref (406)), some (.int (nI i)), some (.int (c)), l7, l8] [.int (w8)] (N1, SH v1 T1, J, L1, D1)
      refine Ev.sg hX sL_law_539 (pc' := 542) (ls' := [some (.ref (BIG + 300)), some (.ref (0)), some (.ref (396)), some (.ref (405)), some (.ref (406)), some (.int (nI i)), some (.int (c)), some (.int (w8)), l8]) (st' := [.ref (396)]) (h' := (N1, SH v1 T1, J, L1, D1)) rfl ?_
      refine Ev.callV (As := []) (rest := []) dvX7_thrown mkL_156 rfl rfl dL_law_542 (m_thrown (d := 12) hX (by decide)) ⟨by decide, by decide⟩ ⟨Nat.zero_le _, Nat.zero_le _⟩ rfl (Nat.le_of_ble_eq_true rfl) (fun v9 h9 e9 => ?_) (fun E9 h9 e9 => nomatch e9)
      cases e9
      show Ev _ _ _ _ _ _ 545 [some (.ref (BIG + 300)), some (.ref (0)), some (.ref (396)), some (.ref (405)), some (.ref (406)), some (.int (nI i)), some (.int (c)), some (.int (w8)), l8] [.int (J 396 12)] (N1, SH v1 T1, J, L1, D1)
      rw [h12]
      refine Ev.sg hX sL_law_545 (pc' := 547) (ls' := [some (.ref (BIG + 300)), some (.ref (0)), some (.ref (396)), some (.ref (405)), some (.ref (406)), some (.int (nI i)), some (.int (c)), some (.int (w8)), l8]) (st' := [.int (c), .int (c)]) (h' := (N1, SH v1 T1, J, L1, D1)) rfl ?_
      refine Ev.icmp_eq (tgt := 552) dL_law_547 (by decide) (fun _ => ?_) (fun q => absurd rfl q)
      refine Ev.sg hX sL_law_552 (pc' := 554) (ls' := [some (.ref (BIG + 300)), some (.ref (0)), some (.ref (396)), some (.ref (405)), some (.ref (406)), some (.int (nI i)), some (.int (c)), some (.int (w8)), l8]) (st' := [.int (c)]) (h' := (N1, SH v1 T1, J, L1, D1)) rfl ?_
      refine Ev.if_ne (tgt := 569) dL_law_554 (by decide) (fun hc0 => ?_) (fun hc0 => ?_)
      · refine Ev.sg hX sL_law_569 (pc' := 2699) (ls' := [some (.ref (BIG + 300)), some (.ref (0)), some (.ref (396)), some (.ref (405)), some (.ref (406)), some (.int (nI i)), some (.int (c)), some (.int (w8)), l8]) (st' := []) (h' := (N1, SH v1 T1, J, L1, D1)) rfl ?_
        exact Ev.roomL (by omega) (by omega) (bk _ _ _ _ _ _ _ _ _ hN1 hN2 (hinv.mono (by omega) hK))
      · refine Ev.sg hX sL_law_557 (pc' := 559) (ls' := [some (.ref (BIG + 300)), some (.ref (0)), some (.ref (396)), some (.ref (405)), some (.ref (406)), some (.int (nI i)), some (.int (c)), some (.int (w8)), l8]) (st' := [.int (0), .ref (405)]) (h' := (N1, SH v1 T1, J, L1, D1)) rfl ?_
        refine Ev.lald (n := 1) rfl (vp_in_nI (n := 0) (N := 1) (by decide) (by decide)) dL_law_559 ?_
        show Ev _ _ _ _ _ _ 560 [some (.ref (BIG + 300)), some (.ref (0)), some (.ref (396)), some (.ref (405)), some (.ref (406)), some (.int (nI i)), some (.int (c)), some (.int (w8)), l8] [.long (L1 405 0)] (N1, SH v1 T1, J, L1, D1)
        rw [gi_eq (hG hc0)]
        refine Ev.sg hX sL_law_560 (pc' := 564) (ls' := [some (.ref (BIG + 300)), some (.ref (0)), some (.ref (396)), some (.ref (405)), some (.ref (406)), some (.int (nI i)), some (.int (c)), some (.int (w8)), l8]) (st' := [.int (lg_cmp w8.toInt64 w8.toInt64)]) (h' := (N1, SH v1 T1, J, L1, D1)) rfl ?_
        rw [lcmp_self]
        refine Ev.if_eq (tgt := 569) dL_law_564 (by decide) (fun _ => ?_) (fun q => absurd rfl q)
        refine Ev.sg hX sL_law_569 (pc' := 2699) (ls' := [some (.ref (BIG + 300)), some (.ref (0)), some (.ref (396)), some (.ref (405)), some (.ref (406)), some (.int (nI i)), some (.int (c)), some (.int (w8)), l8]) (st' := []) (h' := (N1, SH v1 T1, J, L1, D1)) rfl ?_
        exact Ev.roomL (by omega) (by omega) (bk _ _ _ _ _ _ _ _ _ hN1 hN2 (hinv.mono (by omega) hK))
theorem br_shunt (hX : JXok X) (hI : INV K N v T I L Dd) (hK : K + 8 ≤ 5000) (hN : N + 1500 < BIG) (hs : i + 6 ≤ jSn X ∧ jSn X ≤ 3072) (hm : 1160 ≤ mc ∧ 1160 ≤ ms) (bk : BK X mc ms N (K + 8) i) : Ev X (jm jdL_law) 20 mc ms lwR 572 (lsW i l6 l7 l8) [] (N, SH v T, I, L, Dd) := by
  have hI0 := hI
  obtain ⟨g, gs, d, sv, qq, tx, er, fl, w, hp, hq⟩ := hI
  have hN4 := hp.N4
  refine Ev.sg hX sL_law_572 (pc' := 578) (ls' := [some (.ref (BIG + 300)), some (.ref (0)), some (.ref (396)), some (.ref (405)), some (.ref (406)), some (.int (nI i)), l6, l7, l8]) (st' := [.int ((nI i) + 1), .ref (BIG + 300), .ref (0)]) (h' := (N, SH v T, I, L, Dd)) rfl ?_
  refine Ev.ialdX (n := i + 1) (naI rfl rfl) (by omega) (by omega) dL_law_578 ?_
  show Ev _ _ _ _ _ _ 579 [some (.ref (BIG + 300)), some (.ref (0)), some (.ref (396)), some (.ref (405)), some (.ref (406)), some (.int (nI i)), l6, l7, l8] [.int (jSf X (i + 1)), .ref (0)] (N, SH v T, I, L, Dd)
  refine Ev.sg hX sL_law_579 (pc' := 584) (ls' := [some (.ref (BIG + 300)), some (.ref (0)), some (.ref (396)), some (.ref (405)), some (.ref (406)), some (.int (nI i)), l6, l7, l8]) (st' := [.int ((nI i) + 2), .ref (BIG + 300), .int (jSf X (i + 1)), .ref (0)]) (h' := (N, SH v T, I, L, Dd)) rfl ?_
  refine Ev.ialdX (n := i + 2) (naI rfl rfl) (by omega) (by omega) dL_law_584 ?_
  show Ev _ _ _ _ _ _ 585 [some (.ref (BIG + 300)), some (.ref (0)), some (.ref (396)), some (.ref (405)), some (.ref (406)), some (.int (nI i)), l6, l7, l8] [.int (jSf X (i + 2)), .int (jSf X (i + 1)), .ref (0)] (N, SH v T, I, L, Dd)
  refine Ev.sg hX sL_law_585 (pc' := 590) (ls' := [some (.ref (BIG + 300)), some (.ref (0)), some (.ref (396)), some (.ref (405)), some (.ref (406)), some (.int (nI i)), l6, l7, l8]) (st' := [.int ((nI i) + 3), .ref (BIG + 300), .int (jSf X (i + 2)), .int (jSf X (i + 1)), .ref (0)]) (h' := (N, SH v T, I, L, Dd)) rfl ?_
  refine Ev.ialdX (n := i + 3) (naI rfl rfl) (by omega) (by omega) dL_law_590 ?_
  show Ev _ _ _ _ _ _ 591 [some (.ref (BIG + 300)), some (.ref (0)), some (.ref (396)), some (.ref (405)), some (.ref (406)), some (.int (nI i)), l6, l7, l8] [.int (jSf X (i + 3)), .int (jSf X (i + 2)), .int (jSf X (i + 1)), .ref (0)] (N, SH v T, I, L, Dd)
  refine Ev.sg hX sL_law_591 (pc' := 592) (ls' := [some (.ref (BIG + 300)), some (.ref (0)), some (.ref (396)), some (.ref (405)), some (.ref (406)), some (.int (nI i)), l6, l7, l8]) (st' := [.ref (405), .int (jSf X (i + 3)), .int (jSf X (i + 2)), .int (jSf X (i + 1)), .ref (0)]) (h' := (N, SH v T, I, L, Dd)) rfl ?_
  obtain ⟨Q', C, hC⟩ := CLS.cr (show CLS X _ _ _ jdX6_shunt [.int (jSf X (i + 1)), .int (jSf X (i + 2)), .int (jSf X (i + 3))] jdX7_shunt [.int (jSf X (i + 1)), .int (jSf X (i + 2)), .int (jSf X (i + 3))] _ _ N v T I L Dd from b_shunt hX hp hq (by omega) (by omega))
  refine Ev.callSX (As := [.ref (0), .int (jSf X (i + 1)), .int (jSf X (i + 2)), .int (jSf X (i + 3)), .ref (405)]) (rest := []) dhL_shunt mkL_169 dL_law_592 (wL_shunt hX rfl C (cr_hI hC) (fun E h' e => by obtain ⟨k, hk⟩ := cr_ex hC e; exact xor5 hk)) ⟨by decide, by decide⟩ ⟨by omega, by omega⟩ rfl (Nat.le_of_ble_eq_true rfl) (fun v9 h9 e9 => ?_) (fun E9 h9 e9 => (wq_no e9).elim)
  obtain ⟨N1, v1, T1, I1, L1, D1, c, hN1, hN2, e8, hM⟩ := wq_g (G := GI) hC (cd_of (l := ["java/lang/IndexOutOfBoundsException", "java/lang/IllegalArgumentException", "java/lang/IllegalStateException", "java/util/NoSuchElementException", "java/lang/UnsupportedOperationException"]) (by decide +kernel) (by decide)) (fun x N1 v1 T1 I1 L1 h2 hb hw => w_I hw) e9
  cases e8
  show Ev _ _ _ _ _ _ 595 [some (.ref (BIG + 300)), some (.ref (0)), some (.ref (396)), some (.ref (405)), some (.ref (406)), some (.int (nI i)), l6, l7, l8] [.int (c)] (N1, SH v1 T1, I1, L1, D1)
  refine Ev.sg hX sL_law_595 (pc' := 603) (ls' := [some (.ref (BIG + 300)), some (.ref (0)), some (.ref (396)), some (.ref (405)), some (.ref (406)), some (.int (nI i)), some (.int (c)), l7, l8]) (st' := [.int ((nI i) + 1), .ref (BIG + 300), .ref (396)]) (h' := (N1, SH v1 T1, I1, L1, D1)) rfl ?_
  refine Ev.ialdX (n := i + 1) (naI rfl rfl) (by omega) (by omega) dL_law_603 ?_
  show Ev _ _ _ _ _ _ 604 [some (.ref (BIG + 300)), some (.ref (0)), some (.ref (396)), some (.ref (405)), some (.ref (406)), some (.int (nI i)), some (.int (c)), l7, l8] [.int (jSf X (i + 1)), .ref (396)] (N1, SH v1 T1, I1, L1, D1)
  refine Ev.sg hX sL_law_604 (pc' := 609) (ls' := [some (.ref (BIG + 300)), some (.ref (0)), some (.ref (396)), some (.ref (405)), some (.ref (406)), some (.int (nI i)), some (.int (c)), l7, l8]) (st' := [.int ((nI i) + 2), .ref (BIG + 300), .int (jSf X (i + 1)), .ref (396)]) (h' := (N1, SH v1 T1, I1, L1, D1)) rfl ?_
  refine Ev.ialdX (n := i + 2) (naI rfl rfl) (by omega) (by omega) dL_law_609 ?_
  show Ev _ _ _ _ _ _ 610 [some (.ref (BIG + 300)), some (.ref (0)), some (.ref (396)), some (.ref (405)), some (.ref (406)), some (.int (nI i)), some (.int (c)), l7, l8] [.int (jSf X (i + 2)), .int (jSf X (i + 1)), .ref (396)] (N1, SH v1 T1, I1, L1, D1)
  refine Ev.sg hX sL_law_610 (pc' := 615) (ls' := [some (.ref (BIG + 300)), some (.ref (0)), some (.ref (396)), some (.ref (405)), some (.ref (406)), some (.int (nI i)), some (.int (c)), l7, l8]) (st' := [.int ((nI i) + 3), .ref (BIG + 300), .int (jSf X (i + 2)), .int (jSf X (i + 1)), .ref (396)]) (h' := (N1, SH v1 T1, I1, L1, D1)) rfl ?_
  refine Ev.ialdX (n := i + 3) (naI rfl rfl) (by omega) (by omega) dL_law_615 ?_
  show Ev _ _ _ _ _ _ 616 [some (.ref (BIG + 300)), some (.ref (0)), some (.ref (396)), some (.ref (405)), some (.ref (406)), some (.int (nI i)), some (.int (c)), l7, l8] [.int (jSf X (i + 3)), .int (jSf X (i + 2)), .int (jSf X (i + 1)), .ref (396)] (N1, SH v1 T1, I1, L1, D1)
  refine Ev.callV (As := [.int (jSf X (i + 1)), .int (jSf X (i + 2)), .int (jSf X (i + 3))]) (rest := []) dvX7_shunt mkL_172 rfl rfl dL_law_616 hM ⟨by decide, by decide⟩ ⟨Nat.zero_le _, Nat.zero_le _⟩ rfl (Nat.le_of_ble_eq_true rfl) (fun v9 h9 e9 => ?_) (fun E9 h9 e9 => by obtain ⟨_, _, e, _⟩ := e9; cases e)
  obtain ⟨b, J, e7, ⟨⟨x8, w8, f1, f2⟩, hG⟩, h12, hinv⟩ := e9
  cases e7
  subst f2
  show Ev _ _ _ _ _ _ 619 [some (.ref (BIG + 300)), some (.ref (0)), some (.ref (396)), some (.ref (405)), some (.ref (406)), some (.int (nI i)), some (.int (c)), l7, l8] [.int (w8)] (N1, SH v1 T1, J, L1, D1)
  refine Ev.sg hX sL_law_619 (pc' := 622) (ls' := [some (.ref (BIG + 300)), some (.ref (0)), some (.ref (396)), some (.ref (405)), some (.ref (406)), some (.int (nI i)), some (.int (c)), some (.int (w8)), l8]) (st' := [.ref (396)]) (h' := (N1, SH v1 T1, J, L1, D1)) rfl ?_
  refine Ev.callV (As := []) (rest := []) dvX7_thrown mkL_156 rfl rfl dL_law_622 (m_thrown (d := 12) hX (by decide)) ⟨by decide, by decide⟩ ⟨Nat.zero_le _, Nat.zero_le _⟩ rfl (Nat.le_of_ble_eq_true rfl) (fun v9 h9 e9 => ?_) (fun E9 h9 e9 => nomatch e9)
  cases e9
  show Ev _ _ _ _ _ _ 625 [some (.ref (BIG + 300)), some (.ref (0)), some (.ref (396)), some (.ref (405)), some (.ref (406)), some (.int (nI i)), some (.int (c)), some (.int (w8)), l8] [.int (J 396 12)] (N1, SH v1 T1, J, L1, D1)
  rw [h12]
  refine Ev.sg hX sL_law_625 (pc' := 627) (ls' := [some (.ref (BIG + 300)), some (.ref (0)), some (.ref (396)), some (.ref (405)), some (.ref (406)), some (.int (nI i)), some (.int (c)), some (.int (w8)), l8]) (st' := [.int (c), .int (c)]) (h' := (N1, SH v1 T1, J, L1, D1)) rfl ?_
  refine Ev.icmp_eq (tgt := 632) dL_law_627 (by decide) (fun _ => ?_) (fun q => absurd rfl q)
  refine Ev.sg hX sL_law_632 (pc' := 634) (ls' := [some (.ref (BIG + 300)), some (.ref (0)), some (.ref (396)), some (.ref (405)), some (.ref (406)), some (.int (nI i)), some (.int (c)), some (.int (w8)), l8]) (st' := [.int (c)]) (h' := (N1, SH v1 T1, J, L1, D1)) rfl ?_
  refine Ev.if_ne (tgt := 649) dL_law_634 (by decide) (fun hc0 => ?_) (fun hc0 => ?_)
  · refine Ev.sg hX sL_law_649 (pc' := 2699) (ls' := [some (.ref (BIG + 300)), some (.ref (0)), some (.ref (396)), some (.ref (405)), some (.ref (406)), some (.int (nI i)), some (.int (c)), some (.int (w8)), l8]) (st' := []) (h' := (N1, SH v1 T1, J, L1, D1)) rfl ?_
    exact Ev.roomL (by omega) (by omega) (bk _ _ _ _ _ _ _ _ _ hN1 hN2 (hinv.mono (by omega) hK))
  · refine Ev.sg hX sL_law_637 (pc' := 639) (ls' := [some (.ref (BIG + 300)), some (.ref (0)), some (.ref (396)), some (.ref (405)), some (.ref (406)), some (.int (nI i)), some (.int (c)), some (.int (w8)), l8]) (st' := [.int (0), .ref (405)]) (h' := (N1, SH v1 T1, J, L1, D1)) rfl ?_
    refine Ev.lald (n := 1) rfl (vp_in_nI (n := 0) (N := 1) (by decide) (by decide)) dL_law_639 ?_
    show Ev _ _ _ _ _ _ 640 [some (.ref (BIG + 300)), some (.ref (0)), some (.ref (396)), some (.ref (405)), some (.ref (406)), some (.int (nI i)), some (.int (c)), some (.int (w8)), l8] [.long (L1 405 0)] (N1, SH v1 T1, J, L1, D1)
    rw [gi_eq (hG hc0)]
    refine Ev.sg hX sL_law_640 (pc' := 644) (ls' := [some (.ref (BIG + 300)), some (.ref (0)), some (.ref (396)), some (.ref (405)), some (.ref (406)), some (.int (nI i)), some (.int (c)), some (.int (w8)), l8]) (st' := [.int (lg_cmp w8.toInt64 w8.toInt64)]) (h' := (N1, SH v1 T1, J, L1, D1)) rfl ?_
    rw [lcmp_self]
    refine Ev.if_eq (tgt := 649) dL_law_644 (by decide) (fun _ => ?_) (fun q => absurd rfl q)
    refine Ev.sg hX sL_law_649 (pc' := 2699) (ls' := [some (.ref (BIG + 300)), some (.ref (0)), some (.ref (396)), some (.ref (405)), some (.ref (406)), some (.int (nI i)), some (.int (c)), some (.int (w8)), l8]) (st' := []) (h' := (N1, SH v1 T1, J, L1, D1)) rfl ?_
    exact Ev.roomL (by omega) (by omega) (bk _ _ _ _ _ _ _ _ _ hN1 hN2 (hinv.mono (by omega) hK))
theorem br_repair (hX : JXok X) (hI : INV K N v T I L Dd) (hK : K + 8 ≤ 5000) (hN : N + 1500 < BIG) (hs : i + 6 ≤ jSn X ∧ jSn X ≤ 3072) (hm : 1160 ≤ mc ∧ 1160 ≤ ms) (bk : BK X mc ms N (K + 8) i) : Ev X (jm jdL_law) 20 mc ms lwR 652 (lsW i l6 l7 l8) [] (N, SH v T, I, L, Dd) := by
  have hI0 := hI
  obtain ⟨g, gs, d, sv, qq, tx, er, fl, w, hp, hq⟩ := hI
  have hN4 := hp.N4
  refine Ev.sg hX sL_law_652 (pc' := 658) (ls' := [some (.ref (BIG + 300)), some (.ref (0)), some (.ref (396)), some (.ref (405)), some (.ref (406)), some (.int (nI i)), l6, l7, l8]) (st' := [.int ((nI i) + 1), .ref (BIG + 300), .ref (0)]) (h' := (N, SH v T, I, L, Dd)) rfl ?_
  refine Ev.ialdX (n := i + 1) (naI rfl rfl) (by omega) (by omega) dL_law_658 ?_
  show Ev _ _ _ _ _ _ 659 [some (.ref (BIG + 300)), some (.ref (0)), some (.ref (396)), some (.ref (405)), some (.ref (406)), some (.int (nI i)), l6, l7, l8] [.int (jSf X (i + 1)), .ref (0)] (N, SH v T, I, L, Dd)
  refine Ev.sg hX sL_law_659 (pc' := 660) (ls' := [some (.ref (BIG + 300)), some (.ref (0)), some (.ref (396)), some (.ref (405)), some (.ref (406)), some (.int (nI i)), l6, l7, l8]) (st' := [.ref (405), .int (jSf X (i + 1)), .ref (0)]) (h' := (N, SH v T, I, L, Dd)) rfl ?_
  obtain ⟨Q', C, hC⟩ := CLS.cr (show CLS X _ _ _ jdX6_repair [.int (jSf X (i + 1))] jdX7_repair [.int (jSf X (i + 1))] _ _ N v T I L Dd from b_repair hX hp hq (by omega) (by omega))
  refine Ev.callSX (As := [.ref (0), .int (jSf X (i + 1)), .ref (405)]) (rest := []) dhL_repair mkL_173 dL_law_660 (wL_repair hX rfl C (cr_hI hC) (fun E h' e => by obtain ⟨k, hk⟩ := cr_ex hC e; exact xor2 hk)) ⟨by decide, by decide⟩ ⟨by omega, by omega⟩ rfl (Nat.le_of_ble_eq_true rfl) (fun v9 h9 e9 => ?_) (fun E9 h9 e9 => (wq_no e9).elim)
  obtain ⟨N1, v1, T1, I1, L1, D1, c, hN1, hN2, e8, hM⟩ := wq_g (G := GI) hC (cd_of (l := ["java/util/NoSuchElementException", "java/lang/IllegalStateException"]) (by decide +kernel) (by decide)) (fun x N1 v1 T1 I1 L1 h2 hb hw => w_I hw) e9
  cases e8
  show Ev _ _ _ _ _ _ 663 [some (.ref (BIG + 300)), some (.ref (0)), some (.ref (396)), some (.ref (405)), some (.ref (406)), some (.int (nI i)), l6, l7, l8] [.int (c)] (N1, SH v1 T1, I1, L1, D1)
  refine Ev.sg hX sL_law_663 (pc' := 671) (ls' := [some (.ref (BIG + 300)), some (.ref (0)), some (.ref (396)), some (.ref (405)), some (.ref (406)), some (.int (nI i)), some (.int (c)), l7, l8]) (st' := [.int ((nI i) + 1), .ref (BIG + 300), .ref (396)]) (h' := (N1, SH v1 T1, I1, L1, D1)) rfl ?_
  refine Ev.ialdX (n := i + 1) (naI rfl rfl) (by omega) (by omega) dL_law_671 ?_
  show Ev _ _ _ _ _ _ 672 [some (.ref (BIG + 300)), some (.ref (0)), some (.ref (396)), some (.ref (405)), some (.ref (406)), some (.int (nI i)), some (.int (c)), l7, l8] [.int (jSf X (i + 1)), .ref (396)] (N1, SH v1 T1, I1, L1, D1)
  refine Ev.callV (As := [.int (jSf X (i + 1))]) (rest := []) dvX7_repair mkL_176 rfl rfl dL_law_672 hM ⟨by decide, by decide⟩ ⟨Nat.zero_le _, Nat.zero_le _⟩ rfl (Nat.le_of_ble_eq_true rfl) (fun v9 h9 e9 => ?_) (fun E9 h9 e9 => by obtain ⟨_, _, e, _⟩ := e9; cases e)
  obtain ⟨b, J, e7, ⟨⟨x8, w8, f1, f2⟩, hG⟩, h12, hinv⟩ := e9
  cases e7
  subst f2
  show Ev _ _ _ _ _ _ 675 [some (.ref (BIG + 300)), some (.ref (0)), some (.ref (396)), some (.ref (405)), some (.ref (406)), some (.int (nI i)), some (.int (c)), l7, l8] [.int (w8)] (N1, SH v1 T1, J, L1, D1)
  refine Ev.sg hX sL_law_675 (pc' := 678) (ls' := [some (.ref (BIG + 300)), some (.ref (0)), some (.ref (396)), some (.ref (405)), some (.ref (406)), some (.int (nI i)), some (.int (c)), some (.int (w8)), l8]) (st' := [.ref (396)]) (h' := (N1, SH v1 T1, J, L1, D1)) rfl ?_
  refine Ev.callV (As := []) (rest := []) dvX7_thrown mkL_156 rfl rfl dL_law_678 (m_thrown (d := 12) hX (by decide)) ⟨by decide, by decide⟩ ⟨Nat.zero_le _, Nat.zero_le _⟩ rfl (Nat.le_of_ble_eq_true rfl) (fun v9 h9 e9 => ?_) (fun E9 h9 e9 => nomatch e9)
  cases e9
  show Ev _ _ _ _ _ _ 681 [some (.ref (BIG + 300)), some (.ref (0)), some (.ref (396)), some (.ref (405)), some (.ref (406)), some (.int (nI i)), some (.int (c)), some (.int (w8)), l8] [.int (J 396 12)] (N1, SH v1 T1, J, L1, D1)
  rw [h12]
  refine Ev.sg hX sL_law_681 (pc' := 683) (ls' := [some (.ref (BIG + 300)), some (.ref (0)), some (.ref (396)), some (.ref (405)), some (.ref (406)), some (.int (nI i)), some (.int (c)), some (.int (w8)), l8]) (st' := [.int (c), .int (c)]) (h' := (N1, SH v1 T1, J, L1, D1)) rfl ?_
  refine Ev.icmp_eq (tgt := 688) dL_law_683 (by decide) (fun _ => ?_) (fun q => absurd rfl q)
  refine Ev.sg hX sL_law_688 (pc' := 690) (ls' := [some (.ref (BIG + 300)), some (.ref (0)), some (.ref (396)), some (.ref (405)), some (.ref (406)), some (.int (nI i)), some (.int (c)), some (.int (w8)), l8]) (st' := [.int (c)]) (h' := (N1, SH v1 T1, J, L1, D1)) rfl ?_
  refine Ev.if_ne (tgt := 705) dL_law_690 (by decide) (fun hc0 => ?_) (fun hc0 => ?_)
  · refine Ev.sg hX sL_law_705 (pc' := 2699) (ls' := [some (.ref (BIG + 300)), some (.ref (0)), some (.ref (396)), some (.ref (405)), some (.ref (406)), some (.int (nI i)), some (.int (c)), some (.int (w8)), l8]) (st' := []) (h' := (N1, SH v1 T1, J, L1, D1)) rfl ?_
    exact Ev.roomL (by omega) (by omega) (bk _ _ _ _ _ _ _ _ _ hN1 hN2 (hinv.mono (by omega) hK))
  · refine Ev.sg hX sL_law_693 (pc' := 695) (ls' := [some (.ref (BIG + 300)), some (.ref (0)), some (.ref (396)), some (.ref (405)), some (.ref (406)), some (.int (nI i)), some (.int (c)), some (.int (w8)), l8]) (st' := [.int (0), .ref (405)]) (h' := (N1, SH v1 T1, J, L1, D1)) rfl ?_
    refine Ev.lald (n := 1) rfl (vp_in_nI (n := 0) (N := 1) (by decide) (by decide)) dL_law_695 ?_
    show Ev _ _ _ _ _ _ 696 [some (.ref (BIG + 300)), some (.ref (0)), some (.ref (396)), some (.ref (405)), some (.ref (406)), some (.int (nI i)), some (.int (c)), some (.int (w8)), l8] [.long (L1 405 0)] (N1, SH v1 T1, J, L1, D1)
    rw [gi_eq (hG hc0)]
    refine Ev.sg hX sL_law_696 (pc' := 700) (ls' := [some (.ref (BIG + 300)), some (.ref (0)), some (.ref (396)), some (.ref (405)), some (.ref (406)), some (.int (nI i)), some (.int (c)), some (.int (w8)), l8]) (st' := [.int (lg_cmp w8.toInt64 w8.toInt64)]) (h' := (N1, SH v1 T1, J, L1, D1)) rfl ?_
    rw [lcmp_self]
    refine Ev.if_eq (tgt := 705) dL_law_700 (by decide) (fun _ => ?_) (fun q => absurd rfl q)
    refine Ev.sg hX sL_law_705 (pc' := 2699) (ls' := [some (.ref (BIG + 300)), some (.ref (0)), some (.ref (396)), some (.ref (405)), some (.ref (406)), some (.int (nI i)), some (.int (c)), some (.int (w8)), l8]) (st' := []) (h' := (N1, SH v1 T1, J, L1, D1)) rfl ?_
    exact Ev.roomL (by omega) (by omega) (bk _ _ _ _ _ _ _ _ _ hN1 hN2 (hinv.mono (by omega) hK))
theorem br_depart (hX : JXok X) (hI : INV K N v T I L Dd) (hK : K + 8 ≤ 5000) (hN : N + 1500 < BIG) (hs : i + 6 ≤ jSn X ∧ jSn X ≤ 3072) (hm : 1160 ≤ mc ∧ 1160 ≤ ms) (bk : BK X mc ms N (K + 8) i) : Ev X (jm jdL_law) 20 mc ms lwR 708 (lsW i l6 l7 l8) [] (N, SH v T, I, L, Dd) := by
  have hI0 := hI
  obtain ⟨g, gs, d, sv, qq, tx, er, fl, w, hp, hq⟩ := hI
  have hN4 := hp.N4
  refine Ev.sg hX sL_law_708 (pc' := 714) (ls' := [some (.ref (BIG + 300)), some (.ref (0)), some (.ref (396)), some (.ref (405)), some (.ref (406)), some (.int (nI i)), l6, l7, l8]) (st' := [.int ((nI i) + 1), .ref (BIG + 300), .ref (0)]) (h' := (N, SH v T, I, L, Dd)) rfl ?_
  refine Ev.ialdX (n := i + 1) (naI rfl rfl) (by omega) (by omega) dL_law_714 ?_
  show Ev _ _ _ _ _ _ 715 [some (.ref (BIG + 300)), some (.ref (0)), some (.ref (396)), some (.ref (405)), some (.ref (406)), some (.int (nI i)), l6, l7, l8] [.int (jSf X (i + 1)), .ref (0)] (N, SH v T, I, L, Dd)
  refine Ev.sg hX sL_law_715 (pc' := 720) (ls' := [some (.ref (BIG + 300)), some (.ref (0)), some (.ref (396)), some (.ref (405)), some (.ref (406)), some (.int (nI i)), l6, l7, l8]) (st' := [.int ((nI i) + 2), .ref (BIG + 300), .int (jSf X (i + 1)), .ref (0)]) (h' := (N, SH v T, I, L, Dd)) rfl ?_
  refine Ev.ialdX (n := i + 2) (naI rfl rfl) (by omega) (by omega) dL_law_720 ?_
  show Ev _ _ _ _ _ _ 721 [some (.ref (BIG + 300)), some (.ref (0)), some (.ref (396)), some (.ref (405)), some (.ref (406)), some (.int (nI i)), l6, l7, l8] [.int (jSf X (i + 2)), .int (jSf X (i + 1)), .ref (0)] (N, SH v T, I, L, Dd)
  refine Ev.sg hX sL_law_721 (pc' := 722) (ls' := [some (.ref (BIG + 300)), some (.ref (0)), some (.ref (396)), some (.ref (405)), some (.ref (406)), some (.int (nI i)), l6, l7, l8]) (st' := [.ref (405), .int (jSf X (i + 2)), .int (jSf X (i + 1)), .ref (0)]) (h' := (N, SH v T, I, L, Dd)) rfl ?_
  obtain ⟨Q', C, hC⟩ := CLS.cr (show CLS X _ _ _ jdX6_depart [.int (jSf X (i + 1)), .int (jSf X (i + 2))] jdX7_depart [.int (jSf X (i + 1)), .int (jSf X (i + 2))] _ _ N v T I L Dd from b_depart hX hp hq (by omega) (by omega))
  refine Ev.callSX (As := [.ref (0), .int (jSf X (i + 1)), .int (jSf X (i + 2)), .ref (405)]) (rest := []) dhL_depart mkL_177 dL_law_722 (wL_depart hX rfl C (cr_hI hC) (fun E h' e => by obtain ⟨k, hk⟩ := cr_ex hC e; exact xor4 hk)) ⟨by decide, by decide⟩ ⟨by omega, by omega⟩ rfl (Nat.le_of_ble_eq_true rfl) (fun v9 h9 e9 => ?_) (fun E9 h9 e9 => (wq_no e9).elim)
  obtain ⟨N1, v1, T1, I1, L1, D1, c, hN1, hN2, e8, hM⟩ := wq_g (G := GI) hC (cd_of (l := ["java/lang/IndexOutOfBoundsException", "java/lang/IllegalArgumentException", "java/lang/IllegalStateException", "java/lang/UnsupportedOperationException"]) (by decide +kernel) (by decide)) (fun x N1 v1 T1 I1 L1 h2 hb hw => w_I hw) e9
  cases e8
  show Ev _ _ _ _ _ _ 725 [some (.ref (BIG + 300)), some (.ref (0)), some (.ref (396)), some (.ref (405)), some (.ref (406)), some (.int (nI i)), l6, l7, l8] [.int (c)] (N1, SH v1 T1, I1, L1, D1)
  refine Ev.sg hX sL_law_725 (pc' := 733) (ls' := [some (.ref (BIG + 300)), some (.ref (0)), some (.ref (396)), some (.ref (405)), some (.ref (406)), some (.int (nI i)), some (.int (c)), l7, l8]) (st' := [.int ((nI i) + 1), .ref (BIG + 300), .ref (396)]) (h' := (N1, SH v1 T1, I1, L1, D1)) rfl ?_
  refine Ev.ialdX (n := i + 1) (naI rfl rfl) (by omega) (by omega) dL_law_733 ?_
  show Ev _ _ _ _ _ _ 734 [some (.ref (BIG + 300)), some (.ref (0)), some (.ref (396)), some (.ref (405)), some (.ref (406)), some (.int (nI i)), some (.int (c)), l7, l8] [.int (jSf X (i + 1)), .ref (396)] (N1, SH v1 T1, I1, L1, D1)
  refine Ev.sg hX sL_law_734 (pc' := 739) (ls' := [some (.ref (BIG + 300)), some (.ref (0)), some (.ref (396)), some (.ref (405)), some (.ref (406)), some (.int (nI i)), some (.int (c)), l7, l8]) (st' := [.int ((nI i) + 2), .ref (BIG + 300), .int (jSf X (i + 1)), .ref (396)]) (h' := (N1, SH v1 T1, I1, L1, D1)) rfl ?_
  refine Ev.ialdX (n := i + 2) (naI rfl rfl) (by omega) (by omega) dL_law_739 ?_
  show Ev _ _ _ _ _ _ 740 [some (.ref (BIG + 300)), some (.ref (0)), some (.ref (396)), some (.ref (405)), some (.ref (406)), some (.int (nI i)), some (.int (c)), l7, l8] [.int (jSf X (i + 2)), .int (jSf X (i + 1)), .ref (396)] (N1, SH v1 T1, I1, L1, D1)
  refine Ev.callV (As := [.int (jSf X (i + 1)), .int (jSf X (i + 2))]) (rest := []) dvX7_depart mkL_179 rfl rfl dL_law_740 hM ⟨by decide, by decide⟩ ⟨Nat.zero_le _, Nat.zero_le _⟩ rfl (Nat.le_of_ble_eq_true rfl) (fun v9 h9 e9 => ?_) (fun E9 h9 e9 => by obtain ⟨_, _, e, _⟩ := e9; cases e)
  obtain ⟨b, J, e7, ⟨⟨x8, w8, f1, f2⟩, hG⟩, h12, hinv⟩ := e9
  cases e7
  subst f2
  show Ev _ _ _ _ _ _ 743 [some (.ref (BIG + 300)), some (.ref (0)), some (.ref (396)), some (.ref (405)), some (.ref (406)), some (.int (nI i)), some (.int (c)), l7, l8] [.int (w8)] (N1, SH v1 T1, J, L1, D1)
  refine Ev.sg hX sL_law_743 (pc' := 746) (ls' := [some (.ref (BIG + 300)), some (.ref (0)), some (.ref (396)), some (.ref (405)), some (.ref (406)), some (.int (nI i)), some (.int (c)), some (.int (w8)), l8]) (st' := [.ref (396)]) (h' := (N1, SH v1 T1, J, L1, D1)) rfl ?_
  refine Ev.callV (As := []) (rest := []) dvX7_thrown mkL_156 rfl rfl dL_law_746 (m_thrown (d := 12) hX (by decide)) ⟨by decide, by decide⟩ ⟨Nat.zero_le _, Nat.zero_le _⟩ rfl (Nat.le_of_ble_eq_true rfl) (fun v9 h9 e9 => ?_) (fun E9 h9 e9 => nomatch e9)
  cases e9
  show Ev _ _ _ _ _ _ 749 [some (.ref (BIG + 300)), some (.ref (0)), some (.ref (396)), some (.ref (405)), some (.ref (406)), some (.int (nI i)), some (.int (c)), some (.int (w8)), l8] [.int (J 396 12)] (N1, SH v1 T1, J, L1, D1)
  rw [h12]
  refine Ev.sg hX sL_law_749 (pc' := 751) (ls' := [some (.ref (BIG + 300)), some (.ref (0)), some (.ref (396)), some (.ref (405)), some (.ref (406)), some (.int (nI i)), some (.int (c)), some (.int (w8)), l8]) (st' := [.int (c), .int (c)]) (h' := (N1, SH v1 T1, J, L1, D1)) rfl ?_
  refine Ev.icmp_eq (tgt := 756) dL_law_751 (by decide) (fun _ => ?_) (fun q => absurd rfl q)
  refine Ev.sg hX sL_law_756 (pc' := 758) (ls' := [some (.ref (BIG + 300)), some (.ref (0)), some (.ref (396)), some (.ref (405)), some (.ref (406)), some (.int (nI i)), some (.int (c)), some (.int (w8)), l8]) (st' := [.int (c)]) (h' := (N1, SH v1 T1, J, L1, D1)) rfl ?_
  refine Ev.if_ne (tgt := 773) dL_law_758 (by decide) (fun hc0 => ?_) (fun hc0 => ?_)
  · refine Ev.sg hX sL_law_773 (pc' := 2699) (ls' := [some (.ref (BIG + 300)), some (.ref (0)), some (.ref (396)), some (.ref (405)), some (.ref (406)), some (.int (nI i)), some (.int (c)), some (.int (w8)), l8]) (st' := []) (h' := (N1, SH v1 T1, J, L1, D1)) rfl ?_
    exact Ev.roomL (by omega) (by omega) (bk _ _ _ _ _ _ _ _ _ hN1 hN2 (hinv.mono (by omega) hK))
  · refine Ev.sg hX sL_law_761 (pc' := 763) (ls' := [some (.ref (BIG + 300)), some (.ref (0)), some (.ref (396)), some (.ref (405)), some (.ref (406)), some (.int (nI i)), some (.int (c)), some (.int (w8)), l8]) (st' := [.int (0), .ref (405)]) (h' := (N1, SH v1 T1, J, L1, D1)) rfl ?_
    refine Ev.lald (n := 1) rfl (vp_in_nI (n := 0) (N := 1) (by decide) (by decide)) dL_law_763 ?_
    show Ev _ _ _ _ _ _ 764 [some (.ref (BIG + 300)), some (.ref (0)), some (.ref (396)), some (.ref (405)), some (.ref (406)), some (.int (nI i)), some (.int (c)), some (.int (w8)), l8] [.long (L1 405 0)] (N1, SH v1 T1, J, L1, D1)
    rw [gi_eq (hG hc0)]
    refine Ev.sg hX sL_law_764 (pc' := 768) (ls' := [some (.ref (BIG + 300)), some (.ref (0)), some (.ref (396)), some (.ref (405)), some (.ref (406)), some (.int (nI i)), some (.int (c)), some (.int (w8)), l8]) (st' := [.int (lg_cmp w8.toInt64 w8.toInt64)]) (h' := (N1, SH v1 T1, J, L1, D1)) rfl ?_
    rw [lcmp_self]
    refine Ev.if_eq (tgt := 773) dL_law_768 (by decide) (fun _ => ?_) (fun q => absurd rfl q)
    refine Ev.sg hX sL_law_773 (pc' := 2699) (ls' := [some (.ref (BIG + 300)), some (.ref (0)), some (.ref (396)), some (.ref (405)), some (.ref (406)), some (.int (nI i)), some (.int (c)), some (.int (w8)), l8]) (st' := []) (h' := (N1, SH v1 T1, J, L1, D1)) rfl ?_
    exact Ev.roomL (by omega) (by omega) (bk _ _ _ _ _ _ _ _ _ hN1 hN2 (hinv.mono (by omega) hK))
theorem br_trackCount (hX : JXok X) (hI : INV K N v T I L Dd) (hK : K + 8 ≤ 5000) (hN : N + 1500 < BIG) (hs : i + 6 ≤ jSn X ∧ jSn X ≤ 3072) (hm : 1160 ≤ mc ∧ 1160 ≤ ms) (bk : BK X mc ms N (K + 8) i) : Ev X (jm jdL_law) 20 mc ms lwR 776 (lsW i l6 l7 l8) [] (N, SH v T, I, L, Dd) := by
  have hI0 := hI
  obtain ⟨g, gs, d, sv, qq, tx, er, fl, w, hp, hq⟩ := hI
  have hN4 := hp.N4
  refine Ev.sg hX sL_law_776 (pc' := 777) (ls' := [some (.ref (BIG + 300)), some (.ref (0)), some (.ref (396)), some (.ref (405)), some (.ref (406)), some (.int (nI i)), l6, l7, l8]) (st' := [.ref (0)]) (h' := (N, SH v T, I, L, Dd)) rfl ?_
  obtain ⟨Q', C, hC⟩ := CLS.cr (show CLS X _ _ _ jdX6_trackCount [] jdX7_trackCount [] _ _ N v T I L Dd from b_trackCount hX hp hq)
  refine Ev.callV (As := []) (rest := []) dvX6_trackCount mkL_180 rfl rfl dL_law_777 C ⟨by decide, by decide⟩ ⟨Nat.zero_le _, Nat.zero_le _⟩ rfl (Nat.le_of_ble_eq_true rfl) (fun v9 h9 e9 => ?_) (fun E9 h9 e9 => by obtain ⟨_, _, _, _, _, _, _, _, e, _⟩ := cr_d hC e9; cases e)
  obtain ⟨N1, v1, T1, I1, L1, x9, hN1, hN2, e8, ⟨b0, w9, f1, -⟩, hM⟩ := cr_d hC e9
  cases e8
  subst f1
  show Ev _ _ _ _ _ _ 780 [some (.ref (BIG + 300)), some (.ref (0)), some (.ref (396)), some (.ref (405)), some (.ref (406)), some (.int (nI i)), l6, l7, l8] [.int (w9)] (N1, SH v1 T1, I1, L1, Dd)
  refine Ev.sg hX sL_law_780 (pc' := 781) (ls' := [some (.ref (BIG + 300)), some (.ref (0)), some (.ref (396)), some (.ref (405)), some (.ref (406)), some (.int (nI i)), l6, l7, l8]) (st' := [.ref (396), .int (w9)]) (h' := (N1, SH v1 T1, I1, L1, Dd)) rfl ?_
  refine Ev.callV (As := []) (rest := [.int (w9)]) dvX7_trackCount mkL_183 rfl rfl dL_law_781 hM ⟨by decide, by decide⟩ ⟨Nat.zero_le _, Nat.zero_le _⟩ rfl (Nat.le_of_ble_eq_true rfl) (fun v9 h9 e9 => ?_) (fun E9 h9 e9 => by obtain ⟨_, _, e, _⟩ := e9; cases e)
  obtain ⟨b, J, e7, ⟨w8, f2, f3⟩, h12, hinv⟩ := e9
  cases e7
  cases f2
  subst f3
  show Ev _ _ _ _ _ _ 784 [some (.ref (BIG + 300)), some (.ref (0)), some (.ref (396)), some (.ref (405)), some (.ref (406)), some (.int (nI i)), l6, l7, l8] [.int (w9), .int (w9)] (N1, SH v1 T1, J, L1, Dd)
  refine Ev.icmp_eq (tgt := 2699) dL_law_784 (by decide) (fun _ => ?_) (fun q => absurd rfl q)
  exact Ev.roomL (by omega) (by omega) (bk _ _ _ _ _ _ _ _ _ hN1 hN2 (hinv.mono (by omega) hK))
theorem br_freeLength (hX : JXok X) (hI : INV K N v T I L Dd) (hK : K + 8 ≤ 5000) (hN : N + 1500 < BIG) (hs : i + 6 ≤ jSn X ∧ jSn X ≤ 3072) (hm : 1160 ≤ mc ∧ 1160 ≤ ms) (bk : BK X mc ms N (K + 8) i) : Ev X (jm jdL_law) 20 mc ms lwR 789 (lsW i l6 l7 l8) [] (N, SH v T, I, L, Dd) := by
  have hI0 := hI
  obtain ⟨g, gs, d, sv, qq, tx, er, fl, w, hp, hq⟩ := hI
  have hN4 := hp.N4
  refine Ev.sg hX sL_law_789 (pc' := 795) (ls' := [some (.ref (BIG + 300)), some (.ref (0)), some (.ref (396)), some (.ref (405)), some (.ref (406)), some (.int (nI i)), l6, l7, l8]) (st' := [.int ((nI i) + 1), .ref (BIG + 300), .ref (0)]) (h' := (N, SH v T, I, L, Dd)) rfl ?_
  refine Ev.ialdX (n := i + 1) (naI rfl rfl) (by omega) (by omega) dL_law_795 ?_
  show Ev _ _ _ _ _ _ 796 [some (.ref (BIG + 300)), some (.ref (0)), some (.ref (396)), some (.ref (405)), some (.ref (406)), some (.int (nI i)), l6, l7, l8] [.int (jSf X (i + 1)), .ref (0)] (N, SH v T, I, L, Dd)
  refine Ev.sg hX sL_law_796 (pc' := 797) (ls' := [some (.ref (BIG + 300)), some (.ref (0)), some (.ref (396)), some (.ref (405)), some (.ref (406)), some (.int (nI i)), l6, l7, l8]) (st' := [.ref (405), .int (jSf X (i + 1)), .ref (0)]) (h' := (N, SH v T, I, L, Dd)) rfl ?_
  obtain ⟨Q', C, hC⟩ := CLS.cr (show CLS X _ _ _ jdX6_freeLength [.int (jSf X (i + 1))] jdX7_freeLength [.int (jSf X (i + 1))] _ _ N v T I L Dd from b_freeLength hX hp hq (by omega))
  refine Ev.callSX (As := [.ref (0), .int (jSf X (i + 1)), .ref (405)]) (rest := []) dhL_freeLength mkL_184 dL_law_797 (wL_freeLength hX rfl C (cr_hI hC) (fun E h' e => by obtain ⟨k, hk⟩ := cr_ex hC e; exact xor1 hk)) ⟨by decide, by decide⟩ ⟨by omega, by omega⟩ rfl (Nat.le_of_ble_eq_true rfl) (fun v9 h9 e9 => ?_) (fun E9 h9 e9 => (wq_no e9).elim)
  obtain ⟨N1, v1, T1, I1, L1, D1, c, hN1, hN2, e8, hM⟩ := wq_g (G := GI) hC (cd_of (l := ["java/lang/IndexOutOfBoundsException"]) (by decide +kernel) (by decide)) (fun x N1 v1 T1 I1 L1 h2 hb hw => w_I hw) e9
  cases e8
  show Ev _ _ _ _ _ _ 800 [some (.ref (BIG + 300)), some (.ref (0)), some (.ref (396)), some (.ref (405)), some (.ref (406)), some (.int (nI i)), l6, l7, l8] [.int (c)] (N1, SH v1 T1, I1, L1, D1)
  refine Ev.sg hX sL_law_800 (pc' := 808) (ls' := [some (.ref (BIG + 300)), some (.ref (0)), some (.ref (396)), some (.ref (405)), some (.ref (406)), some (.int (nI i)), some (.int (c)), l7, l8]) (st' := [.int ((nI i) + 1), .ref (BIG + 300), .ref (396)]) (h' := (N1, SH v1 T1, I1, L1, D1)) rfl ?_
  refine Ev.ialdX (n := i + 1) (naI rfl rfl) (by omega) (by omega) dL_law_808 ?_
  show Ev _ _ _ _ _ _ 809 [some (.ref (BIG + 300)), some (.ref (0)), some (.ref (396)), some (.ref (405)), some (.ref (406)), some (.int (nI i)), some (.int (c)), l7, l8] [.int (jSf X (i + 1)), .ref (396)] (N1, SH v1 T1, I1, L1, D1)
  refine Ev.callV (As := [.int (jSf X (i + 1))]) (rest := []) dvX7_freeLength mkL_186 rfl rfl dL_law_809 hM ⟨by decide, by decide⟩ ⟨Nat.zero_le _, Nat.zero_le _⟩ rfl (Nat.le_of_ble_eq_true rfl) (fun v9 h9 e9 => ?_) (fun E9 h9 e9 => by obtain ⟨_, _, e, _⟩ := e9; cases e)
  obtain ⟨b, J, e7, ⟨⟨x8, w8, f1, f2⟩, hG⟩, h12, hinv⟩ := e9
  cases e7
  subst f2
  show Ev _ _ _ _ _ _ 812 [some (.ref (BIG + 300)), some (.ref (0)), some (.ref (396)), some (.ref (405)), some (.ref (406)), some (.int (nI i)), some (.int (c)), l7, l8] [.int (w8)] (N1, SH v1 T1, J, L1, D1)
  refine Ev.sg hX sL_law_812 (pc' := 815) (ls' := [some (.ref (BIG + 300)), some (.ref (0)), some (.ref (396)), some (.ref (405)), some (.ref (406)), some (.int (nI i)), some (.int (c)), some (.int (w8)), l8]) (st' := [.ref (396)]) (h' := (N1, SH v1 T1, J, L1, D1)) rfl ?_
  refine Ev.callV (As := []) (rest := []) dvX7_thrown mkL_156 rfl rfl dL_law_815 (m_thrown (d := 12) hX (by decide)) ⟨by decide, by decide⟩ ⟨Nat.zero_le _, Nat.zero_le _⟩ rfl (Nat.le_of_ble_eq_true rfl) (fun v9 h9 e9 => ?_) (fun E9 h9 e9 => nomatch e9)
  cases e9
  show Ev _ _ _ _ _ _ 818 [some (.ref (BIG + 300)), some (.ref (0)), some (.ref (396)), some (.ref (405)), some (.ref (406)), some (.int (nI i)), some (.int (c)), some (.int (w8)), l8] [.int (J 396 12)] (N1, SH v1 T1, J, L1, D1)
  rw [h12]
  refine Ev.sg hX sL_law_818 (pc' := 820) (ls' := [some (.ref (BIG + 300)), some (.ref (0)), some (.ref (396)), some (.ref (405)), some (.ref (406)), some (.int (nI i)), some (.int (c)), some (.int (w8)), l8]) (st' := [.int (c), .int (c)]) (h' := (N1, SH v1 T1, J, L1, D1)) rfl ?_
  refine Ev.icmp_eq (tgt := 825) dL_law_820 (by decide) (fun _ => ?_) (fun q => absurd rfl q)
  refine Ev.sg hX sL_law_825 (pc' := 827) (ls' := [some (.ref (BIG + 300)), some (.ref (0)), some (.ref (396)), some (.ref (405)), some (.ref (406)), some (.int (nI i)), some (.int (c)), some (.int (w8)), l8]) (st' := [.int (c)]) (h' := (N1, SH v1 T1, J, L1, D1)) rfl ?_
  refine Ev.if_ne (tgt := 842) dL_law_827 (by decide) (fun hc0 => ?_) (fun hc0 => ?_)
  · refine Ev.sg hX sL_law_842 (pc' := 2699) (ls' := [some (.ref (BIG + 300)), some (.ref (0)), some (.ref (396)), some (.ref (405)), some (.ref (406)), some (.int (nI i)), some (.int (c)), some (.int (w8)), l8]) (st' := []) (h' := (N1, SH v1 T1, J, L1, D1)) rfl ?_
    exact Ev.roomL (by omega) (by omega) (bk _ _ _ _ _ _ _ _ _ hN1 hN2 (hinv.mono (by omega) hK))
  · refine Ev.sg hX sL_law_830 (pc' := 832) (ls' := [some (.ref (BIG + 300)), some (.ref (0)), some (.ref (396)), some (.ref (405)), some (.ref (406)), some (.int (nI i)), some (.int (c)), some (.int (w8)), l8]) (st' := [.int (0), .ref (405)]) (h' := (N1, SH v1 T1, J, L1, D1)) rfl ?_
    refine Ev.lald (n := 1) rfl (vp_in_nI (n := 0) (N := 1) (by decide) (by decide)) dL_law_832 ?_
    show Ev _ _ _ _ _ _ 833 [some (.ref (BIG + 300)), some (.ref (0)), some (.ref (396)), some (.ref (405)), some (.ref (406)), some (.int (nI i)), some (.int (c)), some (.int (w8)), l8] [.long (L1 405 0)] (N1, SH v1 T1, J, L1, D1)
    rw [gi_eq (hG hc0)]
    refine Ev.sg hX sL_law_833 (pc' := 837) (ls' := [some (.ref (BIG + 300)), some (.ref (0)), some (.ref (396)), some (.ref (405)), some (.ref (406)), some (.int (nI i)), some (.int (c)), some (.int (w8)), l8]) (st' := [.int (lg_cmp w8.toInt64 w8.toInt64)]) (h' := (N1, SH v1 T1, J, L1, D1)) rfl ?_
    rw [lcmp_self]
    refine Ev.if_eq (tgt := 842) dL_law_837 (by decide) (fun _ => ?_) (fun q => absurd rfl q)
    refine Ev.sg hX sL_law_842 (pc' := 2699) (ls' := [some (.ref (BIG + 300)), some (.ref (0)), some (.ref (396)), some (.ref (405)), some (.ref (406)), some (.int (nI i)), some (.int (c)), some (.int (w8)), l8]) (st' := []) (h' := (N1, SH v1 T1, J, L1, D1)) rfl ?_
    exact Ev.roomL (by omega) (by omega) (bk _ _ _ _ _ _ _ _ _ hN1 hN2 (hinv.mono (by omega) hK))
theorem br_carsOn (hX : JXok X) (hI : INV K N v T I L Dd) (hK : K + 8 ≤ 5000) (hN : N + 1500 < BIG) (hs : i + 6 ≤ jSn X ∧ jSn X ≤ 3072) (hm : 1160 ≤ mc ∧ 1160 ≤ ms) (bk : BK X mc ms N (K + 8) i) : Ev X (jm jdL_law) 20 mc ms lwR 845 (lsW i l6 l7 l8) [] (N, SH v T, I, L, Dd) := by
  have hI0 := hI
  obtain ⟨g, gs, d, sv, qq, tx, er, fl, w, hp, hq⟩ := hI
  have hN4 := hp.N4
  refine Ev.sg hX sL_law_845 (pc' := 851) (ls' := [some (.ref (BIG + 300)), some (.ref (0)), some (.ref (396)), some (.ref (405)), some (.ref (406)), some (.int (nI i)), l6, l7, l8]) (st' := [.int ((nI i) + 1), .ref (BIG + 300), .ref (0)]) (h' := (N, SH v T, I, L, Dd)) rfl ?_
  refine Ev.ialdX (n := i + 1) (naI rfl rfl) (by omega) (by omega) dL_law_851 ?_
  show Ev _ _ _ _ _ _ 852 [some (.ref (BIG + 300)), some (.ref (0)), some (.ref (396)), some (.ref (405)), some (.ref (406)), some (.int (nI i)), l6, l7, l8] [.int (jSf X (i + 1)), .ref (0)] (N, SH v T, I, L, Dd)
  refine Ev.sg hX sL_law_852 (pc' := 853) (ls' := [some (.ref (BIG + 300)), some (.ref (0)), some (.ref (396)), some (.ref (405)), some (.ref (406)), some (.int (nI i)), l6, l7, l8]) (st' := [.ref (405), .int (jSf X (i + 1)), .ref (0)]) (h' := (N, SH v T, I, L, Dd)) rfl ?_
  obtain ⟨Q', C, hC⟩ := CLS.cr (show CLS X _ _ _ jdX6_carsOn [.int (jSf X (i + 1))] jdX7_carsOn [.int (jSf X (i + 1))] _ _ N v T I L Dd from b_carsOn hX hp hq (by omega))
  refine Ev.callSX (As := [.ref (0), .int (jSf X (i + 1)), .ref (405)]) (rest := []) dhL_carsOn mkL_187 dL_law_853 (wL_carsOn hX rfl C (cr_hI hC) (fun E h' e => by obtain ⟨k, hk⟩ := cr_ex hC e; exact xor1 hk)) ⟨by decide, by decide⟩ ⟨by omega, by omega⟩ rfl (Nat.le_of_ble_eq_true rfl) (fun v9 h9 e9 => ?_) (fun E9 h9 e9 => (wq_no e9).elim)
  obtain ⟨N1, v1, T1, I1, L1, D1, c, hN1, hN2, e8, hM⟩ := wq_g (G := GI) hC (cd_of (l := ["java/lang/IndexOutOfBoundsException"]) (by decide +kernel) (by decide)) (fun x N1 v1 T1 I1 L1 h2 hb hw => w_I hw) e9
  cases e8
  show Ev _ _ _ _ _ _ 856 [some (.ref (BIG + 300)), some (.ref (0)), some (.ref (396)), some (.ref (405)), some (.ref (406)), some (.int (nI i)), l6, l7, l8] [.int (c)] (N1, SH v1 T1, I1, L1, D1)
  refine Ev.sg hX sL_law_856 (pc' := 864) (ls' := [some (.ref (BIG + 300)), some (.ref (0)), some (.ref (396)), some (.ref (405)), some (.ref (406)), some (.int (nI i)), some (.int (c)), l7, l8]) (st' := [.int ((nI i) + 1), .ref (BIG + 300), .ref (396)]) (h' := (N1, SH v1 T1, I1, L1, D1)) rfl ?_
  refine Ev.ialdX (n := i + 1) (naI rfl rfl) (by omega) (by omega) dL_law_864 ?_
  show Ev _ _ _ _ _ _ 865 [some (.ref (BIG + 300)), some (.ref (0)), some (.ref (396)), some (.ref (405)), some (.ref (406)), some (.int (nI i)), some (.int (c)), l7, l8] [.int (jSf X (i + 1)), .ref (396)] (N1, SH v1 T1, I1, L1, D1)
  refine Ev.callV (As := [.int (jSf X (i + 1))]) (rest := []) dvX7_carsOn mkL_189 rfl rfl dL_law_865 hM ⟨by decide, by decide⟩ ⟨Nat.zero_le _, Nat.zero_le _⟩ rfl (Nat.le_of_ble_eq_true rfl) (fun v9 h9 e9 => ?_) (fun E9 h9 e9 => by obtain ⟨_, _, e, _⟩ := e9; cases e)
  obtain ⟨b, J, e7, ⟨⟨x8, w8, f1, f2⟩, hG⟩, h12, hinv⟩ := e9
  cases e7
  subst f2
  show Ev _ _ _ _ _ _ 868 [some (.ref (BIG + 300)), some (.ref (0)), some (.ref (396)), some (.ref (405)), some (.ref (406)), some (.int (nI i)), some (.int (c)), l7, l8] [.int (w8)] (N1, SH v1 T1, J, L1, D1)
  refine Ev.sg hX sL_law_868 (pc' := 871) (ls' := [some (.ref (BIG + 300)), some (.ref (0)), some (.ref (396)), some (.ref (405)), some (.ref (406)), some (.int (nI i)), some (.int (c)), some (.int (w8)), l8]) (st' := [.ref (396)]) (h' := (N1, SH v1 T1, J, L1, D1)) rfl ?_
  refine Ev.callV (As := []) (rest := []) dvX7_thrown mkL_156 rfl rfl dL_law_871 (m_thrown (d := 12) hX (by decide)) ⟨by decide, by decide⟩ ⟨Nat.zero_le _, Nat.zero_le _⟩ rfl (Nat.le_of_ble_eq_true rfl) (fun v9 h9 e9 => ?_) (fun E9 h9 e9 => nomatch e9)
  cases e9
  show Ev _ _ _ _ _ _ 874 [some (.ref (BIG + 300)), some (.ref (0)), some (.ref (396)), some (.ref (405)), some (.ref (406)), some (.int (nI i)), some (.int (c)), some (.int (w8)), l8] [.int (J 396 12)] (N1, SH v1 T1, J, L1, D1)
  rw [h12]
  refine Ev.sg hX sL_law_874 (pc' := 876) (ls' := [some (.ref (BIG + 300)), some (.ref (0)), some (.ref (396)), some (.ref (405)), some (.ref (406)), some (.int (nI i)), some (.int (c)), some (.int (w8)), l8]) (st' := [.int (c), .int (c)]) (h' := (N1, SH v1 T1, J, L1, D1)) rfl ?_
  refine Ev.icmp_eq (tgt := 881) dL_law_876 (by decide) (fun _ => ?_) (fun q => absurd rfl q)
  refine Ev.sg hX sL_law_881 (pc' := 883) (ls' := [some (.ref (BIG + 300)), some (.ref (0)), some (.ref (396)), some (.ref (405)), some (.ref (406)), some (.int (nI i)), some (.int (c)), some (.int (w8)), l8]) (st' := [.int (c)]) (h' := (N1, SH v1 T1, J, L1, D1)) rfl ?_
  refine Ev.if_ne (tgt := 898) dL_law_883 (by decide) (fun hc0 => ?_) (fun hc0 => ?_)
  · refine Ev.sg hX sL_law_898 (pc' := 2699) (ls' := [some (.ref (BIG + 300)), some (.ref (0)), some (.ref (396)), some (.ref (405)), some (.ref (406)), some (.int (nI i)), some (.int (c)), some (.int (w8)), l8]) (st' := []) (h' := (N1, SH v1 T1, J, L1, D1)) rfl ?_
    exact Ev.roomL (by omega) (by omega) (bk _ _ _ _ _ _ _ _ _ hN1 hN2 (hinv.mono (by omega) hK))
  · refine Ev.sg hX sL_law_886 (pc' := 888) (ls' := [some (.ref (BIG + 300)), some (.ref (0)), some (.ref (396)), some (.ref (405)), some (.ref (406)), some (.int (nI i)), some (.int (c)), some (.int (w8)), l8]) (st' := [.int (0), .ref (405)]) (h' := (N1, SH v1 T1, J, L1, D1)) rfl ?_
    refine Ev.lald (n := 1) rfl (vp_in_nI (n := 0) (N := 1) (by decide) (by decide)) dL_law_888 ?_
    show Ev _ _ _ _ _ _ 889 [some (.ref (BIG + 300)), some (.ref (0)), some (.ref (396)), some (.ref (405)), some (.ref (406)), some (.int (nI i)), some (.int (c)), some (.int (w8)), l8] [.long (L1 405 0)] (N1, SH v1 T1, J, L1, D1)
    rw [gi_eq (hG hc0)]
    refine Ev.sg hX sL_law_889 (pc' := 893) (ls' := [some (.ref (BIG + 300)), some (.ref (0)), some (.ref (396)), some (.ref (405)), some (.ref (406)), some (.int (nI i)), some (.int (c)), some (.int (w8)), l8]) (st' := [.int (lg_cmp w8.toInt64 w8.toInt64)]) (h' := (N1, SH v1 T1, J, L1, D1)) rfl ?_
    rw [lcmp_self]
    refine Ev.if_eq (tgt := 898) dL_law_893 (by decide) (fun _ => ?_) (fun q => absurd rfl q)
    refine Ev.sg hX sL_law_898 (pc' := 2699) (ls' := [some (.ref (BIG + 300)), some (.ref (0)), some (.ref (396)), some (.ref (405)), some (.ref (406)), some (.int (nI i)), some (.int (c)), some (.int (w8)), l8]) (st' := []) (h' := (N1, SH v1 T1, J, L1, D1)) rfl ?_
    exact Ev.roomL (by omega) (by omega) (bk _ _ _ _ _ _ _ _ _ hN1 hN2 (hinv.mono (by omega) hK))
theorem br_weightOn (hX : JXok X) (hI : INV K N v T I L Dd) (hK : K + 8 ≤ 5000) (hN : N + 1500 < BIG) (hs : i + 6 ≤ jSn X ∧ jSn X ≤ 3072) (hm : 1160 ≤ mc ∧ 1160 ≤ ms) (bk : BK X mc ms N (K + 8) i) : Ev X (jm jdL_law) 20 mc ms lwR 901 (lsW i l6 l7 l8) [] (N, SH v T, I, L, Dd) := by
  have hI0 := hI
  obtain ⟨g, gs, d, sv, qq, tx, er, fl, w, hp, hq⟩ := hI
  have hN4 := hp.N4
  refine Ev.sg hX sL_law_901 (pc' := 907) (ls' := [some (.ref (BIG + 300)), some (.ref (0)), some (.ref (396)), some (.ref (405)), some (.ref (406)), some (.int (nI i)), l6, l7, l8]) (st' := [.int ((nI i) + 1), .ref (BIG + 300), .ref (0)]) (h' := (N, SH v T, I, L, Dd)) rfl ?_
  refine Ev.ialdX (n := i + 1) (naI rfl rfl) (by omega) (by omega) dL_law_907 ?_
  show Ev _ _ _ _ _ _ 908 [some (.ref (BIG + 300)), some (.ref (0)), some (.ref (396)), some (.ref (405)), some (.ref (406)), some (.int (nI i)), l6, l7, l8] [.int (jSf X (i + 1)), .ref (0)] (N, SH v T, I, L, Dd)
  refine Ev.sg hX sL_law_908 (pc' := 909) (ls' := [some (.ref (BIG + 300)), some (.ref (0)), some (.ref (396)), some (.ref (405)), some (.ref (406)), some (.int (nI i)), l6, l7, l8]) (st' := [.ref (405), .int (jSf X (i + 1)), .ref (0)]) (h' := (N, SH v T, I, L, Dd)) rfl ?_
  obtain ⟨Q', C, hC⟩ := CLS.cr (show CLS X _ _ _ jdX6_weightOn [.int (jSf X (i + 1))] jdX7_weightOn [.int (jSf X (i + 1))] _ _ N v T I L Dd from b_weightOn hX hp hq (by omega))
  refine Ev.callSX (As := [.ref (0), .int (jSf X (i + 1)), .ref (405)]) (rest := []) dhL_weightOn mkL_190 dL_law_909 (wL_weightOn hX rfl C (cr_hI hC) (fun E h' e => by obtain ⟨k, hk⟩ := cr_ex hC e; exact xor1 hk)) ⟨by decide, by decide⟩ ⟨by omega, by omega⟩ rfl (Nat.le_of_ble_eq_true rfl) (fun v9 h9 e9 => ?_) (fun E9 h9 e9 => (wq_no e9).elim)
  obtain ⟨N1, v1, T1, I1, L1, D1, c, hN1, hN2, e8, hM⟩ := wq_g (G := GI) hC (cd_of (l := ["java/lang/IndexOutOfBoundsException"]) (by decide +kernel) (by decide)) (fun x N1 v1 T1 I1 L1 h2 hb hw => w_I hw) e9
  cases e8
  show Ev _ _ _ _ _ _ 912 [some (.ref (BIG + 300)), some (.ref (0)), some (.ref (396)), some (.ref (405)), some (.ref (406)), some (.int (nI i)), l6, l7, l8] [.int (c)] (N1, SH v1 T1, I1, L1, D1)
  refine Ev.sg hX sL_law_912 (pc' := 920) (ls' := [some (.ref (BIG + 300)), some (.ref (0)), some (.ref (396)), some (.ref (405)), some (.ref (406)), some (.int (nI i)), some (.int (c)), l7, l8]) (st' := [.int ((nI i) + 1), .ref (BIG + 300), .ref (396)]) (h' := (N1, SH v1 T1, I1, L1, D1)) rfl ?_
  refine Ev.ialdX (n := i + 1) (naI rfl rfl) (by omega) (by omega) dL_law_920 ?_
  show Ev _ _ _ _ _ _ 921 [some (.ref (BIG + 300)), some (.ref (0)), some (.ref (396)), some (.ref (405)), some (.ref (406)), some (.int (nI i)), some (.int (c)), l7, l8] [.int (jSf X (i + 1)), .ref (396)] (N1, SH v1 T1, I1, L1, D1)
  refine Ev.callV (As := [.int (jSf X (i + 1))]) (rest := []) dvX7_weightOn mkL_192 rfl rfl dL_law_921 hM ⟨by decide, by decide⟩ ⟨Nat.zero_le _, Nat.zero_le _⟩ rfl (Nat.le_of_ble_eq_true rfl) (fun v9 h9 e9 => ?_) (fun E9 h9 e9 => by obtain ⟨_, _, e, _⟩ := e9; cases e)
  obtain ⟨b, J, e7, ⟨⟨x8, w8, f1, f2⟩, hG⟩, h12, hinv⟩ := e9
  cases e7
  subst f2
  show Ev _ _ _ _ _ _ 924 [some (.ref (BIG + 300)), some (.ref (0)), some (.ref (396)), some (.ref (405)), some (.ref (406)), some (.int (nI i)), some (.int (c)), l7, l8] [.int (w8)] (N1, SH v1 T1, J, L1, D1)
  refine Ev.sg hX sL_law_924 (pc' := 927) (ls' := [some (.ref (BIG + 300)), some (.ref (0)), some (.ref (396)), some (.ref (405)), some (.ref (406)), some (.int (nI i)), some (.int (c)), some (.int (w8)), l8]) (st' := [.ref (396)]) (h' := (N1, SH v1 T1, J, L1, D1)) rfl ?_
  refine Ev.callV (As := []) (rest := []) dvX7_thrown mkL_156 rfl rfl dL_law_927 (m_thrown (d := 12) hX (by decide)) ⟨by decide, by decide⟩ ⟨Nat.zero_le _, Nat.zero_le _⟩ rfl (Nat.le_of_ble_eq_true rfl) (fun v9 h9 e9 => ?_) (fun E9 h9 e9 => nomatch e9)
  cases e9
  show Ev _ _ _ _ _ _ 930 [some (.ref (BIG + 300)), some (.ref (0)), some (.ref (396)), some (.ref (405)), some (.ref (406)), some (.int (nI i)), some (.int (c)), some (.int (w8)), l8] [.int (J 396 12)] (N1, SH v1 T1, J, L1, D1)
  rw [h12]
  refine Ev.sg hX sL_law_930 (pc' := 932) (ls' := [some (.ref (BIG + 300)), some (.ref (0)), some (.ref (396)), some (.ref (405)), some (.ref (406)), some (.int (nI i)), some (.int (c)), some (.int (w8)), l8]) (st' := [.int (c), .int (c)]) (h' := (N1, SH v1 T1, J, L1, D1)) rfl ?_
  refine Ev.icmp_eq (tgt := 937) dL_law_932 (by decide) (fun _ => ?_) (fun q => absurd rfl q)
  refine Ev.sg hX sL_law_937 (pc' := 939) (ls' := [some (.ref (BIG + 300)), some (.ref (0)), some (.ref (396)), some (.ref (405)), some (.ref (406)), some (.int (nI i)), some (.int (c)), some (.int (w8)), l8]) (st' := [.int (c)]) (h' := (N1, SH v1 T1, J, L1, D1)) rfl ?_
  refine Ev.if_ne (tgt := 954) dL_law_939 (by decide) (fun hc0 => ?_) (fun hc0 => ?_)
  · refine Ev.sg hX sL_law_954 (pc' := 2699) (ls' := [some (.ref (BIG + 300)), some (.ref (0)), some (.ref (396)), some (.ref (405)), some (.ref (406)), some (.int (nI i)), some (.int (c)), some (.int (w8)), l8]) (st' := []) (h' := (N1, SH v1 T1, J, L1, D1)) rfl ?_
    exact Ev.roomL (by omega) (by omega) (bk _ _ _ _ _ _ _ _ _ hN1 hN2 (hinv.mono (by omega) hK))
  · refine Ev.sg hX sL_law_942 (pc' := 944) (ls' := [some (.ref (BIG + 300)), some (.ref (0)), some (.ref (396)), some (.ref (405)), some (.ref (406)), some (.int (nI i)), some (.int (c)), some (.int (w8)), l8]) (st' := [.int (0), .ref (405)]) (h' := (N1, SH v1 T1, J, L1, D1)) rfl ?_
    refine Ev.lald (n := 1) rfl (vp_in_nI (n := 0) (N := 1) (by decide) (by decide)) dL_law_944 ?_
    show Ev _ _ _ _ _ _ 945 [some (.ref (BIG + 300)), some (.ref (0)), some (.ref (396)), some (.ref (405)), some (.ref (406)), some (.int (nI i)), some (.int (c)), some (.int (w8)), l8] [.long (L1 405 0)] (N1, SH v1 T1, J, L1, D1)
    rw [gi_eq (hG hc0)]
    refine Ev.sg hX sL_law_945 (pc' := 949) (ls' := [some (.ref (BIG + 300)), some (.ref (0)), some (.ref (396)), some (.ref (405)), some (.ref (406)), some (.int (nI i)), some (.int (c)), some (.int (w8)), l8]) (st' := [.int (lg_cmp w8.toInt64 w8.toInt64)]) (h' := (N1, SH v1 T1, J, L1, D1)) rfl ?_
    rw [lcmp_self]
    refine Ev.if_eq (tgt := 954) dL_law_949 (by decide) (fun _ => ?_) (fun q => absurd rfl q)
    refine Ev.sg hX sL_law_954 (pc' := 2699) (ls' := [some (.ref (BIG + 300)), some (.ref (0)), some (.ref (396)), some (.ref (405)), some (.ref (406)), some (.int (nI i)), some (.int (c)), some (.int (w8)), l8]) (st' := []) (h' := (N1, SH v1 T1, J, L1, D1)) rfl ?_
    exact Ev.roomL (by omega) (by omega) (bk _ _ _ _ _ _ _ _ _ hN1 hN2 (hinv.mono (by omega) hK))
theorem br_carAt (hX : JXok X) (hI : INV K N v T I L Dd) (hK : K + 8 ≤ 5000) (hN : N + 1500 < BIG) (hs : i + 6 ≤ jSn X ∧ jSn X ≤ 3072) (hm : 1160 ≤ mc ∧ 1160 ≤ ms) (bk : BK X mc ms N (K + 8) i) : Ev X (jm jdL_law) 20 mc ms lwR 957 (lsW i l6 l7 l8) [] (N, SH v T, I, L, Dd) := by
  have hI0 := hI
  obtain ⟨g, gs, d, sv, qq, tx, er, fl, w, hp, hq⟩ := hI
  have hN4 := hp.N4
  refine Ev.sg hX sL_law_957 (pc' := 963) (ls' := [some (.ref (BIG + 300)), some (.ref (0)), some (.ref (396)), some (.ref (405)), some (.ref (406)), some (.int (nI i)), l6, l7, l8]) (st' := [.int ((nI i) + 1), .ref (BIG + 300), .ref (0)]) (h' := (N, SH v T, I, L, Dd)) rfl ?_
  refine Ev.ialdX (n := i + 1) (naI rfl rfl) (by omega) (by omega) dL_law_963 ?_
  show Ev _ _ _ _ _ _ 964 [some (.ref (BIG + 300)), some (.ref (0)), some (.ref (396)), some (.ref (405)), some (.ref (406)), some (.int (nI i)), l6, l7, l8] [.int (jSf X (i + 1)), .ref (0)] (N, SH v T, I, L, Dd)
  refine Ev.sg hX sL_law_964 (pc' := 969) (ls' := [some (.ref (BIG + 300)), some (.ref (0)), some (.ref (396)), some (.ref (405)), some (.ref (406)), some (.int (nI i)), l6, l7, l8]) (st' := [.int ((nI i) + 2), .ref (BIG + 300), .int (jSf X (i + 1)), .ref (0)]) (h' := (N, SH v T, I, L, Dd)) rfl ?_
  refine Ev.ialdX (n := i + 2) (naI rfl rfl) (by omega) (by omega) dL_law_969 ?_
  show Ev _ _ _ _ _ _ 970 [some (.ref (BIG + 300)), some (.ref (0)), some (.ref (396)), some (.ref (405)), some (.ref (406)), some (.int (nI i)), l6, l7, l8] [.int (jSf X (i + 2)), .int (jSf X (i + 1)), .ref (0)] (N, SH v T, I, L, Dd)
  refine Ev.sg hX sL_law_970 (pc' := 971) (ls' := [some (.ref (BIG + 300)), some (.ref (0)), some (.ref (396)), some (.ref (405)), some (.ref (406)), some (.int (nI i)), l6, l7, l8]) (st' := [.ref (405), .int (jSf X (i + 2)), .int (jSf X (i + 1)), .ref (0)]) (h' := (N, SH v T, I, L, Dd)) rfl ?_
  obtain ⟨Q', C, hC⟩ := CLS.cr (show CLS X _ _ _ jdX6_carAt [.int (jSf X (i + 1)), .int (jSf X (i + 2))] jdX7_carAt [.int (jSf X (i + 1)), .int (jSf X (i + 2))] _ _ N v T I L Dd from b_carAt hX hp hq (by omega))
  refine Ev.callSX (As := [.ref (0), .int (jSf X (i + 1)), .int (jSf X (i + 2)), .ref (405)]) (rest := []) dhL_carAt mkL_193 dL_law_971 (wL_carAt hX rfl C (cr_hI hC) (fun E h' e => by obtain ⟨k, hk⟩ := cr_ex hC e; exact xor2 hk)) ⟨by decide, by decide⟩ ⟨by omega, by omega⟩ rfl (Nat.le_of_ble_eq_true rfl) (fun v9 h9 e9 => ?_) (fun E9 h9 e9 => (wq_no e9).elim)
  obtain ⟨N1, v1, T1, I1, L1, D1, c, hN1, hN2, e8, hM⟩ := wq_g (G := GI) hC (cd_of (l := ["java/lang/IndexOutOfBoundsException", "java/util/NoSuchElementException"]) (by decide +kernel) (by decide)) (fun x N1 v1 T1 I1 L1 h2 hb hw => w_I hw) e9
  cases e8
  show Ev _ _ _ _ _ _ 974 [some (.ref (BIG + 300)), some (.ref (0)), some (.ref (396)), some (.ref (405)), some (.ref (406)), some (.int (nI i)), l6, l7, l8] [.int (c)] (N1, SH v1 T1, I1, L1, D1)
  refine Ev.sg hX sL_law_974 (pc' := 982) (ls' := [some (.ref (BIG + 300)), some (.ref (0)), some (.ref (396)), some (.ref (405)), some (.ref (406)), some (.int (nI i)), some (.int (c)), l7, l8]) (st' := [.int ((nI i) + 1), .ref (BIG + 300), .ref (396)]) (h' := (N1, SH v1 T1, I1, L1, D1)) rfl ?_
  refine Ev.ialdX (n := i + 1) (naI rfl rfl) (by omega) (by omega) dL_law_982 ?_
  show Ev _ _ _ _ _ _ 983 [some (.ref (BIG + 300)), some (.ref (0)), some (.ref (396)), some (.ref (405)), some (.ref (406)), some (.int (nI i)), some (.int (c)), l7, l8] [.int (jSf X (i + 1)), .ref (396)] (N1, SH v1 T1, I1, L1, D1)
  refine Ev.sg hX sL_law_983 (pc' := 988) (ls' := [some (.ref (BIG + 300)), some (.ref (0)), some (.ref (396)), some (.ref (405)), some (.ref (406)), some (.int (nI i)), some (.int (c)), l7, l8]) (st' := [.int ((nI i) + 2), .ref (BIG + 300), .int (jSf X (i + 1)), .ref (396)]) (h' := (N1, SH v1 T1, I1, L1, D1)) rfl ?_
  refine Ev.ialdX (n := i + 2) (naI rfl rfl) (by omega) (by omega) dL_law_988 ?_
  show Ev _ _ _ _ _ _ 989 [some (.ref (BIG + 300)), some (.ref (0)), some (.ref (396)), some (.ref (405)), some (.ref (406)), some (.int (nI i)), some (.int (c)), l7, l8] [.int (jSf X (i + 2)), .int (jSf X (i + 1)), .ref (396)] (N1, SH v1 T1, I1, L1, D1)
  refine Ev.callV (As := [.int (jSf X (i + 1)), .int (jSf X (i + 2))]) (rest := []) dvX7_carAt mkL_195 rfl rfl dL_law_989 hM ⟨by decide, by decide⟩ ⟨Nat.zero_le _, Nat.zero_le _⟩ rfl (Nat.le_of_ble_eq_true rfl) (fun v9 h9 e9 => ?_) (fun E9 h9 e9 => by obtain ⟨_, _, e, _⟩ := e9; cases e)
  obtain ⟨b, J, e7, ⟨⟨x8, w8, f1, f2⟩, hG⟩, h12, hinv⟩ := e9
  cases e7
  subst f2
  show Ev _ _ _ _ _ _ 992 [some (.ref (BIG + 300)), some (.ref (0)), some (.ref (396)), some (.ref (405)), some (.ref (406)), some (.int (nI i)), some (.int (c)), l7, l8] [.int (w8)] (N1, SH v1 T1, J, L1, D1)
  refine Ev.sg hX sL_law_992 (pc' := 995) (ls' := [some (.ref (BIG + 300)), some (.ref (0)), some (.ref (396)), some (.ref (405)), some (.ref (406)), some (.int (nI i)), some (.int (c)), some (.int (w8)), l8]) (st' := [.ref (396)]) (h' := (N1, SH v1 T1, J, L1, D1)) rfl ?_
  refine Ev.callV (As := []) (rest := []) dvX7_thrown mkL_156 rfl rfl dL_law_995 (m_thrown (d := 12) hX (by decide)) ⟨by decide, by decide⟩ ⟨Nat.zero_le _, Nat.zero_le _⟩ rfl (Nat.le_of_ble_eq_true rfl) (fun v9 h9 e9 => ?_) (fun E9 h9 e9 => nomatch e9)
  cases e9
  show Ev _ _ _ _ _ _ 998 [some (.ref (BIG + 300)), some (.ref (0)), some (.ref (396)), some (.ref (405)), some (.ref (406)), some (.int (nI i)), some (.int (c)), some (.int (w8)), l8] [.int (J 396 12)] (N1, SH v1 T1, J, L1, D1)
  rw [h12]
  refine Ev.sg hX sL_law_998 (pc' := 1000) (ls' := [some (.ref (BIG + 300)), some (.ref (0)), some (.ref (396)), some (.ref (405)), some (.ref (406)), some (.int (nI i)), some (.int (c)), some (.int (w8)), l8]) (st' := [.int (c), .int (c)]) (h' := (N1, SH v1 T1, J, L1, D1)) rfl ?_
  refine Ev.icmp_eq (tgt := 1005) dL_law_1000 (by decide) (fun _ => ?_) (fun q => absurd rfl q)
  refine Ev.sg hX sL_law_1005 (pc' := 1007) (ls' := [some (.ref (BIG + 300)), some (.ref (0)), some (.ref (396)), some (.ref (405)), some (.ref (406)), some (.int (nI i)), some (.int (c)), some (.int (w8)), l8]) (st' := [.int (c)]) (h' := (N1, SH v1 T1, J, L1, D1)) rfl ?_
  refine Ev.if_ne (tgt := 1022) dL_law_1007 (by decide) (fun hc0 => ?_) (fun hc0 => ?_)
  · refine Ev.sg hX sL_law_1022 (pc' := 2699) (ls' := [some (.ref (BIG + 300)), some (.ref (0)), some (.ref (396)), some (.ref (405)), some (.ref (406)), some (.int (nI i)), some (.int (c)), some (.int (w8)), l8]) (st' := []) (h' := (N1, SH v1 T1, J, L1, D1)) rfl ?_
    exact Ev.roomL (by omega) (by omega) (bk _ _ _ _ _ _ _ _ _ hN1 hN2 (hinv.mono (by omega) hK))
  · refine Ev.sg hX sL_law_1010 (pc' := 1012) (ls' := [some (.ref (BIG + 300)), some (.ref (0)), some (.ref (396)), some (.ref (405)), some (.ref (406)), some (.int (nI i)), some (.int (c)), some (.int (w8)), l8]) (st' := [.int (0), .ref (405)]) (h' := (N1, SH v1 T1, J, L1, D1)) rfl ?_
    refine Ev.lald (n := 1) rfl (vp_in_nI (n := 0) (N := 1) (by decide) (by decide)) dL_law_1012 ?_
    show Ev _ _ _ _ _ _ 1013 [some (.ref (BIG + 300)), some (.ref (0)), some (.ref (396)), some (.ref (405)), some (.ref (406)), some (.int (nI i)), some (.int (c)), some (.int (w8)), l8] [.long (L1 405 0)] (N1, SH v1 T1, J, L1, D1)
    rw [gi_eq (hG hc0)]
    refine Ev.sg hX sL_law_1013 (pc' := 1017) (ls' := [some (.ref (BIG + 300)), some (.ref (0)), some (.ref (396)), some (.ref (405)), some (.ref (406)), some (.int (nI i)), some (.int (c)), some (.int (w8)), l8]) (st' := [.int (lg_cmp w8.toInt64 w8.toInt64)]) (h' := (N1, SH v1 T1, J, L1, D1)) rfl ?_
    rw [lcmp_self]
    refine Ev.if_eq (tgt := 1022) dL_law_1017 (by decide) (fun _ => ?_) (fun q => absurd rfl q)
    refine Ev.sg hX sL_law_1022 (pc' := 2699) (ls' := [some (.ref (BIG + 300)), some (.ref (0)), some (.ref (396)), some (.ref (405)), some (.ref (406)), some (.int (nI i)), some (.int (c)), some (.int (w8)), l8]) (st' := []) (h' := (N1, SH v1 T1, J, L1, D1)) rfl ?_
    exact Ev.roomL (by omega) (by omega) (bk _ _ _ _ _ _ _ _ _ hN1 hN2 (hinv.mono (by omega) hK))
theorem br_isSorted (hX : JXok X) (hI : INV K N v T I L Dd) (hK : K + 8 ≤ 5000) (hN : N + 1500 < BIG) (hs : i + 6 ≤ jSn X ∧ jSn X ≤ 3072) (hm : 1160 ≤ mc ∧ 1160 ≤ ms) (bk : BK X mc ms N (K + 8) i) : Ev X (jm jdL_law) 20 mc ms lwR 1025 (lsW i l6 l7 l8) [] (N, SH v T, I, L, Dd) := by
  have hI0 := hI
  obtain ⟨g, gs, d, sv, qq, tx, er, fl, w, hp, hq⟩ := hI
  have hN4 := hp.N4
  refine Ev.sg hX sL_law_1025 (pc' := 1031) (ls' := [some (.ref (BIG + 300)), some (.ref (0)), some (.ref (396)), some (.ref (405)), some (.ref (406)), some (.int (nI i)), l6, l7, l8]) (st' := [.int ((nI i) + 1), .ref (BIG + 300), .ref (0)]) (h' := (N, SH v T, I, L, Dd)) rfl ?_
  refine Ev.ialdX (n := i + 1) (naI rfl rfl) (by omega) (by omega) dL_law_1031 ?_
  show Ev _ _ _ _ _ _ 1032 [some (.ref (BIG + 300)), some (.ref (0)), some (.ref (396)), some (.ref (405)), some (.ref (406)), some (.int (nI i)), l6, l7, l8] [.int (jSf X (i + 1)), .ref (0)] (N, SH v T, I, L, Dd)
  refine Ev.sg hX sL_law_1032 (pc' := 1033) (ls' := [some (.ref (BIG + 300)), some (.ref (0)), some (.ref (396)), some (.ref (405)), some (.ref (406)), some (.int (nI i)), l6, l7, l8]) (st' := [.ref (405), .int (jSf X (i + 1)), .ref (0)]) (h' := (N, SH v T, I, L, Dd)) rfl ?_
  obtain ⟨Q', C, hC⟩ := CLS.cr (show CLS X _ _ _ jdX6_isSorted [.int (jSf X (i + 1))] jdX7_isSorted [.int (jSf X (i + 1))] _ _ N v T I L Dd from b_isSorted hX hp hq (by omega))
  refine Ev.callSX (As := [.ref (0), .int (jSf X (i + 1)), .ref (405)]) (rest := []) dhL_isSorted mkL_196 dL_law_1033 (wL_isSorted hX rfl C (cr_hI hC) (fun E h' e => by obtain ⟨k, hk⟩ := cr_ex hC e; exact xor1 hk)) ⟨by decide, by decide⟩ ⟨by omega, by omega⟩ rfl (Nat.le_of_ble_eq_true rfl) (fun v9 h9 e9 => ?_) (fun E9 h9 e9 => (wq_no e9).elim)
  obtain ⟨N1, v1, T1, I1, L1, D1, c, hN1, hN2, e8, hM⟩ := wq_g (G := GZ) hC (cd_of (l := ["java/lang/IndexOutOfBoundsException"]) (by decide +kernel) (by decide)) (fun x N1 v1 T1 I1 L1 h2 hb hw => w_Z hw) e9
  cases e8
  show Ev _ _ _ _ _ _ 1036 [some (.ref (BIG + 300)), some (.ref (0)), some (.ref (396)), some (.ref (405)), some (.ref (406)), some (.int (nI i)), l6, l7, l8] [.int (c)] (N1, SH v1 T1, I1, L1, D1)
  refine Ev.sg hX sL_law_1036 (pc' := 1044) (ls' := [some (.ref (BIG + 300)), some (.ref (0)), some (.ref (396)), some (.ref (405)), some (.ref (406)), some (.int (nI i)), some (.int (c)), l7, l8]) (st' := [.int ((nI i) + 1), .ref (BIG + 300), .ref (396)]) (h' := (N1, SH v1 T1, I1, L1, D1)) rfl ?_
  refine Ev.ialdX (n := i + 1) (naI rfl rfl) (by omega) (by omega) dL_law_1044 ?_
  show Ev _ _ _ _ _ _ 1045 [some (.ref (BIG + 300)), some (.ref (0)), some (.ref (396)), some (.ref (405)), some (.ref (406)), some (.int (nI i)), some (.int (c)), l7, l8] [.int (jSf X (i + 1)), .ref (396)] (N1, SH v1 T1, I1, L1, D1)
  refine Ev.callV (As := [.int (jSf X (i + 1))]) (rest := []) dvX7_isSorted mkL_198 rfl rfl dL_law_1045 hM ⟨by decide, by decide⟩ ⟨Nat.zero_le _, Nat.zero_le _⟩ rfl (Nat.le_of_ble_eq_true rfl) (fun v9 h9 e9 => ?_) (fun E9 h9 e9 => by obtain ⟨_, _, e, _⟩ := e9; cases e)
  obtain ⟨b, J, e7, ⟨⟨x8, w8, f1, f2⟩, hG⟩, h12, hinv⟩ := e9
  cases e7
  subst f2
  show Ev _ _ _ _ _ _ 1048 [some (.ref (BIG + 300)), some (.ref (0)), some (.ref (396)), some (.ref (405)), some (.ref (406)), some (.int (nI i)), some (.int (c)), l7, l8] [.int (w8)] (N1, SH v1 T1, J, L1, D1)
  refine Ev.sg hX sL_law_1048 (pc' := 1051) (ls' := [some (.ref (BIG + 300)), some (.ref (0)), some (.ref (396)), some (.ref (405)), some (.ref (406)), some (.int (nI i)), some (.int (c)), some (.int (w8)), l8]) (st' := [.ref (396)]) (h' := (N1, SH v1 T1, J, L1, D1)) rfl ?_
  refine Ev.callV (As := []) (rest := []) dvX7_thrown mkL_156 rfl rfl dL_law_1051 (m_thrown (d := 12) hX (by decide)) ⟨by decide, by decide⟩ ⟨Nat.zero_le _, Nat.zero_le _⟩ rfl (Nat.le_of_ble_eq_true rfl) (fun v9 h9 e9 => ?_) (fun E9 h9 e9 => nomatch e9)
  cases e9
  show Ev _ _ _ _ _ _ 1054 [some (.ref (BIG + 300)), some (.ref (0)), some (.ref (396)), some (.ref (405)), some (.ref (406)), some (.int (nI i)), some (.int (c)), some (.int (w8)), l8] [.int (J 396 12)] (N1, SH v1 T1, J, L1, D1)
  rw [h12]
  refine Ev.sg hX sL_law_1054 (pc' := 1056) (ls' := [some (.ref (BIG + 300)), some (.ref (0)), some (.ref (396)), some (.ref (405)), some (.ref (406)), some (.int (nI i)), some (.int (c)), some (.int (w8)), l8]) (st' := [.int (c), .int (c)]) (h' := (N1, SH v1 T1, J, L1, D1)) rfl ?_
  refine Ev.icmp_eq (tgt := 1061) dL_law_1056 (by decide) (fun _ => ?_) (fun q => absurd rfl q)
  refine Ev.sg hX sL_law_1061 (pc' := 1063) (ls' := [some (.ref (BIG + 300)), some (.ref (0)), some (.ref (396)), some (.ref (405)), some (.ref (406)), some (.int (nI i)), some (.int (c)), some (.int (w8)), l8]) (st' := [.int (c)]) (h' := (N1, SH v1 T1, J, L1, D1)) rfl ?_
  refine Ev.if_ne (tgt := 1085) dL_law_1063 (by decide) (fun hc0 => ?_) (fun hc0 => ?_)
  · refine Ev.sg hX sL_law_1085 (pc' := 2699) (ls' := [some (.ref (BIG + 300)), some (.ref (0)), some (.ref (396)), some (.ref (405)), some (.ref (406)), some (.int (nI i)), some (.int (c)), some (.int (w8)), l8]) (st' := []) (h' := (N1, SH v1 T1, J, L1, D1)) rfl ?_
    exact Ev.roomL (by omega) (by omega) (bk _ _ _ _ _ _ _ _ _ hN1 hN2 (hinv.mono (by omega) hK))
  · refine Ev.sg hX sL_law_1066 (pc' := 1068) (ls' := [some (.ref (BIG + 300)), some (.ref (0)), some (.ref (396)), some (.ref (405)), some (.ref (406)), some (.int (nI i)), some (.int (c)), some (.int (w8)), l8]) (st' := [.int (0), .ref (405)]) (h' := (N1, SH v1 T1, J, L1, D1)) rfl ?_
    refine Ev.lald (n := 1) rfl (vp_in_nI (n := 0) (N := 1) (by decide) (by decide)) dL_law_1068 ?_
    show Ev _ _ _ _ _ _ 1069 [some (.ref (BIG + 300)), some (.ref (0)), some (.ref (396)), some (.ref (405)), some (.ref (406)), some (.int (nI i)), some (.int (c)), some (.int (w8)), l8] [.long (L1 405 0)] (N1, SH v1 T1, J, L1, D1)
    rw [gz_eq (hG hc0)]
    refine Ev.sg hX sL_law_1069 (pc' := 1071) (ls' := [some (.ref (BIG + 300)), some (.ref (0)), some (.ref (396)), some (.ref (405)), some (.ref (406)), some (.int (nI i)), some (.int (c)), some (.int (w8)), l8]) (st' := [.int (w8), .long (if w8 = 0 then 0 else 1)]) (h' := (N1, SH v1 T1, J, L1, D1)) rfl ?_
    refine Ev.if_eq (tgt := 1078) dL_law_1071 (by decide) (fun q7 => ?_) (fun q7 => ?_)
    · rw [if_pos q7]
      refine Ev.sg hX sL_law_1078 (pc' := 1079) (ls' := [some (.ref (BIG + 300)), some (.ref (0)), some (.ref (396)), some (.ref (405)), some (.ref (406)), some (.int (nI i)), some (.int (c)), some (.int (w8)), l8]) (st' := [.long (0), .long (0)]) (h' := (N1, SH v1 T1, J, L1, D1)) rfl ?_
      refine Ev.sg hX sL_law_1079 (pc' := 1080) (ls' := [some (.ref (BIG + 300)), some (.ref (0)), some (.ref (396)), some (.ref (405)), some (.ref (406)), some (.int (nI i)), some (.int (c)), some (.int (w8)), l8]) (st' := [.int (lg_cmp 0 0)]) (h' := (N1, SH v1 T1, J, L1, D1)) rfl ?_
      rw [lcmp_self]
      refine Ev.if_eq (tgt := 1085) dL_law_1080 (by decide) (fun _ => ?_) (fun q => absurd rfl q)
      refine Ev.sg hX sL_law_1085 (pc' := 2699) (ls' := [some (.ref (BIG + 300)), some (.ref (0)), some (.ref (396)), some (.ref (405)), some (.ref (406)), some (.int (nI i)), some (.int (c)), some (.int (w8)), l8]) (st' := []) (h' := (N1, SH v1 T1, J, L1, D1)) rfl ?_
      exact Ev.roomL (by omega) (by omega) (bk _ _ _ _ _ _ _ _ _ hN1 hN2 (hinv.mono (by omega) hK))
    · rw [if_neg q7]
      refine Ev.sg hX sL_law_1074 (pc' := 1079) (ls' := [some (.ref (BIG + 300)), some (.ref (0)), some (.ref (396)), some (.ref (405)), some (.ref (406)), some (.int (nI i)), some (.int (c)), some (.int (w8)), l8]) (st' := [.long (1), .long (1)]) (h' := (N1, SH v1 T1, J, L1, D1)) rfl ?_
      refine Ev.sg hX sL_law_1079 (pc' := 1080) (ls' := [some (.ref (BIG + 300)), some (.ref (0)), some (.ref (396)), some (.ref (405)), some (.ref (406)), some (.int (nI i)), some (.int (c)), some (.int (w8)), l8]) (st' := [.int (lg_cmp 1 1)]) (h' := (N1, SH v1 T1, J, L1, D1)) rfl ?_
      rw [lcmp_self]
      refine Ev.if_eq (tgt := 1085) dL_law_1080 (by decide) (fun _ => ?_) (fun q => absurd rfl q)
      refine Ev.sg hX sL_law_1085 (pc' := 2699) (ls' := [some (.ref (BIG + 300)), some (.ref (0)), some (.ref (396)), some (.ref (405)), some (.ref (406)), some (.int (nI i)), some (.int (c)), some (.int (w8)), l8]) (st' := []) (h' := (N1, SH v1 T1, J, L1, D1)) rfl ?_
      exact Ev.roomL (by omega) (by omega) (bk _ _ _ _ _ _ _ _ _ hN1 hN2 (hinv.mono (by omega) hK))
theorem br_disorder (hX : JXok X) (hI : INV K N v T I L Dd) (hK : K + 8 ≤ 5000) (hN : N + 1500 < BIG) (hs : i + 6 ≤ jSn X ∧ jSn X ≤ 3072) (hm : 1160 ≤ mc ∧ 1160 ≤ ms) (bk : BK X mc ms N (K + 8) i) : Ev X (jm jdL_law) 20 mc ms lwR 1088 (lsW i l6 l7 l8) [] (N, SH v T, I, L, Dd) := by
  have hI0 := hI
  obtain ⟨g, gs, d, sv, qq, tx, er, fl, w, hp, hq⟩ := hI
  have hN4 := hp.N4
  refine Ev.sg hX sL_law_1088 (pc' := 1094) (ls' := [some (.ref (BIG + 300)), some (.ref (0)), some (.ref (396)), some (.ref (405)), some (.ref (406)), some (.int (nI i)), l6, l7, l8]) (st' := [.int ((nI i) + 1), .ref (BIG + 300), .ref (0)]) (h' := (N, SH v T, I, L, Dd)) rfl ?_
  refine Ev.ialdX (n := i + 1) (naI rfl rfl) (by omega) (by omega) dL_law_1094 ?_
  show Ev _ _ _ _ _ _ 1095 [some (.ref (BIG + 300)), some (.ref (0)), some (.ref (396)), some (.ref (405)), some (.ref (406)), some (.int (nI i)), l6, l7, l8] [.int (jSf X (i + 1)), .ref (0)] (N, SH v T, I, L, Dd)
  refine Ev.sg hX sL_law_1095 (pc' := 1096) (ls' := [some (.ref (BIG + 300)), some (.ref (0)), some (.ref (396)), some (.ref (405)), some (.ref (406)), some (.int (nI i)), l6, l7, l8]) (st' := [.ref (405), .int (jSf X (i + 1)), .ref (0)]) (h' := (N, SH v T, I, L, Dd)) rfl ?_
  obtain ⟨Q', C, hC⟩ := CLS.cr (show CLS X _ _ _ jdX6_disorder [.int (jSf X (i + 1))] jdX7_disorder [.int (jSf X (i + 1))] _ _ N v T I L Dd from b_disorder hX hp hq (by omega))
  refine Ev.callSX (As := [.ref (0), .int (jSf X (i + 1)), .ref (405)]) (rest := []) dhL_disorder mkL_199 dL_law_1096 (wL_disorder hX rfl C (cr_hI hC) (fun E h' e => by obtain ⟨k, hk⟩ := cr_ex hC e; exact xor1 hk)) ⟨by decide, by decide⟩ ⟨by omega, by omega⟩ rfl (Nat.le_of_ble_eq_true rfl) (fun v9 h9 e9 => ?_) (fun E9 h9 e9 => (wq_no e9).elim)
  obtain ⟨N1, v1, T1, I1, L1, D1, c, hN1, hN2, e8, hM⟩ := wq_g (G := GI) hC (cd_of (l := ["java/lang/IndexOutOfBoundsException"]) (by decide +kernel) (by decide)) (fun x N1 v1 T1 I1 L1 h2 hb hw => w_I hw) e9
  cases e8
  show Ev _ _ _ _ _ _ 1099 [some (.ref (BIG + 300)), some (.ref (0)), some (.ref (396)), some (.ref (405)), some (.ref (406)), some (.int (nI i)), l6, l7, l8] [.int (c)] (N1, SH v1 T1, I1, L1, D1)
  refine Ev.sg hX sL_law_1099 (pc' := 1107) (ls' := [some (.ref (BIG + 300)), some (.ref (0)), some (.ref (396)), some (.ref (405)), some (.ref (406)), some (.int (nI i)), some (.int (c)), l7, l8]) (st' := [.int ((nI i) + 1), .ref (BIG + 300), .ref (396)]) (h' := (N1, SH v1 T1, I1, L1, D1)) rfl ?_
  refine Ev.ialdX (n := i + 1) (naI rfl rfl) (by omega) (by omega) dL_law_1107 ?_
  show Ev _ _ _ _ _ _ 1108 [some (.ref (BIG + 300)), some (.ref (0)), some (.ref (396)), some (.ref (405)), some (.ref (406)), some (.int (nI i)), some (.int (c)), l7, l8] [.int (jSf X (i + 1)), .ref (396)] (N1, SH v1 T1, I1, L1, D1)
  refine Ev.callV (As := [.int (jSf X (i + 1))]) (rest := []) dvX7_disorder mkL_201 rfl rfl dL_law_1108 hM ⟨by decide, by decide⟩ ⟨Nat.zero_le _, Nat.zero_le _⟩ rfl (Nat.le_of_ble_eq_true rfl) (fun v9 h9 e9 => ?_) (fun E9 h9 e9 => by obtain ⟨_, _, e, _⟩ := e9; cases e)
  obtain ⟨b, J, e7, ⟨⟨x8, w8, f1, f2⟩, hG⟩, h12, hinv⟩ := e9
  cases e7
  subst f2
  show Ev _ _ _ _ _ _ 1111 [some (.ref (BIG + 300)), some (.ref (0)), some (.ref (396)), some (.ref (405)), some (.ref (406)), some (.int (nI i)), some (.int (c)), l7, l8] [.int (w8)] (N1, SH v1 T1, J, L1, D1)
  refine Ev.sg hX sL_law_1111 (pc' := 1114) (ls' := [some (.ref (BIG + 300)), some (.ref (0)), some (.ref (396)), some (.ref (405)), some (.ref (406)), some (.int (nI i)), some (.int (c)), some (.int (w8)), l8]) (st' := [.ref (396)]) (h' := (N1, SH v1 T1, J, L1, D1)) rfl ?_
  refine Ev.callV (As := []) (rest := []) dvX7_thrown mkL_156 rfl rfl dL_law_1114 (m_thrown (d := 12) hX (by decide)) ⟨by decide, by decide⟩ ⟨Nat.zero_le _, Nat.zero_le _⟩ rfl (Nat.le_of_ble_eq_true rfl) (fun v9 h9 e9 => ?_) (fun E9 h9 e9 => nomatch e9)
  cases e9
  show Ev _ _ _ _ _ _ 1117 [some (.ref (BIG + 300)), some (.ref (0)), some (.ref (396)), some (.ref (405)), some (.ref (406)), some (.int (nI i)), some (.int (c)), some (.int (w8)), l8] [.int (J 396 12)] (N1, SH v1 T1, J, L1, D1)
  rw [h12]
  refine Ev.sg hX sL_law_1117 (pc' := 1119) (ls' := [some (.ref (BIG + 300)), some (.ref (0)), some (.ref (396)), some (.ref (405)), some (.ref (406)), some (.int (nI i)), some (.int (c)), some (.int (w8)), l8]) (st' := [.int (c), .int (c)]) (h' := (N1, SH v1 T1, J, L1, D1)) rfl ?_
  refine Ev.icmp_eq (tgt := 1124) dL_law_1119 (by decide) (fun _ => ?_) (fun q => absurd rfl q)
  refine Ev.sg hX sL_law_1124 (pc' := 1126) (ls' := [some (.ref (BIG + 300)), some (.ref (0)), some (.ref (396)), some (.ref (405)), some (.ref (406)), some (.int (nI i)), some (.int (c)), some (.int (w8)), l8]) (st' := [.int (c)]) (h' := (N1, SH v1 T1, J, L1, D1)) rfl ?_
  refine Ev.if_ne (tgt := 1141) dL_law_1126 (by decide) (fun hc0 => ?_) (fun hc0 => ?_)
  · refine Ev.sg hX sL_law_1141 (pc' := 2699) (ls' := [some (.ref (BIG + 300)), some (.ref (0)), some (.ref (396)), some (.ref (405)), some (.ref (406)), some (.int (nI i)), some (.int (c)), some (.int (w8)), l8]) (st' := []) (h' := (N1, SH v1 T1, J, L1, D1)) rfl ?_
    exact Ev.roomL (by omega) (by omega) (bk _ _ _ _ _ _ _ _ _ hN1 hN2 (hinv.mono (by omega) hK))
  · refine Ev.sg hX sL_law_1129 (pc' := 1131) (ls' := [some (.ref (BIG + 300)), some (.ref (0)), some (.ref (396)), some (.ref (405)), some (.ref (406)), some (.int (nI i)), some (.int (c)), some (.int (w8)), l8]) (st' := [.int (0), .ref (405)]) (h' := (N1, SH v1 T1, J, L1, D1)) rfl ?_
    refine Ev.lald (n := 1) rfl (vp_in_nI (n := 0) (N := 1) (by decide) (by decide)) dL_law_1131 ?_
    show Ev _ _ _ _ _ _ 1132 [some (.ref (BIG + 300)), some (.ref (0)), some (.ref (396)), some (.ref (405)), some (.ref (406)), some (.int (nI i)), some (.int (c)), some (.int (w8)), l8] [.long (L1 405 0)] (N1, SH v1 T1, J, L1, D1)
    rw [gi_eq (hG hc0)]
    refine Ev.sg hX sL_law_1132 (pc' := 1136) (ls' := [some (.ref (BIG + 300)), some (.ref (0)), some (.ref (396)), some (.ref (405)), some (.ref (406)), some (.int (nI i)), some (.int (c)), some (.int (w8)), l8]) (st' := [.int (lg_cmp w8.toInt64 w8.toInt64)]) (h' := (N1, SH v1 T1, J, L1, D1)) rfl ?_
    rw [lcmp_self]
    refine Ev.if_eq (tgt := 1141) dL_law_1136 (by decide) (fun _ => ?_) (fun q => absurd rfl q)
    refine Ev.sg hX sL_law_1141 (pc' := 2699) (ls' := [some (.ref (BIG + 300)), some (.ref (0)), some (.ref (396)), some (.ref (405)), some (.ref (406)), some (.int (nI i)), some (.int (c)), some (.int (w8)), l8]) (st' := []) (h' := (N1, SH v1 T1, J, L1, D1)) rfl ?_
    exact Ev.roomL (by omega) (by omega) (bk _ _ _ _ _ _ _ _ _ hN1 hN2 (hinv.mono (by omega) hK))
theorem br_disorderByInsertion (hX : JXok X) (hI : INV K N v T I L Dd) (hK : K + 8 ≤ 5000) (hN : N + 1500 < BIG) (hs : i + 6 ≤ jSn X ∧ jSn X ≤ 3072) (hm : 1160 ≤ mc ∧ 1160 ≤ ms) (bk : BK X mc ms N (K + 8) i) : Ev X (jm jdL_law) 20 mc ms lwR 1144 (lsW i l6 l7 l8) [] (N, SH v T, I, L, Dd) := by
  have hI0 := hI
  obtain ⟨g, gs, d, sv, qq, tx, er, fl, w, hp, hq⟩ := hI
  have hN4 := hp.N4
  refine Ev.sg hX sL_law_1144 (pc' := 1150) (ls' := [some (.ref (BIG + 300)), some (.ref (0)), some (.ref (396)), some (.ref (405)), some (.ref (406)), some (.int (nI i)), l6, l7, l8]) (st' := [.int ((nI i) + 1), .ref (BIG + 300), .ref (0)]) (h' := (N, SH v T, I, L, Dd)) rfl ?_
  refine Ev.ialdX (n := i + 1) (naI rfl rfl) (by omega) (by omega) dL_law_1150 ?_
  show Ev _ _ _ _ _ _ 1151 [some (.ref (BIG + 300)), some (.ref (0)), some (.ref (396)), some (.ref (405)), some (.ref (406)), some (.int (nI i)), l6, l7, l8] [.int (jSf X (i + 1)), .ref (0)] (N, SH v T, I, L, Dd)
  refine Ev.sg hX sL_law_1151 (pc' := 1152) (ls' := [some (.ref (BIG + 300)), some (.ref (0)), some (.ref (396)), some (.ref (405)), some (.ref (406)), some (.int (nI i)), l6, l7, l8]) (st' := [.ref (405), .int (jSf X (i + 1)), .ref (0)]) (h' := (N, SH v T, I, L, Dd)) rfl ?_
  obtain ⟨Q', C, hC⟩ := CLS.cr (show CLS X _ _ _ jdX6_disorderByInsertion [.int (jSf X (i + 1))] jdX7_disorderByInsertion [.int (jSf X (i + 1))] _ _ N v T I L Dd from b_disorderByInsertion hX hp hq (by omega))
  refine Ev.callSX (As := [.ref (0), .int (jSf X (i + 1)), .ref (405)]) (rest := []) dhL_disorderByInsertion mkL_202 dL_law_1152 (wL_disorderByInsertion hX rfl C (cr_hI hC) (fun E h' e => by obtain ⟨k, hk⟩ := cr_ex hC e; exact xor1 hk)) ⟨by decide, by decide⟩ ⟨by omega, by omega⟩ rfl (Nat.le_of_ble_eq_true rfl) (fun v9 h9 e9 => ?_) (fun E9 h9 e9 => (wq_no e9).elim)
  obtain ⟨N1, v1, T1, I1, L1, D1, c, hN1, hN2, e8, hM⟩ := wq_g (G := GI) hC (cd_of (l := ["java/lang/IndexOutOfBoundsException"]) (by decide +kernel) (by decide)) (fun x N1 v1 T1 I1 L1 h2 hb hw => w_I hw) e9
  cases e8
  show Ev _ _ _ _ _ _ 1155 [some (.ref (BIG + 300)), some (.ref (0)), some (.ref (396)), some (.ref (405)), some (.ref (406)), some (.int (nI i)), l6, l7, l8] [.int (c)] (N1, SH v1 T1, I1, L1, D1)
  refine Ev.sg hX sL_law_1155 (pc' := 1163) (ls' := [some (.ref (BIG + 300)), some (.ref (0)), some (.ref (396)), some (.ref (405)), some (.ref (406)), some (.int (nI i)), some (.int (c)), l7, l8]) (st' := [.int ((nI i) + 1), .ref (BIG + 300), .ref (396)]) (h' := (N1, SH v1 T1, I1, L1, D1)) rfl ?_
  refine Ev.ialdX (n := i + 1) (naI rfl rfl) (by omega) (by omega) dL_law_1163 ?_
  show Ev _ _ _ _ _ _ 1164 [some (.ref (BIG + 300)), some (.ref (0)), some (.ref (396)), some (.ref (405)), some (.ref (406)), some (.int (nI i)), some (.int (c)), l7, l8] [.int (jSf X (i + 1)), .ref (396)] (N1, SH v1 T1, I1, L1, D1)
  refine Ev.callV (As := [.int (jSf X (i + 1))]) (rest := []) dvX7_disorderByInsertion mkL_204 rfl rfl dL_law_1164 hM ⟨by decide, by decide⟩ ⟨Nat.zero_le _, Nat.zero_le _⟩ rfl (Nat.le_of_ble_eq_true rfl) (fun v9 h9 e9 => ?_) (fun E9 h9 e9 => by obtain ⟨_, _, e, _⟩ := e9; cases e)
  obtain ⟨b, J, e7, ⟨⟨x8, w8, f1, f2⟩, hG⟩, h12, hinv⟩ := e9
  cases e7
  subst f2
  show Ev _ _ _ _ _ _ 1167 [some (.ref (BIG + 300)), some (.ref (0)), some (.ref (396)), some (.ref (405)), some (.ref (406)), some (.int (nI i)), some (.int (c)), l7, l8] [.int (w8)] (N1, SH v1 T1, J, L1, D1)
  refine Ev.sg hX sL_law_1167 (pc' := 1170) (ls' := [some (.ref (BIG + 300)), some (.ref (0)), some (.ref (396)), some (.ref (405)), some (.ref (406)), some (.int (nI i)), some (.int (c)), some (.int (w8)), l8]) (st' := [.ref (396)]) (h' := (N1, SH v1 T1, J, L1, D1)) rfl ?_
  refine Ev.callV (As := []) (rest := []) dvX7_thrown mkL_156 rfl rfl dL_law_1170 (m_thrown (d := 12) hX (by decide)) ⟨by decide, by decide⟩ ⟨Nat.zero_le _, Nat.zero_le _⟩ rfl (Nat.le_of_ble_eq_true rfl) (fun v9 h9 e9 => ?_) (fun E9 h9 e9 => nomatch e9)
  cases e9
  show Ev _ _ _ _ _ _ 1173 [some (.ref (BIG + 300)), some (.ref (0)), some (.ref (396)), some (.ref (405)), some (.ref (406)), some (.int (nI i)), some (.int (c)), some (.int (w8)), l8] [.int (J 396 12)] (N1, SH v1 T1, J, L1, D1)
  rw [h12]
  refine Ev.sg hX sL_law_1173 (pc' := 1175) (ls' := [some (.ref (BIG + 300)), some (.ref (0)), some (.ref (396)), some (.ref (405)), some (.ref (406)), some (.int (nI i)), some (.int (c)), some (.int (w8)), l8]) (st' := [.int (c), .int (c)]) (h' := (N1, SH v1 T1, J, L1, D1)) rfl ?_
  refine Ev.icmp_eq (tgt := 1180) dL_law_1175 (by decide) (fun _ => ?_) (fun q => absurd rfl q)
  refine Ev.sg hX sL_law_1180 (pc' := 1182) (ls' := [some (.ref (BIG + 300)), some (.ref (0)), some (.ref (396)), some (.ref (405)), some (.ref (406)), some (.int (nI i)), some (.int (c)), some (.int (w8)), l8]) (st' := [.int (c)]) (h' := (N1, SH v1 T1, J, L1, D1)) rfl ?_
  refine Ev.if_ne (tgt := 1197) dL_law_1182 (by decide) (fun hc0 => ?_) (fun hc0 => ?_)
  · refine Ev.sg hX sL_law_1197 (pc' := 2699) (ls' := [some (.ref (BIG + 300)), some (.ref (0)), some (.ref (396)), some (.ref (405)), some (.ref (406)), some (.int (nI i)), some (.int (c)), some (.int (w8)), l8]) (st' := []) (h' := (N1, SH v1 T1, J, L1, D1)) rfl ?_
    exact Ev.roomL (by omega) (by omega) (bk _ _ _ _ _ _ _ _ _ hN1 hN2 (hinv.mono (by omega) hK))
  · refine Ev.sg hX sL_law_1185 (pc' := 1187) (ls' := [some (.ref (BIG + 300)), some (.ref (0)), some (.ref (396)), some (.ref (405)), some (.ref (406)), some (.int (nI i)), some (.int (c)), some (.int (w8)), l8]) (st' := [.int (0), .ref (405)]) (h' := (N1, SH v1 T1, J, L1, D1)) rfl ?_
    refine Ev.lald (n := 1) rfl (vp_in_nI (n := 0) (N := 1) (by decide) (by decide)) dL_law_1187 ?_
    show Ev _ _ _ _ _ _ 1188 [some (.ref (BIG + 300)), some (.ref (0)), some (.ref (396)), some (.ref (405)), some (.ref (406)), some (.int (nI i)), some (.int (c)), some (.int (w8)), l8] [.long (L1 405 0)] (N1, SH v1 T1, J, L1, D1)
    rw [gi_eq (hG hc0)]
    refine Ev.sg hX sL_law_1188 (pc' := 1192) (ls' := [some (.ref (BIG + 300)), some (.ref (0)), some (.ref (396)), some (.ref (405)), some (.ref (406)), some (.int (nI i)), some (.int (c)), some (.int (w8)), l8]) (st' := [.int (lg_cmp w8.toInt64 w8.toInt64)]) (h' := (N1, SH v1 T1, J, L1, D1)) rfl ?_
    rw [lcmp_self]
    refine Ev.if_eq (tgt := 1197) dL_law_1192 (by decide) (fun _ => ?_) (fun q => absurd rfl q)
    refine Ev.sg hX sL_law_1197 (pc' := 2699) (ls' := [some (.ref (BIG + 300)), some (.ref (0)), some (.ref (396)), some (.ref (405)), some (.ref (406)), some (.int (nI i)), some (.int (c)), some (.int (w8)), l8]) (st' := []) (h' := (N1, SH v1 T1, J, L1, D1)) rfl ?_
    exact Ev.roomL (by omega) (by omega) (bk _ _ _ _ _ _ _ _ _ hN1 hN2 (hinv.mono (by omega) hK))
end LBX
