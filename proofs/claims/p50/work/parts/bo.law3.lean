/-! the law's walk: texts that are no programs -/
section LW3
variable {X : JX} {mc ms : Nat} {Q : JR → Prop} {h : MH} {bY n Kx Ky K0 : Nat} {now : Int32} {s sx sy : GS}
/-- where a text is no program -/
def bads : List (Nat × Nat) := [(11, 3), (12, 1), (13, 1), (14, 11), (15, 8), (16, 9), (17, 0), (18, 8), (19, 14), (20, 9), (21, 0)]
/-- what stays of x -/
def xst (s s' : GS) : Prop := s'.1 = s.1 ∧ s'.2.2.2.1 = s.2.2.2.1 ∧ s'.2.2.2.2.1 = 0 ∧ s'.2.2.2.2.2.2.2.1 = s.2.2.2.2.2.2.2.1
theorem xst.tr {s s' s2 : GS} (h1 : xst s s') (h2 : xst s' s2) : xst s s2 := ⟨h2.1.trans h1.1, h2.2.1.trans h1.2.1, h2.2.2.1, h2.2.2.2.trans h1.2.2.2⟩
theorem fail_step {i p pc : Nat} {ls : List (Option Value)} (hX : JXok X) (hM : jM X ≤ 396) (bY4 : 396 ≤ bY) (ox : OB Kx 0 395 sx h) (oy : OB Ky bY 395 sy h) (hq : sx.2.2.2.2.1 = 0) (hi : (i, p) ∈ bads) (hK : Kx + 8 ≤ 5000) (hN : zN h ≤ 40000) (hm : 200 ≤ mc ∧ 1200 ≤ ms) (hdg : decode cL_law pc = .ok (.invokestatic 182, 3))
    (kk : ∀ h' mc' ms' sx', OB (Kx + 8) 0 395 sx' h' → OB Ky bY 395 sy h' → xst sx sx' → zN h' ≤ zN h + 200 → mc - 200 ≤ mc' → ms - 1200 ≤ ms' → Ev X (jm jdL_law) 17 mc' ms' Q (pc + 3) ls [.int 1] h') : Ev X (jm jdL_law) 17 mc ms Q pc ls [.int (nI p), .ref (jsh0 + i), .ref 0] h := by
  have b0 : (0 : Nat) = 0 ∨ 396 ≤ 0 := Or.inl rfl
  have by0 : bY = 0 ∨ 396 ≤ bY := Or.inr bY4
  have hBIG : 100000 < BIG := by decide
  have djx : DJ bY 395 0 395 := dj_of (Or.inr (by omega))
  have hb := bad_all (i, p) hi
  have hin : i < jnS ∧ p < 100 := by
    have : ∀ x ∈ bads, x.1 < jnS ∧ x.2 < 100 := by decide
    exact this (i, p) hi
  have hl40 := jshl_leN i hin.1
  have hlen := jsh_len i hin.1
  have R := rn_bad (cs := jshb.getD i []) (s := sx) hq hb.1
  have rv : rnV ((jshb.getD i []).foldl appS sx) = -1 := by
    unfold rnV
    rw [R]
    rfl
  have C := c_fails (v := 395) (p := nI p) hX hM b0 (strK hX hin.1) (fun _ _ _ _ => trivial) (txt_c i hin.1) ox trivial (by omega) hK (by omega) rv (by rw [R]; show nI _ = nI p; rw [hb.2]) (nI_mi (by omega))
  refine Ev.callS (As := [.ref 0, .ref (jsh0 + i), .int (nI p)]) (rest := []) dsL_fails mkL_182 hdg C ⟨by decide, by show 3 + 19 + 40 * _ ≤ 40 * _; omega⟩ ⟨by omega, by omega⟩ rfl (Nat.le_of_ble_eq_true rfl) (fun v9 h9 e9 => ?_) (fun E9 h9 e9 => ?_)
  · obtain ⟨h', st, ob, -, e⟩ := e9
    cases e
    rw [R] at ob
    have s1 := st.2.1
    exact kk h9 _ _ _ ob (OB.keep2 b0 by0 djx oy st ob) ⟨rfl, rfl, rfl, rfl⟩ (by omega) (by omega) (by omega)
  · obtain ⟨h', st, ob, -, e⟩ := e9
    cases e
set_option maxRecDepth 100000 in
theorem law_7a (hX : JXok X) (hM : jM X ≤ 396) (bY4 : 396 ≤ bY) (ox : OB Kx 0 395 sx h) (oy : OB Ky bY 395 sy h) (hq : sx.2.2.2.2.1 = 0) (hK : Kx + 32 ≤ 5000) (hN : zN h ≤ 36000) (hm : 2000 ≤ mc ∧ 12000 ≤ ms)
    (kk : ∀ h' mc' ms' sx', OB (Kx + 32) 0 395 sx' h' → OB Ky bY 395 sy h' → xst sx sx' → zN h' ≤ zN h + 800 → mc - 800 ≤ mc' → ms - 4800 ≤ ms' → Ev X (jm jdL_law) 17 mc' ms' Q 281 [some (.ref (BIG + 300)), some (.ref 0), some (.ref bY), some (.int now), some (.int (nI n)), none, none, none, none] [] h') :
    Ev X (jm jdL_law) 17 mc ms Q 240 [some (.ref (BIG + 300)), some (.ref 0), some (.ref bY), some (.int now), some (.int (nI n)), none, none, none, none] [] h := by
  refine Ev.sg hX sL_law_240 (pc' := 241) (ls' := [some (.ref (BIG + 300)), some (.ref 0), some (.ref bY), some (.int now), some (.int (nI n)), none, none, none, none]) (st' := [.ref 0]) (h' := h) rfl ?_
  refine Ev.ldcS (si := 47) rfl dL_law_241 ?_
  show Ev _ _ _ _ _ _ 243 [some (.ref (BIG + 300)), some (.ref 0), some (.ref bY), some (.int now), some (.int (nI n)), none, none, none, none] [.ref (jsh0 + 11), .ref 0] h
  refine Ev.sg hX sL_law_243 (pc' := 244) (ls' := [some (.ref (BIG + 300)), some (.ref 0), some (.ref bY), some (.int now), some (.int (nI n)), none, none, none, none]) (st' := [.int (nI 3), .ref (jsh0 + 11), .ref 0]) (h' := h) rfl ?_
  refine fail_step hX hM bY4 ox oy hq (by decide) (by omega) (by omega) ⟨by omega, by omega⟩ dL_law_244 (fun g1 mc1 ms1 s1 o1 p1 x1 n1 m1 k1 => ?_)
  refine Ev.if_eq (tgt := 371) dL_law_247 (by decide) (fun b1 => absurd b1 (by decide)) (fun _ => ?_)
  refine Ev.sg hX sL_law_250 (pc' := 251) (ls' := [some (.ref (BIG + 300)), some (.ref 0), some (.ref bY), some (.int now), some (.int (nI n)), none, none, none, none]) (st' := [.ref 0]) (h' := g1) rfl ?_
  refine Ev.ldcS (si := 48) rfl dL_law_251 ?_
  show Ev _ _ _ _ _ _ 253 [some (.ref (BIG + 300)), some (.ref 0), some (.ref bY), some (.int now), some (.int (nI n)), none, none, none, none] [.ref (jsh0 + 12), .ref 0] g1
  refine Ev.sg hX sL_law_253 (pc' := 254) (ls' := [some (.ref (BIG + 300)), some (.ref 0), some (.ref bY), some (.int now), some (.int (nI n)), none, none, none, none]) (st' := [.int (nI 1), .ref (jsh0 + 12), .ref 0]) (h' := g1) rfl ?_
  refine fail_step hX hM bY4 o1 p1 x1.2.2.1 (by decide) (by omega) (by omega) ⟨by omega, by omega⟩ dL_law_254 (fun g2 mc2 ms2 s2 o2 p2 x2 n2 m2 k2 => ?_)
  refine Ev.if_eq (tgt := 371) dL_law_257 (by decide) (fun b1 => absurd b1 (by decide)) (fun _ => ?_)
  refine Ev.sg hX sL_law_260 (pc' := 261) (ls' := [some (.ref (BIG + 300)), some (.ref 0), some (.ref bY), some (.int now), some (.int (nI n)), none, none, none, none]) (st' := [.ref 0]) (h' := g2) rfl ?_
  refine Ev.ldcS (si := 49) rfl dL_law_261 ?_
  show Ev _ _ _ _ _ _ 263 [some (.ref (BIG + 300)), some (.ref 0), some (.ref bY), some (.int now), some (.int (nI n)), none, none, none, none] [.ref (jsh0 + 13), .ref 0] g2
  refine Ev.sg hX sL_law_263 (pc' := 264) (ls' := [some (.ref (BIG + 300)), some (.ref 0), some (.ref bY), some (.int now), some (.int (nI n)), none, none, none, none]) (st' := [.int (nI 1), .ref (jsh0 + 13), .ref 0]) (h' := g2) rfl ?_
  refine fail_step hX hM bY4 o2 p2 x2.2.2.1 (by decide) (by omega) (by omega) ⟨by omega, by omega⟩ dL_law_264 (fun g3 mc3 ms3 s3 o3 p3 x3 n3 m3 k3 => ?_)
  refine Ev.if_eq (tgt := 371) dL_law_267 (by decide) (fun b1 => absurd b1 (by decide)) (fun _ => ?_)
  refine Ev.sg hX sL_law_270 (pc' := 271) (ls' := [some (.ref (BIG + 300)), some (.ref 0), some (.ref bY), some (.int now), some (.int (nI n)), none, none, none, none]) (st' := [.ref 0]) (h' := g3) rfl ?_
  refine Ev.ldcS (si := 50) rfl dL_law_271 ?_
  show Ev _ _ _ _ _ _ 273 [some (.ref (BIG + 300)), some (.ref 0), some (.ref bY), some (.int now), some (.int (nI n)), none, none, none, none] [.ref (jsh0 + 14), .ref 0] g3
  refine Ev.sg hX sL_law_273 (pc' := 275) (ls' := [some (.ref (BIG + 300)), some (.ref 0), some (.ref bY), some (.int now), some (.int (nI n)), none, none, none, none]) (st' := [.int (nI 11), .ref (jsh0 + 14), .ref 0]) (h' := g3) rfl ?_
  refine fail_step hX hM bY4 o3 p3 x3.2.2.1 (by decide) (by omega) (by omega) ⟨by omega, by omega⟩ dL_law_275 (fun g4 mc4 ms4 s4 o4 p4 x4 n4 m4 k4 => ?_)
  refine Ev.if_eq (tgt := 371) dL_law_278 (by decide) (fun b1 => absurd b1 (by decide)) (fun _ => ?_)
  exact kk g4 _ _ _ (by rw [show Kx + 32 = Kx + 8 + 8 + 8 + 8 by omega]; exact o4) p4 (((x1.tr x2).tr x3).tr x4) (by omega) (by omega) (by omega)
set_option maxRecDepth 100000 in
theorem law_7b (hX : JXok X) (hM : jM X ≤ 396) (bY4 : 396 ≤ bY) (ox : OB Kx 0 395 sx h) (oy : OB Ky bY 395 sy h) (hq : sx.2.2.2.2.1 = 0) (hK : Kx + 32 ≤ 5000) (hN : zN h ≤ 36000) (hm : 2000 ≤ mc ∧ 12000 ≤ ms)
    (kk : ∀ h' mc' ms' sx', OB (Kx + 32) 0 395 sx' h' → OB Ky bY 395 sy h' → xst sx sx' → zN h' ≤ zN h + 800 → mc - 800 ≤ mc' → ms - 4800 ≤ ms' → Ev X (jm jdL_law) 17 mc' ms' Q 324 [some (.ref (BIG + 300)), some (.ref 0), some (.ref bY), some (.int now), some (.int (nI n)), none, none, none, none] [] h') :
    Ev X (jm jdL_law) 17 mc ms Q 281 [some (.ref (BIG + 300)), some (.ref 0), some (.ref bY), some (.int now), some (.int (nI n)), none, none, none, none] [] h := by
  refine Ev.sg hX sL_law_281 (pc' := 282) (ls' := [some (.ref (BIG + 300)), some (.ref 0), some (.ref bY), some (.int now), some (.int (nI n)), none, none, none, none]) (st' := [.ref 0]) (h' := h) rfl ?_
  refine Ev.ldcS (si := 51) rfl dL_law_282 ?_
  show Ev _ _ _ _ _ _ 284 [some (.ref (BIG + 300)), some (.ref 0), some (.ref bY), some (.int now), some (.int (nI n)), none, none, none, none] [.ref (jsh0 + 15), .ref 0] h
  refine Ev.sg hX sL_law_284 (pc' := 286) (ls' := [some (.ref (BIG + 300)), some (.ref 0), some (.ref bY), some (.int now), some (.int (nI n)), none, none, none, none]) (st' := [.int (nI 8), .ref (jsh0 + 15), .ref 0]) (h' := h) rfl ?_
  refine fail_step hX hM bY4 ox oy hq (by decide) (by omega) (by omega) ⟨by omega, by omega⟩ dL_law_286 (fun g1 mc1 ms1 s1 o1 p1 x1 n1 m1 k1 => ?_)
  refine Ev.if_eq (tgt := 371) dL_law_289 (by decide) (fun b1 => absurd b1 (by decide)) (fun _ => ?_)
  refine Ev.sg hX sL_law_292 (pc' := 293) (ls' := [some (.ref (BIG + 300)), some (.ref 0), some (.ref bY), some (.int now), some (.int (nI n)), none, none, none, none]) (st' := [.ref 0]) (h' := g1) rfl ?_
  refine Ev.ldcS (si := 52) rfl dL_law_293 ?_
  show Ev _ _ _ _ _ _ 295 [some (.ref (BIG + 300)), some (.ref 0), some (.ref bY), some (.int now), some (.int (nI n)), none, none, none, none] [.ref (jsh0 + 16), .ref 0] g1
  refine Ev.sg hX sL_law_295 (pc' := 297) (ls' := [some (.ref (BIG + 300)), some (.ref 0), some (.ref bY), some (.int now), some (.int (nI n)), none, none, none, none]) (st' := [.int (nI 9), .ref (jsh0 + 16), .ref 0]) (h' := g1) rfl ?_
  refine fail_step hX hM bY4 o1 p1 x1.2.2.1 (by decide) (by omega) (by omega) ⟨by omega, by omega⟩ dL_law_297 (fun g2 mc2 ms2 s2 o2 p2 x2 n2 m2 k2 => ?_)
  refine Ev.if_eq (tgt := 371) dL_law_300 (by decide) (fun b1 => absurd b1 (by decide)) (fun _ => ?_)
  refine Ev.sg hX sL_law_303 (pc' := 304) (ls' := [some (.ref (BIG + 300)), some (.ref 0), some (.ref bY), some (.int now), some (.int (nI n)), none, none, none, none]) (st' := [.ref 0]) (h' := g2) rfl ?_
  refine Ev.ldcS (si := 53) rfl dL_law_304 ?_
  show Ev _ _ _ _ _ _ 306 [some (.ref (BIG + 300)), some (.ref 0), some (.ref bY), some (.int now), some (.int (nI n)), none, none, none, none] [.ref (jsh0 + 17), .ref 0] g2
  refine Ev.sg hX sL_law_306 (pc' := 307) (ls' := [some (.ref (BIG + 300)), some (.ref 0), some (.ref bY), some (.int now), some (.int (nI n)), none, none, none, none]) (st' := [.int (nI 0), .ref (jsh0 + 17), .ref 0]) (h' := g2) rfl ?_
  refine fail_step hX hM bY4 o2 p2 x2.2.2.1 (by decide) (by omega) (by omega) ⟨by omega, by omega⟩ dL_law_307 (fun g3 mc3 ms3 s3 o3 p3 x3 n3 m3 k3 => ?_)
  refine Ev.if_eq (tgt := 371) dL_law_310 (by decide) (fun b1 => absurd b1 (by decide)) (fun _ => ?_)
  refine Ev.sg hX sL_law_313 (pc' := 314) (ls' := [some (.ref (BIG + 300)), some (.ref 0), some (.ref bY), some (.int now), some (.int (nI n)), none, none, none, none]) (st' := [.ref 0]) (h' := g3) rfl ?_
  refine Ev.ldcS (si := 54) rfl dL_law_314 ?_
  show Ev _ _ _ _ _ _ 316 [some (.ref (BIG + 300)), some (.ref 0), some (.ref bY), some (.int now), some (.int (nI n)), none, none, none, none] [.ref (jsh0 + 18), .ref 0] g3
  refine Ev.sg hX sL_law_316 (pc' := 318) (ls' := [some (.ref (BIG + 300)), some (.ref 0), some (.ref bY), some (.int now), some (.int (nI n)), none, none, none, none]) (st' := [.int (nI 8), .ref (jsh0 + 18), .ref 0]) (h' := g3) rfl ?_
  refine fail_step hX hM bY4 o3 p3 x3.2.2.1 (by decide) (by omega) (by omega) ⟨by omega, by omega⟩ dL_law_318 (fun g4 mc4 ms4 s4 o4 p4 x4 n4 m4 k4 => ?_)
  refine Ev.if_eq (tgt := 371) dL_law_321 (by decide) (fun b1 => absurd b1 (by decide)) (fun _ => ?_)
  exact kk g4 _ _ _ (by rw [show Kx + 32 = Kx + 8 + 8 + 8 + 8 by omega]; exact o4) p4 (((x1.tr x2).tr x3).tr x4) (by omega) (by omega) (by omega)
set_option maxRecDepth 100000 in
theorem law_7c (hX : JXok X) (hM : jM X ≤ 396) (bY4 : 396 ≤ bY) (ox : OB Kx 0 395 sx h) (oy : OB Ky bY 395 sy h) (hq : sx.2.2.2.2.1 = 0) (hK : Kx + 24 ≤ 5000) (hN : zN h ≤ 36000) (hm : 2000 ≤ mc ∧ 12000 ≤ ms)
    (kk : ∀ h' mc' ms' sx', OB (Kx + 24) 0 395 sx' h' → OB Ky bY 395 sy h' → xst sx sx' → zN h' ≤ zN h + 600 → mc - 600 ≤ mc' → ms - 3600 ≤ ms' → Ev X (jm jdL_law) 17 mc' ms' Q 356 [some (.ref (BIG + 300)), some (.ref 0), some (.ref bY), some (.int now), some (.int (nI n)), none, none, none, none] [] h') :
    Ev X (jm jdL_law) 17 mc ms Q 324 [some (.ref (BIG + 300)), some (.ref 0), some (.ref bY), some (.int now), some (.int (nI n)), none, none, none, none] [] h := by
  refine Ev.sg hX sL_law_324 (pc' := 325) (ls' := [some (.ref (BIG + 300)), some (.ref 0), some (.ref bY), some (.int now), some (.int (nI n)), none, none, none, none]) (st' := [.ref 0]) (h' := h) rfl ?_
  refine Ev.ldcS (si := 55) rfl dL_law_325 ?_
  show Ev _ _ _ _ _ _ 327 [some (.ref (BIG + 300)), some (.ref 0), some (.ref bY), some (.int now), some (.int (nI n)), none, none, none, none] [.ref (jsh0 + 19), .ref 0] h
  refine Ev.sg hX sL_law_327 (pc' := 329) (ls' := [some (.ref (BIG + 300)), some (.ref 0), some (.ref bY), some (.int now), some (.int (nI n)), none, none, none, none]) (st' := [.int (nI 14), .ref (jsh0 + 19), .ref 0]) (h' := h) rfl ?_
  refine fail_step hX hM bY4 ox oy hq (by decide) (by omega) (by omega) ⟨by omega, by omega⟩ dL_law_329 (fun g1 mc1 ms1 s1 o1 p1 x1 n1 m1 k1 => ?_)
  refine Ev.if_eq (tgt := 371) dL_law_332 (by decide) (fun b1 => absurd b1 (by decide)) (fun _ => ?_)
  refine Ev.sg hX sL_law_335 (pc' := 336) (ls' := [some (.ref (BIG + 300)), some (.ref 0), some (.ref bY), some (.int now), some (.int (nI n)), none, none, none, none]) (st' := [.ref 0]) (h' := g1) rfl ?_
  refine Ev.ldcS (si := 56) rfl dL_law_336 ?_
  show Ev _ _ _ _ _ _ 338 [some (.ref (BIG + 300)), some (.ref 0), some (.ref bY), some (.int now), some (.int (nI n)), none, none, none, none] [.ref (jsh0 + 20), .ref 0] g1
  refine Ev.sg hX sL_law_338 (pc' := 340) (ls' := [some (.ref (BIG + 300)), some (.ref 0), some (.ref bY), some (.int now), some (.int (nI n)), none, none, none, none]) (st' := [.int (nI 9), .ref (jsh0 + 20), .ref 0]) (h' := g1) rfl ?_
  refine fail_step hX hM bY4 o1 p1 x1.2.2.1 (by decide) (by omega) (by omega) ⟨by omega, by omega⟩ dL_law_340 (fun g2 mc2 ms2 s2 o2 p2 x2 n2 m2 k2 => ?_)
  refine Ev.if_eq (tgt := 371) dL_law_343 (by decide) (fun b1 => absurd b1 (by decide)) (fun _ => ?_)
  refine Ev.sg hX sL_law_346 (pc' := 347) (ls' := [some (.ref (BIG + 300)), some (.ref 0), some (.ref bY), some (.int now), some (.int (nI n)), none, none, none, none]) (st' := [.ref 0]) (h' := g2) rfl ?_
  refine Ev.ldcS (si := 57) rfl dL_law_347 ?_
  show Ev _ _ _ _ _ _ 349 [some (.ref (BIG + 300)), some (.ref 0), some (.ref bY), some (.int now), some (.int (nI n)), none, none, none, none] [.ref (jsh0 + 21), .ref 0] g2
  refine Ev.sg hX sL_law_349 (pc' := 350) (ls' := [some (.ref (BIG + 300)), some (.ref 0), some (.ref bY), some (.int now), some (.int (nI n)), none, none, none, none]) (st' := [.int (nI 0), .ref (jsh0 + 21), .ref 0]) (h' := g2) rfl ?_
  refine fail_step hX hM bY4 o2 p2 x2.2.2.1 (by decide) (by omega) (by omega) ⟨by omega, by omega⟩ dL_law_350 (fun g3 mc3 ms3 s3 o3 p3 x3 n3 m3 k3 => ?_)
  refine Ev.if_eq (tgt := 371) dL_law_353 (by decide) (fun b1 => absurd b1 (by decide)) (fun _ => ?_)
  exact kk g3 _ _ _ (by rw [show Kx + 24 = Kx + 8 + 8 + 8 by omega]; exact o3) p3 ((x1.tr x2).tr x3) (by omega) (by omega) (by omega)
set_option maxRecDepth 100000 in
theorem law_7d (hX : JXok X) (hM : jM X ≤ 396) (bY4 : 396 ≤ bY) (ox : OB Kx 0 395 sx h) (oy : OB Ky bY 395 sy h) (hf : sx.2.2.2.2.2.2.2.1 = nI 0) (hg : stGF sx.1 = now) (hN : zN h ≤ 40000) (hm : 6000 ≤ mc ∧ 40000 ≤ ms)
    (kk : ∀ h' mc' ms', OB Kx 0 395 sx h' → OB Ky bY 395 sy h' → zN h' ≤ zN h + 3000 → mc - 3000 ≤ mc' → ms - 20000 ≤ ms' → Ev X (jm jdL_law) 17 mc' ms' Q 373 [some (.ref (BIG + 300)), some (.ref 0), some (.ref bY), some (.int now), some (.int (nI n)), none, none, none, none] [] h') :
    Ev X (jm jdL_law) 17 mc ms Q 356 [some (.ref (BIG + 300)), some (.ref 0), some (.ref bY), some (.int now), some (.int (nI n)), none, none, none, none] [] h := by
  have b0 : (0 : Nat) = 0 ∨ 396 ≤ 0 := Or.inl rfl
  have by0 : bY = 0 ∨ 396 ≤ bY := Or.inr bY4
  have hBIG : 100000 < BIG := by decide
  have djx : DJ bY 395 0 395 := dj_of (Or.inr (by omega))
  have djy : DJ 0 395 bY 395 := dj_of (Or.inl (by omega))
  refine Ev.sg hX sL_law_356 (pc' := 357) (ls' := [some (.ref (BIG + 300)), some (.ref 0), some (.ref bY), some (.int now), some (.int (nI n)), none, none, none, none]) (st' := [.ref 0]) (h' := h) rfl ?_
  refine Ev.askW (K' := Kx) (mc1 := 4) (ms1 := 24) (As := []) (rest := []) (xs := [xNE]) (val := some (.int (nI 0))) (s' := sx) hX hM b0 by0 djx ox oy (by omega) dvX6_failedCommand mkL_175 rfl dL_law_357 (by decide) (by decide) ⟨⟨by omega, by omega⟩, by omega, by omega⟩ rfl (Nat.le_of_ble_eq_true rfl) nr_0 (fun _ => rfl) (by decide) (fun X' T I L D hX' c9 => q_fc hX' c9 (by omega) (by decide) hf) (fun g1 mc1 ms1 a1 c1 o1 p1 m1 k1 => ?_)
  show Ev _ _ _ _ _ _ 360 [some (.ref (BIG + 300)), some (.ref 0), some (.ref bY), some (.int now), some (.int (nI n)), none, none, none, none] [.int (nI 0)] g1
  refine Ev.if_ne (tgt := 371) dL_law_360 (by decide) (fun b1 => absurd rfl b1) (fun _ => ?_)
  refine Ev.sg hX sL_law_363 (pc' := 364) (ls' := [some (.ref (BIG + 300)), some (.ref 0), some (.ref bY), some (.int now), some (.int (nI n)), none, none, none, none]) (st' := [.ref 0]) (h' := g1) rfl ?_
  refine Ev.lawW (As := [.ref 0]) (rest := []) b0 by0 djx p1 dsL_state mkL_139 dL_law_364 (c_state hX hM b0 o1 (by omega)) ⟨by decide, by show 7 + 19 + 40 * _ ≤ 40 * _; omega⟩ ⟨by omega, by omega⟩ rfl (Nat.le_of_ble_eq_true rfl) (fun g2 mc2 ms2 a2 c2 o2 p2 m2 k2 => ?_)
  show Ev _ _ _ _ _ _ 367 [some (.ref (BIG + 300)), some (.ref 0), some (.ref bY), some (.int now), some (.int (nI n)), none, none, none, none] [.int (stGF sx.1)] g2
  rw [hg]
  refine Ev.sg hX sL_law_367 (pc' := 368) (ls' := [some (.ref (BIG + 300)), some (.ref 0), some (.ref bY), some (.int now), some (.int (nI n)), none, none, none, none]) (st' := [.int now, .int now]) (h' := g2) rfl ?_
  refine Ev.icmp_eq (tgt := 373) dL_law_368 (by decide) (fun _ => ?_) (fun b1 => absurd rfl b1)
  exact kk g2 _ _ o2 p2 (by omega) (by omega) (by omega)
set_option maxRecDepth 100000 in
/-- from the second failing program to where z is made -/
theorem law_B (hX : JXok X) (hM : jM X ≤ 396) (bY4 : 396 ≤ bY) (ox : OB Kx 0 395 sx h) (oy : OB Ky bY 395 sy h) (e1 : sx.1 = s.1) (e2 : sx.2.2.2.1 = some s.1) (e3 : sx.2.2.2.2.1 = 0) (W : WG K0 s.1) (up2 : s.1 2 ≤ 25) (hnow : now = stGF s.1) (hK : Kx + 100 ≤ 400) (hN : zN h ≤ 26000) (hm : 20000 ≤ mc ∧ 160000 ≤ ms)
    (kk : ∀ h' mc' ms' sx', OB 400 0 395 sx' h' → OB Ky bY 395 sy h' → sx'.2.2.2.1 = some s.1 → zN h' ≤ 36000 → mc ≤ mc' + 9000 → ms ≤ ms' + 60000 → Ev X (jm jdL_law) 17 mc' ms' Q 373 [some (.ref (BIG + 300)), some (.ref 0), some (.ref bY), some (.int now), some (.int (nI n)), none, none, none, none] [] h') :
    Ev X (jm jdL_law) 17 mc ms Q 208 [some (.ref (BIG + 300)), some (.ref 0), some (.ref bY), some (.int now), some (.int (nI n)), none, none, none, none] [] h := by
  have R : rnG ((jshb.getD 10 []).foldl appS sx) = (0, 2, xf sx 10 0) := rn_fl e3 T10_rd.1 (run_T10 (by rw [e1]; exact W) (by rw [e1]; omega))
  refine law_6 hX hM bY4 ox oy e3 (by rw [e1, hnow]) R (by omega) (by omega) ⟨by omega, by omega⟩ (fun h2 mc2 ms2 ox2 oy2 n2 m2 k2 => ?_)
  replace m2 : mc ≤ mc2 + 3000 := by omega
  replace k2 : ms ≤ ms2 + 20000 := by omega
  refine law_7a hX hM bY4 ox2 oy2 rfl (by omega) (by omega) ⟨by omega, by omega⟩ (fun h3 mc3 ms3 s3 ox3 oy3 x3 n3 m3 k3 => ?_)
  replace m3 : mc2 ≤ mc3 + 800 := by omega
  replace k3 : ms2 ≤ ms3 + 4800 := by omega
  refine law_7b hX hM bY4 ox3 oy3 x3.2.2.1 (by omega) (by omega) ⟨by omega, by omega⟩ (fun h4 mc4 ms4 s4 ox4 oy4 x4 n4 m4 k4 => ?_)
  replace m4 : mc3 ≤ mc4 + 800 := by omega
  replace k4 : ms3 ≤ ms4 + 4800 := by omega
  refine law_7c hX hM bY4 ox4 oy4 x4.2.2.1 (by omega) (by omega) ⟨by omega, by omega⟩ (fun h5 mc5 ms5 s5 ox5 oy5 x5 n5 m5 k5 => ?_)
  replace m5 : mc4 ≤ mc5 + 600 := by omega
  replace k5 : ms4 ≤ ms5 + 3600 := by omega
  have xx := (x3.tr x4).tr x5
  refine law_7d hX hM bY4 ox5 oy5 xx.2.2.2 (by rw [xx.1]; show stGF sx.1 = now; rw [e1, hnow]) (by omega) ⟨by omega, by omega⟩ (fun h6 mc6 ms6 ox6 oy6 n6 m6 k6 => ?_)
  replace m6 : mc5 ≤ mc6 + 3000 := by omega
  replace k6 : ms5 ≤ ms6 + 20000 := by omega
  exact kk h6 mc6 ms6 s5 (ox6.mono (by omega) (by decide)) oy6 (xx.2.1.trans e2) (by omega) (by omega) (by omega)
set_option maxRecDepth 100000 in
/-- the first text against the calls, for fewer than seven tracks -/
theorem law_C (hX : JXok X) (hM : jM X ≤ 396) (bY4 : 396 ≤ bY) (h7 : n < 7) (ox : OB 120 0 395 (svS s) h) (oy : OB 120 bY 395 s h) (hqq : s.2.2.2.2.1 = 0) (W : WG 120 s.1) (upc : cano s.1) (d8 : s.2.2.1 ≤ 8) (hn : n = s.1 0) (hnow : now = stGF s.1) (hN : zN h ≤ 6000) (hm : 40000 ≤ mc ∧ 300000 ≤ ms)
    (kk : ∀ h' mc' ms' sx' sy', OB 136 0 395 sx' h' → OB 123 bY 395 sy' h' → sx'.1 = s.1 → sx'.2.2.2.1 = some s.1 → sx'.2.2.2.2.1 = 0 → zN h' ≤ 26000 → mc ≤ mc' + 20000 → ms ≤ ms' + 150000 → Ev X (jm jdL_law) 17 mc' ms' Q 208 [some (.ref (BIG + 300)), some (.ref 0), some (.ref bY), some (.int now), some (.int (nI n)), none, none, none, none] [] h') :
    Ev X (jm jdL_law) 17 mc ms Q 25 [some (.ref (BIG + 300)), some (.ref 0), some (.ref bY), some (.int now), some (.int (nI n)), none, none, none, none] [] h := by
  refine law_2 hX hM bY4 h7 ox oy hqq (by omega) ⟨by omega, by omega⟩ (fun h2 mc2 ms2 ox2 oy2 n2 m2 k2 => ?_)
  replace m2 : mc ≤ mc2 + 400 := by omega
  replace k2 : ms ≤ ms2 + 4000 := by omega
  have R : rnG ((T1 n).foldl appS (svS s)) = (3, 0, xr (svS s) n) := rn_T1 hqq W hn.symm h7
  refine law_3a hX hM bY4 h7 ox2 oy2 R hn.symm ⟨by omega, by omega⟩ (by omega) ⟨by omega, by omega⟩ (fun h3 mc3 ms3 ox3 oy3 n3 m3 k3 => ?_)
  replace m3 : mc2 ≤ mc3 + 12 := by omega
  replace k3 : ms2 ≤ ms3 + 72 := by omega
  refine law_3b hX hM bY4 h7 ox3 oy3 W upc hn.symm (by rw [(y3_ok W upc hn.symm h7).2.2]; rfl) (by omega) (by omega) ⟨by omega, by omega⟩ (fun h4 mc4 ms4 ox4 oy4 n4 m4 k4 => ?_)
  replace m4 : mc3 ≤ mc4 + 5000 := by omega
  replace k4 : ms3 ≤ ms4 + 32000 := by omega
  obtain ⟨py, py3, py8⟩ := y3_pop W upc hn.symm h7 d8
  have px : (xr (svS s) n).2.1 ((xr (svS s) n).2.2.1 - 1) = s.1 := pop_1 d8
  obtain ⟨t3, ht3⟩ : ∃ t, t = y3 s n := ⟨_, rfl⟩
  rw [← ht3] at py py3 py8 oy4
  obtain ⟨tx, htx⟩ : ∃ t, t = xr (svS s) n := ⟨_, rfl⟩
  have tx1 : 1 ≤ tx.2.2.1 ∧ tx.2.2.1 ≤ 8 := by
    rw [htx]
    exact ⟨by show 1 ≤ min 8 (s.2.2.1 + 1); omega, by show min 8 (s.2.2.1 + 1) ≤ 8; omega⟩
  have tx2 : tx.2.2.2.1 = some s.1 ∧ tx.2.2.2.2.1 = 0 := by
    rw [htx]
    exact ⟨rfl, rfl⟩
  rw [← htx] at px ox4
  refine law_4 hX hM bY4 ox4 oy4 tx1 (by rw [px, hnow]) ⟨py3, py8⟩ (by rw [py, hnow]) (by omega) ⟨by omega, by omega⟩ (fun h5 mc5 ms5 ox5 oy5 n5 m5 k5 => ?_)
  replace m5 : mc4 ≤ mc5 + 6000 := by omega
  replace k5 : ms4 ≤ ms5 + 40000 := by omega
  have g5 : (ub tx).1 = s.1 := px
  have R5 : rnG ((jshb.getD 9 []).foldl appS (ub tx)) = (0, 2, xf (ub tx) 9 1) := rn_fl tx2.2 T9_rd.1 (run_T9 (by rw [g5]; omega))
  refine law_5 hX hM bY4 ox5 oy5 tx2.2 (by rw [g5, hnow]) R5 (by omega) (by omega) ⟨by omega, by omega⟩ (fun h6 mc6 ms6 ox6 oy6 n6 m6 k6 => ?_)
  replace m6 : mc5 ≤ mc6 + 3000 := by omega
  replace k6 : ms5 ≤ ms6 + 20000 := by omega
  exact kk h6 mc6 ms6 _ _ ox6 oy6 g5 tx2.1 rfl (by omega) (by omega) (by omega)
set_option maxRecDepth 100000 in
/-- the first half of the law: from its start to where z is made -/
theorem law_A {h0 : MH} (hX : JXok X) (hM : jM X ≤ 396) (hs : jSn X < 2 ^ 31) (hN : zN h0 = 0) (hz : Z0 (zN h0) (zI h0) (zL h0) (zD h0)) (hm : 60000 ≤ mc ∧ 600000 ≤ ms)
    (kk : ∀ h bY now n mc' ms' sx sy, 396 ≤ bY → OB 400 0 395 sx h → OB 123 bY 395 sy h → sx.2.2.2.1 = some (bG (scA X)).1 → now = stGF (bG (scA X)).1 → zN h ≤ 36000 → mc ≤ mc' + 40000 → ms ≤ ms' + 260000 → Ev X (jm jdL_law) 17 mc' ms' Q 373 [some (.ref (BIG + 300)), some (.ref 0), some (.ref bY), some (.int now), some (.int (nI n)), none, none, none, none] [] h) :
    Ev X (jm jdL_law) 17 mc ms Q 0 [some (.ref (BIG + 300)), none, none, none, none, none, none, none, none] [] h0 := by
  refine law_1 hX hM hs hN hz ⟨by omega, by omega⟩ (fun h1 bY mc1 ms1 bY4 ox oy n1 m1 k1 => ?_)
  replace m1 : mc ≤ mc1 + 6000 := by omega
  replace k1 : ms ≤ ms1 + 40000 := by omega
  obtain ⟨s, hs0⟩ : ∃ s, s = bG (scA X) := ⟨_, rfl⟩
  have hqq : s.2.2.2.2.1 = 0 := by rw [hs0]; exact st_qq (scA X)
  obtain ⟨up0, up2, upc⟩ := bG_up (scA X)
  rw [← hs0] at ox oy kk up0 up2 upc ⊢
  have W := oy.wg.2
  have d8 := oy.d8.1
  obtain ⟨now, hnow⟩ : ∃ x, x = stGF s.1 := ⟨_, rfl⟩
  obtain ⟨n, hn⟩ : ∃ x, x = s.1 0 := ⟨_, rfl⟩
  rw [← hnow, ← hn]
  by_cases h7 : n < 7
  · refine law_C hX hM bY4 h7 ox oy hqq W upc d8 hn hnow n1 ⟨by omega, by omega⟩ (fun h2 mc2 ms2 sx2 sy2 ox2 oy2 a1 a2 a3 n2 m2 k2 => ?_)
    refine law_B hX hM bY4 ox2 oy2 a1 a2 a3 W up2 hnow (by omega) n2 ⟨by omega, by omega⟩ (fun h3 mc3 ms3 sx3 ox3 oy3 a4 n3 m3 k3 => ?_)
    exact kk h3 bY now n mc3 ms3 sx3 sy2 bY4 ox3 oy3 a4 hnow n3 (by omega) (by omega)
  · have b8 : n ≤ 8 := by omega
    refine Ev.sg hX (sL_law_23.sub 1 2) (pc' := 29) (ls' := [some (.ref (BIG + 300)), some (.ref 0), some (.ref bY), some (.int now), some (.int (nI n)), none, none, none, none]) (st' := [.int 7, .int (nI n)]) (h' := h1) rfl ?_
    refine Ev.icmp_ge (tgt := 208) dL_law_29 (by decide) (fun _ => ?_) (fun b1 => absurd ((nI_leI (a := 7) (b := n) (by omega) (by omega)).mpr (by omega)) b1)
    refine law_B hX hM bY4 ox oy rfl rfl hqq W up2 hnow (by omega) (by omega) ⟨by omega, by omega⟩ (fun h3 mc3 ms3 sx3 ox3 oy3 a4 n3 m3 k3 => ?_)
    exact kk h3 bY now n mc3 ms3 sx3 s bY4 ox3 (oy3.mono (by omega) (by decide)) a4 hnow n3 (by omega) (by omega)
end LW3
