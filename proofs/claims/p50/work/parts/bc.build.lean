/-! the law's build: a fold of commands over the script -/
/-- cells made; those before stay -/
def NEWC (n : Nat) (h h' : MH) : Prop := zN h ≤ zN h' ∧ zN h' ≤ zN h + n ∧ ∀ a, a < zN h → zS h' a = zS h a ∧ zI h' a = zI h a ∧ zL h' a = zL h a ∧ zD h' a = zD h a
/-- the script -/
def scA (X : JX) (k : Nat) : Int32 := if k < jSn X then jSf X k else 0
def bA1 (z k : Int32) : Int32 := 30 + ((z >>> ((2 + 3 * k) &&& 31)) &&& 127)
def bA2 (z k : Int32) : Int32 := rmI ((z >>> ((5 + k) &&& 31)) &&& 7) 6
def bA3 (z k : Int32) : Int32 := rmI ((z >>> ((9 + k) &&& 31)) &&& 7) k
def bF1 (z : Int32) (k : Nat) (s : GS) : GS := if nI k ≤ 0 then cmG s (bA1 z (nI k)) (bA2 z (nI k)) 0 0 0 0 else cmG (cmG s (bA1 z (nI k)) (bA2 z (nI k)) 0 0 0 0) (bA3 z (nI k)) (nI k) 0 0 0 1
def bC1 (c t : Int32) (s : GS) : GS := cmG s t (5 + ((c >>> ((3 : Int32) &&& 31)) &&& 15)) (10 + ((c >>> ((7 : Int32) &&& 31)) &&& 63)) (((c >>> ((13 : Int32) &&& 31)) &&& 3) + ((c >>> ((15 : Int32) &&& 31)) &&& 1) * 3) (if (c >>> ((16 : Int32) &&& 31)) &&& 3 = 0 then 1 else 0) 3
def bC2 (c t n : Int32) (s : GS) : GS := cmG s (rmI (t + 1) n) (5 + ((c >>> ((5 : Int32) &&& 31)) &&& 15)) (10 + ((c >>> ((9 : Int32) &&& 31)) &&& 63)) ((c >>> ((12 : Int32) &&& 31)) &&& 3) (if (c >>> ((17 : Int32) &&& 31)) &&& 3 = 0 then 1 else 0) 3
def bC3 (c t n : Int32) (s : GS) : GS := if (c >>> ((18 : Int32) &&& 31)) &&& 1 = 0 then cmG s t (rmI ((c >>> ((19 : Int32) &&& 31)) &&& 7) n) (1 + ((c >>> ((22 : Int32) &&& 31)) &&& 3)) 0 0 4 else s
def bC4 (c t n : Int32) (s : GS) : GS := if (c >>> ((24 : Int32) &&& 31)) &&& 3 = 0 then cmG s t (rmI ((c >>> ((26 : Int32) &&& 31)) &&& 7) n) 0 0 0 1 else s
def bC5 (c t n : Int32) (s : GS) : GS := if (c >>> ((24 : Int32) &&& 31)) &&& 7 = 1 then cmG s t (rmI ((c >>> ((27 : Int32) &&& 31)) &&& 7) n) 0 0 0 2 else s
def bC6 (c _t _n : Int32) (s : GS) : GS := if (c >>> ((24 : Int32) &&& 31)) &&& 3 = 2 then cmG s (1 + ((c >>> ((26 : Int32) &&& 31)) &&& 31)) 0 0 0 0 5 else s
def bC7 (c _t n : Int32) (s : GS) : GS := if (c >>> ((24 : Int32) &&& 31)) &&& 7 = 3 then cmG s (rmI ((c >>> ((27 : Int32) &&& 31)) &&& 7) n) ((c >>> ((12 : Int32) &&& 31)) &&& 3) 0 0 0 6 else s
def bC8 (c _t _n : Int32) (s : GS) : GS := if (c >>> ((21 : Int32) &&& 31)) &&& 15 = 5 then cmG s (20 + (c &&& 63)) (c &&& 3) 0 0 0 0 else s
def bF2 (c : Int32) (s : GS) : GS :=
  bC8 c (rmI (c &&& 7) (nI (s.1 0))) (nI (s.1 0)) (bC7 c (rmI (c &&& 7) (nI (s.1 0))) (nI (s.1 0)) (bC6 c (rmI (c &&& 7) (nI (s.1 0))) (nI (s.1 0)) (bC5 c (rmI (c &&& 7) (nI (s.1 0))) (nI (s.1 0)) (bC4 c (rmI (c &&& 7) (nI (s.1 0))) (nI (s.1 0)) (bC3 c (rmI (c &&& 7) (nI (s.1 0))) (nI (s.1 0)) (bC2 c (rmI (c &&& 7) (nI (s.1 0))) (nI (s.1 0)) (bC1 c (rmI (c &&& 7) (nI (s.1 0))) s)))))))
def bG1 (A : Nat → Int32) : GS := fo (fun k s => bF1 (A 0) k s) (3 + (A 0 &&& 3).toNatClampNeg) 0 st_s
/-- the yard that the script makes -/
def bG (A : Nat → Int32) : GS := fo (fun k s => bF2 (A k) s) 12 1 (bG1 A)
section BLD
variable {X : JX} {mc ms : Nat} {Q : JR → Prop} {K b v : Nat} {s : GS} {h : MH}
theorem OB.mono {K' : Nat} (ho : OB K b v s h) (hK : K ≤ K') (h5 : K' ≤ 5000) : OB K' b v s h := by
  obtain ⟨h1, T, e, c⟩ := ho
  exact ⟨h1, T, e, CP.mono c hK h5⟩
theorem ovl_no {S : Nat → Option JS} : ovl S b [] = S := by
  funext k
  unfold ovl
  rw [if_neg (by rw [List.length_nil]; omega)]
theorem OB.g8 (ho : OB K b v s h) : s.1 0 ≤ 8 := ho.wg.2.1.1

theorem w_b3 {z k c n t : Int32} (hX : JXok X) (hM : jM X ≤ 396) (hb : b = 0 ∨ 396 ≤ b) (ho : OB K b 395 s h) (hB : zN h + 1 < BIG) (hK1 : K + 1 ≤ 5000) (hn : ¬ n = 0) (hm : 4 ≤ mc ∧ 24 ≤ ms) (kk : ∀ h' mc' ms', STEP b 395 4 h h' → OB (K + 1) b 395 (bC3 c t n s) h' → mc - 4 ≤ mc' → ms - 24 ≤ ms' → Ev X (jm jdL_build) 15 mc' ms' Q 267 [some (.ref (BIG + 300)), some (.ref b), some (.int z), some (.int k), some (.int c), some (.int n), some (.int t)] [] h') : Ev X (jm jdL_build) 15 mc ms Q 229 [some (.ref (BIG + 300)), some (.ref b), some (.int z), some (.int k), some (.int c), some (.int n), some (.int t)] [] h := by
  refine Ev.sg hX (sL_build_228.sub 1 5) (pc' := 236) (ls' := [some (.ref (BIG + 300)), some (.ref b), some (.int z), some (.int k), some (.int c), some (.int n), some (.int t)]) (st' := [.int ((c >>> ((18 : Int32) &&& 31)) &&& 1)]) (h' := h) rfl ?_
  refine Ev.if_ne (tgt := 267) dL_build_236 (by decide) (fun b1 => ?_) (fun b1 => ?_)
  · refine kk h mc ms STEP.rf ?_ (by omega) (by omega)
    unfold bC3
    rw [if_neg b1]
    exact ho.mono (Nat.le_succ K) hK1
  have eb : bC3 c t n s = _ := if_pos b1
  rw [eb] at kk
  refine Ev.sg hX sL_build_239 (pc' := 253) (ls' := [some (.ref (BIG + 300)), some (.ref b), some (.int z), some (.int k), some (.int c), some (.int n), some (.int t)]) (st' := [.int n, .int ((c >>> ((19 : Int32) &&& 31)) &&& 7), .int t, .int 3, .ref b]) (h' := h) rfl ?_
  refine Ev.irem dL_build_253 hn ?_
  refine Ev.sg hX sL_build_254 (pc' := 263) (ls' := [some (.ref (BIG + 300)), some (.ref b), some (.int z), some (.int k), some (.int c), some (.int n), some (.int t)]) (st' := [.int (1 + ((c >>> ((22 : Int32) &&& 31)) &&& 3)), .int (rmI ((c >>> ((19 : Int32) &&& 31)) &&& 7) n), .int t, .int 3, .ref b]) (h' := h) rfl ?_
  refine Ev.callSX (As := [.ref b, .int 3, .int t, .int (rmI ((c >>> ((19 : Int32) &&& 31)) &&& 7) n), .int (1 + ((c >>> ((22 : Int32) &&& 31)) &&& 3))]) (rest := []) dhL_act mkL_30 dL_build_263 (c_act3 hX hM (by omega) hb ho (by omega)) ⟨Nat.le_of_ble_eq_true rfl, by show 6 + 19 + 40 * _ ≤ 40 * _; omega⟩ ⟨by omega, by omega⟩ rfl (Nat.le_of_ble_eq_true rfl) (fun v9 h9 e9 => ?_) (fun E9 h9 e9 => ?_)
  · obtain ⟨h8, st9, ob9, e⟩ := e9
    cases e
    show Ev _ _ _ _ _ _ 266 [some (.ref (BIG + 300)), some (.ref b), some (.int z), some (.int k), some (.int c), some (.int n), some (.int t)] [.int _] h9
    refine Ev.sg hX sL_build_266 (pc' := 267) (ls' := [some (.ref (BIG + 300)), some (.ref b), some (.int z), some (.int k), some (.int c), some (.int n), some (.int t)]) (st' := []) (h' := h9) rfl ?_
    exact kk h9 _ _ st9 ob9 (by omega) (by omega)
  · obtain ⟨h8, st9, ob9, e⟩ := e9
    cases e
theorem w_b4 {z k c n t : Int32} (hX : JXok X) (hM : jM X ≤ 396) (hb : b = 0 ∨ 396 ≤ b) (ho : OB K b 395 s h) (hB : zN h + 1 < BIG) (hK1 : K + 1 ≤ 5000) (hn : ¬ n = 0) (hm : 4 ≤ mc ∧ 24 ≤ ms) (kk : ∀ h' mc' ms', STEP b 395 4 h h' → OB (K + 1) b 395 (bC4 c t n s) h' → mc - 4 ≤ mc' → ms - 24 ≤ ms' → Ev X (jm jdL_build) 15 mc' ms' Q 297 [some (.ref (BIG + 300)), some (.ref b), some (.int z), some (.int k), some (.int c), some (.int n), some (.int t)] [] h') : Ev X (jm jdL_build) 15 mc ms Q 267 [some (.ref (BIG + 300)), some (.ref b), some (.int z), some (.int k), some (.int c), some (.int n), some (.int t)] [] h := by
  refine Ev.sg hX sL_build_267 (pc' := 274) (ls' := [some (.ref (BIG + 300)), some (.ref b), some (.int z), some (.int k), some (.int c), some (.int n), some (.int t)]) (st' := [.int ((c >>> ((24 : Int32) &&& 31)) &&& 3)]) (h' := h) rfl ?_
  refine Ev.if_ne (tgt := 297) dL_build_274 (by decide) (fun b1 => ?_) (fun b1 => ?_)
  · refine kk h mc ms STEP.rf ?_ (by omega) (by omega)
    unfold bC4
    rw [if_neg b1]
    exact ho.mono (Nat.le_succ K) hK1
  have eb : bC4 c t n s = _ := if_pos b1
  rw [eb] at kk
  refine Ev.sg hX sL_build_277 (pc' := 291) (ls' := [some (.ref (BIG + 300)), some (.ref b), some (.int z), some (.int k), some (.int c), some (.int n), some (.int t)]) (st' := [.int n, .int ((c >>> ((26 : Int32) &&& 31)) &&& 7), .int t, .int 1, .ref b]) (h' := h) rfl ?_
  refine Ev.irem dL_build_291 hn ?_
  refine Ev.sg hX sL_build_292 (pc' := 293) (ls' := [some (.ref (BIG + 300)), some (.ref b), some (.int z), some (.int k), some (.int c), some (.int n), some (.int t)]) (st' := [.int 0, .int (rmI ((c >>> ((26 : Int32) &&& 31)) &&& 7) n), .int t, .int 1, .ref b]) (h' := h) rfl ?_
  refine Ev.callSX (As := [.ref b, .int 1, .int t, .int (rmI ((c >>> ((26 : Int32) &&& 31)) &&& 7) n), .int 0]) (rest := []) dhL_act mkL_30 dL_build_293 (c_act1 hX hM (by omega) hb ho (by omega)) ⟨Nat.le_of_ble_eq_true rfl, by show 6 + 19 + 40 * _ ≤ 40 * _; omega⟩ ⟨by omega, by omega⟩ rfl (Nat.le_of_ble_eq_true rfl) (fun v9 h9 e9 => ?_) (fun E9 h9 e9 => ?_)
  · obtain ⟨h8, st9, ob9, e⟩ := e9
    cases e
    show Ev _ _ _ _ _ _ 296 [some (.ref (BIG + 300)), some (.ref b), some (.int z), some (.int k), some (.int c), some (.int n), some (.int t)] [.int _] h9
    refine Ev.sg hX sL_build_296 (pc' := 297) (ls' := [some (.ref (BIG + 300)), some (.ref b), some (.int z), some (.int k), some (.int c), some (.int n), some (.int t)]) (st' := []) (h' := h9) rfl ?_
    exact kk h9 _ _ st9 ob9 (by omega) (by omega)
  · obtain ⟨h8, st9, ob9, e⟩ := e9
    cases e
theorem w_b5 {z k c n t : Int32} (hX : JXok X) (hM : jM X ≤ 396) (hb : b = 0 ∨ 396 ≤ b) (ho : OB K b 395 s h) (hB : zN h + 1 < BIG) (hK1 : K + 1 ≤ 5000) (hn : ¬ n = 0) (hm : 4 ≤ mc ∧ 24 ≤ ms) (kk : ∀ h' mc' ms', STEP b 395 4 h h' → OB (K + 1) b 395 (bC5 c t n s) h' → mc - 4 ≤ mc' → ms - 24 ≤ ms' → Ev X (jm jdL_build) 15 mc' ms' Q 329 [some (.ref (BIG + 300)), some (.ref b), some (.int z), some (.int k), some (.int c), some (.int n), some (.int t)] [] h') : Ev X (jm jdL_build) 15 mc ms Q 297 [some (.ref (BIG + 300)), some (.ref b), some (.int z), some (.int k), some (.int c), some (.int n), some (.int t)] [] h := by
  refine Ev.sg hX sL_build_297 (pc' := 306) (ls' := [some (.ref (BIG + 300)), some (.ref b), some (.int z), some (.int k), some (.int c), some (.int n), some (.int t)]) (st' := [.int 1, .int ((c >>> ((24 : Int32) &&& 31)) &&& 7)]) (h' := h) rfl ?_
  refine Ev.icmp_ne (tgt := 329) dL_build_306 (by decide) (fun b1 => ?_) (fun b1 => ?_)
  · refine kk h mc ms STEP.rf ?_ (by omega) (by omega)
    unfold bC5
    rw [if_neg b1]
    exact ho.mono (Nat.le_succ K) hK1
  have eb : bC5 c t n s = _ := if_pos b1
  rw [eb] at kk
  refine Ev.sg hX sL_build_309 (pc' := 323) (ls' := [some (.ref (BIG + 300)), some (.ref b), some (.int z), some (.int k), some (.int c), some (.int n), some (.int t)]) (st' := [.int n, .int ((c >>> ((27 : Int32) &&& 31)) &&& 7), .int t, .int 2, .ref b]) (h' := h) rfl ?_
  refine Ev.irem dL_build_323 hn ?_
  refine Ev.sg hX sL_build_324 (pc' := 325) (ls' := [some (.ref (BIG + 300)), some (.ref b), some (.int z), some (.int k), some (.int c), some (.int n), some (.int t)]) (st' := [.int 0, .int (rmI ((c >>> ((27 : Int32) &&& 31)) &&& 7) n), .int t, .int 2, .ref b]) (h' := h) rfl ?_
  refine Ev.callSX (As := [.ref b, .int 2, .int t, .int (rmI ((c >>> ((27 : Int32) &&& 31)) &&& 7) n), .int 0]) (rest := []) dhL_act mkL_30 dL_build_325 (c_act2 hX hM (by omega) hb ho (by omega)) ⟨Nat.le_of_ble_eq_true rfl, by show 6 + 19 + 40 * _ ≤ 40 * _; omega⟩ ⟨by omega, by omega⟩ rfl (Nat.le_of_ble_eq_true rfl) (fun v9 h9 e9 => ?_) (fun E9 h9 e9 => ?_)
  · obtain ⟨h8, st9, ob9, e⟩ := e9
    cases e
    show Ev _ _ _ _ _ _ 328 [some (.ref (BIG + 300)), some (.ref b), some (.int z), some (.int k), some (.int c), some (.int n), some (.int t)] [.int _] h9
    refine Ev.sg hX sL_build_328 (pc' := 329) (ls' := [some (.ref (BIG + 300)), some (.ref b), some (.int z), some (.int k), some (.int c), some (.int n), some (.int t)]) (st' := []) (h' := h9) rfl ?_
    exact kk h9 _ _ st9 ob9 (by omega) (by omega)
  · obtain ⟨h8, st9, ob9, e⟩ := e9
    cases e
theorem w_b6 {z k c n t : Int32} (hX : JXok X) (hM : jM X ≤ 396) (hb : b = 0 ∨ 396 ≤ b) (ho : OB K b 395 s h) (hB : zN h + 1 < BIG) (hK1 : K + 1 ≤ 5000) (hn : ¬ n = 0) (hm : 4 ≤ mc ∧ 24 ≤ ms) (kk : ∀ h' mc' ms', STEP b 395 4 h h' → OB (K + 1) b 395 (bC6 c t n s) h' → mc - 4 ≤ mc' → ms - 24 ≤ ms' → Ev X (jm jdL_build) 15 mc' ms' Q 358 [some (.ref (BIG + 300)), some (.ref b), some (.int z), some (.int k), some (.int c), some (.int n), some (.int t)] [] h') : Ev X (jm jdL_build) 15 mc ms Q 329 [some (.ref (BIG + 300)), some (.ref b), some (.int z), some (.int k), some (.int c), some (.int n), some (.int t)] [] h := by
  refine Ev.sg hX sL_build_329 (pc' := 337) (ls' := [some (.ref (BIG + 300)), some (.ref b), some (.int z), some (.int k), some (.int c), some (.int n), some (.int t)]) (st' := [.int 2, .int ((c >>> ((24 : Int32) &&& 31)) &&& 3)]) (h' := h) rfl ?_
  refine Ev.icmp_ne (tgt := 358) dL_build_337 (by decide) (fun b1 => ?_) (fun b1 => ?_)
  · refine kk h mc ms STEP.rf ?_ (by omega) (by omega)
    unfold bC6
    rw [if_neg b1]
    exact ho.mono (Nat.le_succ K) hK1
  have eb : bC6 c t n s = _ := if_pos b1
  rw [eb] at kk
  refine Ev.sg hX sL_build_340 (pc' := 354) (ls' := [some (.ref (BIG + 300)), some (.ref b), some (.int z), some (.int k), some (.int c), some (.int n), some (.int t)]) (st' := [.int 0, .int 0, .int (1 + ((c >>> ((26 : Int32) &&& 31)) &&& 31)), .int 4, .ref b]) (h' := h) rfl ?_
  refine Ev.callSX (As := [.ref b, .int 4, .int (1 + ((c >>> ((26 : Int32) &&& 31)) &&& 31)), .int 0, .int 0]) (rest := []) dhL_act mkL_30 dL_build_354 (c_act4 hX hM (by omega) hb ho (by omega)) ⟨Nat.le_of_ble_eq_true rfl, by show 6 + 19 + 40 * _ ≤ 40 * _; omega⟩ ⟨by omega, by omega⟩ rfl (Nat.le_of_ble_eq_true rfl) (fun v9 h9 e9 => ?_) (fun E9 h9 e9 => ?_)
  · obtain ⟨h8, st9, ob9, e⟩ := e9
    cases e
    show Ev _ _ _ _ _ _ 357 [some (.ref (BIG + 300)), some (.ref b), some (.int z), some (.int k), some (.int c), some (.int n), some (.int t)] [.int _] h9
    refine Ev.sg hX sL_build_357 (pc' := 358) (ls' := [some (.ref (BIG + 300)), some (.ref b), some (.int z), some (.int k), some (.int c), some (.int n), some (.int t)]) (st' := []) (h' := h9) rfl ?_
    exact kk h9 _ _ st9 ob9 (by omega) (by omega)
  · obtain ⟨h8, st9, ob9, e⟩ := e9
    cases e
theorem w_b7 {z k c n t : Int32} (hX : JXok X) (hM : jM X ≤ 396) (hb : b = 0 ∨ 396 ≤ b) (ho : OB K b 395 s h) (hB : zN h + 1 < BIG) (hK1 : K + 1 ≤ 5000) (hn : ¬ n = 0) (hm : 4 ≤ mc ∧ 24 ≤ ms) (kk : ∀ h' mc' ms', STEP b 395 4 h h' → OB (K + 1) b 395 (bC7 c t n s) h' → mc - 4 ≤ mc' → ms - 24 ≤ ms' → Ev X (jm jdL_build) 15 mc' ms' Q 395 [some (.ref (BIG + 300)), some (.ref b), some (.int z), some (.int k), some (.int c), some (.int n), some (.int t)] [] h') : Ev X (jm jdL_build) 15 mc ms Q 358 [some (.ref (BIG + 300)), some (.ref b), some (.int z), some (.int k), some (.int c), some (.int n), some (.int t)] [] h := by
  refine Ev.sg hX sL_build_358 (pc' := 367) (ls' := [some (.ref (BIG + 300)), some (.ref b), some (.int z), some (.int k), some (.int c), some (.int n), some (.int t)]) (st' := [.int 3, .int ((c >>> ((24 : Int32) &&& 31)) &&& 7)]) (h' := h) rfl ?_
  refine Ev.icmp_ne (tgt := 395) dL_build_367 (by decide) (fun b1 => ?_) (fun b1 => ?_)
  · refine kk h mc ms STEP.rf ?_ (by omega) (by omega)
    unfold bC7
    rw [if_neg b1]
    exact ho.mono (Nat.le_succ K) hK1
  have eb : bC7 c t n s = _ := if_pos b1
  rw [eb] at kk
  refine Ev.sg hX sL_build_370 (pc' := 382) (ls' := [some (.ref (BIG + 300)), some (.ref b), some (.int z), some (.int k), some (.int c), some (.int n), some (.int t)]) (st' := [.int n, .int ((c >>> ((27 : Int32) &&& 31)) &&& 7), .int 5, .ref b]) (h' := h) rfl ?_
  refine Ev.irem dL_build_382 hn ?_
  refine Ev.sg hX sL_build_383 (pc' := 391) (ls' := [some (.ref (BIG + 300)), some (.ref b), some (.int z), some (.int k), some (.int c), some (.int n), some (.int t)]) (st' := [.int 0, .int ((c >>> ((12 : Int32) &&& 31)) &&& 3), .int (rmI ((c >>> ((27 : Int32) &&& 31)) &&& 7) n), .int 5, .ref b]) (h' := h) rfl ?_
  refine Ev.callSX (As := [.ref b, .int 5, .int (rmI ((c >>> ((27 : Int32) &&& 31)) &&& 7) n), .int ((c >>> ((12 : Int32) &&& 31)) &&& 3), .int 0]) (rest := []) dhL_act mkL_30 dL_build_391 (c_act5 hX hM (by omega) hb ho (by omega)) ⟨Nat.le_of_ble_eq_true rfl, by show 6 + 19 + 40 * _ ≤ 40 * _; omega⟩ ⟨by omega, by omega⟩ rfl (Nat.le_of_ble_eq_true rfl) (fun v9 h9 e9 => ?_) (fun E9 h9 e9 => ?_)
  · obtain ⟨h8, st9, ob9, e⟩ := e9
    cases e
    show Ev _ _ _ _ _ _ 394 [some (.ref (BIG + 300)), some (.ref b), some (.int z), some (.int k), some (.int c), some (.int n), some (.int t)] [.int _] h9
    refine Ev.sg hX sL_build_394 (pc' := 395) (ls' := [some (.ref (BIG + 300)), some (.ref b), some (.int z), some (.int k), some (.int c), some (.int n), some (.int t)]) (st' := []) (h' := h9) rfl ?_
    exact kk h9 _ _ st9 ob9 (by omega) (by omega)
  · obtain ⟨h8, st9, ob9, e⟩ := e9
    cases e
theorem w_b8 {z k c n t : Int32} (hX : JXok X) (hM : jM X ≤ 396) (hb : b = 0 ∨ 396 ≤ b) (ho : OB K b 395 s h) (hB : zN h + 1 < BIG) (hK1 : K + 1 ≤ 5000) (hn : ¬ n = 0) (hm : 4 ≤ mc ∧ 24 ≤ ms) (kk : ∀ h' mc' ms', STEP b 395 4 h h' → OB (K + 1) b 395 (bC8 c t n s) h' → mc - 4 ≤ mc' → ms - 24 ≤ ms' → Ev X (jm jdL_build) 15 mc' ms' Q 426 [some (.ref (BIG + 300)), some (.ref b), some (.int z), some (.int k), some (.int c), some (.int n), some (.int t)] [] h') : Ev X (jm jdL_build) 15 mc ms Q 395 [some (.ref (BIG + 300)), some (.ref b), some (.int z), some (.int k), some (.int c), some (.int n), some (.int t)] [] h := by
  refine Ev.sg hX sL_build_395 (pc' := 404) (ls' := [some (.ref (BIG + 300)), some (.ref b), some (.int z), some (.int k), some (.int c), some (.int n), some (.int t)]) (st' := [.int 5, .int ((c >>> ((21 : Int32) &&& 31)) &&& 15)]) (h' := h) rfl ?_
  refine Ev.icmp_ne (tgt := 426) dL_build_404 (by decide) (fun b1 => ?_) (fun b1 => ?_)
  · refine kk h mc ms STEP.rf ?_ (by omega) (by omega)
    unfold bC8
    rw [if_neg b1]
    exact ho.mono (Nat.le_succ K) hK1
  have eb : bC8 c t n s = _ := if_pos b1
  rw [eb] at kk
  refine Ev.sg hX sL_build_407 (pc' := 422) (ls' := [some (.ref (BIG + 300)), some (.ref b), some (.int z), some (.int k), some (.int c), some (.int n), some (.int t)]) (st' := [.int 0, .int (c &&& 3), .int (20 + (c &&& 63)), .int 0, .ref b]) (h' := h) rfl ?_
  refine Ev.callSX (As := [.ref b, .int 0, .int (20 + (c &&& 63)), .int (c &&& 3), .int 0]) (rest := []) dhL_act mkL_30 dL_build_422 (c_act0 hX hM (by omega) hb ho (by omega)) ⟨Nat.le_of_ble_eq_true rfl, by show 6 + 19 + 40 * _ ≤ 40 * _; omega⟩ ⟨by omega, by omega⟩ rfl (Nat.le_of_ble_eq_true rfl) (fun v9 h9 e9 => ?_) (fun E9 h9 e9 => ?_)
  · obtain ⟨h8, st9, ob9, e⟩ := e9
    cases e
    show Ev _ _ _ _ _ _ 425 [some (.ref (BIG + 300)), some (.ref b), some (.int z), some (.int k), some (.int c), some (.int n), some (.int t)] [.int _] h9
    refine Ev.sg hX sL_build_425 (pc' := 426) (ls' := [some (.ref (BIG + 300)), some (.ref b), some (.int z), some (.int k), some (.int c), some (.int n), some (.int t)]) (st' := []) (h' := h9) rfl ?_
    exact kk h9 _ _ st9 ob9 (by omega) (by omega)
  · obtain ⟨h8, st9, ob9, e⟩ := e9
    cases e
theorem w_b1 {z k c n t : Int32} (hX : JXok X) (hM : jM X ≤ 396) (hb : b = 0 ∨ 396 ≤ b) (ho : OB K b 395 s h) (hB : zN h + 1 < BIG) (hK1 : K + 1 ≤ 5000) (hn : ¬ n = 0) (hm : 4 ≤ mc ∧ 24 ≤ ms) (kk : ∀ h' mc' ms', STEP b 395 4 h h' → OB (K + 1) b 395 (bC1 c t s) h' → mc - 4 ≤ mc' → ms - 24 ≤ ms' → Ev X (jm jdL_build) 15 mc' ms' Q 175 [some (.ref (BIG + 300)), some (.ref b), some (.int z), some (.int k), some (.int c), some (.int n), some (.int t)] [] h') : Ev X (jm jdL_build) 15 mc ms Q 116 [some (.ref (BIG + 300)), some (.ref b), some (.int z), some (.int k), some (.int c), some (.int n), some (.int t)] [] h := by
  refine Ev.sg hX (sL_build_114.sub 1 99) (pc' := 163) (ls' := [some (.ref (BIG + 300)), some (.ref b), some (.int z), some (.int k), some (.int c), some (.int n), some (.int t)]) (st' := [.int ((c >>> ((16 : Int32) &&& 31)) &&& 3), .int (((c >>> ((13 : Int32) &&& 31)) &&& 3) + ((c >>> ((15 : Int32) &&& 31)) &&& 1) * 3), .int (10 + ((c >>> ((7 : Int32) &&& 31)) &&& 63)), .int (5 + ((c >>> ((3 : Int32) &&& 31)) &&& 15)), .int t, .ref b]) (h' := h) rfl ?_
  have go : ∀ f : Int32, (f = 0 ∨ f = 1) → f = (if (c >>> ((16 : Int32) &&& 31)) &&& 3 = 0 then 1 else 0) → Ev X (jm jdL_build) 15 mc ms Q 171 [some (.ref (BIG + 300)), some (.ref b), some (.int z), some (.int k), some (.int c), some (.int n), some (.int t)] (.int f :: [.int (((c >>> ((13 : Int32) &&& 31)) &&& 3) + ((c >>> ((15 : Int32) &&& 31)) &&& 1) * 3), .int (10 + ((c >>> ((7 : Int32) &&& 31)) &&& 63)), .int (5 + ((c >>> ((3 : Int32) &&& 31)) &&& 15)), .int (t), .ref b]) h := fun f hf ef => by
    have eb : bC1 c t s = cmG s (t) (5 + ((c >>> ((3 : Int32) &&& 31)) &&& 15)) (10 + ((c >>> ((7 : Int32) &&& 31)) &&& 63)) (((c >>> ((13 : Int32) &&& 31)) &&& 3) + ((c >>> ((15 : Int32) &&& 31)) &&& 1) * 3) f 3 := by rw [ef]; rfl
    rw [eb] at kk
    refine Ev.callSX (As := [.ref b, .int (t), .int (5 + ((c >>> ((3 : Int32) &&& 31)) &&& 15)), .int (10 + ((c >>> ((7 : Int32) &&& 31)) &&& 63)), .int (((c >>> ((13 : Int32) &&& 31)) &&& 3) + ((c >>> ((15 : Int32) &&& 31)) &&& 1) * 3), .int f]) (rest := []) dhL_car mkL_37 dL_build_171 (c_car hX hM (by omega) hb ho (by omega) hf) ⟨Nat.le_of_ble_eq_true rfl, by show 7 + 19 + 40 * _ ≤ 40 * _; omega⟩ ⟨by omega, by omega⟩ rfl (Nat.le_of_ble_eq_true rfl) (fun v9 h9 e9 => ?_) (fun E9 h9 e9 => ?_)
    · obtain ⟨h8, st9, ob9, e⟩ := e9
      cases e
      show Ev _ _ _ _ _ _ 174 [some (.ref (BIG + 300)), some (.ref b), some (.int z), some (.int k), some (.int c), some (.int n), some (.int t)] [.int _] h9
      refine Ev.sg hX (sL_build_174.sub 0 1) (pc' := 175) (ls' := [some (.ref (BIG + 300)), some (.ref b), some (.int z), some (.int k), some (.int c), some (.int n), some (.int t)]) (st' := []) (h' := h9) rfl ?_
      exact kk h9 _ _ st9 ob9 (by omega) (by omega)
    · obtain ⟨h8, st9, ob9, e⟩ := e9
      cases e
  refine Ev.if_ne (tgt := 170) dL_build_163 (by decide) (fun b1 => ?_) (fun b1 => ?_)
  · refine Ev.sg hX sL_build_170 (pc' := 171) (ls' := [some (.ref (BIG + 300)), some (.ref b), some (.int z), some (.int k), some (.int c), some (.int n), some (.int t)]) (st' := .int 0 :: [.int (((c >>> ((13 : Int32) &&& 31)) &&& 3) + ((c >>> ((15 : Int32) &&& 31)) &&& 1) * 3), .int (10 + ((c >>> ((7 : Int32) &&& 31)) &&& 63)), .int (5 + ((c >>> ((3 : Int32) &&& 31)) &&& 15)), .int (t), .ref b]) (h' := h) rfl ?_
    exact go 0 (Or.inl rfl) (by rw [if_neg b1])
  · refine Ev.sg hX sL_build_166 (pc' := 171) (ls' := [some (.ref (BIG + 300)), some (.ref b), some (.int z), some (.int k), some (.int c), some (.int n), some (.int t)]) (st' := .int 1 :: [.int (((c >>> ((13 : Int32) &&& 31)) &&& 3) + ((c >>> ((15 : Int32) &&& 31)) &&& 1) * 3), .int (10 + ((c >>> ((7 : Int32) &&& 31)) &&& 63)), .int (5 + ((c >>> ((3 : Int32) &&& 31)) &&& 15)), .int (t), .ref b]) (h' := h) rfl ?_
    exact go 1 (Or.inr rfl) (by rw [if_pos b1])
theorem w_b2 {z k c n t : Int32} (hX : JXok X) (hM : jM X ≤ 396) (hb : b = 0 ∨ 396 ≤ b) (ho : OB K b 395 s h) (hB : zN h + 1 < BIG) (hK1 : K + 1 ≤ 5000) (hn : ¬ n = 0) (hm : 4 ≤ mc ∧ 24 ≤ ms) (kk : ∀ h' mc' ms', STEP b 395 4 h h' → OB (K + 1) b 395 (bC2 c t n s) h' → mc - 4 ≤ mc' → ms - 24 ≤ ms' → Ev X (jm jdL_build) 15 mc' ms' Q 229 [some (.ref (BIG + 300)), some (.ref b), some (.int z), some (.int k), some (.int c), some (.int n), some (.int t)] [] h') : Ev X (jm jdL_build) 15 mc ms Q 175 [some (.ref (BIG + 300)), some (.ref b), some (.int z), some (.int k), some (.int c), some (.int n), some (.int t)] [] h := by
  refine Ev.sg hX (sL_build_174.sub 1 99) (pc' := 182) (ls' := [some (.ref (BIG + 300)), some (.ref b), some (.int z), some (.int k), some (.int c), some (.int n), some (.int t)]) (st' := [.int n, .int (t + 1), .ref b]) (h' := h) rfl ?_
  refine Ev.irem dL_build_182 hn ?_
  refine Ev.sg hX sL_build_183 (pc' := 217) (ls' := [some (.ref (BIG + 300)), some (.ref b), some (.int z), some (.int k), some (.int c), some (.int n), some (.int t)]) (st' := [.int ((c >>> ((17 : Int32) &&& 31)) &&& 3), .int ((c >>> ((12 : Int32) &&& 31)) &&& 3), .int (10 + ((c >>> ((9 : Int32) &&& 31)) &&& 63)), .int (5 + ((c >>> ((5 : Int32) &&& 31)) &&& 15)), .int (rmI (t + 1) n), .ref b]) (h' := h) rfl ?_
  have go : ∀ f : Int32, (f = 0 ∨ f = 1) → f = (if (c >>> ((17 : Int32) &&& 31)) &&& 3 = 0 then 1 else 0) → Ev X (jm jdL_build) 15 mc ms Q 225 [some (.ref (BIG + 300)), some (.ref b), some (.int z), some (.int k), some (.int c), some (.int n), some (.int t)] (.int f :: [.int ((c >>> ((12 : Int32) &&& 31)) &&& 3), .int (10 + ((c >>> ((9 : Int32) &&& 31)) &&& 63)), .int (5 + ((c >>> ((5 : Int32) &&& 31)) &&& 15)), .int (rmI (t + 1) n), .ref b]) h := fun f hf ef => by
    have eb : bC2 c t n s = cmG s (rmI (t + 1) n) (5 + ((c >>> ((5 : Int32) &&& 31)) &&& 15)) (10 + ((c >>> ((9 : Int32) &&& 31)) &&& 63)) ((c >>> ((12 : Int32) &&& 31)) &&& 3) f 3 := by rw [ef]; rfl
    rw [eb] at kk
    refine Ev.callSX (As := [.ref b, .int (rmI (t + 1) n), .int (5 + ((c >>> ((5 : Int32) &&& 31)) &&& 15)), .int (10 + ((c >>> ((9 : Int32) &&& 31)) &&& 63)), .int ((c >>> ((12 : Int32) &&& 31)) &&& 3), .int f]) (rest := []) dhL_car mkL_37 dL_build_225 (c_car hX hM (by omega) hb ho (by omega) hf) ⟨Nat.le_of_ble_eq_true rfl, by show 7 + 19 + 40 * _ ≤ 40 * _; omega⟩ ⟨by omega, by omega⟩ rfl (Nat.le_of_ble_eq_true rfl) (fun v9 h9 e9 => ?_) (fun E9 h9 e9 => ?_)
    · obtain ⟨h8, st9, ob9, e⟩ := e9
      cases e
      show Ev _ _ _ _ _ _ 228 [some (.ref (BIG + 300)), some (.ref b), some (.int z), some (.int k), some (.int c), some (.int n), some (.int t)] [.int _] h9
      refine Ev.sg hX (sL_build_228.sub 0 1) (pc' := 229) (ls' := [some (.ref (BIG + 300)), some (.ref b), some (.int z), some (.int k), some (.int c), some (.int n), some (.int t)]) (st' := []) (h' := h9) rfl ?_
      exact kk h9 _ _ st9 ob9 (by omega) (by omega)
    · obtain ⟨h8, st9, ob9, e⟩ := e9
      cases e
  refine Ev.if_ne (tgt := 224) dL_build_217 (by decide) (fun b1 => ?_) (fun b1 => ?_)
  · refine Ev.sg hX sL_build_224 (pc' := 225) (ls' := [some (.ref (BIG + 300)), some (.ref b), some (.int z), some (.int k), some (.int c), some (.int n), some (.int t)]) (st' := .int 0 :: [.int ((c >>> ((12 : Int32) &&& 31)) &&& 3), .int (10 + ((c >>> ((9 : Int32) &&& 31)) &&& 63)), .int (5 + ((c >>> ((5 : Int32) &&& 31)) &&& 15)), .int (rmI (t + 1) n), .ref b]) (h' := h) rfl ?_
    exact go 0 (Or.inl rfl) (by rw [if_neg b1])
  · refine Ev.sg hX sL_build_220 (pc' := 225) (ls' := [some (.ref (BIG + 300)), some (.ref b), some (.int z), some (.int k), some (.int c), some (.int n), some (.int t)]) (st' := .int 1 :: [.int ((c >>> ((12 : Int32) &&& 31)) &&& 3), .int (10 + ((c >>> ((9 : Int32) &&& 31)) &&& 63)), .int (5 + ((c >>> ((5 : Int32) &&& 31)) &&& 15)), .int (rmI (t + 1) n), .ref b]) (h' := h) rfl ?_
    exact go 1 (Or.inr rfl) (by rw [if_pos b1])
theorem w_bA {z k c n t : Int32} (hX : JXok X) (hM : jM X ≤ 396) (hb : b = 0 ∨ 396 ≤ b) (ho : OB K b 395 s h) (hB : zN h + 16 < BIG) (hK1 : K + 4 ≤ 5000) (hn : ¬ n = 0) (hm : 16 ≤ mc ∧ 96 ≤ ms) (kk : ∀ h' mc' ms', STEP b 395 16 h h' → OB (K + 4) b 395 (bC4 c t n (bC3 c t n (bC2 c t n (bC1 c t s)))) h' → mc - 16 ≤ mc' → ms - 96 ≤ ms' → Ev X (jm jdL_build) 15 mc' ms' Q 297 [some (.ref (BIG + 300)), some (.ref b), some (.int z), some (.int k), some (.int c), some (.int n), some (.int t)] [] h') : Ev X (jm jdL_build) 15 mc ms Q 116 [some (.ref (BIG + 300)), some (.ref b), some (.int z), some (.int k), some (.int c), some (.int n), some (.int t)] [] h := by
  refine w_b1 hX hM hb ho (by omega) (by omega) hn ⟨by omega, by omega⟩ (fun p1 mc1 ms1 st1 ob1 m1 n1 => ?_)
  have s1 := st1.2.1
  refine w_b2 hX hM hb ob1 (by omega) (by omega) hn ⟨by omega, by omega⟩ (fun p2 mc2 ms2 st2 ob2 m2 n2 => ?_)
  have s2 := st2.2.1
  refine w_b3 hX hM hb ob2 (by omega) (by omega) hn ⟨by omega, by omega⟩ (fun p3 mc3 ms3 st3 ob3 m3 n3 => ?_)
  have s3 := st3.2.1
  refine w_b4 hX hM hb ob3 (by omega) (by omega) hn ⟨by omega, by omega⟩ (fun p4 mc4 ms4 st4 ob4 m4 n4 => ?_)
  have s4 := st4.2.1
  exact kk _ _ _ ((((st1.tr st2).tr st3).tr st4).le (by decide)) ob4 (by omega) (by omega)
theorem w_bB {z k c n t : Int32} (hX : JXok X) (hM : jM X ≤ 396) (hb : b = 0 ∨ 396 ≤ b) (ho : OB K b 395 s h) (hB : zN h + 16 < BIG) (hK1 : K + 4 ≤ 5000) (hn : ¬ n = 0) (hm : 16 ≤ mc ∧ 96 ≤ ms) (kk : ∀ h' mc' ms', STEP b 395 16 h h' → OB (K + 4) b 395 (bC8 c t n (bC7 c t n (bC6 c t n (bC5 c t n s)))) h' → mc - 16 ≤ mc' → ms - 96 ≤ ms' → Ev X (jm jdL_build) 15 mc' ms' Q 426 [some (.ref (BIG + 300)), some (.ref b), some (.int z), some (.int k), some (.int c), some (.int n), some (.int t)] [] h') : Ev X (jm jdL_build) 15 mc ms Q 297 [some (.ref (BIG + 300)), some (.ref b), some (.int z), some (.int k), some (.int c), some (.int n), some (.int t)] [] h := by
  refine w_b5 hX hM hb ho (by omega) (by omega) hn ⟨by omega, by omega⟩ (fun p5 mc5 ms5 st5 ob5 m5 n5 => ?_)
  have s5 := st5.2.1
  refine w_b6 hX hM hb ob5 (by omega) (by omega) hn ⟨by omega, by omega⟩ (fun p6 mc6 ms6 st6 ob6 m6 n6 => ?_)
  have s6 := st6.2.1
  refine w_b7 hX hM hb ob6 (by omega) (by omega) hn ⟨by omega, by omega⟩ (fun p7 mc7 ms7 st7 ob7 m7 n7 => ?_)
  have s7 := st7.2.1
  refine w_b8 hX hM hb ob7 (by omega) (by omega) hn ⟨by omega, by omega⟩ (fun p8 mc8 ms8 st8 ob8 m8 n8 => ?_)
  have s8 := st8.2.1
  exact kk _ _ _ ((((st5.tr st6).tr st7).tr st8).le (by decide)) ob8 (by omega) (by omega)
theorem fs_F1 {z : Int32} {k : Nat} {s : GS} (h8 : s.1 0 ≤ 8) : s.1 0 ≤ (bF1 z k s).1 0 := by
  unfold bF1
  split
  · exact fs_cm h8 (by decide)
  · exact Nat.le_trans (fs_cm h8 (by decide)) (fs_cm (cm_8 h8 (by decide)) (by decide))
theorem fs_F18 {z : Int32} {k : Nat} {s : GS} (h8 : s.1 0 ≤ 8) : (bF1 z k s).1 0 ≤ 8 := by
  unfold bF1
  split
  · exact cm_8 h8 (by decide)
  · exact cm_8 (cm_8 h8 (by decide)) (by decide)
def mo8 (s s' : GS) : Prop := s.1 0 ≤ 8 → s.1 0 ≤ s'.1 0 ∧ s'.1 0 ≤ 8
theorem mo8.tr {s s' s2 : GS} (h1 : mo8 s s') (h2 : mo8 s' s2) : mo8 s s2 := fun h => ⟨Nat.le_trans (h1 h).1 (h2 (h1 h).2).1, (h2 (h1 h).2).2⟩
theorem mo8.cm {s : GS} {a b c e f : Int32} {kk : Nat} (hk : kk < 7) : mo8 s (cmG s a b c e f kk) := fun h => ⟨fs_cm h hk, cm_8 h hk⟩
theorem mo8.if {p : Prop} [Decidable p] {s s' : GS} (h : mo8 s s') : mo8 s (if p then s' else s) := by
  by_cases c : p
  · rw [if_pos c]; exact h
  · rw [if_neg c]; exact fun h => ⟨Nat.le_refl _, h⟩
theorem fs_F2 {c : Int32} {s : GS} (h8 : s.1 0 ≤ 8) : s.1 0 ≤ (bF2 c s).1 0 := by
  unfold bF2
  obtain ⟨n, hn⟩ : ∃ n, n = nI (s.1 0) := ⟨_, rfl⟩
  rw [← hn]
  obtain ⟨t, ht⟩ : ∃ t, t = rmI (c &&& 7) n := ⟨_, rfl⟩
  rw [← ht]
  exact ((((((((mo8.cm (s := s) (by decide) : mo8 s (bC1 c t s)).tr (mo8.cm (by decide) : mo8 _ (bC2 c t n _))).tr (mo8.if (mo8.cm (by decide)) : mo8 _ (bC3 c t n _))).tr (mo8.if (mo8.cm (by decide)) : mo8 _ (bC4 c t n _))).tr (mo8.if (mo8.cm (by decide)) : mo8 _ (bC5 c t n _))).tr (mo8.if (mo8.cm (by decide)) : mo8 _ (bC6 c t n _))).tr (mo8.if (mo8.cm (by decide)) : mo8 _ (bC7 c t n _))).tr (mo8.if (mo8.cm (by decide)) : mo8 _ (bC8 c t n _))) h8 |>.1
theorem klI_lo {I : HI} {b a : Nat} (ha : a < b) : klI I b a = I a := by
  have up : ∀ {J : HI} {c j : Nat} {x : Int32}, b ≤ c → up2 J c j x a = J a := fun hc => up2_ne (by omega)
  have fi : ∀ {J : HI} {c n : Nat} {x : Int32}, b ≤ c → fillI J c n x a = J a := fun hc => fo_inv (P := fun (Z : HI) => Z a = _) (fun k Z e => (up2_ne (by omega)).trans e) _ _ _ rfl
  unfold klI hsI
  rw [up (by omega), up (by omega), up (by omega), fi (by omega), fi (by omega), fi (by omega), fi (by omega), fi (by omega), fi (by omega), fi (by omega), fi (by omega), fi (by omega), fi (by omega), fi (by omega)]
set_option maxRecDepth 8000 in
/-- the second loop -/
theorem l_b2 {z : Int32} (hX : JXok X) (hM : jM X ≤ 396) (hb : b = 0 ∨ 396 ≤ b) (hs : jSn X < 2 ^ 31) : ∀ (m k : Nat) (l4 l5 l6 : Option Value) (s : GS) (h : MH) (mc ms K : Nat), k + m = 13 → OB K b 395 s h → 1 ≤ s.1 0 → zN h + 36 * m + 8 < BIG → K + 8 * m ≤ 5000 → 36 * m ≤ mc → 216 * m ≤ ms →
    (∀ h', STEP b 395 (36 * m) h h' → OB (K + 8 * m) b 395 (fo (fun k s => bF2 (scA X k) s) m k s) h' → Q (.inl (some (.ref b), h'))) →
    Ev X (jm jdL_build) 15 mc ms Q 87 [some (.ref (BIG + 300)), some (.ref b), some (.int z), some (.int (nI k)), l4, l5, l6] [] h := by
  intro m
  induction m with
  | zero =>
    intro k l4 l5 l6 s h mc ms K hk ho h1 hB hK hm hs2 hQ
    refine Ev.sg hX sL_build_87 (pc' := 90) (ls' := [some (.ref (BIG + 300)), some (.ref b), some (.int z), some (.int (nI k)), l4, l5, l6]) (st' := [.int 13, .int (nI k)]) (h' := h) rfl ?_
    refine Ev.icmp_ge (tgt := 432) dL_build_90 (by decide) (fun b1 => ?_) (fun b1 => ?_)
    · refine Ev.sg hX sL_build_432 (pc' := 433) (ls' := [some (.ref (BIG + 300)), some (.ref b), some (.int z), some (.int (nI k)), l4, l5, l6]) (st' := [.ref b]) (h' := h) rfl ?_
      refine Ev.aret dL_build_433 rfl (Or.inl ⟨_, rfl⟩) ?_
      exact hQ h STEP.rf ho
    · exact absurd ((nI_leI (a := 13) (b := k) (by omega) (by omega)).mpr (by omega)) b1
  | succ m ih =>
    intro k l4 l5 l6 s h mc ms K hk ho h1 hB hK hm hs2 hQ
    have g8 := ho.g8
    refine Ev.sg hX sL_build_87 (pc' := 90) (ls' := [some (.ref (BIG + 300)), some (.ref b), some (.int z), some (.int (nI k)), l4, l5, l6]) (st' := [.int 13, .int (nI k)]) (h' := h) rfl ?_
    refine Ev.icmp_ge (tgt := 432) dL_build_90 (by decide) (fun b1 => ?_) (fun b1 => ?_)
    · exact absurd ((nI_leI (a := 13) (b := k) (by omega) (by omega)).mp b1) (by omega)
    refine Ev.sg hX sL_build_93 (pc' := 95) (ls' := [some (.ref (BIG + 300)), some (.ref b), some (.int z), some (.int (nI k)), l4, l5, l6]) (st' := [.int (nI k), .ref (BIG + 300)]) (h' := h) rfl ?_
    refine Ev.callS (As := [.ref (BIG + 300), .int (nI k)]) (rest := []) dsL_at mkL_24 dL_build_95 (c_at (d := 14) hX (by omega) hs) ⟨Nat.le_refl _, by show 2 + 19 + 40 * _ ≤ 40 * _; omega⟩ ⟨Nat.zero_le _, Nat.zero_le _⟩ rfl (Nat.le_of_ble_eq_true rfl) (fun v9 h9 e9 => ?_) (fun E9 h9 e9 => nomatch e9)
    cases e9
    obtain ⟨c, hc⟩ : ∃ c, c = scA X k := ⟨_, rfl⟩
    rw [show (if k < jSn X then jSf X k else 0) = c from hc.symm]
    show Ev _ _ _ _ _ _ 98 [some (.ref (BIG + 300)), some (.ref b), some (.int z), some (.int (nI k)), l4, l5, l6] [.int c] h
    refine Ev.sg hX sL_build_98 (pc' := 101) (ls' := [some (.ref (BIG + 300)), some (.ref b), some (.int z), some (.int (nI k)), some (.int c), l5, l6]) (st' := [.ref b]) (h' := h) rfl ?_
    refine Ev.ask (As := []) (rest := []) (xs := []) (val := some (.int (nI (s.1 0)))) (s' := s) hX hM hb ho (by omega) dvX6_trackCount mkL_34 rfl dL_build_101 (by decide) (by decide) ⟨Nat.zero_le _, Nat.zero_le _⟩ rfl (Nat.le_of_ble_eq_true rfl) nr_0 (fun _ => rfl) (by decide) (fun X' T I L D hX' c9 => q_trackCount hX' c9) (fun h1' st0 ob0 => ?_)
    have s0 := st0.2.1
    obtain ⟨n, hn⟩ : ∃ n, n = nI (s.1 0) := ⟨_, rfl⟩
    have hn0 : ¬ n = 0 := fun q => by
      rw [hn] at q
      have := nI_inj (b := 0) (by omega) (by omega) q
      omega
    rw [← hn]
    show Ev _ _ _ _ _ _ 104 [some (.ref (BIG + 300)), some (.ref b), some (.int z), some (.int (nI k)), some (.int c), l5, l6] [.int n] h1'
    refine Ev.sg hX sL_build_104 (pc' := 113) (ls' := [some (.ref (BIG + 300)), some (.ref b), some (.int z), some (.int (nI k)), some (.int c), some (.int n), l6]) (st' := [.int n, .int (c &&& 7)]) (h' := h1') rfl ?_
    refine Ev.irem dL_build_113 hn0 ?_
    obtain ⟨t, ht⟩ : ∃ t, t = rmI (c &&& 7) n := ⟨_, rfl⟩
    rw [show (c &&& 7) - (c &&& 7) / n * n = t from ht.symm]
    refine Ev.sg hX (sL_build_114.sub 0 1) (pc' := 116) (ls' := [some (.ref (BIG + 300)), some (.ref b), some (.int z), some (.int (nI k)), some (.int c), some (.int n), some (.int t)]) (st' := []) (h' := h1') rfl ?_
    have eF : bF2 c s = bC8 c t n (bC7 c t n (bC6 c t n (bC5 c t n (bC4 c t n (bC3 c t n (bC2 c t n (bC1 c t s))))))) := by rw [ht, hn]; rfl
    refine w_bA hX hM hb ob0 (by omega) (by omega) hn0 ⟨by omega, by omega⟩ (fun p4 mc4 ms4 st4 ob4 m4 n4 => ?_)
    have s4 := st4.2.1
    refine w_bB hX hM hb ob4 (by omega) (by omega) hn0 ⟨by omega, by omega⟩ (fun p8 mc8 ms8 st8 ob8 m8 n8 => ?_)
    have s8 := st8.2.1
    rw [← eF] at ob8
    have g1 : 1 ≤ (bF2 c s).1 0 := Nat.le_trans h1 (fs_F2 g8)
    refine Ev.sg hX sL_build_426 (pc' := 87) (ls' := [some (.ref (BIG + 300)), some (.ref b), some (.int z), some (.int (nI k + 1)), some (.int c), some (.int n), some (.int t)]) (st' := []) (h' := p8) rfl ?_
    rw [nI_1]
    refine ih (k + 1) _ _ _ (bF2 c s) p8 mc8 ms8 (K + 8) (by omega) (ob8.mono (by omega) (by omega)) g1 (by omega) (by omega) (by omega) (by omega) (fun h' st9 ob9 => ?_)
    refine hQ h' ((((st0.tr st4).tr st8).tr st9).le (by omega)) ?_
    rw [hc] at ob9
    have e9 : K + 8 * (m + 1) = K + 8 + 8 * m := by omega
    rw [e9]
    exact ob9
set_option maxRecDepth 8000 in
/-- the first loop -/
theorem l_b1 {z : Int32} {m0 : Nat} {l4 l5 l6 : Option Value} (hX : JXok X) (hM : jM X ≤ 396) (hb : b = 0 ∨ 396 ≤ b) (hm0 : 3 + (z &&& 3) = nI m0) (hm8 : m0 ≤ 6) : ∀ (m k : Nat) (l3 : Option Value) (s : GS) (h : MH) (mc ms K : Nat), k + m = m0 → OB K b 395 s h → zN h + 8 * m + 8 < BIG → K + 2 * m ≤ 5000 → 8 * m ≤ mc → 48 * m ≤ ms →
    (∀ h' mc' ms', STEP b 395 (8 * m) h h' → OB (K + 2 * m) b 395 (fo (fun k s => bF1 z k s) m k s) h' → mc - 8 * m ≤ mc' → ms - 48 * m ≤ ms' → Ev X (jm jdL_build) 15 mc' ms' Q 85 [some (.ref (BIG + 300)), some (.ref b), some (.int z), some (.int (nI m0)), l4, l5, l6] [] h') →
    Ev X (jm jdL_build) 15 mc ms Q 16 [some (.ref (BIG + 300)), some (.ref b), some (.int z), some (.int (nI k)), l4, l5, l6] [] h := by
  intro m
  induction m with
  | zero =>
    intro k l3 s h mc ms K hk ho hB hK hm hs2 hQ
    refine Ev.sg hX sL_build_16 (pc' := 22) (ls' := [some (.ref (BIG + 300)), some (.ref b), some (.int z), some (.int (nI k)), l4, l5, l6]) (st' := [.int (3 + (z &&& 3)), .int (nI k)]) (h' := h) rfl ?_
    rw [hm0]
    refine Ev.icmp_ge (tgt := 85) dL_build_22 (by decide) (fun b1 => ?_) (fun b1 => ?_)
    · have e : k = m0 := by omega
      rw [e]
      rw [e] at hQ
      exact hQ h mc ms STEP.rf ho (by omega) (by omega)
    · exact absurd ((nI_leI (a := m0) (b := k) (by omega) (by omega)).mpr (by omega)) b1
  | succ m ih =>
    intro k l3 s h mc ms K hk ho hB hK hm hs2 hQ
    refine Ev.sg hX sL_build_16 (pc' := 22) (ls' := [some (.ref (BIG + 300)), some (.ref b), some (.int z), some (.int (nI k)), l4, l5, l6]) (st' := [.int (3 + (z &&& 3)), .int (nI k)]) (h' := h) rfl ?_
    rw [hm0]
    refine Ev.icmp_ge (tgt := 85) dL_build_22 (by decide) (fun b1 => ?_) (fun b1 => ?_)
    · exact absurd ((nI_leI (a := m0) (b := k) (by omega) (by omega)).mp b1) (by omega)
    refine Ev.sg hX sL_build_25 (pc' := 50) (ls' := [some (.ref (BIG + 300)), some (.ref b), some (.int z), some (.int (nI k)), l4, l5, l6]) (st' := [.int 6, .int ((z >>> ((5 + nI k) &&& 31)) &&& 7), .int (bA1 z (nI k)), .int 0, .ref b]) (h' := h) rfl ?_
    refine Ev.irem dL_build_50 (by decide) ?_
    refine Ev.sg hX sL_build_51 (pc' := 52) (ls' := [some (.ref (BIG + 300)), some (.ref b), some (.int z), some (.int (nI k)), l4, l5, l6]) (st' := [.int 0, .int (bA2 z (nI k)), .int (bA1 z (nI k)), .int 0, .ref b]) (h' := h) rfl ?_
    refine Ev.callSX (As := [.ref b, .int 0, .int (bA1 z (nI k)), .int (bA2 z (nI k)), .int 0]) (rest := []) dhL_act mkL_30 dL_build_52 (c_act0 hX hM (by omega) hb ho (by omega)) ⟨Nat.le_of_ble_eq_true rfl, by show 6 + 19 + 40 * _ ≤ 40 * _; omega⟩ ⟨by omega, by omega⟩ rfl (Nat.le_of_ble_eq_true rfl) (fun v9 h9 e9 => ?_) (fun E9 h9 e9 => ?_)
    · obtain ⟨h8, st9, ob9, e⟩ := e9
      cases e
      have s9 := st9.2.1
      obtain ⟨s2, hs3⟩ : ∃ s2, s2 = cmG s (bA1 z (nI k)) (bA2 z (nI k)) 0 0 0 0 := ⟨_, rfl⟩
      rw [← hs3] at ob9
      show Ev _ _ _ _ _ _ 55 [some (.ref (BIG + 300)), some (.ref b), some (.int z), some (.int (nI k)), l4, l5, l6] [.int _] h9
      refine Ev.sg hX sL_build_55 (pc' := 57) (ls' := [some (.ref (BIG + 300)), some (.ref b), some (.int z), some (.int (nI k)), l4, l5, l6]) (st' := [.int (nI k)]) (h' := h9) rfl ?_
      have nx : ∀ (s3 : GS) (h7 : MH) (mc7 ms7 : Nat), s3 = bF1 z k s → OB (K + 2) b 395 s3 h7 → STEP b 395 8 h h7 → mc - 8 ≤ mc7 → ms - 48 ≤ ms7 → Ev X (jm jdL_build) 15 mc7 ms7 Q 79 [some (.ref (BIG + 300)), some (.ref b), some (.int z), some (.int (nI k)), l4, l5, l6] [] h7 := fun s3 h7 mc7 ms7 e3 ob7 st7 m7 n7 => by
        have s7 := st7.2.1
        refine Ev.sg hX sL_build_79 (pc' := 16) (ls' := [some (.ref (BIG + 300)), some (.ref b), some (.int z), some (.int (nI k + 1)), l4, l5, l6]) (st' := []) (h' := h7) rfl ?_
        rw [nI_1]
        refine ih (k + 1) none s3 h7 mc7 ms7 (K + 2) (by omega) ob7 (by omega) (by omega) (by omega) (by omega) (fun h' mc' ms' st ob m' n' => ?_)
        refine hQ h' mc' ms' ((st7.tr st).le (by omega)) ?_ (by omega) (by omega)
        rw [e3] at ob
        have e9 : K + 2 * (m + 1) = K + 2 + 2 * m := by omega
        rw [e9]
        exact ob
      refine Ev.if_le (tgt := 79) dL_build_57 (by decide) (fun b2 => ?_) (fun b2 => ?_)
      · exact nx s2 h9 _ _ (by rw [hs3]; unfold bF1; rw [if_pos b2]) (ob9.mono (by omega) (by omega)) (st9.le (by decide)) (by omega) (by omega)
      · have hk0 : ¬ nI k = 0 := fun q => b2 (by rw [q]; decide)
        refine Ev.sg hX sL_build_60 (pc' := 72) (ls' := [some (.ref (BIG + 300)), some (.ref b), some (.int z), some (.int (nI k)), l4, l5, l6]) (st' := [.int (nI k), .int ((z >>> ((9 + nI k) &&& 31)) &&& 7), .int 1, .ref b]) (h' := h9) rfl ?_
        refine Ev.irem dL_build_72 hk0 ?_
        refine Ev.sg hX sL_build_73 (pc' := 75) (ls' := [some (.ref (BIG + 300)), some (.ref b), some (.int z), some (.int (nI k)), l4, l5, l6]) (st' := [.int 0, .int (nI k), .int (bA3 z (nI k)), .int 1, .ref b]) (h' := h9) rfl ?_
        refine Ev.callSX (As := [.ref b, .int 1, .int (bA3 z (nI k)), .int (nI k), .int 0]) (rest := []) dhL_act mkL_30 dL_build_75 (c_act1 hX hM (by omega) hb ob9 (by omega)) ⟨Nat.le_of_ble_eq_true rfl, by show 6 + 19 + 40 * _ ≤ 40 * _; omega⟩ ⟨by omega, by omega⟩ rfl (Nat.le_of_ble_eq_true rfl) (fun v5 h5 e5 => ?_) (fun E5 h5 e5 => ?_)
        · obtain ⟨h6, st5, ob5, e⟩ := e5
          cases e
          show Ev _ _ _ _ _ _ 78 [some (.ref (BIG + 300)), some (.ref b), some (.int z), some (.int (nI k)), l4, l5, l6] [.int _] h5
          refine Ev.sg hX sL_build_78 (pc' := 79) (ls' := [some (.ref (BIG + 300)), some (.ref b), some (.int z), some (.int (nI k)), l4, l5, l6]) (st' := []) (h' := h5) rfl ?_
          exact nx _ h5 _ _ (by rw [hs3]; unfold bF1; rw [if_neg b2]) ob5 ((st9.tr st5).le (by decide)) (by omega) (by omega)
        · obtain ⟨h6, st5, ob5, e⟩ := e5
          cases e
    · obtain ⟨h8, st9, ob9, e⟩ := e9
      cases e
/-- the first commands give a track -/
theorem fs_one {A : Nat → Int32} : 1 ≤ (bG1 A).1 0 := by
  obtain ⟨y, hy, ey⟩ := and_m (A 0 >>> ((2 + 3 * nI 0) &&& 31)) 127 7 (by decide) (by decide)
  obtain ⟨y2, hy2, ey2⟩ := and_m (A 0 >>> ((5 + nI 0) &&& 31)) 7 3 (by decide) (by decide)
  have c1 : 10 ≤ bA1 (A 0) (nI 0) ∧ bA1 (A 0) (nI 0) ≤ 200 := by
    unfold bA1
    rw [ey]
    exact le_all y hy
  have c2 : 0 ≤ bA2 (A 0) (nI 0) ∧ bA2 (A 0) (nI 0) ≤ 5 := by
    unfold bA2
    rw [ey2]
    exact rm_all y2 hy2
  have e1 : (cmG st_s (bA1 (A 0) (nI 0)) (bA2 (A 0) (nI 0)) 0 0 0 0).1 0 = 1 := by
    have em : cmF st_s (bA1 (A 0) (nI 0)) (bA2 (A 0) (nI 0)) 0 0 0 0 = (nI 0, up2 (up2 (up2 (up2 (GJ st_g) 397 (7 + 0) (bA1 (A 0) (nI 0))) 397 (15 + 0) (bA2 (A 0) (nI 0))) 397 0 (nI 0 + 1)) 396 12 0) := by
      show adtM (GJ st_g) 0 _ _ = _
      unfold adtM
      rw [if_neg (fun q => q ⟨c1, c2⟩), if_neg (by decide)]
    unfold cmG cmS
    rw [em]
    dsimp only
    split
    · unfold canonG
      dsimp only
      rw [if_pos (by decide), fs_396, up2_hit]
      decide
    · rename_i q
      exact absurd up2_hit q
  have e0 : (bF1 (A 0) 0 st_s).1 0 = 1 := by
    unfold bF1
    rw [if_pos (show nI 0 ≤ 0 by decide)]
    exact e1
  unfold bG1
  rw [show 3 + (A 0 &&& 3).toNatClampNeg = (2 + (A 0 &&& 3).toNatClampNeg) + 1 by omega]
  show 1 ≤ (fo (fun k s => bF1 (A 0) k s) (2 + (A 0 &&& 3).toNatClampNeg) (0 + 1) (bF1 (A 0) 0 st_s)).1 0
  refine (fo_inv (P := fun (s : GS) => 1 ≤ s.1 0 ∧ s.1 0 ≤ 8) (fun k s hs => ?_) _ _ _ ⟨by omega, by omega⟩).1
  exact ⟨Nat.le_trans hs.1 (fs_F1 hs.2), fs_F18 hs.2⟩

set_option maxRecDepth 8000 in
/-- the walk of the build -/
theorem c_lbuild (hX : JXok X) (hM : jM X ≤ 396) (hb : zN h = 0 ∨ 396 ≤ zN h) (hs : jSn X < 2 ^ 31) (hz : Z0 (zN h) (zI h) (zL h) (zD h)) (hB : zN h + 2000 < BIG) : MT X 15 900 8000 jdL_build [.ref (BIG + 300)] h (fun R => ∃ h', NEWC 900 h h' ∧ OB 120 (zN h) 395 (bG (scA X)) h' ∧ R = .inl (some (.ref (zN h)), h')) := by
  obtain ⟨b, S, I, L, Dd⟩ := h
  have hb : b = 0 ∨ 396 ≤ b := hb
  have hz : Z0 b I L Dd := hz
  have hB : b + 2000 < BIG := hB
  obtain ⟨fs6, hf6⟩ : ∃ fs6 : List (Value ⊕ Bool), fs6 = [.inl .null, .inl .null, .inl .null, .inl .null, .inl .null, .inr false, .inr false] := ⟨_, rfl⟩
  refine MT.mk dsL_build.1 ?_
  refine Ev.eqh (h' := (b + 0, ovl S b [], I, L, Dd)) (by rw [ovl_no]; rfl) ?_
  refine Ev.newO (ci := 6) (fs := [.inl .null, .inl .null, .inl .null, .inl .null, .inl .null, .inr false, .inr false]) hX ci_X6 (bw_of 31 (by decide +kernel) (by decide +kernel)) hz.z2 fs_X6 ⟨by omega, by omega⟩ (by show b + 1 < BIG; omega) dL_build_0 ?_
  refine Ev.eqh (h' := (b + 1, ovl S b [.inr (6, [.inl .null, .inl .null, .inl .null, .inl .null, .inl .null, .inr false, .inr false])], I, L, Dd)) (newS_ovl (b := b) (k := 0) (l := []) rfl) ?_
  show Ev _ _ _ _ _ _ 3 [some (.ref (BIG + 300)), none, none, none, none, none, none] [.ref b] (b + 1, ovl S b [.inr (6, [.inl .null, .inl .null, .inl .null, .inl .null, .inl .null, .inr false, .inr false])], I, L, Dd)
  refine Ev.sg hX sL_build_3 (pc' := 4) (ls' := [some (.ref (BIG + 300)), none, none, none, none, none, none]) (st' := [.ref b, .ref b]) (h' := (b + 1, ovl S b [.inr (6, [.inl .null, .inl .null, .inl .null, .inl .null, .inl .null, .inr false, .inr false])], I, L, Dd)) rfl ?_
  refine Ev.callI (As := []) (rest := [.ref b]) diX6_init rfl mkL_23 dL_build_4 (c_ClassInit (d := 12) hX (by decide) hz (by omega)) ⟨by decide, by decide⟩ ⟨by omega, by omega⟩ rfl (Nat.le_of_ble_eq_true rfl) (fun v9 h9 e9 => ?_) (fun E9 h9 e9 => nomatch e9)
  cases e9
  obtain ⟨h2, eh2⟩ : ∃ h2 : MH, h2 = (b + 396, ovl S b (klL b), klI I b, L, Dd) := ⟨_, rfl⟩
  rw [← eh2]
  have ob : OB 0 b 395 st_s h2 := by rw [eh2]; exact OB.new hb hz
  have hN2 : zN h2 = b + 396 := by rw [eh2]
  have fr : NEWC 396 (b, S, I, L, Dd) h2 := by
    rw [eh2]
    refine ⟨Nat.le_add_right _ _, Nat.le_refl _, fun a ha => ?_⟩
    have ha : a < b := ha
    refine ⟨?_, klI_lo ha, rfl, rfl⟩
    show ovl S b (klL b) a = S a
    unfold ovl
    rw [if_neg (by omega)]
  show Ev _ _ _ _ _ _ 7 [some (.ref (BIG + 300)), none, none, none, none, none, none] [.ref b] h2
  refine Ev.sg hX sL_build_7 (pc' := 10) (ls' := [some (.ref (BIG + 300)), some (.ref b), none, none, none, none, none]) (st' := [.int (nI 0), .ref (BIG + 300)]) (h' := h2) rfl ?_
  refine Ev.callS (As := [.ref (BIG + 300), .int (nI 0)]) (rest := []) dsL_at mkL_24 dL_build_10 (c_at (d := 14) hX (by omega) hs) ⟨Nat.le_refl _, by show 2 + 19 + 40 * _ ≤ 40 * _; omega⟩ ⟨Nat.zero_le _, Nat.zero_le _⟩ rfl (Nat.le_of_ble_eq_true rfl) (fun v9 h9 e9 => ?_) (fun E9 h9 e9 => nomatch e9)
  cases e9
  obtain ⟨z, hz9⟩ : ∃ z, z = scA X 0 := ⟨_, rfl⟩
  rw [show (if 0 < jSn X then jSf X 0 else 0) = z from hz9.symm]
  show Ev _ _ _ _ _ _ 13 [some (.ref (BIG + 300)), some (.ref b), none, none, none, none, none] [.int z] h2
  refine Ev.sg hX sL_build_13 (pc' := 16) (ls' := [some (.ref (BIG + 300)), some (.ref b), some (.int z), some (.int (nI 0)), none, none, none]) (st' := []) (h' := h2) rfl ?_
  obtain ⟨y, hy, ey⟩ := and_m z 3 2 (by decide) (by decide)
  have em : 3 + (z &&& 3) = nI (3 + y) := by rw [ey]; exact (nI_add (a := 3) (b := y))
  have ec : (z &&& 3).toNatClampNeg = y := by rw [ey, nI_clamp (by omega)]
  refine l_b1 hX hM hb em (by omega) (3 + y) 0 none st_s h2 _ _ 0 (by omega) ob (by omega) (by omega) (by omega) (by omega) (fun h3 mc3 ms3 st3 ob3 m3 n3 => ?_)
  have s3 := st3.2.1
  have e3 : fo (fun k s => bF1 z k s) (3 + y) 0 st_s = bG1 (scA X) := by
    unfold bG1
    rw [← hz9, ec]
  rw [e3] at ob3
  refine Ev.sg hX sL_build_85 (pc' := 87) (ls' := [some (.ref (BIG + 300)), some (.ref b), some (.int z), some (.int (nI 1)), none, none, none]) (st' := []) (h' := h3) rfl ?_
  refine l_b2 hX hM hb hs 12 1 none none none (bG1 (scA X)) h3 mc3 ms3 _ rfl ob3 fs_one (by omega) (by omega) (by omega) (by omega) (fun h4 st4 ob4 => ?_)
  have s4 := st4.2.1
  refine ⟨h4, ⟨Nat.le_trans fr.1 (Nat.le_trans st3.1 st4.1), by show zN h4 ≤ b + 900; omega, fun a ha => ?_⟩, ob4.mono (by omega) (by omega), rfl⟩
  have ha : a < b := ha
  obtain ⟨p1, p2, p3, p4⟩ := fr.2.2 a ha
  have hv : a ≠ swp b 395 := by
    rw [show swp b 395 = b + 395 from if_pos (by decide)]
    omega
  obtain ⟨q1, q2, q3, q4⟩ := st3.2.2 a (by omega) (by omega)
  obtain ⟨r1, r2, r3, r4⟩ := st4.2.2 a (by have := st3.1; omega) (by omega)
  exact ⟨r1.trans (q1.trans p1), (r2 hv).trans ((q2 hv).trans p2), r3.trans (q3.trans p3), r4.trans (q4.trans p4)⟩
end BLD
