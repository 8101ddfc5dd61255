/-! the law's walk: z is made -/
section LWT
variable {X : JX} {mc ms : Nat} {Q : JR → Prop} {h : MH} {bY n K : Nat} {now : Int32} {sx : GS}
set_option maxRecDepth 100000 in
theorem law_T (hX : JXok X) (hM : jM X ≤ 396) (hs : jSn X < 2 ^ 31) (ox : OB K 0 395 sx h) (hN : zN h ≤ 40000) (hm : 6000 ≤ mc ∧ 40000 ≤ ms)
    (kk : ∀ h' b c k w mc' ms', k < 4 → 10 ≤ w → w ≤ 73 → 396 ≤ b → OB K 0 395 sx h' → OB 0 b 395 st_s h' → zN h' ≤ zN h + 400 → mc ≤ mc' + 500 → ms ≤ ms' + 5000 → Ev X (jm jdL_law) 17 mc' ms' Q 408 [some (.ref (BIG + 300)), some (.ref 0), some (.ref bY), some (.int now), some (.int (nI n)), some (.int c), some (.int (nI k)), some (.int (nI w)), some (.ref b)] [] h') :
    Ev X (jm jdL_law) 17 mc ms Q 373 [some (.ref (BIG + 300)), some (.ref 0), some (.ref bY), some (.int now), some (.int (nI n)), none, none, none, none] [] h := by
  have b0 : (0 : Nat) = 0 ∨ 396 ≤ 0 := Or.inl rfl
  have hBIG : 500000 < BIG := by decide
  have hz : Z0 (zN h) (zI h) (zL h) (zD h) := (ox.fresh b0).2
  have oxN := ox.1
  obtain ⟨b, S, I, L, D⟩ := h
  have hz : Z0 b I L D := hz
  have hN : b ≤ 40000 := hN
  have b4 : 396 ≤ b := by have : 0 + 396 ≤ b := oxN; omega
  refine Ev.sg hX sL_law_373 (pc' := 376) (ls' := [some (.ref (BIG + 300)), some (.ref 0), some (.ref bY), some (.int now), some (.int (nI n)), none, none, none, none]) (st' := [.int (nI 13), .ref (BIG + 300)]) (h' := (b, S, I, L, D)) rfl ?_
  refine Ev.callS (As := [.ref (BIG + 300), .int (nI 13)]) (rest := []) dsL_at mkL_24 dL_law_376 (c_at (d := 14) hX (by omega) hs) ⟨by decide, by show 2 + 19 + 40 * _ ≤ 40 * _; omega⟩ ⟨Nat.zero_le _, Nat.zero_le _⟩ rfl (Nat.le_of_ble_eq_true rfl) (fun v9 h9 e9 => ?_) (fun E9 h9 e9 => nomatch e9)
  cases e9
  obtain ⟨c, hc⟩ : ∃ c, c = (if 13 < jSn X then jSf X 13 else 0) := ⟨_, rfl⟩
  rw [← hc]
  show Ev _ _ _ _ _ _ 379 [some (.ref (BIG + 300)), some (.ref 0), some (.ref bY), some (.int now), some (.int (nI n)), none, none, none, none] [.int c] (b, S, I, L, D)
  refine Ev.sg hX sL_law_379 (pc' := 399) (ls' := [some (.ref (BIG + 300)), some (.ref 0), some (.ref bY), some (.int now), some (.int (nI n)), some (.int c), some (.int (c &&& 3)), some (.int (10 + ((c >>> ((2 : Int32) &&& 31)) &&& 63))), none]) (st' := []) (h' := (b, S, I, L, D)) rfl ?_
  obtain ⟨k, hk, ek⟩ := and_m c 3 2 (by decide) (by decide)
  obtain ⟨y, hy, ey⟩ := and_m (c >>> ((2 : Int32) &&& 31)) 63 6 (by decide) (by decide)
  obtain ⟨w, hw⟩ : ∃ w, w = 10 + y := ⟨_, rfl⟩
  have ew : 10 + ((c >>> ((2 : Int32) &&& 31)) &&& 63) = nI w := by rw [ey, hw]; exact nI_add (a := 10) (b := y)
  rw [ek, ew]
  refine Ev.eqh (h' := (b + 0, ovl S b [], I, L, D)) (by rw [ovl_no]; rfl) ?_
  refine Ev.newO (ci := 6) (fs := [.inl .null, .inl .null, .inl .null, .inl .null, .inl .null, .inr false, .inr false]) hX ci_X6 (bw_of 31 (by decide +kernel) (by decide +kernel)) hz.z2 fs_X6 ⟨by omega, by omega⟩ (by show b + 1 < BIG; omega) dL_law_399 ?_
  refine Ev.eqh (h' := (b + 1, ovl S b [.inr (6, [.inl .null, .inl .null, .inl .null, .inl .null, .inl .null, .inr false, .inr false])], I, L, D)) (newS_ovl (b := b) (k := 0) (l := []) rfl) ?_
  show Ev _ _ _ _ _ _ 402 [some (.ref (BIG + 300)), some (.ref 0), some (.ref bY), some (.int now), some (.int (nI n)), some (.int c), some (.int (nI k)), some (.int (nI w)), none] [.ref b] (b + 1, ovl S b [.inr (6, [.inl .null, .inl .null, .inl .null, .inl .null, .inl .null, .inr false, .inr false])], I, L, D)
  refine Ev.sg hX sL_law_402 (pc' := 403) (ls' := [some (.ref (BIG + 300)), some (.ref 0), some (.ref bY), some (.int now), some (.int (nI n)), some (.int c), some (.int (nI k)), some (.int (nI w)), none]) (st' := [.ref b, .ref b]) (h' := (b + 1, ovl S b [.inr (6, [.inl .null, .inl .null, .inl .null, .inl .null, .inl .null, .inr false, .inr false])], I, L, D)) rfl ?_
  refine Ev.callI (As := []) (rest := [.ref b]) diX6_init rfl mkL_23 dL_law_403 (c_ClassInit (d := 12) hX (by decide) hz (by omega)) ⟨by decide, by decide⟩ ⟨by omega, by omega⟩ rfl (Nat.le_of_ble_eq_true rfl) (fun v9 h9 e9 => ?_) (fun E9 h9 e9 => nomatch e9)
  cases e9
  obtain ⟨h2, eh2⟩ : ∃ h2 : MH, h2 = (b + 396, ovl S b (klL b), klI I b, L, D) := ⟨_, rfl⟩
  rw [← eh2]
  have ob : OB 0 b 395 st_s h2 := by rw [eh2]; exact OB.new (Or.inr b4) hz
  have hN2 : zN h2 = b + 396 := by rw [eh2]
  have fr : NEWC 396 (b, S, I, L, D) h2 := by
    rw [eh2]
    refine ⟨Nat.le_add_right _ _, Nat.le_refl _, fun a ha => ?_⟩
    have ha : a < b := ha
    refine ⟨?_, klI_lo ha, rfl, rfl⟩
    show ovl S b (klL b) a = S a
    unfold ovl
    rw [if_neg (by omega)]
  have ox2 := ox.newc b0 fr (ob.fresh (Or.inr b4)).2
  show Ev _ _ _ _ _ _ 406 [some (.ref (BIG + 300)), some (.ref 0), some (.ref bY), some (.int now), some (.int (nI n)), some (.int c), some (.int (nI k)), some (.int (nI w)), none] [.ref b] h2
  refine Ev.sg hX (sL_law_406.sub 0 1) (pc' := 408) (ls' := [some (.ref (BIG + 300)), some (.ref 0), some (.ref bY), some (.int now), some (.int (nI n)), some (.int c), some (.int (nI k)), some (.int (nI w)), some (.ref b)]) (st' := []) (h' := h2) rfl ?_
  exact kk h2 b c k w _ _ hk (by omega) (by omega) b4 ox2 ob (by show zN h2 ≤ b + 400; omega) (by omega) (by omega)
end LWT
