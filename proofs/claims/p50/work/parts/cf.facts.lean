/-! z's later questions: the same answers where the rows agree but at 6 and 79; decided at the lists -/
section CFA
variable {I J : HI} {m z x k : Nat} {a b c t : Int32}
theorem carAt_c (h : E6 I J) (hm : m ≤ 20) (ht : t.toNatClampNeg < 8) : (carAtM I m t c).1 = (carAtM J m t c).1 ∧ (carAtM I m t c).2 396 12 = (carAtM J m t c).2 396 12 := by
  have l := slA_lt (I := J) (t := t) (p := c) hm
  unfold carAtM dnM
  simp only [tk_c h, h.2 (31 + t.toNatClampNeg) (by omega) (by omega), slA_c h hm, h.2 (39 + (slAM J m t c).toNatClampNeg) (by omega) (by omega)]
  (repeat' split) <;> exact ⟨rfl, by dsimp only; exact up2_hit.trans up2_hit.symm⟩
theorem slP_c (h : E6 I J) (hm : m ≤ 20) {f1 f2 : Nat → Int32} (hf : ∀ s, s < 20 → f1 s = f2 s) : (slP I m c f1).1 = (slP J m c f2).1 ∧ (slP I m c f1).2 396 12 = (slP J m c f2).2 396 12 := by
  unfold slP
  rw [slO_c h hm]
  split
  · exact ⟨rfl, by dsimp only; exact up2_hit.trans up2_hit.symm⟩
  · exact ⟨hf _ (slO_lt hm), by dsimp only; exact up2_hit.trans up2_hit.symm⟩
theorem cb_c (h : E6 I J) (hJ : ∀ s, s < 20 → (J 397 (139 + s)).toNatClampNeg < 8) : ∀ s, s < 20 → I 397 (31 + (I 397 (139 + s)).toNatClampNeg) - 1 - I 397 (159 + s) = J 397 (31 + (J 397 (139 + s)).toNatClampNeg) - 1 - J 397 (159 + s) := fun s hs => by
  have q := hJ s hs
  rw [h.2 (139 + s) (by omega) (by omega), h.2 (159 + s) (by omega) (by omega), h.2 (31 + (J 397 (139 + s)).toNatClampNeg) (by omega) (by omega)]
theorem cf_c (h : E6 I J) (hm : m ≤ 20) : (if 0 ≤ c ∧ c ≤ 9 then (fo (cfS I c) m 0 0, up2 I 396 12 0) else ((0 : Int32), up2 I 396 12 1)).1 = (if 0 ≤ c ∧ c ≤ 9 then (fo (cfS J c) m 0 0, up2 J 396 12 0) else ((0 : Int32), up2 J 396 12 1)).1 ∧ (if 0 ≤ c ∧ c ≤ 9 then (fo (cfS I c) m 0 0, up2 I 396 12 0) else ((0 : Int32), up2 I 396 12 1)).2 396 12 = (if 0 ≤ c ∧ c ≤ 9 then (fo (cfS J c) m 0 0, up2 J 396 12 0) else ((0 : Int32), up2 J 396 12 1)).2 396 12 := by
  have e : fo (cfS I c) m 0 0 = fo (cfS J c) m 0 0 := fo_c _ _ _ (fun i v _ hi => by
    unfold cfS
    rw [h.2 (99 + i) (by omega) (by omega)])
  rw [e]
  split
  · exact ⟨rfl, by dsimp only; exact up2_hit.trans up2_hit.symm⟩
  · exact ⟨rfl, by dsimp only; exact up2_hit.trans up2_hit.symm⟩
theorem rk_c (h : E6 I J) (hm : m ≤ 20) (hz : z ≤ 8) : rkF I m z c z 0 = rkF J m z c z 0 := by
  unfold rkF
  refine fnd_c _ _ (fun i _ hi => ?_)
  have e : fo (rkS I m i) z 0 0 = fo (rkS J m i) z 0 0 := fo_c _ _ _ (fun j v _ hj => by
    unfold rkS ahM
    simp only [ro_c h hm (show j < 8 by omega), ro_c h hm (show i < 8 by omega), h.2 (15 + i) (by omega) (by omega), h.2 (15 + j) (by omega) (by omega)])
  rw [e]
theorem rkP_c {v : Int32} : (rkP I v).1 = (rkP J v).1 ∧ (rkP I v).2 396 12 = (rkP J v).2 396 12 := by
  unfold rkP
  split
  · exact ⟨rfl, by dsimp only; exact up2_hit.trans up2_hit.symm⟩
  · exact ⟨rfl, by dsimp only; exact up2_hit.trans up2_hit.symm⟩
/-- the one car's rank -/
theorem cah_0 : ¬ cahM I 0 0 := by
  intro q
  unfold cahM at q
  rw [Int32.sub_self, Int32.sub_self] at q
  rcases q with q | ⟨-, q | ⟨-, q⟩⟩
  · exact absurd q (by decide)
  · exact absurd q (by decide)
  · exact absurd (Int32.lt_iff_toInt_lt.mp q) (by omega)
theorem cr_1 : (crP I 1 0 1 0).1 = I 397 39 ∧ (crP I 1 0 1 0).2 396 12 = 0 := by
  have e : fo (crS I 0) 1 0 0 = 0 := by
    show crS I 0 0 0 = 0
    show 0 + (if cahM I 0 0 then (1 : Int32) else 0) = 0
    rw [if_neg cah_0]
    rfl
  have e2 : crP I 1 0 1 0 = (I 397 (39 + 0), up2 I 396 12 0) := by
    show (if fo (crS I 0) 1 0 0 = 0 then (I 397 (39 + 0), up2 I 396 12 0) else crP I 1 0 0 (0 + 1)) = _
    rw [if_pos e]
  rw [e2]
  exact ⟨rfl, show up2 I 396 12 0 396 12 = 0 from up2_hit⟩
set_option maxRecDepth 100000 in
theorem zn3 : ∀ k, k < 4 → (nfM (GJ (LN (zl3 k))) 3 3 0).1 = 1 ∧ (nfM (GJ (LN (zl3 k))) 3 3 0).2 396 12 = 0 := by decide +kernel
set_option maxRecDepth 100000 in
theorem zn4 : ∀ k, k < 4 → ((carAtM (GJ (LN (zl4 k))) 3 1 0).1 = 3 ∧ (carAtM (GJ (LN (zl4 k))) 3 1 0).2 396 12 = 0) ∧ ((carAtM (GJ (LN (zl4 k))) 3 1 1).1 = 2 ∧ (carAtM (GJ (LN (zl4 k))) 3 1 1).2 396 12 = 0) ∧ LN (zl4 k) 5 = 3 + k ∧ lg_cmp (lN (3 + k)) (3 + (nI k).toInt64) = 0 := by decide +kernel
set_option maxRecDepth 100000 in
theorem zn5 : ∀ k, k < 4 → (carAtM (GJ (LN (zl5 k))) 3 2 0).1 = 2 ∧ (carAtM (GJ (LN (zl5 k))) 3 2 0).2 396 12 = 0 := by decide +kernel
set_option maxRecDepth 100000 in
theorem zn6 : ∀ k, k < 4 → ((dnM (tkM (GJ (LN (zl6 k))) 0) (trN (GJ (LN (zl6 k))) 3 0) (GJ (LN (zl6 k))) 1).1 = 2 ∧ (dnM (tkM (GJ (LN (zl6 k))) 0) (trN (GJ (LN (zl6 k))) 3 0) (GJ (LN (zl6 k))) 1).2 396 12 = 0) ∧ ((slP (GJ (LN (zl6 k))) 3 1 (fun s => (GJ (LN (zl6 k))) 397 (31 + ((GJ (LN (zl6 k))) 397 (139 + s)).toNatClampNeg) - 1 - (GJ (LN (zl6 k))) 397 (159 + s))).1 = 1 ∧ (slP (GJ (LN (zl6 k))) 3 1 (fun s => (GJ (LN (zl6 k))) 397 (31 + ((GJ (LN (zl6 k))) 397 (139 + s)).toNatClampNeg) - 1 - (GJ (LN (zl6 k))) 397 (159 + s))).2 396 12 = 0) ∧ ((srtM (GJ (LN (zl6 k))) 3 0).1 = 1 ∧ (srtM (GJ (LN (zl6 k))) 3 0).2 396 12 = 0) ∧ (∀ s, s < 20 → (GJ (LN (zl6 k)) 397 (139 + s)).toNatClampNeg < 8) ∧ LN (zl6 k) 3 = 3 ∧ LN (zl6 k) 5 = 10 + k := by decide +kernel
set_option maxRecDepth 100000 in
theorem zn9 : ∀ k, k < 4 → slOM (GJ (LN (zl9 k))) 1 1 = -1 ∧ slOM (GJ (LN (zl9 k))) 1 2 = 0 ∧ ((if 0 ≤ (7 : Int32) ∧ (7 : Int32) ≤ 9 then (fo (cfS (GJ (LN (zl9 k))) 7) 1 0 0, up2 (GJ (LN (zl9 k))) 396 12 0) else ((0 : Int32), up2 (GJ (LN (zl9 k))) 396 12 1)).1 = 0 ∧ (if 0 ≤ (7 : Int32) ∧ (7 : Int32) ≤ 9 then (fo (cfS (GJ (LN (zl9 k))) 7) 1 0 0, up2 (GJ (LN (zl9 k))) 396 12 0) else ((0 : Int32), up2 (GJ (LN (zl9 k))) 396 12 1)).2 396 12 = 0) ∧ (LN (zl9 k) 39 = 2 ∧ LN (zl9 k) 4 = 2) ∧ (LN (zl9 k) 7 = 60 ∧ LN (zl9 k) 8 = 40 ∧ LN (zl9 k) 9 = 50) ∧ LN (zl9 k) 139 = 2 ∧ LN (zl9 k) 59 = 20 := by decide +kernel
set_option maxRecDepth 100000 in
theorem zn10 : ∀ k, k < 4 → ((dnM (tkM (GJ (LN (zl10 k))) 2) (paM (GJ (LN (zl10 k))) 2 2 2) (GJ (LN (zl10 k))) 1).1 = 1 ∧ (dnM (tkM (GJ (LN (zl10 k))) 2) (paM (GJ (LN (zl10 k))) 2 2 2) (GJ (LN (zl10 k))) 1).2 396 12 = 0) ∧ LN (zl10 k) 33 = 2 ∧ ((rlM (GJ (LN (zl10 k))) 3 2 0).1 = 2 ∧ (rlM (GJ (LN (zl10 k))) 3 2 0).2 396 12 = 0) ∧ LN (zl10 k) 3 = 3 := by decide +kernel
set_option maxRecDepth 100000 in
theorem zn11 : ∀ k, k < 4 → ((rkP (GJ (LN (zl11 k))) (rkF (GJ (LN (zl11 k))) 2 3 0 3 0)).1 = 0 ∧ (rkP (GJ (LN (zl11 k))) (rkF (GJ (LN (zl11 k))) 2 3 0 3 0)).2 396 12 = 0) ∧ ((rkP (GJ (LN (zl11 k))) (rkF (GJ (LN (zl11 k))) 2 3 2 3 0)).1 = 2 ∧ (rkP (GJ (LN (zl11 k))) (rkF (GJ (LN (zl11 k))) 2 3 2 3 0)).2 396 12 = 0) ∧ (stiM (GJ (LN (zl11 k))) 2 3 2 2 1).2 396 12 = nI 2 := by decide +kernel
theorem zl_w : ∀ w, w < 74 → lg_cmp (lN (w + 10)) ((nI w).toInt64 + 10) = 0 := by decide +kernel
theorem zf_m : ∀ k, k < 4 → vf_n64 (FP.ddiv (FP.l2d (lN (10 + k))) (FP.i2d (nI 3))) ∧ vf_n64 (FP.ddiv (FP.i2d (10 + nI k)) 4613937818241073152) ∧ Op.cmpValue (FP.dcmp (FP.ddiv (FP.l2d (lN (10 + k))) (FP.i2d (nI 3))) (FP.ddiv (FP.i2d (10 + nI k)) 4613937818241073152)) .l = 0 := by
  unfold vf_n64
  decide +kernel
theorem zf_u : vf_n32 (FP.fdiv (FP.i2f (nI 20)) (FP.i2f (nI 150))) ∧ Op.cmpValue (FP.fcmp (FP.fdiv (FP.i2f (nI 20)) (FP.i2f (nI 150))) 1040746633) .l = 0 := by
  unfold vf_n32
  decide +kernel
end CFA
