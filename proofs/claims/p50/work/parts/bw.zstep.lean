/-! z's calls, whatever its first car weighs -/
section ZST
variable {s : GS} {l l' : List Nat} {z m k w kk : Nat} {a b c c' e f v : Int32}
/-- z's numbers are those of the list, but for what left and the first car's weight -/
def ZL (l : List Nat) (s : GS) : Prop := ∀ j, j ≠ 6 → j ≠ 79 → s.1 j = LN l j
theorem ZL.e6 (h : ZL l s) : E6 (GJ s.1) (GJ (LN l)) := by
  refine ⟨fun a ha => ?_, fun j h6 h7 => ?_⟩
  · funext i
    show (if a = 397 then _ else _) = (if a = 397 then _ else _)
    rw [if_neg ha, if_neg ha]
  · show nI (s.1 j) = nI (LN l j)
    rw [h j h6 h7]
theorem z_step (hg : ZL l s) (hz : LN l 0 = z) (hm : LN l 1 = m) (hl : l'.length ≤ 179) (hc : (mK (GJ s.1) z m a b c e f kk).1 = (mK (GJ (LN l)) z m a b c' e f kk).1 ∧ E6 (mK (GJ s.1) z m a b c e f kk).2 (mK (GJ (LN l)) z m a b c' e f kk).2) (hv : (mK (GJ (LN l)) z m a b c' e f kk).1 = v ∧ (mK (GJ (LN l)) z m a b c' e f kk).2 396 12 = 0) (hr : ∀ j, j < 179 → canonG ((mK (GJ (LN l)) z m a b c' e f kk).2 397) j = LN l' j) : (cmF s a b c e f kk).1 = v ∧ (cmF s a b c e f kk).2 396 12 = 0 ∧ ZL l' (cmG s a b c e f kk) := by
  have e0 : s.1 0 = z := (hg 0 (by decide) (by decide)).trans hz
  have e1 : s.1 1 = m := (hg 1 (by decide) (by decide)).trans hm
  have ef : cmF s a b c e f kk = mK (GJ s.1) z m a b c e f kk := by
    unfold cmF
    rw [e0, e1]
  have cd : (cmF s a b c e f kk).2 396 12 = 0 := by
    rw [ef, hc.2.1 396 (by decide)]
    exact hv.2
  refine ⟨by rw [ef, hc.1]; exact hv.1, cd, fun j h6 h7 => ?_⟩
  unfold cmG cmS
  rw [if_pos cd]
  show canonG ((cmF s a b c e f kk).2 397) j = LN l' j
  by_cases hj : j < 179
  · rw [← hr j hj, ef]
    unfold canonG
    rw [if_pos hj, if_pos hj, hc.2.2 j h6 h7]
  · unfold canonG LN
    rw [if_neg hj, List.getD_eq_getElem?_getD, List.getElem?_eq_none (by omega)]
    rfl
theorem z_bad {cd : Int32} (hg : ZL l s) (hz : LN l 0 = z) (hm : LN l 1 = m) (hc : E6 (mK (GJ s.1) z m a b c e f kk).2 (mK (GJ (LN l)) z m a b c e f kk).2) (hv : (mK (GJ (LN l)) z m a b c e f kk).2 396 12 = cd) : (cmF s a b c e f kk).2 396 12 = cd := by
  have e0 : s.1 0 = z := (hg 0 (by decide) (by decide)).trans hz
  have e1 : s.1 1 = m := (hg 1 (by decide) (by decide)).trans hm
  have ef : cmF s a b c e f kk = mK (GJ s.1) z m a b c e f kk := by
    unfold cmF
    rw [e0, e1]
  rw [ef, hc.1 396 (by decide)]
  exact hv
theorem zl_len : ∀ k, k < 4 → (zl0 k).length = 179 ∧ (zl1 k).length = 179 ∧ (zl2 k).length = 179 ∧ (zl3 k).length = 179 ∧ (zl4 k).length = 179 ∧ (zl5 k).length = 179 ∧ (zl6 k).length = 179 ∧ (zl7 k).length = 179 ∧ (zl8 k).length = 179 ∧ (zl9 k).length = 179 ∧ (zl10 k).length = 179 ∧ (zl11 k).length = 179 := by decide +kernel
theorem zl_01 : ∀ k, k < 4 → (LN (zl0 k) 0 = 3 ∧ LN (zl0 k) 1 = 0) ∧ (LN (zl1 k) 0 = 3 ∧ LN (zl1 k) 1 = 1) ∧ (LN (zl2 k) 0 = 3 ∧ LN (zl2 k) 1 = 2) ∧ (LN (zl3 k) 0 = 3 ∧ LN (zl3 k) 1 = 3) ∧ (LN (zl4 k) 0 = 3 ∧ LN (zl4 k) 1 = 3) ∧ (LN (zl5 k) 0 = 3 ∧ LN (zl5 k) 1 = 3) ∧ (LN (zl6 k) 0 = 3 ∧ LN (zl6 k) 1 = 3) ∧ (LN (zl7 k) 0 = 3 ∧ LN (zl7 k) 1 = 3) ∧ (LN (zl8 k) 0 = 3 ∧ LN (zl8 k) 1 = 3) ∧ (LN (zl9 k) 0 = 3 ∧ LN (zl9 k) 1 = 1) ∧ (LN (zl10 k) 0 = 3 ∧ LN (zl10 k) 1 = 2) ∧ (LN (zl11 k) 0 = 3 ∧ LN (zl11 k) 1 = 2) := by decide +kernel
theorem zwt_ok : ∀ w, 10 ≤ w → w ≤ 73 → (10 : Int32) ≤ nI w ∧ nI w ≤ 90 := fun w h1 h2 => ⟨(nI_leI (a := 10) (b := w) (by omega) (by omega)).mpr h1, (nI_leI (a := w) (b := 90) (by omega) (by omega)).mpr (by omega)⟩
/-- the first car -/
theorem z_1 (hk : k < 4) (hw : 10 ≤ w ∧ w ≤ 73) (h : ZL (zl0 k) s) : (cmF s 0 15 (nI w) 7 1 3).1 = nI 1 ∧ (cmF s 0 15 (nI w) 7 1 3).2 396 12 = 0 ∧ ZL (zl1 k) (cmG s 0 15 (nI w) 7 1 3) := by
  have L := zl_len k hk
  have Z := zl_01 k hk
  exact z_step (c' := 10) h Z.1.1 Z.1.2 (by omega) (acc_c h.e6 (by decide) (by decide) ⟨zwt_ok w hw.1 hw.2, by decide⟩ (Or.inr rfl)) (zc1v k hk) (zc1r k hk)
theorem z_2 (hk : k < 4) (h : ZL (zl1 k) s) : (cmF s 0 20 90 2 0 3).1 = nI 2 ∧ (cmF s 0 20 90 2 0 3).2 396 12 = 0 ∧ ZL (zl2 k) (cmG s 0 20 90 2 0 3) := by
  have L := zl_len k hk
  have Z := zl_01 k hk
  exact z_step (c' := 90) h Z.2.1.1 Z.2.1.2 (by omega) (acc_c h.e6 (by decide) (by decide) ⟨by decide, by decide⟩ (Or.inl rfl)) (zc2v k hk) (zc2r k hk)
theorem z_3 (hk : k < 4) (h : ZL (zl2 k) s) : (cmF s 0 10 10 7 1 3).1 = nI 3 ∧ (cmF s 0 10 10 7 1 3).2 396 12 = 0 ∧ ZL (zl3 k) (cmG s 0 10 10 7 1 3) := by
  have L := zl_len k hk
  have Z := zl_01 k hk
  exact z_step (c' := 10) h Z.2.2.1.1 Z.2.2.1.2 (by omega) (acc_c h.e6 (by decide) (by decide) ⟨by decide, by decide⟩ (Or.inl rfl)) (zc3v k hk) (zc3r k hk)
theorem z_f1 (hk : k < 4) (h : ZL (zl3 k) s) : (cmF s 0 16 10 1 1 3).2 396 12 = 4 := by
  have Z := zl_01 k hk
  exact z_bad h Z.2.2.2.1.1 Z.2.2.2.1.2 (acc_c h.e6 (by decide) (by decide) ⟨by decide, by decide⟩ (Or.inl rfl)).2 (zf1 k hk)
theorem z_f4 (hk : k < 4) (h : ZL (zl3 k) s) : (cmF s 0 1 3 0 0 4).2 396 12 = 5 := by
  have Z := zl_01 k hk
  exact z_bad h Z.2.2.2.1.1 Z.2.2.2.1.2 (shu_c h.e6 (by decide) (by decide) (by decide) (by decide)).2 (zf4 k hk)
theorem z_4 (hk : k < 4) (h : ZL (zl3 k) s) : (cmF s 0 1 2 0 0 4).1 = nI (3 + k) ∧ (cmF s 0 1 2 0 0 4).2 396 12 = 0 ∧ ZL (zl4 k) (cmG s 0 1 2 0 0 4) := by
  have L := zl_len k hk
  have Z := zl_01 k hk
  exact z_step (c' := 2) h Z.2.2.2.1.1 Z.2.2.2.1.2 (by omega) (shu_c h.e6 (by decide) (by decide) (by decide) (by decide)) (zc4v k hk) (zc4r k hk)
theorem z_5 (hk : k < 4) (h : ZL (zl4 k) s) : (cmF s 1 2 1 0 0 4).1 = nI 3 ∧ (cmF s 1 2 1 0 0 4).2 396 12 = 0 ∧ ZL (zl5 k) (cmG s 1 2 1 0 0 4) := by
  have L := zl_len k hk
  have Z := zl_01 k hk
  exact z_step (c' := 1) h Z.2.2.2.2.1.1 Z.2.2.2.2.1.2 (by omega) (shu_c h.e6 (by decide) (by decide) (by decide) (by decide)) (zc5v k hk) (zc5r k hk)
theorem z_6 (hk : k < 4) (h : ZL (zl5 k) s) : (cmF s 1 0 1 0 0 4).1 = nI 4 ∧ (cmF s 1 0 1 0 0 4).2 396 12 = 0 ∧ ZL (zl6 k) (cmG s 1 0 1 0 0 4) := by
  have L := zl_len k hk
  have Z := zl_01 k hk
  exact z_step (c' := 1) h Z.2.2.2.2.2.1.1 Z.2.2.2.2.2.1.2 (by omega) (shu_c h.e6 (by decide) (by decide) (by decide) (by decide)) (zc6v k hk) (zc6r k hk)
theorem z_7 (hk : k < 4) (h : ZL (zl6 k) s) : (cmF s 3 0 0 0 0 5).1 = nI 1 ∧ (cmF s 3 0 0 0 0 5).2 396 12 = 0 ∧ ZL (zl7 k) (cmG s 3 0 0 0 0 5) := by
  have L := zl_len k hk
  have Z := zl_01 k hk
  exact z_step (c' := 0) h Z.2.2.2.2.2.2.1.1 Z.2.2.2.2.2.2.1.2 (by omega) (rep_c h.e6 (by decide)) (zc7v k hk) (zc7r k hk)
theorem z_f6 (hk : k < 4) (h : ZL (zl7 k) s) : (cmF s 3 0 0 0 0 5).2 396 12 = 2 := by
  have Z := zl_01 k hk
  exact z_bad h Z.2.2.2.2.2.2.2.1.1 Z.2.2.2.2.2.2.2.1.2 (rep_c h.e6 (by decide)).2 (zf6 k hk)
theorem z_8 (hk : k < 4) (h : ZL (zl7 k) s) : (cmF s 1 0 0 0 0 5).1 = nI 0 ∧ (cmF s 1 0 0 0 0 5).2 396 12 = 0 ∧ ZL (zl8 k) (cmG s 1 0 0 0 0 5) := by
  have L := zl_len k hk
  have Z := zl_01 k hk
  exact z_step (c' := 0) h Z.2.2.2.2.2.2.2.1.1 Z.2.2.2.2.2.2.2.1.2 (by omega) (rep_c h.e6 (by decide)) (zc8v k hk) (zc8r k hk)
theorem z_10 (hk : k < 4) (h : ZL (zl9 k) s) : (cmF s 2 30 10 9 0 3).1 = nI 4 ∧ (cmF s 2 30 10 9 0 3).2 396 12 = 0 ∧ ZL (zl10 k) (cmG s 2 30 10 9 0 3) := by
  have L := zl_len k hk
  have Z := zl_01 k hk
  exact z_step (c' := 10) h Z.2.2.2.2.2.2.2.2.2.1.1 Z.2.2.2.2.2.2.2.2.2.1.2 (by omega) (acc_c h.e6 (by decide) (by decide) ⟨by decide, by decide⟩ (Or.inl rfl)) (zc10v k hk) (zc10r k hk)
theorem z_11 (hk : k < 4) (h : ZL (zl10 k) s) : (cmF s 1 2 0 0 0 2).1 = nI 1 ∧ (cmF s 1 2 0 0 0 2).2 396 12 = 0 ∧ ZL (zl11 k) (cmG s 1 2 0 0 0 2) := by
  have L := zl_len k hk
  have Z := zl_01 k hk
  exact z_step (c' := 0) h Z.2.2.2.2.2.2.2.2.2.2.1.1 Z.2.2.2.2.2.2.2.2.2.2.1.2 (by omega) (dc_c h.e6 (by decide) (by decide) (by decide)) (zc11v k hk) (zc11r k hk)
theorem z_f7 (hk : k < 4) (h : ZL (zl11 k) s) : (cmF s 2 0 1 0 0 4).2 396 12 = 4 := by
  have Z := zl_01 k hk
  exact z_bad h Z.2.2.2.2.2.2.2.2.2.2.2.1 Z.2.2.2.2.2.2.2.2.2.2.2.2 (shu_c h.e6 (by decide) (by decide) (by decide) (by decide)).2 (zf7 k hk)
theorem z_f8 (hk : k < 4) (h : ZL (zl11 k) s) : (cmF s 1 1 0 0 0 2).2 396 12 = 2 := by
  have Z := zl_01 k hk
  exact z_bad h Z.2.2.2.2.2.2.2.2.2.2.2.1 Z.2.2.2.2.2.2.2.2.2.2.2.2 (dc_c h.e6 (by decide) (by decide) (by decide)).2 (zf8 k hk)
end ZST
