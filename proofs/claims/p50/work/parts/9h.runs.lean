/-! a run of commands: class and model -/
section YRU
variable {K : Nat} {I J I2 X Y : HI} {L L2 : HL} {g g' σ : Nat → Nat} {a b c e f t v : Int32} {k kk z m x y q r n j ct ch : Nat}
/-- rows that the model's commands leave as they are -/
def FRM (J X : HI) : Prop := (∀ r, r ≠ 397 → r ≠ 403 → r ≠ 396 → X r = J r) ∧ ∀ j, j ≠ 12 → X 396 j = J 396 j
theorem FRM.rf : FRM J J := ⟨fun _ _ _ _ => rfl, fun _ _ => rfl⟩
theorem FRM.th (h : FRM J X) : FRM J (up2 X 396 12 v) := ⟨fun r h1 h2 h3 => (up2_ne h3).trans (h.1 r h1 h2 h3), fun j hj => (up2_i hj).trans (h.2 j hj)⟩
theorem FRM.gg (h : FRM J X) : FRM J (up2 X 397 k v) := ⟨fun r h1 h2 h3 => (up2_ne h1).trans (h.1 r h1 h2 h3), fun j hj => (congrFun (up2_ne (by decide)) j).trans (h.2 j hj)⟩
theorem FRM.xx (h : FRM J X) (hY : ∀ r, r ≠ 397 → r ≠ 403 → Y r = X r) : FRM J Y := ⟨fun r h1 h2 h3 => (hY r h1 h2).trans (h.1 r h1 h2 h3), fun j hj => (congrFun (hY 396 (by decide) (by decide)) j).trans (h.2 j hj)⟩
theorem FRM.tr (h : FRM J X) (h2 : FRM X Y) : FRM J Y := ⟨fun r a b c => (h2.1 r a b c).trans (h.1 r a b c), fun j hj => (h2.2 j hj).trans (h.2 j hj)⟩
theorem adt_f : FRM J (adtM J z a b).2 := by
  unfold adtM
  split
  · exact FRM.rf.th
  · split
    · exact FRM.rf.th
    · exact (FRM.rf.gg.gg.gg).th
theorem cn_f : FRM J (cnM J z a b).2 := by
  unfold cnM
  split
  · exact FRM.rf.th
  · split
    · exact FRM.rf.th
    · split
      · exact FRM.rf.th
      · exact (FRM.rf.xx (fun r h1 h2 => tlM_ne h1)).th
theorem dc_f : FRM J (dcM J z a b).2 := by
  unfold dcM
  split
  · exact FRM.rf.th
  · split
    · exact (FRM.rf.xx (fun r h1 h2 => tlM_ne h1)).th
    · exact FRM.rf.th
theorem acc_f : FRM J (accM J m a b c e f).2 := by
  unfold accM
  split
  · exact FRM.rf.th
  · split
    · exact FRM.rf.th
    · split
      · exact FRM.rf.th
      · split
        · exact FRM.rf.th
        · exact (FRM.rf.gg.gg.gg.gg.gg.gg.gg.gg.gg.gg).th
theorem shu_f : FRM J (shuM J m z a b c).2 := by
  unfold shuM
  split
  · exact (FRM.rf.xx (fun r h1 h2 => whM_ne h2)).th
  · exact ((FRM.rf.xx (Y := shK J m z a.toNatClampNeg b.toNatClampNeg c.toNatClampNeg) (fun r h1 h2 => shK_ne h1 h2)).gg.gg).th
theorem rep_f : FRM J (repM J m a).2 := by
  unfold repM
  split
  · exact FRM.rf.th
  · split
    · exact FRM.rf.th
    · exact FRM.rf.gg.th
theorem dep_f : FRM J (depM J m a b).2 := by
  unfold depM
  split
  · exact FRM.rf.th
  · split
    · exact FRM.rf.th
    · split
      · exact FRM.rf.th
      · split
        · exact FRM.rf.th
        · exact (FRM.rf.xx (fun r h1 h2 => dpF_ne h1)).th
theorem mK_f : FRM J (mK J z m a b c e f kk).2 := by
  unfold mK
  split
  · exact adt_f
  · exact cn_f
  · exact dc_f
  · exact acc_f
  · exact shu_f
  · exact rep_f
  · exact dep_f
/-- rows that the class's commands leave as they are -/
def FRC (I X : HI) : Prop := ∀ a, (36 ≤ a ∨ a = 0) → X a = I a
theorem FRC.rf : FRC I I := fun _ _ => rfl
theorem FRC.up (h : FRC I X) (h1 : 0 < z) (h2 : z < 36) : FRC I (up2 X z k v) := fun a ha => (up2_ne (by omega)).trans (h a ha)
theorem FRC.upr (h : FRC I X) (h1 : 0 < z) (h2 : z < 36) : FRC I (upr X z n a v) := fun b hb => (upr_ne (by omega)).trans (h b hb)
theorem FRC.tr (h : FRC I X) (h2 : FRC X Y) : FRC I Y := fun a ha => (h2 a ha).trans (h a ha)
theorem FRC.eq (h : eqS X I) : FRC I X := fun a ha => h a (by omega) (by omega) (by omega) (by omega)
theorem mvL_f (h : FRC I X) : FRC I (moveL x y X) := (((((h.up (by decide) (by decide)).up (by decide) (by decide)).up (by decide) (by decide)).up (by decide) (by decide)).up (by decide) (by decide)).up (by decide) (by decide)
theorem lvI_f (h : FRC I X) : FRC I (leaveI X x y) := ((((h.up (by decide) (by decide)).up (by decide) (by decide)).up (by decide) (by decide)).up (by decide) (by decide)).up (by decide) (by decide)
theorem sendU_f (h : FRC I X) : FRC I (sendU X L x q).1 := fo_inv (P := fun (u : HI × Int64) => FRC I u.1) (fun k u hu => show FRC I (leaveI u.1 (popS u.1 x) x) from lvI_f hu) q 0 (X, L 1 7) h
theorem sendI_f (h : FRC I X) : FRC I (sendI X L x q) := by
  unfold sendI
  exact (sendU_f h).up (by decide) (by decide)
theorem doK_f : FRC I (doK I L z a b c e f kk).1 := by
  unfold doK
  split
  · exact ((FRC.rf.up (by decide) (by decide)).up (by decide) (by decide)).up (by decide) (by decide)
  · exact ((FRC.rf.upr (by decide) (by decide)).upr (by decide) (by decide)).up (by decide) (by decide)
  · exact ((FRC.rf.upr (by decide) (by decide)).upr (by decide) (by decide)).up (by decide) (by decide)
  · exact ((((((((((FRC.rf.up (by decide) (by decide)).up (by decide) (by decide)).up (by decide) (by decide)).up (by decide) (by decide)).up (by decide) (by decide)).up (by decide) (by decide)).up (by decide) (by decide)).up (by decide) (by decide)).up (by decide) (by decide)).up (by decide) (by decide)).up (by decide) (by decide)
  · exact (fo_inv (P := fun X => FRC I X) (fun k X h => mvL_f h) _ _ _ (FRC.eq bfsI_eq)).up (by decide) (by decide)
  · exact FRC.rf.up (by decide) (by decide)
  · exact sendI_f (FRC.eq listO_eq)
theorem doK_L {b9 : Nat} (hb : b9 ≠ 1) : (doK I L z a b c e f kk).2 b9 = L b9 := by
  unfold doK
  split
  · rfl
  · rfl
  · rfl
  · rfl
  · exact up2_ne hb
  · rfl
  · exact up2_ne hb
theorem fltK_eq : eqS (fltK I z a b c e kk).2 I := by
  unfold fltK
  split
  · exact eqS.rf I
  · exact eqS.rf I
  · exact eqS.rf I
  · exact eqS.rf I
  · exact move_eq
  · exact eqS.rf I
  · exact train_eq
theorem coM_k {P : Nat → Int32} (hk : kk < 7) (hP : J 404 = P) (hkc : P k = kc kk) (h : ∀ x, x < cn kk → [a, b, c, e, f].getD x 0 = P (k + 1 + x)) (hz : zO J = z) (hm : mO J = m) : coM J k = mK J z m a b c e f kk := by
  subst hP
  unfold coM
  rw [hkc, hz, hm]
  rcases (by omega : kk = 0 ∨ kk = 1 ∨ kk = 2 ∨ kk = 3 ∨ kk = 4 ∨ kk = 5 ∨ kk = 6) with q | q | q | q | q | q | q <;> subst q
  · rw [if_pos (show kc 0 = 116 from rfl), ← h 0 (by decide), ← h 1 (by decide)]; rfl
  · rw [if_neg (by decide), if_pos (show kc 1 = 115 from rfl), ← h 0 (by decide), ← h 1 (by decide)]; rfl
  · rw [if_neg (by decide), if_neg (by decide), if_pos (show kc 2 = 117 from rfl), ← h 0 (by decide), ← h 1 (by decide)]; rfl
  · rw [if_neg (by decide), if_neg (by decide), if_neg (by decide), if_pos (show kc 3 = 99 from rfl), ← h 0 (by decide), ← h 1 (by decide), ← h 2 (by decide), ← h 3 (by decide), ← h 4 (by decide)]; rfl
  · rw [if_neg (by decide), if_neg (by decide), if_neg (by decide), if_neg (by decide), if_pos (show kc 4 = 104 from rfl), ← h 0 (by decide), ← h 1 (by decide), ← h 2 (by decide)]; rfl
  · rw [if_neg (by decide), if_neg (by decide), if_neg (by decide), if_neg (by decide), if_neg (by decide), if_pos (show kc 5 = 114 from rfl), ← h 0 (by decide)]; rfl
  · rw [if_neg (by decide), if_neg (by decide), if_neg (by decide), if_neg (by decide), if_neg (by decide), if_neg (by decide), ← h 0 (by decide), ← h 1 (by decide)]; rfl
theorem kc_ok (hk : kk < 7) : cdOK (kc kk) ∧ (kc kk = 104 → kk = 4) ∧ (kc kk = 105 → kk = 6) := by
  have h : ∀ kk, kk < 7 → (kc kk = 116 ∨ kc kk = 115 ∨ kc kk = 117 ∨ kc kk = 99 ∨ kc kk = 104 ∨ kc kk = 114 ∨ kc kk = 105) ∧ (kc kk = 104 → kk = 4) ∧ (kc kk = 105 → kk = 6) := by decide
  exact h kk hk
theorem run_lo (hch : ch ≤ 8) : ∀ n j I L J g σ K, YR K I L (J 397) g σ → K + n ≤ 5000 → CMS (I 391) (I 393) (J 404) (j + n) → I 388 2 = nI ct → I 71 1 = nI k → I 71 2 = nI m → J 396 3 = nI ch →
    rOK ct k m n j I L ∧ mrOK ch n j J ∧ FRC I (runL n j I L).2.1 ∧ (∀ b, b ≠ 1 → (runL n j I L).2.2 b = L b) ∧ FRM J (mrL n j J).2 ∧
    ((∃ i v, (runL n j I L).1 = some i ∧ (mrL n j J).1 = some (i, v)) ∨ ((runL n j I L).1 = none ∧ (mrL n j J).1 = none ∧ ∃ g' σ', YR (K + n) (runL n j I L).2.1 (runL n j I L).2.2 ((mrL n j J).2 397) g' σ'))
  | 0, j, I, L, J, g, σ, K, H, hK, hC, h1, h2, h3, h4 => ⟨⟨h1, h2, h3⟩, h4, FRC.rf, fun _ _ => rfl, FRM.rf, Or.inr ⟨rfl, rfl, g, σ, H⟩⟩
  | n + 1, j, I, L, J, g, σ, K, H, hK, hC, h1, h2, h3, h4 => by
    have W := H.2.2.1
    have hz := W.1.1
    have hm20 := W.1.2.1
    obtain ⟨kk, hk, ek, ec, ev, ef⟩ := hC j (by omega)
    have sz : szOf I = g 0 := by
      unfold szOf
      rw [H.2.2.2.1.1]
      exact nI_clamp (by omega)
    have kt : (I 391 j).toNatClampNeg = kk := by rw [ek]; exact nI_clamp (by omega)
    have zz : zO J = g 0 := by
      unfold zO
      rw [H.2.1 0 (by decide)]
      exact nI_clamp (by omega)
    have mm : mO J = g 1 := by
      unfold mO
      rw [H.2.1 1 (by decide)]
      exact nI_clamp (by omega)
    have c5 := cn5 kk hk
    have evl : ∀ x, x < cn kk → [cV I j 0, cV I j 1, cV I j 2, cV I j 3, cV I j 4].getD x 0 = J 404 (6 * j + 1 + x) := fun x hx => by
      rw [← ev x hx]
      rcases (by omega : x = 0 ∨ x = 1 ∨ x = 2 ∨ x = 3 ∨ x = 4) with q | q | q | q | q <;> subst q <;> rfl
    have em : coM J (6 * j) = mK J (g 0) (g 1) (cV I j 0) (cV I j 1) (cV I j 2) (cV I j 3) (cV I j 4) kk := coM_k hk rfl ec evl zz mm
    have ec2 : fltC I j = fltK I (g 0) (cV I j 0) (cV I j 1) (cV I j 2) (cV I j 3) kk := by
      unfold fltC
      rw [sz, kt]
    have e4 : kk = 3 → cV I j 4 = 0 ∨ cV I j 4 = 1 := fun q => by
      have v4 := evl 4 (by rw [q]; decide)
      have v5 : cV I j 4 = J 404 (6 * j + 1 + 4) := v4
      rw [v5]
      exact ef q
    have D : CMD K I J L g (cV I j 0) (cV I j 1) (cV I j 2) (cV I j 3) (cV I j 4) kk := cmd_k H (by omega) hk e4
    have Q : eqS (fltC I j).2 I := by rw [ec2]; exact fltK_eq
    have row : ∀ a, a ≠ 10 → a ≠ 12 → a ≠ 14 → a ≠ 35 → (fltC I j).2 a = I a := Q
    have cVe : ∀ i, cV (fltC I j).2 j i = cV I j i := fun i => by
      unfold cV
      rw [row 393 (by decide) (by decide) (by decide) (by decide)]
    have sz2 : szOf (fltC I j).2 = g 0 := by
      unfold szOf
      rw [row 6 (by decide) (by decide) (by decide) (by decide)]
      exact sz
    have kt2 : ((fltC I j).2 391 j).toNatClampNeg = kk := by
      rw [row 391 (by decide) (by decide) (by decide) (by decide)]
      exact kt
    have hgt : ∀ t, t < 8 → ∃ hg, hg ≤ 20 ∧ I 31 t = nI hg := fun t ht => ⟨g (31 + t), W.h20 ht, (H.2.2.2.2.1 t ht).2.2.1⟩
    have bo : bOK I j := ⟨by rw [sz]; exact hz, by rw [sz]; exact H.2.2.2.1.1, hgt, kk, hk, ek⟩
    have bo2 : bOK (fltC I j).2 j := ⟨by rw [sz2]; exact hz, by rw [sz2, row 6 (by decide) (by decide) (by decide) (by decide)]; exact H.2.2.2.1.1, fun t ht => by
      rw [row 31 (by decide) (by decide) (by decide) (by decide)]
      exact hgt t ht, kk, hk, by rw [row 391 (by decide) (by decide) (by decide) (by decide)]; exact ek⟩
    have ko := kc_ok hk
    have co : coOK J (6 * j) := by
      refine ⟨⟨by rw [mm]; exact hm20, by rw [mm]; exact H.2.1 1 (by decide)⟩, ⟨by rw [zz]; exact hz, by rw [zz]; exact H.2.1 0 (by decide)⟩, by rw [mm]; exact PLM_g H.1 W H.2.1, by rw [ec]; exact ko.1, fun q => ?_, fun q => ?_⟩
      · have k4 := ko.2.1 (by rw [← ec]; exact q)
        subst k4
        have o := D.1
        have v0 : cV I j 0 = J 404 (6 * j + 1) := evl 0 (by decide)
        have v1 : cV I j 1 = J 404 (6 * j + 2) := evl 1 (by decide)
        have v2 : cV I j 2 = J 404 (6 * j + 3) := evl 2 (by decide)
        rw [mm, zz, ← v0, ← v1, ← v2]
        exact o
      · have k6 := ko.2.2 (by rw [← ec]; exact q)
        subst k6
        have o := D.1
        have v0 : cV I j 0 = J 404 (6 * j + 1) := evl 0 (by decide)
        have v1 : cV I j 1 = J 404 (6 * j + 2) := evl 1 (by decide)
        rw [mm, ← v0, ← v1]
        exact o
    have fm : FRM J (coM J (6 * j)).2 := by rw [em]; exact mK_f
    have ch2 : (coM J (6 * j)).2 396 3 = nI ch := (fm.2 3 (by decide)).trans h4
    have do2 : doC (fltC I j).2 L j = doK (fltC I j).2 L (g 0) (cV I j 0) (cV I j 1) (cV I j 2) (cV I j 3) (cV I j 4) kk := by
      unfold doC
      rw [sz2, kt2, cVe, cVe, cVe, cVe, cVe]
    rcases D.2 with ⟨i0, E, hxs, -, d1, d2⟩ | ⟨d1, d2, d3⟩
    · have nf : ¬ (fltC I j).1 = 0 := by rw [ec2]; exact d1
      have mt : ¬ (coM J (6 * j)).2 396 12 = 0 := by
        rw [em, d2]
        intro q
        have i5 : i0 < 5 := by
          have : ∀ kk, kk < 7 → (xsK kk).length ≤ 5 := by decide
          have l5 := this kk hk
          have : i0 < (xsK kk).length := by
            by_cases h : i0 < (xsK kk).length
            · exact h
            · rw [List.getElem?_eq_none (by omega)] at hxs
              cases hxs
          omega
        have := nI_inj (b := 0) (by omega) (by omega) q
        omega
      have r1 : runL (n + 1) j I L = (some j, (fltC I j).2, L) := if_neg nf
      have r2 : mrL (n + 1) j J = (some (j, (coM J (6 * j)).1), (coM J (6 * j)).2) := if_neg mt
      rw [r1, r2]
      exact ⟨⟨h1, bo, fun q => absurd q nf⟩, ⟨co, ch2, fun q => absurd q mt⟩, FRC.eq Q, fun _ _ => rfl, fm, Or.inl ⟨j, _, rfl, rfl⟩⟩
    · have yf : (fltC I j).1 = 0 := by rw [ec2]; exact d1
      have mt : (coM J (6 * j)).2 396 12 = 0 := by rw [em]; exact d2
      obtain ⟨k1, -, g', σ', Y⟩ := d3 (fltC I j).2 L (fun a _ q1 q2 q3 q4 => row a q1 q2 q3 q4) rfl
      rw [← do2, ← em] at Y
      have fc : FRC I (doC (fltC I j).2 L j).1 := (FRC.eq Q).tr (by rw [do2]; exact doK_f)
      have fl : ∀ b, b ≠ 1 → (doC (fltC I j).2 L j).2 b = L b := fun b hb => by rw [do2]; exact doK_L hb
      have hC2 : CMS ((doC (fltC I j).2 L j).1 391) ((doC (fltC I j).2 L j).1 393) ((coM J (6 * j)).2 404) (j + 1 + n) := by
        rw [fc 391 (Or.inl (by decide)), fc 393 (Or.inl (by decide)), fm.1 404 (by decide) (by decide) (by decide), show j + 1 + n = j + (n + 1) by omega]
        exact hC
      obtain ⟨s1, s2, s3, s4, s5, s6⟩ := run_lo hch n (j + 1) _ _ _ g' σ' (K + 1) Y (by omega) hC2 (by rw [fc 388 (Or.inl (by decide))]; exact h1) (by rw [fc 71 (Or.inl (by decide))]; exact h2) (by rw [fc 71 (Or.inl (by decide))]; exact h3) ch2
      have r1 : runL (n + 1) j I L = runL n (j + 1) (doC (fltC I j).2 L j).1 (doC (fltC I j).2 L j).2 := if_pos yf
      have r2 : mrL (n + 1) j J = mrL n (j + 1) (coM J (6 * j)).2 := if_pos mt
      rw [r1, r2]
      refine ⟨⟨h1, bo, fun _ => ⟨bo2, ?_, s1⟩⟩, ⟨co, ch2, fun _ => s2⟩, fc.tr s3, fun b hb => (s4 b hb).trans (fl b hb), fm.tr s5, ?_⟩
      · rw [sz2, kt2, cVe, cVe, cVe]
        exact k1
      · rw [show K + (n + 1) = K + 1 + n by omega]
        exact s6
end YRU
