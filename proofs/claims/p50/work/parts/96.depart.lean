/-! trains: class and model -/
section YDP
variable {K : Nat} {I J : HI} {L : HL} {g g' σ : Nat → Nat} {x y s t i k u z : Nat}
theorem lvI_16 {f u : Nat} {j : Nat} : leaveI I u f 1 j = I 1 j := by rw [le_ne (by decide) (by decide) (by decide) (by decide) (by decide)]
theorem lv_loop {m0 : Nat} : ∀ n k I J g σ (acc : Int64), LV K I J g σ → acc = lN (g 6) → x < g 0 → n ≤ g (31 + x) → m0 - k = g 1 →
    lvOK x n (I, acc) ∧ okDp m0 x n k J ∧ ∃ g' σ', LV K (fo (fun _ u => leaveL x u) n k (I, acc)).1 (fo (dpS m0 x) n k J) g' σ' ∧ (fo (fun _ u => leaveL x u) n k (I, acc)).2 = lN (g' 6) ∧ g' 4 = g 4 + n ∧ g' 5 = g 5 ∧ (fo (fun _ u => leaveL x u) n k (I, acc)).1 1 6 = I 1 6
  | 0, k, I, J, g, σ, acc, H, ha, hx, hn, hm0 => ⟨trivial, trivial, g, σ, H, ha, rfl, rfl, rfl⟩
  | n + 1, k, I, J, g, σ, acc, H, ha, hx, hn, hm0 => by
    have H0 := H
    obtain ⟨hK, V, W, ⟨l1, l2⟩, S, T, Hj, C⟩ := H
    have hz := W.1.1
    have hm := W.1.2.1
    have x8 : x < 8 := by omega
    have a := atS_spec W x8 (p := g (31 + x) - 1) (by omega)
    have pp := popS_g hK W T C x8 (by omega)
    have c0 := C.1 _ a.1
    have cb := W.car hK a.1
    have fe : feM J (m0 - k) x 0 = nI (atS g x (g (31 + x) - 1)) := by
      rw [hm0]
      exact feM_at hK W V (k := 0) x8 (by omega)
    have H1 := H0.st a.1 a.2.1 (by omega)
    have e1 : leaveL x (I, acc) = (leaveI I (σ (atS g x (g (31 + x) - 1))) x, acc + (nI (g (79 + atS g x (g (31 + x) - 1)))).toInt64) := by
      show (leaveI I (popS I x) x, acc + (I 29 (popS I x)).toInt64) = _
      rw [pp.2.1, c0.2.2.2.1]
    have e2 : dpS m0 x k J = lvM J (g 1) (atS g x (g (31 + x) - 1)) := by
      unfold dpS
      rw [fe, hm0, nI_clamp (by omega)]
    have R := lv_loop (m0 := m0) n (k + 1) (leaveI I (σ (atS g x (g (31 + x) - 1))) x) (lvM J (g 1) (atS g x (g (31 + x) - 1))) _ _ (acc + (nI (g (79 + atS g x (g (31 + x) - 1)))).toInt64) H1 (by rw [lv_6, ha, nI_l (by omega), lN_add]) (by rw [lv_lo (by omega) (by omega) (by omega) (by omega)]; exact hx) (by rw [lv_h x8, if_pos a.2.1.symm]; omega) (by rw [lv_1]; omega)
    obtain ⟨r1, r2, g', σ', r3, r4, r5, r6, r7⟩ := R
    have f1 : fo (fun _ u => leaveL x u) (n + 1) k (I, acc) = fo (fun _ u => leaveL x u) n (k + 1) (leaveL x (I, acc)) := rfl
    have f2 : fo (dpS m0 x) (n + 1) k J = fo (dpS m0 x) n (k + 1) (dpS m0 x k J) := rfl
    rw [f1, f2, e1, e2]
    refine ⟨⟨pp.2.2, by rw [e1]; exact r1⟩, ⟨⟨_, x, by rw [hm0]; exact a.1, fe, x8, by rw [V _ (by omega), a.2.1]⟩, by rw [e2]; exact r2⟩, g', σ', r3, r4, ?_, ?_, ?_⟩
    · rw [r5, lv_4]; omega
    · rw [r6, lv_lo (by omega) (by omega) (by omega) (by omega)]
    · rw [r7, lvI_16]
theorem WG.mono {K' : Nat} (h : K ≤ K') (W : WG K g) : WG K' g := ⟨by
  have := W.1
  have h1 : 20 * K ≤ 20 * K' := by omega
  omega, W.2⟩
theorem listO_Y {t : Int32} : eqY (listO I t) I := fun a _ _ _ _ h => listO_ne h
theorem cmd_train_do {q : Nat} (H : YR K I L (J 397) g σ) (hK1 : K + 1 ≤ 5000) (hx : x < g 0) (hq : trM J (g 1) x (g (31 + x)) 0 = nI q) (hqh : q ≤ g (31 + x)) :
    trainF (listO I (nI x)) (I 31 x).toNatClampNeg = nI q ∧ lvOK x q (listO I (nI x), L 1 7) ∧ okDp (g 1) x q 0 J ∧ ∃ g' σ', YR (K + 1) (sendI (listO I (nI x)) L x q) (up2 L 1 7 (sendU (listO I (nI x)) L x q).2) (fo (dpS (g 1) x) q 0 J 397) g' σ' := by
  have H2 := H.sc (L' := L) (J := listO I (nI x)) listO_Y rfl
  have H0 := H
  obtain ⟨hK, V, W, S, T, Hj, C⟩ := H
  have hz := W.1.1
  have hm := W.1.2.1
  have x8 : x < 8 := by omega
  have h20 := W.h20 x8
  obtain ⟨-, -, -, ⟨s1, s2, s3, s4, s5, s6, s7, s8⟩, T2, Hj2, C2⟩ := H2
  have lv : LV (K + 1) (listO I (nI x)) J g σ := ⟨hK1, V, W.mono (by omega), by have := W.1; omega, ⟨s1, s2, s3, s4, s8⟩, T2, Hj2, C2⟩
  obtain ⟨r1, r2, g', σ', ⟨-, V', W', -, ⟨u1, u2, u3, u4, u8⟩, T', Hj', C'⟩, r4, r5, r6, r7⟩ := lv_loop (m0 := g 1) q 0 (listO I (nI x)) J g σ (L 1 7) lv s7 hx hqh (by omega)
  refine ⟨?_, r1, r2, g', σ', hK1, V', W', ⟨?_, ?_, ?_, ?_, ?_, ?_, ?_, ?_⟩, fun t ht => ?_, fun i j hi hj => ?_, ?_⟩
  · rw [(T x x8).2.2.1, nI_clamp (by omega), (trainF_g hK W V C x8).1, hq]
  · unfold sendI sendU
    rw [up2_ne (by decide)]; exact u1
  · unfold sendI sendU
    rw [up2_ne (by decide)]; exact u2
  · unfold sendI sendU
    rw [up2_ne (by decide)]; exact u3
  · unfold sendI sendU
    rw [up2_v, if_neg (by decide)]; exact u4
  · unfold sendI sendU
    rw [up2_v, if_pos rfl, r7, s5, nI_add, r5]
  · rw [up2_v, if_neg (by decide), r6]; exact s6
  · rw [up2_v, if_pos rfl]; exact r4
  · unfold sendI sendU
    rw [up2_ne (by decide)]; exact u8
  · unfold sendI sendU
    rw [up2_ne (by decide), up2_ne (by decide), up2_ne (by decide), up2_ne (by decide)]
    exact T' t ht
  · unfold sendI sendU
    rw [up2_ne (by decide)]
    exact Hj' i j hi hj
  · unfold CRc sendI sendU
    rw [up2_ne (by decide), up2_ne (by decide), up2_ne (by decide), up2_ne (by decide), up2_ne (by decide), up2_ne (by decide), up2_ne (by decide)]
    exact C'
theorem baS_g (hK : K ≤ 5000) (W : WG K g) (V : GV (J 397) g) (hx : x < 8) {q : Nat} (hq : q ≤ g (31 + x)) : fo (baS J (g 1) x) q 0 0 = if lastN g x q 119 = 0 then 0 else 1 := by
  refine fo_at (e := q) (P := fun k acc => acc = if sN (fun k => g (119 + atS g x (g (31 + x) - 1 - k))) k = 0 then 0 else 1) (f := baS J (g 1) x) (fun k acc hk ha => ?_) q 0 0 (by omega) rfl
  have a := atS_spec W hx (p := g (31 + x) - 1 - k) (by omega)
  have cb := W.car hK a.1
  show baS J (g 1) x k acc = if sN (fun k => g (119 + atS g x (g (31 + x) - 1 - k))) k + g (119 + atS g x (g (31 + x) - 1 - k)) = 0 then 0 else 1
  unfold baS
  rw [feM_c hK W V hx (by omega) (by decide), ha]
  by_cases c : sN (fun k => g (119 + atS g x (g (31 + x) - 1 - k))) k = 0
  · rw [if_pos c]
    by_cases d : g (119 + atS g x (g (31 + x) - 1 - k)) = 0
    · have n : ¬ (¬ (0 : Int32) = 0 ∨ nI (g (119 + atS g x (g (31 + x) - 1 - k))) = 1) := by
        rw [d]
        decide
      rw [if_neg n, if_pos (by omega)]
    · have d1 : g (119 + atS g x (g (31 + x) - 1 - k)) = 1 := by omega
      have n : ¬ (0 : Int32) = 0 ∨ nI (g (119 + atS g x (g (31 + x) - 1 - k))) = 1 := by
        rw [d1]
        exact Or.inr rfl
      rw [if_pos n, if_neg (by omega)]
  · rw [if_neg c]
    have n : ¬ (1 : Int32) = 0 ∨ nI (g (119 + atS g x (g (31 + x) - 1 - k))) = 1 := Or.inl (by decide)
    rw [if_pos n, if_neg (by omega)]
/-- a train: the fault's number of the class, the exception's number of the model -/
theorem cmd_train (H : YR K I L (J 397) g σ) (t dd : Int32) :
    (∃ r, (r = 1 ∨ r = 2 ∨ r = 3) ∧ (trainFt I t dd).1 = r ∧ depM J (g 1) t dd = (0, up2 J 396 12 r)) ∨ ((trainFt I t dd).1 = 5 ∧ depM J (g 1) t dd = (0, up2 J 396 12 4)) ∨
    ((trainFt I t dd).1 = 0 ∧ ∃ x q, t = nI x ∧ x < g 0 ∧ q ≤ g (31 + x) ∧ trM J (g 1) x (g (31 + x)) 0 = nI q ∧ trN J (g 1) x = nI q ∧ depM J (g 1) t dd = (nI q, up2 (fo (dpS (g 1) x) q 0 J) 396 12 0)) := by
  obtain ⟨hK, V, W, S, T, Hj, C⟩ := H
  have hz := W.1.1
  have hm := W.1.2.1
  by_cases h1 : hasT I t
  · obtain ⟨x, hx, ex⟩ := (hasT_g S hz t).mp h1
    have h1' : tkM J t := (tkM_g V hz t).mpr ⟨x, hx, ex⟩
    have n1 : ¬ ¬ hasT I t := fun e => e h1
    have n1' : ¬ ¬ tkM J t := fun e => e h1'
    have x8 : x < 8 := by omega
    have h20 := W.h20 x8
    subst ex
    by_cases h2 : 0 ≤ dd ∧ dd ≤ 9
    · have n2 : ¬ ¬ (0 ≤ dd ∧ dd ≤ 9) := fun e => e h2
      have ht : I 31 x = nI (g (31 + x)) := (T x x8).2.2.1
      have hv : J 397 (31 + x) = nI (g (31 + x)) := V _ (by omega)
      by_cases h3 : g (31 + x) = 0
      · have sl : slotAt I (nI x) (I 31 x - 1) = -1 := by
          rw [ht, h3]
          rcases slotAt_g hK W C (t := nI x) (p := nI 0 - 1) (nI_mi (by omega)) with ⟨s, hs, -, e2, -⟩ | ⟨-, e⟩
          · have cb := W.car hK hs
            exact absurd e2.symm (by
              rw [show nI 0 - 1 = (-1 : Int32) by decide]
              exact nI_mi (by omega))
          · exact e
        have n3 : slotAt I (nI x) (I 31 x - 1) = -1 ∨ rg 20 (I 19) (slotAt I (nI x) (I 31 x - 1)) ≠ dd := Or.inl sl
        have n3' : J 397 (31 + x) = 0 ∨ ¬ J 397 (99 + (feM J (g 1) x 0).toNatClampNeg) = dd := Or.inl (by rw [hv, h3]; rfl)
        exact Or.inl ⟨3, by decide, by unfold trainFt; rw [if_neg n1, if_neg n2, nI_clamp (by omega), if_pos n3], by unfold depM; rw [if_neg n1', if_neg n2, nI_clamp (by omega), if_pos n3']⟩
      · have a := atS_spec W x8 (p := g (31 + x) - 1) (by omega)
        have c0 := C.1 _ a.1
        have cb := W.car hK a.1
        have pp := popS_g hK W T C x8 (by omega)
        have e1 : rg 20 (I 19) (slotAt I (nI x) (I 31 x - 1)) = nI (g (99 + atS g x (g (31 + x) - 1))) := by
          rw [pp.1, rg_nI c0.1 (by decide)]
          exact c0.2.2.2.2.1
        have e2 : J 397 (99 + (feM J (g 1) x 0).toNatClampNeg) = nI (g (99 + atS g x (g (31 + x) - 1))) := feM_c hK W V (k := 0) x8 (by omega) (by decide)
        have nn : ¬ slotAt I (nI x) (I 31 x - 1) = -1 := by rw [pp.1]; exact nI_mi (by omega)
        have nz : ¬ J 397 (31 + x) = 0 := by
          rw [hv]
          exact fun e => h3 (nI_inj (b := 0) (by omega) (by omega) e)
        by_cases h4 : nI (g (99 + atS g x (g (31 + x) - 1))) = dd
        · have n3 : ¬ (slotAt I (nI x) (I 31 x - 1) = -1 ∨ rg 20 (I 19) (slotAt I (nI x) (I 31 x - 1)) ≠ dd) := fun e => by
            rcases e with e | e
            · exact nn e
            · exact e (e1.trans h4)
          have n3' : ¬ (J 397 (31 + x) = 0 ∨ ¬ J 397 (99 + (feM J (g 1) x 0).toNatClampNeg) = dd) := fun e => by
            rcases e with e | e
            · exact nz e
            · exact e (e2.trans h4)
          obtain ⟨tg, q, hq, eq⟩ := trainF_g hK W V C x8
          have tn : trN J (g 1) x = nI q := by
            unfold trN
            rw [hv, nI_clamp (by omega)]
            exact eq
          have dl := defLast_g (I := listO I (nI x)) hK W (listO_Y.t T) (listO_Y.c C) x8 hq
          have lb := last_le (off := 119) (c := 1) hK W x8 hq (fun s hs => (W.car hK hs).2.2.2.2.2.2.2.2.2.1)
          have bg := baS_g hK W V x8 hq
          have cf : (trainFt I (nI x) dd).1 = if 0 < nI (lastN g x q 119) then 5 else 0 := by
            unfold trainFt
            rw [if_neg n1, if_neg n2, nI_clamp (by omega), if_neg n3, ht, nI_clamp (by omega), tg, eq, dl]
          have mf : depM J (g 1) (nI x) dd = if ¬ fo (baS J (g 1) x) q 0 0 = 0 then (0, up2 J 396 12 4) else (nI q, up2 (fo (dpS (g 1) x) q 0 J) 396 12 0) := by
            unfold depM
            rw [if_neg n1', if_neg n2, nI_clamp (by omega), if_neg n3', tn, nI_clamp (by omega)]
          rw [bg] at mf
          by_cases h5 : lastN g x q 119 = 0
          · rw [if_pos h5, if_neg (by decide)] at mf
            rw [h5, if_neg (by decide)] at cf
            exact Or.inr (Or.inr ⟨cf, x, q, rfl, hx, hq, eq, tn, mf⟩)
          · rw [if_neg h5, if_pos (by decide)] at mf
            have p5 : (0 : Int32) < nI (lastN g x q 119) := nI_lt (a := 0) (by omega) (by omega)
            rw [if_pos p5] at cf
            exact Or.inr (Or.inl ⟨cf, mf⟩)
        · have n3 : slotAt I (nI x) (I 31 x - 1) = -1 ∨ rg 20 (I 19) (slotAt I (nI x) (I 31 x - 1)) ≠ dd := Or.inr (by rw [e1]; exact h4)
          have n3' : J 397 (31 + x) = 0 ∨ ¬ J 397 (99 + (feM J (g 1) x 0).toNatClampNeg) = dd := Or.inr (by rw [e2]; exact h4)
          exact Or.inl ⟨3, by decide, by unfold trainFt; rw [if_neg n1, if_neg n2, nI_clamp (by omega), if_pos n3], by unfold depM; rw [if_neg n1', if_neg n2, nI_clamp (by omega), if_pos n3']⟩
    · exact Or.inl ⟨2, by decide, by unfold trainFt; rw [if_neg n1, if_pos h2], by unfold depM; rw [if_neg n1', if_pos h2]⟩
  · have h1' : ¬ tkM J t := fun e => h1 ((hasT_g S hz t).mpr ((tkM_g V hz t).mp e))
    exact Or.inl ⟨1, by decide, by unfold trainFt; rw [if_pos h1], by unfold depM; rw [if_pos h1']⟩
end YDP
