/-! connecting and disconnecting: class and model -/
section YCN
variable {K : Nat} {I J : HI} {L : HL} {g g' σ : Nat → Nat} {x y s t i k u z : Nat} {a b : Int32}
theorem uprN {I : HI} {a n k : Nat} {v : Int32} (hk : k < n) (hn : n < 2 ^ 31) : upr I a n (nI k) v = up2 I a k v := by
  unfold upr
  rw [if_pos (by rw [nI_toInt (by omega)]; omega), nI_clamp (by omega)]
theorem bsy (W : WG K g) {j : Nat} (hi : i < 8) (hj : j < 8) : (g (23 + i)).testBit j = (g (23 + j)).testBit i := by
  have p := W.2.2.2.2.1 i j hi hj
  have q := W.2.2.2.2.1 j i hj hi
  unfold lkN at p q
  cases h1 : (g (23 + i)).testBit j <;> cases h2 : (g (23 + j)).testBit i
  · rfl
  · have := (q h2).2.2
    rw [h1] at this
    cases this
  · have := (p h1).2.2
    rw [h2] at this
    cases this
  · rfl
theorem liM_g (W : WG K g) (V : GV (J 397) g) : liM J (g 0) = nI (lkc g) := by
  have hz := W.1.1
  refine fo_at (e := g 0) (P := fun i acc => acc = nI (sN (fun i => sN (fun j => if (g (23 + i)).testBit j = true then 1 else 0) i) i)) (f := fun i acc => fo (lisS J i) i 0 acc) (fun i acc hi ha => ?_) (g 0) 0 0 (by omega) rfl
  rw [ha]
  refine fo_sum2 (w := fun j => if (g (23 + i)).testBit j = true then 1 else 0) (fun j a hj => ?_)
  unfold lisS
  have e := lkM_g W V (a := i) (b := j) (by omega) (by omega)
  by_cases c : (g (23 + i)).testBit j = true
  · rw [if_pos (e.mpr c), if_pos c]; rfl
  · rw [if_neg (fun q => c (e.mp q)), if_neg c]; rfl
theorem WS.tg (W : WG K g) (hx : x < g 0) (hy : y < g 0) (hxy : x ≠ y) : WS (tgG g x y) := by
  have hz := W.1.1
  have hm := W.1.2.1
  have x8 : x < 8 := by omega
  have y8 : y < 8 := by omega
  have W0 := W
  obtain ⟨w1, w2, w3, w4, w5, w6, w7, w8⟩ := W.2
  have o : ∀ {k}, k < 23 ∨ 31 ≤ k → tgG g x y k = g k := fun h => tg_o x8 y8 h
  have us : ∀ t, usN (tgG g x y) t = usN g t := fun t => us_o (o (by omega)) hm (fun i hi => ⟨o (by omega), o (by omega)⟩)
  refine ⟨fun t ht => ?_, fun t ht => ?_, fun i hi => tg_256 w3 x8 y8 hi, fun i j hi hj hl => ?_, ?_, fun i hi => ?_, fun i j hij hj => ?_, fun t p ht hp => ?_⟩
  · rw [o (by omega), o (by omega)]; exact w1 t ht
  · rw [o (by omega)] at ht
    rw [o (by omega), us]; exact w2 t ht
  · unfold lkN at hl ⊢
    have e1 := tg_b w3 x8 y8 hxy hi hj
    have e2 := tg_b w3 x8 y8 hxy hj hi
    have e3 : decide ((j = x ∧ i = y) ∨ (j = y ∧ i = x)) = decide ((i = x ∧ j = y) ∨ (i = y ∧ j = x)) := by
      have : ((j = x ∧ i = y) ∨ (j = y ∧ i = x)) = ((i = x ∧ j = y) ∨ (i = y ∧ j = x)) := propext (by omega)
      simp only [this]
    rw [← bsy W0 hi hj, e3, ← e1, hl] at e2
    refine ⟨?_, ?_, e2⟩
    · rw [o (by omega)]
      by_cases c : (i = x ∧ j = y) ∨ (i = y ∧ j = x)
      · omega
      · rw [hl] at e1
        have e4 : (g (23 + i)).testBit j = true := by
          rw [decide_eq_false c, Bool.xor_false] at e1
          exact e1.symm
        exact (w4 i j hi hj e4).1
    · by_cases c : (i = x ∧ j = y) ∨ (i = y ∧ j = x)
      · omega
      · rw [hl] at e1
        have e4 : (g (23 + i)).testBit j = true := by
          rw [decide_eq_false c, Bool.xor_false] at e1
          exact e1.symm
        exact (w4 i j hi hj e4).2.1
  · rw [o (by omega), ← w5]
    exact sN_congr (fun t ht => o (by omega))
  · rw [o (by omega)] at hi
    have a := w6 i hi
    rw [o (by omega), o (by omega), o (by omega), o (by omega), o (by omega), o (by omega), o (by omega), o (by omega), o (by omega), o (by omega)]
    exact a
  · rw [o (by omega)] at hj
    rw [o (by omega), o (by omega), o (by omega), o (by omega), o (by omega), o (by omega)]
    exact w7 i j hij hj
  · rw [o (by omega)] at hp
    obtain ⟨s', h1, h2, h3⟩ := w8 t p ht hp
    exact ⟨s', by rw [o (by omega)]; exact h1, by rw [o (by omega)]; exact h2, by rw [o (by omega)]; exact h3⟩
theorem tlM_v (V : GV (J 397) g) (W : WG K g) (hx : x < 8) (hy : y < 8) (hxy : x ≠ y) : GV (tlM J x y 397) (tgG g x y) := by
  have hw := W.2.2.2.1
  unfold tlM tl1
  refine (V.up (k := 23 + x) (v := g (23 + x) ^^^ 2 ^ y) ?_).up ?_
  · rw [V _ (by omega)]
    exact (xr_dec _ (hw x hx) y hy).1
  · rw [up2_v, if_neg (by omega), V _ (by omega)]
    exact (xr_dec _ (hw y hy) x hx).1
theorem YR.link {v c : Int32} (H : YR K I L (J 397) g σ) (hK1 : K + 1 ≤ 5000) (hx : x < g 0) (hy : y < g 0) (hxy : x ≠ y) (hv : v = if (tgG g x y (23 + x)).testBit y = true then 1 else 0) (hc : c = nI (lkc (tgG g x y))) :
    YR (K + 1) (up2 (up2 (up2 I 8 (x * 8 + y) v) 8 (y * 8 + x) v) 6 1 c) L (tlM J x y 397) (tgG g x y) σ := by
  obtain ⟨hK, V, W, ⟨s1, s2, s3, s4, s5, s6, s7, s8⟩, T, Hj, C⟩ := H
  have hz := W.1.1
  have hm := W.1.2.1
  have x8 : x < 8 := by omega
  have y8 : y < 8 := by omega
  have w3 := W.2.2.2.1
  have o : ∀ {k}, k < 23 ∨ 31 ≤ k → tgG g x y k = g k := fun h => tg_o x8 y8 h
  have us : ∀ t, usN (tgG g x y) t = usN g t := fun t => us_o (o (by omega)) hm (fun i hi => ⟨o (by omega), o (by omega)⟩)
  have W2 := WS.tg W hx hy hxy
  refine ⟨hK1, tlM_v V W x8 y8 hxy, ⟨?_, W2⟩, ⟨?_, ?_, ?_, ?_, ?_, ?_, ?_, ?_⟩, fun t ht => ?_, fun i j hi hj => ?_, fun i hi => ?_, fun i j hij hj => ?_, fun u hu hn => ?_⟩
  · rw [o (by omega), o (by omega), o (by omega), o (by omega), o (by omega), o (by omega), o (by omega)]
    have := W.1
    omega
  · rw [up2_v, if_neg (by decide), up2_ne (by decide), up2_ne (by decide), o (by omega)]; exact s1
  · rw [up2_ne (by decide), up2_ne (by decide), up2_ne (by decide), o (by omega)]; exact s2
  · rw [up2_ne (by decide), up2_ne (by decide), up2_ne (by decide), o (by omega)]; exact s3
  · rw [up2_ne (by decide), up2_ne (by decide), up2_ne (by decide), o (by omega)]; exact s4
  · rw [up2_ne (by decide), up2_ne (by decide), up2_ne (by decide), o (by omega)]; exact s5
  · rw [o (by omega)]; exact s6
  · rw [o (by omega)]; exact s7
  · rw [up2_v, if_pos rfl]; exact hc
  · rw [up2_ne (by decide), up2_ne (by decide), up2_ne (by decide), up2_ne (by decide), up2_ne (by decide), up2_ne (by decide), up2_ne (by decide), up2_ne (by decide), up2_ne (by decide), up2_ne (by decide), up2_ne (by decide), up2_ne (by decide), o (by omega), o (by omega), o (by omega), us]
    exact T t ht
  · rw [up2_ne (by decide), up2_v, up2_v, tg_b w3 x8 y8 hxy hi hj]
    have e1 := tg_b w3 x8 y8 hxy x8 y8
    have sy := bsy W x8 y8
    rw [e1] at hv
    by_cases c1 : i = y ∧ j = x
    · rw [if_pos (by rw [c1.1, c1.2]), hv, c1.1, c1.2, sy]
      have f1 : decide ((x = x ∧ y = y) ∨ (x = y ∧ y = x)) = true := by simp
      have f2 : decide ((y = x ∧ x = y) ∨ (y = y ∧ x = x)) = true := by simp
      rw [f1, f2]
    · rw [if_neg (by omega)]
      by_cases c2 : i = x ∧ j = y
      · rw [if_pos (by rw [c2.1, c2.2]), hv, c2.1, c2.2]
      · rw [if_neg (by omega), decide_eq_false (by omega), Bool.xor_false]
        exact Hj i j hi hj
  · rw [o (by omega)] at hi
    rw [up2_ne (by decide), up2_ne (by decide), up2_ne (by decide), up2_ne (by decide), up2_ne (by decide), up2_ne (by decide), up2_ne (by decide), up2_ne (by decide), up2_ne (by decide), up2_ne (by decide), up2_ne (by decide), up2_ne (by decide), up2_ne (by decide), up2_ne (by decide), up2_ne (by decide), up2_ne (by decide), up2_ne (by decide), up2_ne (by decide), up2_ne (by decide), up2_ne (by decide), up2_ne (by decide), o (by omega), o (by omega), o (by omega), o (by omega), o (by omega), o (by omega), o (by omega)]
    exact C.1 i hi
  · rw [o (by omega)] at hj
    exact C.2.1 i j hij hj
  · rw [o (by omega)] at hn
    rw [up2_ne (by decide), up2_ne (by decide), up2_ne (by decide), up2_ne (by decide), up2_ne (by decide), up2_ne (by decide)]
    exact C.2.2 u hu hn
theorem joinN (hx : x < 8) (hy : y < 8) : joinI I (nI x) (nI y) = up2 (up2 (up2 I 8 (x * 8 + y) 1) 8 (y * 8 + x) 1) 6 1 (I 6 1 + 1) := by
  unfold joinI
  rw [cix, cix, uprN (by omega) (by decide), uprN (by omega) (by decide)]
theorem partN (hx : x < 8) (hy : y < 8) : partI I (nI x) (nI y) = up2 (up2 (up2 I 8 (x * 8 + y) 0) 8 (y * 8 + x) 0) 6 1 (I 6 1 - 1) := by
  unfold partI
  rw [cix, cix, uprN (by omega) (by decide), uprN (by omega) (by decide)]
theorem sw_1 (h : ¬ ((∃ k, k < g 0 ∧ a = nI k) ∧ ∃ k, k < g 0 ∧ b = nI k)) (S : CRs I L g) (V : GV (J 397) g) (hz : g 0 ≤ 8) : ¬ (hasT I a ∧ hasT I b) ∧ ¬ (tkM J a ∧ tkM J b) :=
  ⟨fun e => h ⟨(hasT_g S hz a).mp e.1, (hasT_g S hz b).mp e.2⟩, fun e => h ⟨(tkM_g V hz a).mp e.1, (tkM_g V hz b).mp e.2⟩⟩
theorem sw_2 (hx : x < g 0) (hy : y < g 0) (S : CRs I L g) (V : GV (J 397) g) (hz : g 0 ≤ 8) : ¬ ¬ (hasT I (nI x) ∧ hasT I (nI y)) ∧ ¬ ¬ (tkM J (nI x) ∧ tkM J (nI y)) :=
  ⟨fun e => e ⟨(hasT_g S hz _).mpr ⟨x, hx, rfl⟩, (hasT_g S hz _).mpr ⟨y, hy, rfl⟩⟩, fun e => e ⟨(tkM_g V hz _).mpr ⟨x, hx, rfl⟩, (tkM_g V hz _).mpr ⟨y, hy, rfl⟩⟩⟩
/-- a connection -/
theorem cmd_connect (H : YR K I L (J 397) g σ) (hK1 : K + 1 ≤ 5000) (a b : Int32) :
    (∃ r, (r = 1 ∨ r = 2 ∨ r = 3) ∧ switchF I a b = r ∧ cnM J (g 0) a b = (0, up2 J 396 12 r)) ∨
    (switchF I a b = 0 ∧ ∃ x y, cnM J (g 0) a b = (I 6 1 + 1, up2 (tlM J x y) 396 12 0) ∧ YR (K + 1) (joinI I a b) L (tlM J x y 397) (tgG g x y) σ) := by
  have H0 := H
  obtain ⟨hK, V, W, S, T, Hj, C⟩ := H
  have hz := W.1.1
  have w3 := W.2.2.2.1
  by_cases h1 : (∃ k, k < g 0 ∧ a = nI k) ∧ ∃ k, k < g 0 ∧ b = nI k
  · obtain ⟨⟨x, hx, ex⟩, y, hy, ey⟩ := h1
    subst ex
    subst ey
    have q := sw_2 hx hy S V hz
    by_cases h2 : x = y
    · subst h2
      exact Or.inl ⟨2, by decide, by unfold switchF; rw [if_neg q.1, if_pos rfl], by unfold cnM; rw [if_neg q.2, if_pos rfl]⟩
    · have h2' : ¬ nI x = nI y := fun e => h2 (nI_inj (by omega) (by omega) e)
      have e1 := Hj x y (by omega) (by omega)
      have e2 := lkM_g W V (a := x) (b := y) (by omega) (by omega)
      by_cases h3 : (g (23 + x)).testBit y = true
      · rw [if_pos h3] at e1
        exact Or.inl ⟨3, by decide, by unfold switchF; rw [if_neg q.1, if_neg h2', nI_clamp (by omega), nI_clamp (by omega), if_pos e1], by unfold cnM; rw [if_neg q.2, if_neg h2', nI_clamp (by omega), nI_clamp (by omega), if_pos (e2.mpr h3)]⟩
      · rw [if_neg h3] at e1
        have e3 := lkc_tg W hx hy h2
        have e4 := tg_b w3 (by omega) (by omega) h2 (i := x) (j := y) (by omega) (by omega)
        have e5 : (tgG g x y (23 + x)).testBit y = true := by
          rw [e4, Bool.eq_false_iff.mpr h3]
          simp
        rw [if_neg h3, if_pos e5] at e3
        have e6 : I 6 1 + 1 = nI (lkc (tgG g x y)) := by
          rw [S.2.2.2.2.2.2.2, nI_1]
          congr 1
          omega
        have R := H0.link (c := I 6 1 + 1) (v := 1) hK1 hx hy h2 (by rw [if_pos e5]) e6
        refine Or.inr ⟨by unfold switchF; rw [if_neg q.1, if_neg h2', nI_clamp (by omega), nI_clamp (by omega), if_neg (by rw [e1]; decide)], x, y, ?_, ?_⟩
        · have z0 : tgG g x y 0 = g 0 := tg_o (by omega) (by omega) (by omega)
          have li := liM_g R.2.2.1 R.2.1
          rw [z0] at li
          unfold cnM
          rw [if_neg q.2, if_neg h2', nI_clamp (by omega), nI_clamp (by omega), if_neg (fun e => h3 (e2.mp e)), li, e6]
        · rw [joinN (by omega) (by omega)]
          exact R
  · have q := sw_1 h1 S V hz
    exact Or.inl ⟨1, by decide, by unfold switchF; rw [if_pos q.1], by unfold cnM; rw [if_pos q.2]⟩
/-- a connection is taken away -/
theorem cmd_disconnect (H : YR K I L (J 397) g σ) (hK1 : K + 1 ≤ 5000) (a b : Int32) :
    (cutF I a b = 1 ∧ dcM J (g 0) a b = (0, up2 J 396 12 1)) ∨ (cutF I a b = 3 ∧ dcM J (g 0) a b = (0, up2 J 396 12 2)) ∨
    (cutF I a b = 0 ∧ ∃ x y, dcM J (g 0) a b = (I 6 1 - 1, up2 (tlM J x y) 396 12 0) ∧ YR (K + 1) (partI I a b) L (tlM J x y 397) (tgG g x y) σ) := by
  have H0 := H
  obtain ⟨hK, V, W, S, T, Hj, C⟩ := H
  have hz := W.1.1
  have w3 := W.2.2.2.1
  by_cases h1 : (∃ k, k < g 0 ∧ a = nI k) ∧ ∃ k, k < g 0 ∧ b = nI k
  · obtain ⟨⟨x, hx, ex⟩, y, hy, ey⟩ := h1
    subst ex
    subst ey
    have q := sw_2 hx hy S V hz
    have e1 := Hj x y (by omega) (by omega)
    have e2 := lkM_g W V (a := x) (b := y) (by omega) (by omega)
    by_cases h3 : (g (23 + x)).testBit y = true
    · rw [if_pos h3] at e1
      have h2 : x ≠ y := (W.2.2.2.2.1 x y (by omega) (by omega) h3).2.1
      have e3 := lkc_tg W hx hy h2
      have e4 := tg_b w3 (by omega) (by omega) h2 (i := x) (j := y) (by omega) (by omega)
      have e5 : ¬ (tgG g x y (23 + x)).testBit y = true := by
        rw [e4, h3]
        simp
      rw [if_pos h3, if_neg e5] at e3
      have e6 : I 6 1 - 1 = nI (lkc (tgG g x y)) := by
        rw [S.2.2.2.2.2.2.2, show (1 : Int32) = nI 1 from rfl, pk_sub (by omega)]
        congr 1
        omega
      have R := H0.link (c := I 6 1 - 1) (v := 0) hK1 hx hy h2 (by rw [if_neg e5]) e6
      refine Or.inr (Or.inr ⟨by unfold cutF; rw [if_neg q.1, nI_clamp (by omega), nI_clamp (by omega), if_pos e1], x, y, ?_, ?_⟩)
      · have z0 : tgG g x y 0 = g 0 := tg_o (by omega) (by omega) (by omega)
        have li := liM_g R.2.2.1 R.2.1
        rw [z0] at li
        unfold dcM
        rw [if_neg q.2, nI_clamp (by omega), nI_clamp (by omega), if_pos (e2.mpr h3), li, e6]
      · rw [partN (by omega) (by omega)]
        exact R
    · rw [if_neg h3] at e1
      exact Or.inr (Or.inl ⟨by unfold cutF; rw [if_neg q.1, nI_clamp (by omega), nI_clamp (by omega), if_neg (by rw [e1]; decide)], by unfold dcM; rw [if_neg q.2, nI_clamp (by omega), nI_clamp (by omega), if_neg (fun e => h3 (e2.mp e))]⟩)
  · have q := sw_1 h1 S V hz
    exact Or.inl ⟨by unfold cutF; rw [if_pos q.1], by unfold dcM; rw [if_pos q.2]⟩
end YCN
