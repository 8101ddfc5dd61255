/-! one car goes from the end of a track to the end of another -/
section YSH
variable {K : Nat} {I J : HI} {L : HL} {g g' σ : Nat → Nat} {x y s t i k : Nat}
theorem WS.cg (h : ∀ k, k ≠ 3 → k ≠ 4 → k ≠ 5 → k ≠ 6 → g' k = g k) (W : WS g) : WS g' := by
  have e0 := h 0 (by omega) (by omega) (by omega) (by omega)
  have e1 := h 1 (by omega) (by omega) (by omega) (by omega)
  have e2 := h 2 (by omega) (by omega) (by omega) (by omega)
  have e7 : ∀ k, g' (7 + k) = g (7 + k) := fun k => h _ (by omega) (by omega) (by omega) (by omega)
  have e15 : ∀ k, g' (15 + k) = g (15 + k) := fun k => h _ (by omega) (by omega) (by omega) (by omega)
  have e23 : ∀ k, g' (23 + k) = g (23 + k) := fun k => h _ (by omega) (by omega) (by omega) (by omega)
  have e31 : ∀ k, g' (31 + k) = g (31 + k) := fun k => h _ (by omega) (by omega) (by omega) (by omega)
  have e39 : ∀ k, g' (39 + k) = g (39 + k) := fun k => h _ (by omega) (by omega) (by omega) (by omega)
  have e59 : ∀ k, g' (59 + k) = g (59 + k) := fun k => h _ (by omega) (by omega) (by omega) (by omega)
  have e79 : ∀ k, g' (79 + k) = g (79 + k) := fun k => h _ (by omega) (by omega) (by omega) (by omega)
  have e99 : ∀ k, g' (99 + k) = g (99 + k) := fun k => h _ (by omega) (by omega) (by omega) (by omega)
  have e119 : ∀ k, g' (119 + k) = g (119 + k) := fun k => h _ (by omega) (by omega) (by omega) (by omega)
  have e139 : ∀ k, g' (139 + k) = g (139 + k) := fun k => h _ (by omega) (by omega) (by omega) (by omega)
  have e159 : ∀ k, g' (159 + k) = g (159 + k) := fun k => h _ (by omega) (by omega) (by omega) (by omega)
  simp only [WS, usN, lkN] at W ⊢
  simp only [e0, e1, e2, e7, e15, e23, e31, e39, e59, e79, e99, e119, e139, e159]
  exact W
theorem CRt.cg (h : ∀ k, k ≠ 3 → k ≠ 4 → k ≠ 5 → k ≠ 6 → g' k = g k) (T : CRt I g) : CRt I g' := by
  have e1 := h 1 (by omega) (by omega) (by omega) (by omega)
  have e7 : ∀ k, g' (7 + k) = g (7 + k) := fun k => h _ (by omega) (by omega) (by omega) (by omega)
  have e15 : ∀ k, g' (15 + k) = g (15 + k) := fun k => h _ (by omega) (by omega) (by omega) (by omega)
  have e31 : ∀ k, g' (31 + k) = g (31 + k) := fun k => h _ (by omega) (by omega) (by omega) (by omega)
  have e59 : ∀ k, g' (59 + k) = g (59 + k) := fun k => h _ (by omega) (by omega) (by omega) (by omega)
  have e139 : ∀ k, g' (139 + k) = g (139 + k) := fun k => h _ (by omega) (by omega) (by omega) (by omega)
  simp only [CRt, usN] at T ⊢
  simp only [e1, e7, e15, e31, e59, e139]
  exact T
theorem CRj.cg (h : ∀ k, k ≠ 3 → k ≠ 4 → k ≠ 5 → k ≠ 6 → g' k = g k) (T : CRj I g) : CRj I g' := by
  have e23 : ∀ k, g' (23 + k) = g (23 + k) := fun k => h _ (by omega) (by omega) (by omega) (by omega)
  simp only [CRj] at T ⊢
  simp only [e23]
  exact T
theorem CRc.cg (h : ∀ k, k ≠ 3 → k ≠ 4 → k ≠ 5 → k ≠ 6 → g' k = g k) (T : CRc I g σ) : CRc I g' σ := by
  have e1 := h 1 (by omega) (by omega) (by omega) (by omega)
  have e39 : ∀ k, g' (39 + k) = g (39 + k) := fun k => h _ (by omega) (by omega) (by omega) (by omega)
  have e59 : ∀ k, g' (59 + k) = g (59 + k) := fun k => h _ (by omega) (by omega) (by omega) (by omega)
  have e79 : ∀ k, g' (79 + k) = g (79 + k) := fun k => h _ (by omega) (by omega) (by omega) (by omega)
  have e99 : ∀ k, g' (99 + k) = g (99 + k) := fun k => h _ (by omega) (by omega) (by omega) (by omega)
  have e119 : ∀ k, g' (119 + k) = g (119 + k) := fun k => h _ (by omega) (by omega) (by omega) (by omega)
  have e139 : ∀ k, g' (139 + k) = g (139 + k) := fun k => h _ (by omega) (by omega) (by omega) (by omega)
  have e159 : ∀ k, g' (159 + k) = g (159 + k) := fun k => h _ (by omega) (by omega) (by omega) (by omega)
  simp only [CRc] at T ⊢
  simp only [e1, e39, e59, e79, e99, e119, e139, e159]
  exact T
theorem lkc.cg (h : ∀ k, k ≠ 3 → k ≠ 4 → k ≠ 5 → k ≠ 6 → g' k = g k) : lkc g' = lkc g := by
  have e0 := h 0 (by omega) (by omega) (by omega) (by omega)
  have e23 : ∀ k, g' (23 + k) = g (23 + k) := fun k => h _ (by omega) (by omega) (by omega) (by omega)
  simp only [lkc, e0, e23]
def mvG (g : Nat → Nat) (x y s : Nat) : Nat → Nat := un (un (un (un g (139 + s) y) (159 + s) (g (31 + y))) (31 + x) (g (31 + x) - 1)) (31 + y) (g (31 + y) + 1)
theorem mv_lo (hk : k < 31) : mvG g x y s k = g k := by
  unfold mvG
  rw [un_ne (by omega), un_ne (by omega), un_ne (by omega), un_ne (by omega)]
theorem mv_mi (hx : x < 8) (hy : y < 8) (h1 : 39 ≤ k) (h2 : k < 139) : mvG g x y s k = g k := by
  unfold mvG
  rw [un_ne (by omega), un_ne (by omega), un_ne (by omega), un_ne (by omega)]
theorem mv_h (hx : x < 8) (hy : y < 8) (ht : t < 8) : mvG g x y s (31 + t) = if t = y then g (31 + y) + 1 else if t = x then g (31 + x) - 1 else g (31 + t) := by
  unfold mvG
  by_cases c : t = y
  · subst c; rw [un_eq, if_pos rfl]
  · rw [un_ne (by omega), if_neg c]
    by_cases d : t = x
    · subst d; rw [un_eq, if_pos rfl]
    · rw [un_ne (by omega), if_neg d, un_ne (by omega), un_ne (by omega)]
theorem mv_t (hx : x < 8) (hy : y < 8) (hi : i < 20) : mvG g x y s (139 + i) = if i = s then y else g (139 + i) := by
  unfold mvG
  rw [un_ne (by omega), un_ne (by omega), un_ne (by omega)]
  by_cases c : i = s
  · subst c; rw [un_eq, if_pos rfl]
  · rw [un_ne (by omega), if_neg c]
theorem mv_p (hx : x < 8) (hy : y < 8) (hs : s < 20) : mvG g x y s (159 + i) = if i = s then g (31 + y) else g (159 + i) := by
  unfold mvG
  rw [un_ne (by omega), un_ne (by omega)]
  by_cases c : i = s
  · subst c; rw [un_eq, if_pos rfl]
  · rw [un_ne (by omega), if_neg c, un_ne (by omega)]
theorem us_mv (hm : g 1 ≤ 20) (hx : x < 8) (hy : y < 8) (hs : s < g 1) : usN (mvG g x y s) t + (if g (139 + s) = t then g (59 + s) else 0) = usN g t + (if y = t then g (59 + s) else 0) := by
  have a := sN_upd (f := fun i => if g (139 + i) = t then g (59 + i) else 0) (u := s) (x := if y = t then g (59 + s) else 0) (n := g 1) hs
  have b : usN (mvG g x y s) t = sN (un (fun i => if g (139 + i) = t then g (59 + i) else 0) s (if y = t then g (59 + s) else 0)) (g 1) := by
    unfold usN
    rw [mv_lo (by omega)]
    refine sN_congr (fun i hi => ?_)
    try simp only
    rw [mv_t hx hy (by omega), mv_mi hx hy (by omega) (by omega), un_v]
    by_cases c : i = s
    · rw [if_pos c, if_pos c, c]
    · rw [if_neg c, if_neg c]
  rw [b]
  exact a
theorem mv_sum (hx : x < 8) (hy : y < 8) (hxy : x ≠ y) (hh : 1 ≤ g (31 + x)) : sN (fun t => mvG g x y s (31 + t)) 8 = sN (fun t => g (31 + t)) 8 := by
  have a := sN_upd (f := un (fun t => g (31 + t)) x (g (31 + x) - 1)) (u := y) (x := g (31 + y) + 1) (n := 8) hy
  have b := sN_upd (f := fun t => g (31 + t)) (u := x) (x := g (31 + x) - 1) (n := 8) hx
  have c : sN (fun t => mvG g x y s (31 + t)) 8 = sN (un (un (fun t => g (31 + t)) x (g (31 + x) - 1)) y (g (31 + y) + 1)) 8 := sN_congr (fun t ht => by
    try simp only
    rw [mv_h hx hy ht, un_v, un_v])
  rw [un_ne (fun e => hxy e.symm)] at a
  rw [c]
  try simp only at a b
  omega
theorem WS.mv (hz : g 0 ≤ 8) (hm : g 1 ≤ 20) (W : WS g) (hx : x < g 0) (hy : y < g 0) (hxy : x ≠ y) (hs : s < g 1) (hst : g (139 + s) = x) (hsp : g (159 + s) + 1 = g (31 + x)) (hroom : usN g y + g (59 + s) ≤ g (7 + y)) : WS (mvG g x y s) := by
  obtain ⟨w1, w2, w3, w4, w5, w6, w7, w8⟩ := W
  have x8 : x < 8 := by omega
  have y8 : y < 8 := by omega
  have s20 : s < 20 := by omega
  have pd : ∀ s', s' < g 1 → s' ≠ s → g (139 + s') = x → g (159 + s') + 1 < g (31 + x) := fun s' hs' hne ht => by
    have a := (w6 s' hs').2.2.2.2.2.2
    rw [ht] at a
    have b : g (159 + s') ≠ g (159 + s) := fun e => by
      rcases Nat.lt_trichotomy s' s with c | c | c
      · exact (w7 s' s c hs).2 ⟨ht.trans hst.symm, e⟩
      · exact hne c
      · exact (w7 s s' c hs').2 ⟨hst.trans ht.symm, e.symm⟩
    omega
  refine ⟨fun t ht => ?_, fun t ht => ?_, fun i hi => ?_, fun i j hi hj hl => ?_, ?_, fun i hi => ?_, fun i j hij hj => ?_, fun t p ht hp => ?_⟩
  · rw [mv_lo (by omega), mv_lo (by omega)]
    exact w1 t ht
  · rw [mv_lo (by omega)] at ht
    rw [mv_lo (by omega)]
    have a := us_mv (t := t) hm x8 y8 hs
    have b := w2 t ht
    refine ⟨b.1, ?_⟩
    by_cases c : y = t
    · subst c
      rw [if_neg (by omega), if_pos rfl] at a
      omega
    · rw [if_neg c] at a
      omega
  · rw [mv_lo (by omega)]
    exact w3 i hi
  · unfold lkN at hl ⊢
    rw [mv_lo (by omega)] at hl ⊢
    rw [mv_lo (by omega)]
    exact w4 i j hi hj hl
  · rw [mv_sum x8 y8 hxy (by omega), mv_lo (by omega)]
    exact w5
  · rw [mv_lo (by omega)] at hi
    have a := w6 i hi
    rw [mv_mi x8 y8 (k := 39 + i) (by omega) (by omega), mv_mi x8 y8 (k := 59 + i) (by omega) (by omega), mv_mi x8 y8 (k := 79 + i) (by omega) (by omega), mv_mi x8 y8 (k := 99 + i) (by omega) (by omega), mv_mi x8 y8 (k := 119 + i) (by omega) (by omega), mv_lo (k := 2) (by omega), mv_lo (k := 0) (by omega), mv_t x8 y8 (by omega), mv_p x8 y8 s20]
    refine ⟨a.1, a.2.1, a.2.2.1, a.2.2.2.1, a.2.2.2.2.1, ?_⟩
    by_cases c : i = s
    · rw [if_pos c, if_pos c, mv_h x8 y8 y8, if_pos rfl]
      omega
    · rw [if_neg c, if_neg c, mv_h x8 y8 (by omega)]
      refine ⟨a.2.2.2.2.2.1, ?_⟩
      have b := a.2.2.2.2.2.2
      by_cases d : g (139 + i) = y
      · rw [if_pos d]
        rw [d] at b
        omega
      · rw [if_neg d]
        by_cases e : g (139 + i) = x
        · rw [if_pos e]
          have := pd i hi c e
          omega
        · rw [if_neg e]
          exact b
  · rw [mv_lo (by omega)] at hj
    have a := w7 i j hij hj
    have ha := (w6 i (by omega)).2.2.2.2.2.2
    have hb := (w6 j hj).2.2.2.2.2.2
    rw [mv_mi x8 y8 (by omega) (by omega), mv_mi x8 y8 (by omega) (by omega), mv_t x8 y8 (by omega), mv_p x8 y8 s20, mv_t x8 y8 (by omega), mv_p x8 y8 s20]
    refine ⟨a.1, fun e => ?_⟩
    by_cases c : i = s
    · rw [if_pos c, if_pos c, if_neg (by omega), if_neg (by omega)] at e
      rw [← e.1] at hb
      omega
    · rw [if_neg c, if_neg c] at e
      by_cases d : j = s
      · rw [if_pos d, if_pos d] at e
        rw [e.1] at ha
        omega
      · rw [if_neg d, if_neg d] at e
        exact a.2 e
  · rw [mv_h x8 y8 ht] at hp
    rw [mv_lo (by omega)]
    by_cases c : t = y
    · rw [if_pos c] at hp
      by_cases d : p = g (31 + y)
      · refine ⟨s, hs, ?_, ?_⟩
        · rw [mv_t x8 y8 s20, if_pos rfl, c]
        · rw [mv_p x8 y8 s20, if_pos rfl, d]
      · obtain ⟨s', h1, h2, h3⟩ := w8 t p ht (by rw [c]; omega)
        have hne : s' ≠ s := fun e => by subst e; omega
        refine ⟨s', h1, ?_, ?_⟩
        · rw [mv_t x8 y8 (by omega), if_neg hne, h2]
        · rw [mv_p x8 y8 s20, if_neg hne, h3]
    · rw [if_neg c] at hp
      have hp2 : p < g (31 + t) ∧ (t = x → p + 1 < g (31 + x)) := by
        by_cases d : t = x
        · rw [if_pos d] at hp
          subst d
          exact ⟨by omega, fun _ => by omega⟩
        · rw [if_neg d] at hp
          exact ⟨hp, fun e => absurd e d⟩
      obtain ⟨s', h1, h2, h3⟩ := w8 t p ht hp2.1
      have hne : s' ≠ s := fun e => by
        subst e
        have := hp2.2 (by omega)
        omega
      refine ⟨s', h1, ?_, ?_⟩
      · rw [mv_t x8 y8 (by omega), if_neg hne, h2]
      · rw [mv_p x8 y8 s20, if_neg hne, h3]
end YSH
