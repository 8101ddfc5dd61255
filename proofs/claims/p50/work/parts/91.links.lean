/-! new tracks; connections -/
section YLK
variable {K : Nat} {I J : HI} {L : HL} {g g' σ : Nat → Nat} {x y s t i k u z : Nat}
def bdG (g : Nat → Nat) (z c e : Nat) : Nat → Nat := un (un (un g (7 + z) c) (15 + z) e) 0 (z + 1)
theorem bd_o {c e : Nat} (hz : z < 8) (h0 : k ≠ 0) (h : k < 7 ∨ 23 ≤ k) : bdG g z c e k = g k := by
  unfold bdG
  rw [un_ne h0, un_ne (by omega), un_ne (by omega)]
theorem bd_0 {c e : Nat} : bdG g z c e 0 = z + 1 := un_eq
theorem bd_7 {c e : Nat} (hz : z < 8) (ht : t < 8) : bdG g z c e (7 + t) = if t = z then c else g (7 + t) := by
  unfold bdG
  rw [un_ne (by omega), un_ne (by omega), un_v]
  by_cases d : t = z
  · rw [if_pos (by omega), if_pos d]
  · rw [if_neg (by omega), if_neg d]
theorem bd_15 {c e : Nat} (hz : z < 8) (ht : t < 8) : bdG g z c e (15 + t) = if t = z then e else g (15 + t) := by
  unfold bdG
  rw [un_ne (by omega), un_v]
  by_cases d : t = z
  · rw [if_pos (by omega), if_pos d]
  · rw [if_neg (by omega), if_neg d, un_ne (by omega)]
theorem us_o (h1 : g' 1 = g 1) (hm : g 1 ≤ 20) (h : ∀ i, i < 20 → g' (139 + i) = g (139 + i) ∧ g' (59 + i) = g (59 + i)) : usN g' t = usN g t := by
  unfold usN
  rw [h1]
  refine sN_congr (fun i hi => ?_)
  try simp only
  rw [(h i (by omega)).1, (h i (by omega)).2]
/-- a new track -/
theorem cmd_build {c e : Nat} (H : YR K I L (J 397) g σ) (hK1 : K + 1 ≤ 5000) (hz : g 0 < 8) (hc : 10 ≤ c ∧ c ≤ 200) (he : e ≤ 5) :
    YR (K + 1) (buildI I (g 0) (nI c) (nI e)) L (up2 (up2 (up2 J 397 (7 + g 0) (nI c)) 397 (15 + g 0) (nI e)) 397 0 (nI (g 0) + 1) 397) (bdG g (g 0) c e) σ := by
  obtain ⟨hK, V, ⟨⟨b0, b1, b2, b3, b4, b5, b6⟩, w1, w2, w3, w4, w5, w6, w7, w8⟩, ⟨s1, s2, s3, s4, s5, s6, s7, s8⟩, T, Hj, C⟩ := H
  have us : ∀ t, usN (bdG g (g 0) c e) t = usN g t := fun t => us_o (bd_o hz (by omega) (by omega)) b1 (fun i hi => ⟨bd_o hz (by omega) (by omega), bd_o hz (by omega) (by omega)⟩)
  have u0 : usN g (g 0) = 0 := sN_zero (fun s hs => by
    have := (w6 s hs).2.2.2.2.2.1
    show (if g (139 + s) = g 0 then g (59 + s) else 0) = 0
    rw [if_neg (by omega)])
  have lc : lkc (bdG g (g 0) c e) = lkc g := by
    unfold lkc
    rw [bd_0]
    show sN _ (g 0) + sN _ (g 0) = sN _ (g 0)
    have a : sN (fun i => sN (fun j => if (bdG g (g 0) c e (23 + i)).testBit j = true then 1 else 0) i) (g 0) = sN (fun i => sN (fun j => if (g (23 + i)).testBit j = true then 1 else 0) i) (g 0) := sN_congr (fun i hi => by
      try simp only
      rw [bd_o hz (by omega) (by omega)])
    have b : sN (fun j => if (bdG g (g 0) c e (23 + g 0)).testBit j = true then 1 else 0) (g 0) = 0 := sN_zero (fun j hj => by
      try simp only
      rw [bd_o hz (by omega) (by omega), if_neg (fun hl => by have := (w4 (g 0) j hz (by omega) hl).1; omega)])
    rw [a, b, Nat.add_zero]
  refine ⟨hK1, ?_, ⟨?_, fun t ht => ?_, fun t ht => ?_, fun i hi => ?_, fun i j hi hj hl => ?_, ?_, fun i hi => ?_, fun i j hij hj => ?_, fun t p ht hp => ?_⟩, ⟨?_, ?_, ?_, ?_, ?_, ?_, ?_, ?_⟩, fun t ht => ?_, fun i j hi hj => ?_, fun i hi => ?_, fun i j hij hj => ?_, fun u hu hn => ?_⟩
  · exact ((V.up rfl).up rfl).up (nI_1 _)
  · rw [bd_0, bd_o hz (by omega) (by omega), bd_o hz (by omega) (by omega), bd_o hz (by omega) (by omega), bd_o hz (by omega) (by omega), bd_o hz (by omega) (by omega), bd_o hz (by omega) (by omega)]
    omega
  · rw [bd_7 hz ht, bd_15 hz ht]
    have := w1 t ht
    constructor <;> split <;> omega
  · rw [bd_0] at ht
    rw [bd_7 hz (by omega), us]
    by_cases d : t = g 0
    · rw [if_pos d, d, u0]; omega
    · rw [if_neg d]; exact w2 t (by omega)
  · rw [bd_o hz (by omega) (by omega)]; exact w3 i hi
  · unfold lkN at hl ⊢
    rw [bd_o hz (by omega) (by omega)] at hl
    have := w4 i j hi hj hl
    rw [bd_0, bd_o hz (by omega) (by omega)]
    exact ⟨by omega, this.2⟩
  · rw [bd_o hz (by omega) (by omega), ← w5]
    exact sN_congr (fun t ht => bd_o hz (by omega) (by omega))
  · rw [bd_o hz (by omega) (by omega)] at hi
    have a := w6 i hi
    rw [bd_0, bd_o hz (by omega) (by omega), bd_o hz (by omega) (by omega), bd_o hz (by omega) (by omega), bd_o hz (by omega) (by omega), bd_o hz (by omega) (by omega), bd_o hz (by omega) (by omega), bd_o hz (by omega) (by omega), bd_o hz (by omega) (by omega), bd_o hz (by omega) (by omega)]
    exact ⟨a.1, a.2.1, a.2.2.1, a.2.2.2.1, a.2.2.2.2.1, by omega, a.2.2.2.2.2.2⟩
  · rw [bd_o hz (by omega) (by omega)] at hj
    rw [bd_o hz (by omega) (by omega), bd_o hz (by omega) (by omega), bd_o hz (by omega) (by omega), bd_o hz (by omega) (by omega), bd_o hz (by omega) (by omega), bd_o hz (by omega) (by omega)]
    exact w7 i j hij hj
  · rw [bd_o hz (by omega) (by omega)] at hp
    obtain ⟨s', h1, h2, h3⟩ := w8 t p ht hp
    exact ⟨s', by rw [bd_o hz (by omega) (by omega)]; exact h1, by rw [bd_o hz (by omega) (by omega)]; exact h2, by rw [bd_o hz (by omega) (by omega)]; exact h3⟩
  · unfold buildI
    rw [up2_v, if_pos rfl, bd_0, nI_1]
  · unfold buildI
    rw [up2_ne (by decide), up2_ne (by decide), up2_ne (by decide), bd_o hz (by omega) (by omega)]; exact s2
  · unfold buildI
    rw [up2_ne (by decide), up2_ne (by decide), up2_ne (by decide), bd_o hz (by omega) (by omega)]; exact s3
  · unfold buildI
    rw [up2_ne (by decide), up2_ne (by decide), up2_ne (by decide), bd_o hz (by omega) (by omega)]; exact s4
  · unfold buildI
    rw [up2_ne (by decide), up2_ne (by decide), up2_ne (by decide), bd_o hz (by omega) (by omega)]; exact s5
  · rw [bd_o hz (by omega) (by omega)]; exact s6
  · rw [bd_o hz (by omega) (by omega)]; exact s7
  · unfold buildI
    rw [up2_v, if_neg (by decide), up2_ne (by decide), up2_ne (by decide), lc]; exact s8
  · obtain ⟨t1, t2, t3, t4⟩ := T t ht
    unfold buildI
    rw [up2_ne (by decide), up2_ne (by decide), up2_v, up2_ne (by decide), up2_v, up2_ne (by decide), up2_ne (by decide), up2_ne (by decide), up2_ne (by decide), up2_ne (by decide), up2_ne (by decide), up2_ne (by decide), bd_7 hz ht, bd_15 hz ht, bd_o hz (by omega) (by omega), us]
    refine ⟨?_, ?_, t3, t4⟩
    · by_cases d : t = g 0
      · rw [if_pos d, if_pos d]
      · rw [if_neg d, if_neg d]; exact t1
    · by_cases d : t = g 0
      · rw [if_pos d, if_pos d]
      · rw [if_neg d, if_neg d]; exact t2
  · unfold buildI
    rw [up2_ne (by decide), up2_ne (by decide), up2_ne (by decide), bd_o hz (by omega) (by omega)]
    exact Hj i j hi hj
  · rw [bd_o hz (by omega) (by omega)] at hi
    unfold buildI
    simp only [up2_ne (show (17 : Nat) ≠ 3 by decide), up2_ne (show (17 : Nat) ≠ 5 by decide), up2_ne (show (17 : Nat) ≠ 6 by decide), up2_ne (show (19 : Nat) ≠ 3 by decide), up2_ne (show (19 : Nat) ≠ 5 by decide), up2_ne (show (19 : Nat) ≠ 6 by decide), up2_ne (show (21 : Nat) ≠ 3 by decide), up2_ne (show (21 : Nat) ≠ 5 by decide), up2_ne (show (21 : Nat) ≠ 6 by decide), up2_ne (show (23 : Nat) ≠ 3 by decide), up2_ne (show (23 : Nat) ≠ 5 by decide), up2_ne (show (23 : Nat) ≠ 6 by decide), up2_ne (show (25 : Nat) ≠ 3 by decide), up2_ne (show (25 : Nat) ≠ 5 by decide), up2_ne (show (25 : Nat) ≠ 6 by decide), up2_ne (show (27 : Nat) ≠ 3 by decide), up2_ne (show (27 : Nat) ≠ 5 by decide), up2_ne (show (27 : Nat) ≠ 6 by decide), up2_ne (show (29 : Nat) ≠ 3 by decide), up2_ne (show (29 : Nat) ≠ 5 by decide), up2_ne (show (29 : Nat) ≠ 6 by decide)]
    rw [bd_o hz (by omega) (by omega), bd_o hz (by omega) (by omega), bd_o hz (by omega) (by omega), bd_o hz (by omega) (by omega), bd_o hz (by omega) (by omega), bd_o hz (by omega) (by omega), bd_o hz (by omega) (by omega)]
    exact C.1 i hi
  · rw [bd_o hz (by omega) (by omega)] at hj
    exact C.2.1 i j hij hj
  · rw [bd_o hz (by omega) (by omega)] at hn
    unfold buildI
    rw [up2_ne (by decide), up2_ne (by decide), up2_ne (by decide), up2_ne (by decide), up2_ne (by decide), up2_ne (by decide)]
    exact C.2.2 u hu hn
theorem xr_dec : ∀ v, v < 256 → ∀ b, b < 8 → nI v ^^^ (1 <<< (nI b &&& 31)) = nI (v ^^^ 2 ^ b) ∧ v ^^^ 2 ^ b < 256 ∧ ∀ j, j < 8 → (v ^^^ 2 ^ b).testBit j = (v.testBit j ^^ decide (j = b)) := by decide +kernel
def tgG (g : Nat → Nat) (x y : Nat) : Nat → Nat := un (un g (23 + x) (g (23 + x) ^^^ 2 ^ y)) (23 + y) (g (23 + y) ^^^ 2 ^ x)
theorem tg_o (hx : x < 8) (hy : y < 8) (h : k < 23 ∨ 31 ≤ k) : tgG g x y k = g k := by
  unfold tgG
  rw [un_ne (by omega), un_ne (by omega)]
theorem tg_b (hw : ∀ i, i < 8 → g (23 + i) < 256) (hx : x < 8) (hy : y < 8) (hxy : x ≠ y) {j : Nat} (hi : i < 8) (hj : j < 8) : (tgG g x y (23 + i)).testBit j = ((g (23 + i)).testBit j ^^ decide ((i = x ∧ j = y) ∨ (i = y ∧ j = x))) := by
  unfold tgG
  by_cases c : i = y
  · subst c
    rw [un_eq, (xr_dec _ (hw i hi) x hx).2.2 j hj]
    congr 1
    have e1 : ¬ i = x := fun e => hxy e.symm
    simp [e1]
  · rw [un_ne (by omega)]
    by_cases d : i = x
    · subst d
      rw [un_eq, (xr_dec _ (hw i hi) y hy).2.2 j hj]
      congr 1
      simp [c]
    · rw [un_ne (by omega)]
      simp [c, d]
theorem tg_256 (hw : ∀ i, i < 8 → g (23 + i) < 256) (hx : x < 8) (hy : y < 8) (hi : i < 8) : tgG g x y (23 + i) < 256 := by
  unfold tgG
  by_cases c : i = y
  · subst c
    rw [un_eq]
    exact (xr_dec _ (hw i hi) x hx).2.1
  · rw [un_ne (by omega)]
    by_cases d : i = x
    · subst d
      rw [un_eq]
      exact (xr_dec _ (hw i hi) y hy).2.1
    · rw [un_ne (by omega)]
      exact hw i hi
theorem lkc_tg0 {hi lo : Nat} (h0 : g' 0 = g 0) (hz : g 0 ≤ 8) (hlo : lo < hi) (hhi : hi < g 0) (hb : ∀ i j, i < 8 → j < 8 → (g' (23 + i)).testBit j = ((g (23 + i)).testBit j ^^ decide ((i = hi ∧ j = lo) ∨ (i = lo ∧ j = hi)))) :
    lkc g' + (if (g (23 + hi)).testBit lo = true then 1 else 0) = lkc g + (if (g' (23 + hi)).testBit lo = true then 1 else 0) := by
  have a := sN_upd (f := fun i => sN (fun j => if (g (23 + i)).testBit j = true then 1 else 0) i) (u := hi) (x := sN (fun j => if (g' (23 + hi)).testBit j = true then 1 else 0) hi) (n := g 0) hhi
  have b := sN_upd (f := fun j => if (g (23 + hi)).testBit j = true then 1 else 0) (u := lo) (x := if (g' (23 + hi)).testBit lo = true then 1 else 0) (n := hi) hlo
  have c : lkc g' = sN (un (fun i => sN (fun j => if (g (23 + i)).testBit j = true then 1 else 0) i) hi (sN (fun j => if (g' (23 + hi)).testBit j = true then 1 else 0) hi)) (g 0) := by
    unfold lkc
    rw [h0]
    refine sN_congr (fun i hi2 => ?_)
    try simp only
    rw [un_v]
    by_cases e : i = hi
    · rw [if_pos e, e]
    · rw [if_neg e]
      refine sN_congr (fun j hj => ?_)
      try simp only
      rw [hb i j (by omega) (by omega)]
      have e2 : ¬ ((i = hi ∧ j = lo) ∨ (i = lo ∧ j = hi)) := by omega
      rw [decide_eq_false e2, Bool.xor_false]
  have d : sN (fun j => if (g' (23 + hi)).testBit j = true then 1 else 0) hi = sN (un (fun j => if (g (23 + hi)).testBit j = true then 1 else 0) lo (if (g' (23 + hi)).testBit lo = true then 1 else 0)) hi := by
    refine sN_congr (fun j hj => ?_)
    try simp only
    rw [un_v]
    by_cases e : j = lo
    · rw [if_pos e, e]
    · rw [if_neg e, hb hi j (by omega) (by omega)]
      have e2 : ¬ ((hi = hi ∧ j = lo) ∨ (hi = lo ∧ j = hi)) := by omega
      rw [decide_eq_false e2, Bool.xor_false]
  have e : lkc g = sN (fun i => sN (fun j => if (g (23 + i)).testBit j = true then 1 else 0) i) (g 0) := rfl
  rw [c, e]
  try simp only at a b
  omega
theorem lkc_tg (W : WG K g) (hx : x < g 0) (hy : y < g 0) (hxy : x ≠ y) : lkc (tgG g x y) + (if (g (23 + x)).testBit y = true then 1 else 0) = lkc g + (if (tgG g x y (23 + x)).testBit y = true then 1 else 0) := by
  have hz := W.1.1
  have hw := W.2.2.2.1
  have x8 : x < 8 := by omega
  have y8 : y < 8 := by omega
  have sy : (g (23 + x)).testBit y = (g (23 + y)).testBit x := by
    have p := W.2.2.2.2.1 x y x8 y8
    have q := W.2.2.2.2.1 y x y8 x8
    unfold lkN at p q
    cases h1 : (g (23 + x)).testBit y <;> cases h2 : (g (23 + y)).testBit x
    · rfl
    · have := (q h2).2.2
      rw [h1] at this
      cases this
    · have := (p h1).2.2
      rw [h2] at this
      cases this
    · rfl
  have hb := fun i j (hi : i < 8) (hj : j < 8) => tg_b hw x8 y8 hxy hi hj
  have h0 : tgG g x y 0 = g 0 := tg_o x8 y8 (by omega)
  by_cases c : y < x
  · exact lkc_tg0 h0 hz c hx hb
  · have r := lkc_tg0 (g := g) (g' := tgG g x y) h0 hz (hi := y) (lo := x) (by omega) hy (fun i j hi hj => by
      rw [hb i j hi hj]
      congr 1
      have : ((i = x ∧ j = y) ∨ (i = y ∧ j = x)) = ((i = y ∧ j = x) ∨ (i = x ∧ j = y)) := propext ⟨fun h => h.symm, fun h => h.symm⟩
      simp only [this])
    have e1 := hb x y x8 y8
    have e2 := hb y x y8 x8
    rw [← sy] at r
    rw [e2, ← sy] at r
    rw [e1]
    have f1 : decide ((x = x ∧ y = y) ∨ (x = y ∧ y = x)) = true := by simp
    have f2 : decide ((y = x ∧ x = y) ∨ (y = y ∧ x = x)) = true := by simp
    rw [f1]
    rw [f2] at r
    exact r
end YLK
