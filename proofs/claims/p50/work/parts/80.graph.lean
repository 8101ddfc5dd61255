/-! walks in a graph, and what a row of distances is -/
section GRA
def wk (ad : Nat → Nat → Prop) (t : Nat) : Nat → Nat → Prop
  | 0, i => i = t
  | k + 1, i => ∃ n, ad i n ∧ wk ad t k n
def mnd (ad : Nat → Nat → Prop) (t d i : Nat) : Prop := wk ad t d i ∧ ∀ k, k < d → ¬ wk ad t k i
theorem min_of {p : Nat → Prop} : ∀ k, p k → ∃ d, d ≤ k ∧ p d ∧ ∀ j, j < d → ¬ p j := by
  intro k
  induction k using Nat.strongRecOn with
  | _ k ih =>
    intro hk
    by_cases h : ∃ j, j < k ∧ p j
    · obtain ⟨j, hj, hp⟩ := h
      obtain ⟨d, hd, h2⟩ := ih j hj hp
      exact ⟨d, by omega, h2⟩
    · exact ⟨k, Nat.le_refl k, hk, fun j hj hp => h ⟨j, hj, hp⟩⟩
theorem php : ∀ (n : Nat) (f : Nat → Nat), (∀ i, i ≤ n → f i < n) → ∃ i j, i < j ∧ j ≤ n ∧ f i = f j
  | 0, f, h => absurd (h 0 (Nat.le_refl 0)) (Nat.not_lt_zero _)
  | n + 1, f, h => by
    by_cases hx : ∃ i, i ≤ n ∧ f i = f (n + 1)
    · obtain ⟨i, hi, he⟩ := hx
      exact ⟨i, n + 1, by omega, Nat.le_refl _, he⟩
    · obtain ⟨i, j, hij, hj, he⟩ := php n (fun i => if f i = n then f (n + 1) else f i) (fun i hi => by
        have h1 := h i (by omega)
        have h2 := h (n + 1) (Nat.le_refl _)
        have h3 : f i ≠ f (n + 1) := fun e => hx ⟨i, hi, e⟩
        show (if f i = n then f (n + 1) else f i) < n
        split <;> omega)
      have h3 : f i ≠ f (n + 1) := fun e => hx ⟨i, by omega, e⟩
      have h4 : f j ≠ f (n + 1) := fun e => hx ⟨j, hj, e⟩
      refine ⟨i, j, hij, by omega, ?_⟩
      try simp only at he
      split at he <;> split at he <;> omega
theorem mnd_chain {ad : Nat → Nat → Prop} {t z : Nat} (hz : ∀ i j, ad i j → i < z ∧ j < z) : ∀ d i, i < z → mnd ad t d i → ∀ j, j ≤ d → ∃ v, v < z ∧ mnd ad t j v
  | 0, i, hi, h, j, hj => ⟨i, hi, by have e : j = 0 := by omega
                                     subst e; exact h⟩
  | d + 1, i, hi, h, j, hj => by
    by_cases e : j = d + 1
    · subst e; exact ⟨i, hi, h⟩
    · obtain ⟨n, hn, hw⟩ := h.1
      have hm : mnd ad t d n := ⟨hw, fun k hk hw2 => h.2 (k + 1) (by omega) ⟨n, hn, hw2⟩⟩
      exact mnd_chain hz d n (hz i n hn).2 hm j (by omega)
theorem mnd_lt {ad : Nat → Nat → Prop} {t z d i : Nat} (hz : ∀ i j, ad i j → i < z ∧ j < z) (hi : i < z) (h : mnd ad t d i) : d < z := by
  by_cases hd : d < z
  · exact hd
  · exfalso
    have hf : ∀ j, ∃ v, j ≤ d → v < z ∧ mnd ad t j v := fun j => by
      by_cases hj : j ≤ d
      · obtain ⟨v, hv⟩ := mnd_chain hz d i hi h j hj
        exact ⟨v, fun _ => hv⟩
      · exact ⟨0, fun h => absurd h hj⟩
    obtain ⟨i1, j1, hij, hj, he⟩ := php z (fun j => Classical.choose (hf j)) (fun k hk => (Classical.choose_spec (hf k) (by omega)).1)
    have a := (Classical.choose_spec (hf i1) (by omega)).2
    have b := (Classical.choose_spec (hf j1) (by omega)).2
    try simp only at he
    rw [he] at a
    exact b.2 i1 hij a.1
/-- x is the number of steps from i to t, or F where there is no way -/
def isD (ad : Nat → Nat → Prop) (F t i x : Nat) : Prop := (x = F ∧ ∀ k, ¬ wk ad t k i) ∨ (x < 8 ∧ mnd ad t x i)
theorem isD_of {ad : Nat → Nat → Prop} {t z i x F : Nat} (hz : ∀ i j, ad i j → i < z ∧ j < z) (hz8 : z ≤ 8) (hi : i < z) (hF : 8 ≤ F) (hx : x ≤ F) (h1 : ∀ k, k < 8 → wk ad t k i → x ≤ k) (h2 : x < F → wk ad t x i) : isD ad F t i x := by
  by_cases hk : ∃ k, wk ad t k i
  · obtain ⟨k, hk⟩ := hk
    obtain ⟨d, -, hd, hm⟩ := min_of (p := fun k => wk ad t k i) k hk
    have hd8 : d < z := mnd_lt hz hi ⟨hd, hm⟩
    have a := h1 d (by omega) hd
    have b := h2 (by omega)
    have c : ¬ x < d := fun c => hm x c b
    have e : x = d := by omega
    exact Or.inr ⟨by omega, e ▸ ⟨hd, hm⟩⟩
  · refine Or.inl ⟨?_, fun k hw => hk ⟨k, hw⟩⟩
    by_cases hl : x < F
    · exact absurd ⟨x, h2 hl⟩ hk
    · omega
theorem mnd_eq {ad : Nat → Nat → Prop} {t i x y : Nat} (h : mnd ad t x i) (g : mnd ad t y i) : x = y := by
  have a : ¬ x < y := fun e => g.2 x e h.1
  have b : ¬ y < x := fun e => h.2 y e g.1
  omega
/-- two rows of distances say the same -/
theorem isD_two {ad : Nat → Nat → Prop} {t i x y F G : Nat} (h : isD ad F t i x) (g : isD ad G t i y) : (x = F ∧ y = G) ∨ (x < 8 ∧ y = x) := by
  rcases h with ⟨hx, hn⟩ | ⟨hx, hm⟩
  · rcases g with ⟨gx, -⟩ | ⟨-, gm⟩
    · exact Or.inl ⟨hx, gx⟩
    · exact absurd gm.1 (hn y)
  · rcases g with ⟨-, gn⟩ | ⟨-, gm⟩
    · exact absurd hm.1 (gn x)
    · exact Or.inr ⟨hx, mnd_eq gm hm⟩
theorem wk_snoc {ad : Nat → Nat → Prop} {t u : Nat} (h : ad t u) : ∀ k i, wk ad t k i → wk ad u (k + 1) i
  | 0, i, e => ⟨u, by have e2 : i = t := e
                      subst e2; exact h, rfl⟩
  | k + 1, i, ⟨n, hn, hw⟩ => ⟨n, hn, wk_snoc h k n hw⟩
theorem wk_cat {ad : Nat → Nat → Prop} {v t b : Nat} : ∀ a i, wk ad v a i → wk ad t b v → wk ad t (a + b) i
  | 0, i, e, g => by
    have e2 : i = v := e
    subst e2
    rw [Nat.zero_add]
    exact g
  | a + 1, i, ⟨n, hn, hw⟩, g => by
    rw [show a + 1 + b = (a + b) + 1 by omega]
    exact ⟨n, hn, wk_cat a n hw g⟩
theorem wk_sym {ad : Nat → Nat → Prop} (hs : ∀ i j, ad i j → ad j i) {t : Nat} : ∀ k i, wk ad t k i → wk ad i k t
  | 0, i, e => Eq.symm e
  | k + 1, i, ⟨n, hn, hw⟩ => wk_snoc (hs _ _ hn) k t (wk_sym hs k n hw)
/-- a fold whose step keeps a property that speaks of the step's number -/
theorem fo_at {α : Type} {e : Nat} {P : Nat → α → Prop} {f : Nat → α → α} (h : ∀ k a, k < e → P k a → P (k + 1) (f k a)) : ∀ n k a, n + k = e → P k a → P e (fo f n k a)
  | 0, k, a, he, hp => by
    have e2 : k = e := by omega
    subst e2
    exact hp
  | n + 1, k, a, he, hp => fo_at h n (k + 1) (f k a) (by omega) (h k a (by omega) hp)
theorem up2_v {α : Type} {f : Nat → Nat → α} {a k j : Nat} {v : α} : up2 f a k v a j = if j = k then v else f a j := by rw [up2_eq]
def un (g : Nat → Nat) (k v : Nat) : Nat → Nat := fun j => if j = k then v else g j
theorem un_v {g : Nat → Nat} {k v j : Nat} : un g k v j = if j = k then v else g j := rfl
theorem un_ne {g : Nat → Nat} {k v j : Nat} (h : j ≠ k) : un g k v j = g j := if_neg h
theorem un_eq {g : Nat → Nat} {k v : Nat} : un g k v k = v := if_pos rfl
end GRA
