/-! the model's distances -/
section BFO
variable {I : HI} {ad : Nat → Nat → Prop} {z t : Nat}
def bfJ (I : HI) (ad : Nat → Nat → Prop) (t : Nat) (J : HI) (D : Nat → Nat) : Prop := (∀ a, a ≠ 403 → J a = I a) ∧ (∀ k, k < 8 → J 403 k = nI (D k)) ∧ (∀ k, k < 8 → D k ≤ 100) ∧ (∀ k, k < 8 → D k < 100 → wk ad t (D k) k)
theorem bf_st (hl : ∀ i k, i < z → k < z → (lkM I i k ↔ ad i k)) (hz8 : z ≤ 8) {i k : Nat} (hi : i < z) (hk : k < z) {J : HI} {D : Nat → Nat} (h : bfJ I ad t J D) : ∃ D', bfJ I ad t (stE i k J) D' ∧ (∀ j, D' j ≤ D j) ∧ (ad i k → D' i ≤ D k + 1) := by
  obtain ⟨h1, h2, h3, h4⟩ := h
  have e1 : ∀ a, a ≠ 403 → stE i k J a = I a := fun a ha => (up2_ne ha).trans (h1 a ha)
  have b1 := h3 i (by omega)
  have b2 := h3 k (by omega)
  have hlk : lkM J i k ↔ ad i k := by
    rw [← hl i k hi hk]
    show (J 397 _ >>> _) &&& 1 = 1 ↔ _
    rw [h1 397 (by decide)]
  have hlt : J 403 k + 1 < J 403 i ↔ D k + 1 < D i := by rw [h2 k (by omega), h2 i (by omega), nI_1, nI_ltI (by omega) (by omega)]
  by_cases hc : ad i k ∧ D k + 1 < D i
  · have hv : (if lkM J i k ∧ J 403 k + 1 < J 403 i then J 403 k + 1 else J 403 i) = nI (D k + 1) := by
      rw [if_pos ⟨hlk.mpr hc.1, hlt.mpr hc.2⟩, h2 k (by omega), nI_1]
    have e2 : ∀ j, stE i k J 403 j = if j = i then nI (D k + 1) else J 403 j := fun j => by
      unfold stE
      rw [hv, up2_v]
    refine ⟨un D i (D k + 1), ⟨e1, fun j hj => ?_, fun j hj => ?_, fun j hj hd => ?_⟩, fun j => ?_, fun _ => ?_⟩
    · rw [e2, un_v]
      by_cases c : j = i
      · rw [if_pos c, if_pos c]
      · rw [if_neg c, if_neg c, h2 j hj]
    · have := h3 j hj
      rw [un_v]
      split <;> omega
    · rw [un_v] at hd ⊢
      by_cases c : j = i
      · rw [if_pos c] at hd ⊢
        subst c
        exact ⟨k, hc.1, h4 k (by omega) (by omega)⟩
      · rw [if_neg c] at hd ⊢
        exact h4 j hj hd
    · rw [un_v]
      by_cases c : j = i
      · rw [if_pos c]; subst c; omega
      · rw [if_neg c]; exact Nat.le_refl _
    · rw [un_eq]; exact Nat.le_refl _
  · have e2 : ∀ j, stE i k J 403 j = J 403 j := fun j => by
      have hv : (if lkM J i k ∧ J 403 k + 1 < J 403 i then J 403 k + 1 else J 403 i) = J 403 i := if_neg (fun q => hc ⟨hlk.mp q.1, hlt.mp q.2⟩)
      unfold stE
      rw [hv, up2_v]
      by_cases c : j = i
      · rw [if_pos c, c]
      · rw [if_neg c]
    refine ⟨D, ⟨e1, fun j hj => (e2 j).trans (h2 j hj), h3, h4⟩, fun j => Nat.le_refl _, fun ha => ?_⟩
    by_cases c : D k + 1 < D i
    · exact absurd ⟨ha, c⟩ hc
    · omega
theorem bf_in (hl : ∀ i k, i < z → k < z → (lkM I i k ↔ ad i k)) (hz8 : z ≤ 8) {i : Nat} (hi : i < z) : ∀ n k J D, n + k = z → bfJ I ad t J D → ∃ D', bfJ I ad t (fo (stE i) n k J) D' ∧ (∀ j, D' j ≤ D j) ∧ ∀ o, k ≤ o → o < z → ad i o → D' i ≤ D o + 1
  | 0, k, J, D, he, h => ⟨D, h, fun j => Nat.le_refl _, fun o h1 h2 => by omega⟩
  | n + 1, k, J, D, he, h => by
    obtain ⟨D1, h1, g1, a1⟩ := bf_st hl hz8 hi (by omega : k < z) h
    obtain ⟨D2, h2, g2, a2⟩ := bf_in hl hz8 hi n (k + 1) (stE i k J) D1 (by omega) h1
    refine ⟨D2, h2, fun j => Nat.le_trans (g2 j) (g1 j), fun o ho1 ho2 ha => ?_⟩
    by_cases c : o = k
    · subst c
      have := a1 ha
      have := g2 i
      omega
    · have := a2 o (by omega) ho2 ha
      have := g1 o
      omega
theorem bf_ro (hl : ∀ i k, i < z → k < z → (lkM I i k ↔ ad i k)) (hz8 : z ≤ 8) : ∀ n k J D, n + k = z → bfJ I ad t J D → ∃ D', bfJ I ad t (fo (ex1 z) n k J) D' ∧ (∀ j, D' j ≤ D j) ∧ ∀ i, k ≤ i → i < z → ∀ o, o < z → ad i o → D' i ≤ D o + 1
  | 0, k, J, D, he, h => ⟨D, h, fun j => Nat.le_refl _, fun i h1 h2 => by omega⟩
  | n + 1, k, J, D, he, h => by
    obtain ⟨D1, h1, g1, a1⟩ := bf_in hl hz8 (by omega : k < z) z 0 J D (by omega) h
    obtain ⟨D2, h2, g2, a2⟩ := bf_ro hl hz8 n (k + 1) (ex1 z k J) D1 (by omega) h1
    refine ⟨D2, h2, fun j => Nat.le_trans (g2 j) (g1 j), fun i hi1 hi2 o ho ha => ?_⟩
    by_cases c : i = k
    · subst c
      have := a1 o (Nat.zero_le _) ho ha
      have := g2 i
      omega
    · have := a2 i (by omega) hi2 o ho ha
      have := g1 o
      omega
def bfA (ad : Nat → Nat → Prop) (z t r : Nat) (D : Nat → Nat) : Prop := ∀ k i, k ≤ r → i < z → wk ad t k i → D i ≤ k
theorem bf_rs (hl : ∀ i k, i < z → k < z → (lkM I i k ↔ ad i k)) (hz : ∀ i j, ad i j → i < z ∧ j < z) (hz8 : z ≤ 8) : ∀ n r J D, bfA ad z t r D → bfJ I ad t J D → ∃ D', bfJ I ad t (fo (fun _ J => ex2 z J) n r J) D' ∧ bfA ad z t (r + n) D'
  | 0, r, J, D, ha, h => ⟨D, h, ha⟩
  | n + 1, r, J, D, ha, h => by
    obtain ⟨D1, h1, g1, a1⟩ := bf_ro hl hz8 z 0 J D (by omega) h
    have hA : bfA ad z t (r + 1) D1 := fun k i hk hi hw => by
      cases k with
      | zero => exact Nat.le_trans (g1 i) (ha 0 i (Nat.zero_le _) hi hw)
      | succ k =>
        obtain ⟨o, ho, hw2⟩ := hw
        have ho2 := (hz i o ho).2
        have := a1 i (Nat.zero_le _) hi o ho2 ho
        have := ha k o (by omega) ho2 hw2
        omega
    obtain ⟨D2, h2, A2⟩ := bf_rs hl hz hz8 n (r + 1) (ex2 z J) D1 hA h1
    exact ⟨D2, h2, by rw [show r + (n + 1) = r + 1 + n by omega]; exact A2⟩
theorem exI_v {u : Nat} (hu : u < 8) : ∀ n k J, (∀ j, j < k → J 403 j = nI (if j = u then 0 else 100)) → n + k = 8 → ∀ j, j < 8 → fo (exI u) n k J 403 j = nI (if j = u then 0 else 100)
  | 0, k, J, h, he, j, hj => h j (by omega)
  | n + 1, k, J, h, he, j, hj => by
    refine exI_v hu n (k + 1) (exI u k J) (fun i hi => ?_) (by omega) j hj
    unfold exI
    rw [up2_v]
    by_cases c : i = k
    · rw [if_pos c, c]
      by_cases e : k = u
      · rw [if_pos (by rw [e]), if_pos e]; rfl
      · rw [if_neg (fun q => e ((nI_eq (by omega) (by omega)).mp q)), if_neg e]; rfl
    · rw [if_neg c]
      exact h i (by omega)
/-- what the model's search finds -/
theorem ex_spec (hl : ∀ i k, i < z → k < z → (lkM I i k ↔ ad i k)) (hz : ∀ i j, ad i j → i < z ∧ j < z) (hz8 : z ≤ 8) (ht : t < z) {i : Nat} (hi : i < z) : ∃ x, exM I z t 403 i = nI x ∧ isD ad 100 t i x := by
  have h0 : bfJ I ad t (fo (exI t) 8 0 I) (fun j => if j = t then 0 else 100) := ⟨fun a ha => exI_ne ha, fun k hk => exI_v (by omega) 8 0 I (fun j hj => by omega) (by omega) k hk, fun k hk => by
    show (if k = t then 0 else 100) ≤ 100
    split <;> omega, fun k hk hd => by
    have hd2 : (if k = t then 0 else 100) < 100 := hd
    show wk ad t (if k = t then 0 else 100) k
    by_cases c : k = t
    · rw [if_pos c]; exact c
    · rw [if_neg c] at hd2; omega⟩
  have hA : bfA ad z t 0 (fun j => if j = t then 0 else 100) := fun k i hk hi hw => by
    have e : k = 0 := by omega
    subst e
    have e2 : i = t := hw
    show (if i = t then 0 else 100) ≤ 0
    rw [if_pos e2]; exact Nat.le_refl _
  obtain ⟨D, ⟨h1, h2, h3, h4⟩, A⟩ := bf_rs hl hz hz8 8 0 _ _ hA h0
  exact ⟨D i, h2 i (by omega), isD_of hz hz8 hi (by decide) (h3 i (by omega)) (fun k hk hw => A k i (by omega) hi hw) (fun hd => h4 i (by omega) hd)⟩
end BFO
