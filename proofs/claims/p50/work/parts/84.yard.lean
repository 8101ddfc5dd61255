/-! sums; the yard as numbers: what the class's rows and the model's row say of it -/
section YAB
def sN (f : Nat → Nat) : Nat → Nat
  | 0 => 0
  | n + 1 => sN f n + f n
theorem sN_congr {f g : Nat → Nat} : ∀ {n : Nat}, (∀ k, k < n → f k = g k) → sN f n = sN g n
  | 0, _ => rfl
  | n + 1, h => by
    show sN f n + f n = sN g n + g n
    rw [sN_congr (fun k hk => h k (by omega)), h n (by omega)]
theorem sN_zero {f : Nat → Nat} : ∀ {n : Nat}, (∀ k, k < n → f k = 0) → sN f n = 0
  | 0, _ => rfl
  | n + 1, h => by
    show sN f n + f n = 0
    rw [sN_zero (fun k hk => h k (by omega)), h n (by omega)]
theorem sN_upd {f : Nat → Nat} {u x : Nat} : ∀ {n : Nat}, u < n → sN (un f u x) n + f u = sN f n + x
  | 0, h => by omega
  | n + 1, h => by
    show sN (un f u x) n + un f u x n + f u = sN f n + f n + x
    by_cases c : u = n
    · subst c
      rw [un_eq, sN_congr (f := un f u x) (g := f) (fun k hk => un_ne (by omega))]
      omega
    · rw [un_ne (by omega)]
      have := sN_upd (f := f) (u := u) (x := x) (n := n) (by omega)
      omega
theorem sN_le {f : Nat → Nat} {c : Nat} : ∀ {n : Nat}, (∀ k, k < n → f k ≤ c) → sN f n ≤ c * n
  | 0, _ => Nat.zero_le _
  | n + 1, h => by
    have a := sN_le (f := f) (c := c) (n := n) (fun k hk => h k (by omega))
    have b := h n (by omega)
    show sN f n + f n ≤ c * (n + 1)
    rw [Nat.mul_succ]
    omega
theorem sN_mono {f g : Nat → Nat} : ∀ {n : Nat}, (∀ k, k < n → f k ≤ g k) → sN f n ≤ sN g n
  | 0, _ => Nat.le_refl _
  | n + 1, h => by
    have a := sN_mono (f := f) (g := g) (n := n) (fun k hk => h k (by omega))
    have b := h n (by omega)
    show sN f n + f n ≤ sN g n + g n
    omega
theorem sN_pick {f : Nat → Nat} {k : Nat} : ∀ {n : Nat}, k < n → f k ≤ sN f n
  | 0, h => by omega
  | n + 1, h => by
    show f k ≤ sN f n + f n
    by_cases c : k = n
    · subst c; omega
    · have := sN_pick (f := f) (k := k) (n := n) (by omega)
      omega
/-- a sum over places that others hold -/
theorem sN_re {f σ : Nat → Nat} {n : Nat} : ∀ {m : Nat} (w : Nat → Nat), (∀ s, s < m → σ s < n ∧ w (σ s) = f s) → (∀ s s', s < s' → s' < m → σ s ≠ σ s') → (∀ u, u < n → (∀ s, s < m → σ s ≠ u) → w u = 0) → sN w n = sN f m
  | 0, w, _, _, h3 => sN_zero (fun u hu => h3 u hu (fun s hs => by omega))
  | m + 1, w, h1, h2, h3 => by
    have a := sN_upd (f := w) (u := σ m) (x := 0) (n := n) (h1 m (by omega)).1
    have b := sN_re (f := f) (σ := σ) (n := n) (m := m) (un w (σ m) 0) (fun s hs => ⟨(h1 s (by omega)).1, by rw [un_ne (h2 s m hs (by omega))]; exact (h1 s (by omega)).2⟩) (fun s s' hss hs => h2 s s' hss (by omega)) (fun u hu hs => by
      by_cases c : u = σ m
      · rw [c, un_eq]
      · rw [un_ne c]
        exact h3 u hu (fun s hs2 e => by
          by_cases d : s = m
          · exact c (by rw [← e, d])
          · exact hs s (by omega) e))
    have c := (h1 m (by omega)).2
    show sN w n = sN f m + f m
    omega
theorem fo_sum {w : Nat → Nat} {st : Nat → Int32 → Int32} {n : Nat} (h : ∀ k a, k < n → st k a = a + nI (w k)) : fo st n 0 0 = nI (sN w n) :=
  fo_at (e := n) (P := fun k a => a = nI (sN w k)) (f := st) (fun k a hk ha => by
    show st k a = nI (sN w k + w k)
    rw [h k a hk, ha, nI_add]) n 0 0 (by omega) rfl
theorem fnd_at {p : Nat → Prop} [DecidablePred p] {n j : Nat} (hj : j < n) (hp : p j) (hu : ∀ i, i < n → p i → i = j) : fnd p n 0 = nI j := by
  rcases fnd_or (p := p) n 0 with ⟨-, h2⟩ | ⟨i, -, h2, h3, h4, -⟩
  · exact absurd hp (h2 j (Nat.zero_le _) (by omega))
  · rw [h4, hu i (by omega) h3]
theorem fnd_none {p : Nat → Prop} [DecidablePred p] {n : Nat} (h : ∀ i, i < n → ¬ p i) : fnd p n 0 = -1 := by
  rcases fnd_or (p := p) n 0 with ⟨h1, -⟩ | ⟨i, -, h2, h3, -, -⟩
  · exact h1
  · exact absurd h3 (h i (by omega))
/-- a row of the model, as numbers -/
def GV (G : Nat → Int32) (g : Nat → Nat) : Prop := ∀ k, k < 179 → G k = nI (g k)
theorem GV.up {I : HI} {a k v : Nat} {g : Nat → Nat} {x : Int32} (h : GV (I a) g) (hx : x = nI v) : GV (up2 I a k x a) (un g k v) := fun j hj => by
  rw [up2_v, un_v]
  by_cases c : j = k
  · rw [if_pos c, if_pos c, hx]
  · rw [if_neg c, if_neg c]; exact h j hj
def usN (g : Nat → Nat) (t : Nat) : Nat := sN (fun s => if g (139 + s) = t then g (59 + s) else 0) (g 1)
def lkN (g : Nat → Nat) (i j : Nat) : Prop := (g (23 + i)).testBit j = true
def lkc (g : Nat → Nat) : Nat := sN (fun i => sN (fun j => if (g (23 + i)).testBit j = true then 1 else 0) i) (g 0)
def WS (g : Nat → Nat) : Prop :=
  (∀ t, t < 8 → g (7 + t) ≤ 200 ∧ g (15 + t) ≤ 5) ∧ (∀ t, t < g 0 → 10 ≤ g (7 + t) ∧ usN g t ≤ g (7 + t)) ∧
  (∀ i, i < 8 → g (23 + i) < 256) ∧ (∀ i j, i < 8 → j < 8 → lkN g i j → (i < g 0 ∧ j < g 0) ∧ i ≠ j ∧ lkN g j i) ∧
  sN (fun t => g (31 + t)) 8 = g 1 ∧
  (∀ s, s < g 1 → (1 ≤ g (39 + s) ∧ g (39 + s) < g 2) ∧ (5 ≤ g (59 + s) ∧ g (59 + s) ≤ 30) ∧ (10 ≤ g (79 + s) ∧ g (79 + s) ≤ 90) ∧ g (99 + s) ≤ 9 ∧ g (119 + s) ≤ 1 ∧ g (139 + s) < g 0 ∧ g (159 + s) < g (31 + g (139 + s))) ∧
  (∀ s s', s < s' → s' < g 1 → g (39 + s) ≠ g (39 + s') ∧ ¬ (g (139 + s) = g (139 + s') ∧ g (159 + s) = g (159 + s'))) ∧
  (∀ t p, t < 8 → p < g (31 + t) → ∃ s, s < g 1 ∧ g (139 + s) = t ∧ g (159 + s) = p)
def WG (K : Nat) (g : Nat → Nat) : Prop := (g 0 ≤ 8 ∧ g 1 ≤ 20 ∧ (1 ≤ g 2 ∧ g 2 ≤ K + 1) ∧ g 3 ≤ K ∧ g 4 ≤ 20 * K ∧ g 5 ≤ 100 * K ∧ g 6 ≤ 1800 * K) ∧ WS g
def CRs (I : HI) (L : HL) (g : Nat → Nat) : Prop := I 6 0 = nI (g 0) ∧ I 15 0 = nI (g 1) ∧ I 15 1 = nI (g 2 - 1) ∧ I 1 5 = nI (g 3) ∧ I 1 6 = nI (g 4) ∧ L 1 4 = lN (g 5) ∧ L 1 7 = lN (g 6) ∧ I 6 1 = nI (lkc g)
def CRt (I : HI) (g : Nat → Nat) : Prop := ∀ t, t < 8 → I 3 t = nI (g (7 + t)) ∧ I 5 t = nI (g (15 + t)) ∧ I 31 t = nI (g (31 + t)) ∧ I 33 t = nI (usN g t)
def CRj (I : HI) (g : Nat → Nat) : Prop := ∀ i j, i < 8 → j < 8 → I 8 (i * 8 + j) = if (g (23 + i)).testBit j = true then 1 else 0
def CRc (I : HI) (g σ : Nat → Nat) : Prop := (∀ s, s < g 1 → σ s < 20 ∧ I 17 (σ s) = nI (g (39 + s)) ∧ I 27 (σ s) = nI (g (59 + s)) ∧ I 29 (σ s) = nI (g (79 + s)) ∧ I 19 (σ s) = nI (g (99 + s)) ∧ I 21 (σ s) = nI (g (119 + s)) ∧ I 23 (σ s) = nI (g (139 + s)) ∧ I 25 (σ s) = nI (g (159 + s))) ∧
  (∀ s s', s < s' → s' < g 1 → σ s ≠ σ s') ∧ ∀ u, u < 20 → (∀ s, s < g 1 → σ s ≠ u) → I 17 u = 0 ∧ I 23 u = -1
/-- the class's yard in use and a row of the model are the same yard, after at most K commands -/
def YR (K : Nat) (I : HI) (L : HL) (G : Nat → Int32) (g σ : Nat → Nat) : Prop := K ≤ 5000 ∧ GV G g ∧ WG K g ∧ CRs I L g ∧ CRt I g ∧ CRj I g ∧ CRc I g σ
end YAB
