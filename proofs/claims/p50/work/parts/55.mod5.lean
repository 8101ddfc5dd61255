/-! the model: repairs and trains -/
def reS (I : HI) : Nat → Int32 → Int32 := fun k acc => acc + I 397 (119 + k)
def repM (I : HI) (m : Nat) (c : Int32) : Int32 × HI := if slOM I m c = -1 then (0, up2 I 396 12 1) else if I 397 (119 + (slOM I m c).toNatClampNeg) = 0 then (0, up2 I 396 12 2) else (fo (reS (up2 I 397 (119 + (slOM I m c).toNatClampNeg) 0)) m 0 0, up2 (up2 I 397 (119 + (slOM I m c).toNatClampNeg) 0) 396 12 0)
theorem slOM_or (I : HI) (m : Nat) (c : Int32) : slOM I m c = -1 ∨ ∃ s, s < m ∧ slOM I m c = nI s := by
  rcases fnd_or (p := fun s => I 397 (39 + s) = c) m 0 with h | ⟨j, h1, h2, h3⟩
  · exact Or.inl h.1
  · exact Or.inr ⟨j, by omega, h3.2.1⟩
def trM (I : HI) (m x : Nat) : Nat → Nat → Int32
  | 0, k => nI k
  | n + 1, k => if I 397 (99 + (feM I m x (nI k)).toNatClampNeg) = I 397 (99 + (feM I m x (nI 0)).toNatClampNeg) then trM I m x n (k + 1) else nI k
theorem trM_le {I : HI} {m x : Nat} : ∀ n k, ∃ j, k ≤ j ∧ j ≤ k + n ∧ trM I m x n k = nI j
  | 0, k => ⟨k, Nat.le_refl _, Nat.le_refl _, rfl⟩
  | n + 1, k => by
    rw [trM]
    split
    · obtain ⟨j, h1, h2, h3⟩ := trM_le n (k + 1)
      exact ⟨j, by omega, by omega, h3⟩
    · exact ⟨k, Nat.le_refl _, by omega, rfl⟩
def baS (I : HI) (m x : Nat) : Nat → Int32 → Int32 := fun k acc => if ¬ acc = 0 ∨ I 397 (119 + (feM I m x (nI k)).toNatClampNeg) = 1 then 1 else 0
def lvS (at9 : Nat) : Nat → HI → HI := fun k J => up2 J 397 (at9 + k) (if k < 19 then J 397 (at9 + k + 1) else 0)
def lvR (s : Nat) : Nat → HI → HI := fun j J => fo (lvS (39 + 20 * j)) (20 - s) s J
def lv0 (I : HI) (s : Nat) : HI := up2 (up2 (up2 I 397 4 (I 397 4 + 1)) 397 6 (I 397 6 + I 397 (79 + s))) 397 (31 + (I 397 (139 + s)).toNatClampNeg) (I 397 (31 + (I 397 (139 + s)).toNatClampNeg) - 1)
def lvM (I : HI) (m s : Nat) : HI := up2 (fo (lvR s) 7 0 (lv0 I s)) 397 1 (nI m - 1)
theorem lvS_i {a k r j : Nat} {J : HI} (h : j < 39) (ha : 39 ≤ a) : lvS a k J r j = J r j := by rw [lvS, up2_i (by omega)]
theorem lvR_i {s k r j : Nat} {J : HI} (h : j < 39) : lvR s k J r j = J r j := fo_inv (P := fun (Z : HI) => Z r j = J r j) (fun i Z e => (lvS_i h (by omega)).trans e) _ _ J rfl
theorem lvF_i {s n k r j : Nat} {J : HI} (h : j < 39) : fo (lvR s) n k J r j = J r j := fo_inv (P := fun (Z : HI) => Z r j = J r j) (fun i Z e => (lvR_i h).trans e) _ _ J rfl
theorem lvS_ne {a k r : Nat} {J : HI} (h : r ≠ 397) : lvS a k J r = J r := by rw [lvS, up2_ne h]
theorem lvR_ne {s k r : Nat} {J : HI} (h : r ≠ 397) : lvR s k J r = J r := fo_inv (P := fun (Z : HI) => Z r = J r) (fun i Z e => (lvS_ne h).trans e) _ _ J rfl
theorem lvM_ne {I : HI} {m s r : Nat} (h : r ≠ 397) : lvM I m s r = I r := by
  rw [lvM, up2_ne h, fo_inv (P := fun (Z : HI) => Z r = lv0 I s r) (fun i Z e => (lvR_ne h).trans e) 7 0 (lv0 I s) rfl, lv0, up2_ne h, up2_ne h, up2_ne h]
section MOD5
variable {X : JX} {d N v : Nat} {T : Nat → Option JS} {I : Nat → Nat → Int32} {L : Nat → Nat → Int64} {Dd : Nat → Nat → UInt64} {a b c e i0 t dd : Int32} {m z x y q c0 s : Nat}
theorem ba01 {I : HI} {m x : Nat} : ∀ n k acc, acc = 0 ∨ acc = 1 → fo (baS I m x) n k acc = 0 ∨ fo (baS I m x) n k acc = 1
  | 0, _, _, h => h
  | n + 1, k, acc, h => ba01 n (k + 1) _ (by unfold baS; split <;> simp)
end MOD5
