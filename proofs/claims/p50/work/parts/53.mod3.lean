/-! the model: tracks, switches, cars -/
theorem up2_hit {α : Type} {f : Nat → Nat → α} {a k : Nat} {v : α} : up2 f a k v a k = v := by
  unfold up2
  rw [if_pos rfl, if_pos rfl]
theorem up2_i {α : Type} {f : Nat → Nat → α} {a k b j : Nat} {v : α} (h : j ≠ k) : up2 f a k v b j = f b j := by
  unfold up2
  by_cases hb : b = a
  · rw [if_pos hb, if_neg h]
  · rw [if_neg hb]
theorem tkM_nI {I : HI} {z : Nat} (hz8 : z ≤ 8) (hz : I 397 0 = nI z) {t : Int32} (h : tkM I t) : ∃ k, k < z ∧ t = nI k := by
  obtain ⟨h1, h2⟩ := h
  rw [hz] at h2
  rcases Nat.eq_zero_or_pos z with e | e
  · subst e
    exact absurd (Int32.le_trans h1 h2) (by decide)
  · rw [show (1 : Int32) = nI 1 from rfl, nI_subN e] at h2
    obtain ⟨k, hk, rfl⟩ := nI_le_of h1 h2 (by omega)
    exact ⟨k, by omega, rfl⟩
def adtM (I : HI) (z : Nat) (c e : Int32) : Int32 × HI := if ¬ ((10 ≤ c ∧ c ≤ 200) ∧ (0 ≤ e ∧ e ≤ 5)) then (0, up2 I 396 12 1) else if z = 8 then (0, up2 I 396 12 2) else (nI z, up2 (up2 (up2 (up2 I 397 (7 + z) c) 397 (15 + z) e) 397 0 (nI z + 1)) 396 12 0)
def lisS (I : HI) (i : Nat) : Nat → Int32 → Int32 := fun j acc => acc + (if lkM I i j then 1 else 0)
def liM (I : HI) (z : Nat) : Int32 := fo (fun i acc => fo (lisS I i) i 0 acc) z 0 0
def tl1 (I : HI) (a b : Nat) : HI := up2 I 397 (23 + a) (I 397 (23 + a) ^^^ (1 <<< (nI b &&& 31)))
def tlM (I : HI) (a b : Nat) : HI := tl1 (tl1 I a b) b a
theorem tlM_ne {I : HI} {a b r : Nat} (h : r ≠ 397) : tlM I a b r = I r := by rw [tlM, tl1, tl1, up2_ne h, up2_ne h]
theorem tlM_i {I : HI} {a b r j : Nat} (h1 : j ≠ 23 + a) (h2 : j ≠ 23 + b) : tlM I a b r j = I r j := by rw [tlM, tl1, tl1, up2_i h2, up2_i h1]
def cnM (I : HI) (z : Nat) (c e : Int32) : Int32 × HI := if ¬ (tkM I c ∧ tkM I e) then (0, up2 I 396 12 1) else if c = e then (0, up2 I 396 12 2) else if lkM I c.toNatClampNeg e.toNatClampNeg then (0, up2 I 396 12 3) else (liM (tlM I c.toNatClampNeg e.toNatClampNeg) z, up2 (tlM I c.toNatClampNeg e.toNatClampNeg) 396 12 0)
def dcM (I : HI) (z : Nat) (c e : Int32) : Int32 × HI := if ¬ (tkM I c ∧ tkM I e) then (0, up2 I 396 12 1) else if lkM I c.toNatClampNeg e.toNatClampNeg then (liM (tlM I c.toNatClampNeg e.toNatClampNeg) z, up2 (tlM I c.toNatClampNeg e.toNatClampNeg) 396 12 0) else (0, up2 I 396 12 2)
def accI (I : HI) (m t : Nat) (le we de b : Int32) : HI := up2 (up2 (up2 (up2 (up2 (up2 (up2 (up2 (up2 (up2 I 397 (39 + m) (I 397 2)) 397 (59 + m) le) 397 (79 + m) we) 397 (99 + m) de) 397 (119 + m) b) 397 (139 + m) (nI t)) 397 (159 + m) (I 397 (31 + t))) 397 (31 + t) (I 397 (31 + t) + 1)) 397 1 (nI m + 1)) 397 2 (I 397 2 + 1)
def accM (I : HI) (m : Nat) (t le we de b : Int32) : Int32 × HI := if ¬ tkM I t then (0, up2 I 396 12 1) else if ¬ ((5 ≤ le ∧ le ≤ 30) ∧ (10 ≤ we ∧ we ≤ 90) ∧ (0 ≤ de ∧ de ≤ 9)) then (0, up2 I 396 12 2) else if m = 20 then (0, up2 I 396 12 3) else if roM I m t.toNatClampNeg < le then (0, up2 I 396 12 4) else (I 397 2, up2 (accI I m t.toNatClampNeg le we de b) 396 12 0)
section MOD3
variable {X : JX} {d N v : Nat} {T : Nat → Option JS} {I : Nat → Nat → Int32} {L : Nat → Nat → Int64} {Dd : Nat → Nat → UInt64} {c e i0 t le we de b : Int32} {m z : Nat}
end MOD3
