/-! the model: shunting, repairs, trains -/
abbrev PLM (I : HI) (m : Nat) : Prop := ∀ t, t < 8 → ∃ c0, c0 ≤ 20 ∧ I 397 (31 + t) = nI c0 ∧ ∀ p, p < c0 → ∃ s, s < m ∧ slAM I m (nI t) (nI p) = nI s
theorem slAM_congr {I J : HI} {m : Nat} {t p : Int32} (h : J 397 = I 397) : slAM J m t p = slAM I m t p := by unfold slAM; rw [h]
theorem feM_congr {I J : HI} {m t : Nat} {k : Int32} (h : J 397 = I 397) : feM J m t k = feM I m t k := by rw [feM, feM, slAM_congr h, h]
theorem smM_congr {I J : HI} {m a : Nat} {t : Int32} (h : J 397 = I 397) : smM J m t a = smM I m t a := by unfold smM smS; rw [h]
theorem roM_congr {I J : HI} {m t : Nat} (h : J 397 = I 397) : roM J m t = roM I m t := by rw [roM, roM, smM_congr h, h]
theorem PLM_congr {I J : HI} {m : Nat} (h : J 397 = I 397) (g : PLM I m) : PLM J m := by
  intro t ht
  obtain ⟨c0, h1, h2, h3⟩ := g t ht
  exact ⟨c0, h1, by rw [h]; exact h2, fun p hp => by
    obtain ⟨s, q1, q2⟩ := h3 p hp
    exact ⟨s, q1, by rw [slAM_congr h]; exact q2⟩⟩
theorem feM_s {I : HI} {m t c0 k : Nat} (h : I 397 (31 + t) = nI c0) (hp : ∀ p, p < c0 → ∃ s, s < m ∧ slAM I m (nI t) (nI p) = nI s) (hk : k < c0) : ∃ s, s < m ∧ feM I m t (nI k) = nI s := by
  obtain ⟨s, h1, h2⟩ := hp (c0 - 1 - k) (by omega)
  refine ⟨s, h1, ?_⟩
  rw [feM, h, show (1 : Int32) = nI 1 from rfl, nI_subN (by omega), nI_subN (by omega)]
  exact h2
def lnS (I : HI) (m x : Nat) : Nat → Int32 → Int32 := fun k acc => acc + I 397 (59 + (feM I m x (nI k)).toNatClampNeg)
def lnM (I : HI) (m x q : Nat) : Int32 := fo (lnS I m x) q 0 0
def whM (I : HI) (m z : Nat) (a b c : Int32) : Int32 × HI := if ¬ (tkM I a ∧ tkM I b) then (1, I) else if a = b ∨ ¬ (1 ≤ c ∧ c ≤ 9) then (2, I) else if I 397 (31 + a.toNatClampNeg) < c then (3, I)
  else if exM I z b.toNatClampNeg 403 a.toNatClampNeg = 100 then (4, exM I z b.toNatClampNeg) else (if roM (exM I z b.toNatClampNeg) m b.toNatClampNeg < lnM (exM I z b.toNatClampNeg) m a.toNatClampNeg c.toNatClampNeg then 5 else 0, exM I z b.toNatClampNeg)
theorem whM_ne {I : HI} {m z r : Nat} {a b c : Int32} (h : r ≠ 403) : (whM I m z a b c).2 r = I r := by
  unfold whM
  split
  · rfl
  · split
    · rfl
    · split
      · rfl
      · split <;> exact exM_ne h
def miS (I : HI) (m x y : Nat) : Nat → Int32 → Int32 := fun k acc => acc + I 397 (15 + y) * I 397 (119 + (feM I m x (nI k)).toNatClampNeg)
def miM (I : HI) (m z x y q : Nat) : Int32 := fo (miS (exM I z y) m x y) q 0 (2 + exM I z y 403 x)
def mvM (J : HI) (x y s : Nat) : HI := up2 (up2 (up2 (up2 J 397 (139 + s) (nI y)) 397 (159 + s) (J 397 (31 + y))) 397 (31 + x) (J 397 (31 + x) - 1)) 397 (31 + y) (J 397 (31 + y) + 1)
def mvS (m x y : Nat) : Nat → HI → HI := fun _ J => mvM J x y (feM J m x 0).toNatClampNeg
theorem mvS_ne {m x y k r : Nat} {J : HI} (h : r ≠ 397) : mvS m x y k J r = J r := by rw [mvS, mvM, up2_ne h, up2_ne h, up2_ne h, up2_ne h]
theorem mvS_1 {m x y k j : Nat} {J : HI} (h : j < 31) : mvS m x y k J 397 j = J 397 j := by rw [mvS, mvM, up2_i (by omega), up2_i (by omega), up2_i (by omega), up2_i (by omega)]
def okMv (m x y : Nat) : Nat → HI → Prop
  | 0, _ => True
  | n + 1, J => (∃ s, s < m ∧ feM J m x 0 = nI s) ∧ okMv m x y n (mvS m x y 0 J)
def shK (I : HI) (m z x y q : Nat) : HI := fo (mvS m x y) q 0 (exM (exM I z y) z y)
def shuM (I : HI) (m z : Nat) (a b c : Int32) : Int32 × HI := if 0 < (whM I m z a b c).1 then (0, up2 (whM I m z a b c).2 396 12 (whM I m z a b c).1)
  else (miM (exM I z b.toNatClampNeg) m z a.toNatClampNeg b.toNatClampNeg c.toNatClampNeg, up2 (up2 (up2 (shK I m z a.toNatClampNeg b.toNatClampNeg c.toNatClampNeg) 397 5 (shK I m z a.toNatClampNeg b.toNatClampNeg c.toNatClampNeg 397 5 + miM (exM I z b.toNatClampNeg) m z a.toNatClampNeg b.toNatClampNeg c.toNatClampNeg)) 397 3 (shK I m z a.toNatClampNeg b.toNatClampNeg c.toNatClampNeg 397 3 + 1)) 396 12 0)
theorem whM_ok {I : HI} {m z : Nat} {a b c : Int32} (hz8 : z ≤ 8) (hz : I 397 0 = nI z) (hPL : PLM I m) (h : ¬ 0 < (whM I m z a b c).1) : ∃ x y q c0, a = nI x ∧ b = nI y ∧ c = nI q ∧ x < z ∧ y < z ∧ x ≠ y ∧ q ≤ 9 ∧ q ≤ c0 ∧ c0 ≤ 20 ∧ I 397 (31 + x) = nI c0 ∧ (∀ p, p < c0 → ∃ s, s < m ∧ slAM I m (nI x) (nI p) = nI s) ∧ (whM I m z a b c).2 = exM I z y := by
  unfold whM at *
  by_cases h1 : tkM I a ∧ tkM I b
  · rw [if_neg (fun w => w h1)] at *
    by_cases h2 : a = b ∨ ¬ (1 ≤ c ∧ c ≤ 9)
    · rw [if_pos h2] at h
      exact absurd (show (0 : Int32) < 2 by decide) h
    · rw [if_neg h2] at *
      by_cases h3 : I 397 (31 + a.toNatClampNeg) < c
      · rw [if_pos h3] at h
        exact absurd (show (0 : Int32) < 3 by decide) h
      · rw [if_neg h3] at *
        obtain ⟨x, hx, rfl⟩ := tkM_nI hz8 hz h1.1
        obtain ⟨y, hy, rfl⟩ := tkM_nI hz8 hz h1.2
        have hc := Classical.not_not.mp (fun w => h2 (Or.inr w))
        obtain ⟨q, hq, rfl⟩ := nI_le_of (n := 9) (Int32.le_trans (show (0 : Int32) ≤ 1 by decide) hc.1) hc.2 (by decide)
        obtain ⟨c0, g1, g2, g3⟩ := hPL x (by omega)
        have hcx : (nI x).toNatClampNeg = x := nI_clamp (by omega)
        have hcy : (nI y).toNatClampNeg = y := nI_clamp (by omega)
        rw [hcx, g2] at h3
        refine ⟨x, y, q, c0, rfl, rfl, rfl, hx, hy, fun e => h2 (Or.inl (by rw [e])), hq, ?_, g1, g2, g3, ?_⟩
        · have := mt (nI_ltI (a := c0) (b := q) (by omega) (by omega)).mpr h3
          omega
        · rw [hcx, hcy]
          split <;> rfl
  · rw [if_pos h1] at h
    exact absurd (show (0 : Int32) < 1 by decide) h
section MOD4
variable {X : JX} {d N v : Nat} {T : Nat → Option JS} {I : Nat → Nat → Int32} {L : Nat → Nat → Int64} {Dd : Nat → Nat → UInt64} {a b c e i0 t dd : Int32} {m z x y q c0 : Nat}
end MOD4
