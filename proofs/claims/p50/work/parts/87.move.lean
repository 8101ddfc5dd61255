/-! moves: what refuses them, how long they take -/
section YMV
variable {K : Nat} {I J : HI} {L : HL} {g σ : Nat → Nat}
/-- the number of the fault of a move -/
def mvD (g : Nat → Nat) (a b c r : Int32) : Prop :=
  (¬ ((∃ x, x < g 0 ∧ a = nI x) ∧ ∃ y, y < g 0 ∧ b = nI y) ∧ r = 1) ∨ ∃ x y, (x < g 0 ∧ a = nI x) ∧ (y < g 0 ∧ b = nI y) ∧
    (((x = y ∨ ¬ (1 ≤ c ∧ c ≤ 9)) ∧ r = 2) ∨ ∃ q, c = nI q ∧ x ≠ y ∧ 1 ≤ q ∧ q ≤ 9 ∧
      ((g (31 + x) < q ∧ r = 3) ∨ (q ≤ g (31 + x) ∧ ((dsN g x y = 1000 ∧ r = 4) ∨ (dsN g x y < 8 ∧ ((g (7 + y) < usN g y + lastN g x q 59 ∧ r = 5) ∨ (usN g y + lastN g x q 59 ≤ g (7 + y) ∧ r = 0)))))))
theorem c19 {c : Int32} (h : 1 ≤ c ∧ c ≤ 9) : ∃ q, c = nI q ∧ 1 ≤ q ∧ q ≤ 9 := by
  have h1 := Int32.le_iff_toInt_le.mp h.1
  have h2 := Int32.le_iff_toInt_le.mp h.2
  have e1 : (1 : Int32).toInt = 1 := rfl
  have e9 : (9 : Int32).toInt = 9 := rfl
  obtain ⟨j, hj, e⟩ := nI_of (x := c) (by rw [Int32.lt_iff_toInt_lt]; have : (0 : Int32).toInt = 0 := rfl; omega)
  subst e
  rw [nI_toInt hj] at h1 h2
  exact ⟨j, rfl, by omega, by omega⟩
theorem q19 {q : Nat} (h1 : 1 ≤ q) (h9 : q ≤ 9) : 1 ≤ nI q ∧ nI q ≤ 9 := ⟨nI_le (a := 1) h1 (by omega), nI_le (b := 9) h9 (by omega)⟩
theorem mvD_u {a b c r r' : Int32} (hz : g 0 ≤ 8) (h : mvD g a b c r) (h' : mvD g a b c r') : r = r' := by
  rcases h with ⟨h1, h2⟩ | ⟨x, y, ⟨hx, ex⟩, ⟨hy, ey⟩, h⟩
  · rcases h' with ⟨-, h2'⟩ | ⟨x, y, hx, hy, -⟩
    · rw [h2, h2']
    · exact absurd ⟨⟨x, hx⟩, ⟨y, hy⟩⟩ h1
  · rcases h' with ⟨h1', -⟩ | ⟨x', y', ⟨hx', ex'⟩, ⟨hy', ey'⟩, h'⟩
    · exact absurd ⟨⟨x, hx, ex⟩, ⟨y, hy, ey⟩⟩ h1'
    · have e1 : x' = x := nI_inj (by omega) (by omega) (ex'.symm.trans ex)
      have e2 : y' = y := nI_inj (by omega) (by omega) (ey'.symm.trans ey)
      subst e1
      subst e2
      rcases h with ⟨h3, h4⟩ | ⟨q, eq, hxy, q1, q9, h⟩
      · rcases h' with ⟨-, h4'⟩ | ⟨q, eq, hxy, q1, q9, -⟩
        · rw [h4, h4']
        · rcases h3 with h3 | h3
          · exact absurd h3 hxy
          · exact absurd (by rw [eq]; exact q19 q1 q9) h3
      · rcases h' with ⟨h3', -⟩ | ⟨q', eq', -, q1', q9', h'⟩
        · rcases h3' with h3 | h3
          · exact absurd h3 hxy
          · exact absurd (by rw [eq]; exact q19 q1 q9) h3
        · have e3 : q' = q := nI_inj (by omega) (by omega) (eq'.symm.trans eq)
          subst e3
          rcases h with ⟨a1, a2⟩ | ⟨a1, ⟨b1, b2⟩ | ⟨b1, ⟨d1, d2⟩ | ⟨d1, d2⟩⟩⟩ <;> rcases h' with ⟨a1', a2'⟩ | ⟨a1', ⟨b1', b2'⟩ | ⟨b1', ⟨d1', d2'⟩ | ⟨d1', d2'⟩⟩⟩ <;> first | (exact a2.trans a2'.symm) | (exact b2.trans b2'.symm) | (exact d2.trans d2'.symm) | (exfalso; omega)
theorem dm_100 (W : WG K g) {x y : Nat} (h : isD (adN g) 1000 y x (dsN g x y)) : dmN g x y = 100 ↔ dsN g x y = 1000 := by
  unfold dmN
  rcases isD_1000 h with e | e
  · rw [if_pos e]; exact ⟨fun _ => e, fun _ => rfl⟩
  · rw [if_neg (by omega)]; omega
theorem mvD_c (hK : K ≤ 5000) (W : WG K g) (S : CRs I L g) (T : CRt I g) (Hj : CRj I g) (H : CRc I g σ) (a b c : Int32) : mvD g a b c (moveF I (g 0) a b c).1 := by
  have hz := W.1.1
  unfold moveF
  by_cases h1 : hasT I a ∧ hasT I b
  · rw [if_neg (fun e => e h1)]
    obtain ⟨x, hx, ex⟩ := (hasT_g S hz a).mp h1.1
    obtain ⟨y, hy, ey⟩ := (hasT_g S hz b).mp h1.2
    refine Or.inr ⟨x, y, ⟨hx, ex⟩, ⟨hy, ey⟩, ?_⟩
    subst ex
    subst ey
    rw [nI_clamp (by omega), nI_clamp (by omega)]
    by_cases h2 : x = y ∨ ¬ (1 ≤ c ∧ c ≤ 9)
    · rw [if_pos (by rcases h2 with e | e
                     · exact Or.inl (by rw [e])
                     · exact Or.inr e)]
      exact Or.inl ⟨h2, rfl⟩
    · rw [if_neg (by
        intro e
        rcases e with e | e
        · exact h2 (Or.inl (nI_inj (by omega) (by omega) e))
        · exact h2 (Or.inr e))]
      by_cases h3 : 1 ≤ c ∧ c ≤ 9
      · obtain ⟨q, eq, q1, q9⟩ := c19 h3
        subst eq
        refine Or.inr ⟨q, rfl, fun e => h2 (Or.inl e), q1, q9, ?_⟩
        have hh := W.h20 (t := x) (by omega)
        rw [(T x (by omega)).2.2.1]
        by_cases h4 : g (31 + x) < q
        · rw [if_pos (nI_lt h4 (by omega))]
          exact Or.inl ⟨h4, rfl⟩
        · rw [if_neg (nI_nlt (by omega) (by omega))]
          refine Or.inr ⟨by omega, ?_⟩
          have D := bfs_d Hj W hx hy
          have D2 : stepsF I (g 0) x y = nI (dsN g x y) := D.1
          rw [D2]
          rcases isD_1000 D.2 with e | e
          · rw [if_pos (by rw [e]; rfl)]
            exact Or.inl ⟨e, rfl⟩
          · rw [if_neg (fun e2 => by have := nI_inj (b := 1000) (by omega) (by omega) e2; omega)]
            refine Or.inr ⟨e, ?_⟩
            have qe : eqY (bfsI I (g 0) y) I := eqY.of bfsI_eq
            have T2 := qe.t T
            have H2 := qe.c H
            have t2 := T2 y (by omega)
            have us := (W.2.2.1 y hy).2
            have cb := (W.2.1 y (by omega)).1
            have lb := last_le (off := 59) (c := 30) hK W (x := x) (by omega) (by omega : q ≤ g (31 + x)) (fun s hs => (W.car hK hs).2.2.2.2.2.1)
            rw [lenLast_g hK W T2 H2 (by omega) (by omega : q ≤ g (31 + x)), t2.1, t2.2.2.2, pk_sub us]
            by_cases h5 : g (7 + y) - usN g y < lastN g x q 59
            · rw [if_pos (nI_lt h5 (by omega))]
              exact Or.inl ⟨by omega, rfl⟩
            · rw [if_neg (nI_nlt (by omega) (by omega))]
              exact Or.inr ⟨by omega, rfl⟩
      · exact absurd (Or.inr h3) h2
  · rw [if_pos h1]
    exact Or.inl ⟨fun e => h1 ⟨(hasT_g S hz a).mpr e.1, (hasT_g S hz b).mpr e.2⟩, rfl⟩
theorem mvD_m (hK : K ≤ 5000) (W : WG K g) (H : GV (J 397) g) (hD : ∀ x y, x < g 0 → y < g 0 → isD (adN g) 1000 y x (dsN g x y)) (a b c : Int32) : mvD g a b c (whM J (g 1) (g 0) a b c).1 := by
  have hz := W.1.1
  unfold whM
  by_cases h1 : tkM J a ∧ tkM J b
  · rw [if_neg (fun e => e h1)]
    obtain ⟨x, hx, ex⟩ := (tkM_g H hz a).mp h1.1
    obtain ⟨y, hy, ey⟩ := (tkM_g H hz b).mp h1.2
    refine Or.inr ⟨x, y, ⟨hx, ex⟩, ⟨hy, ey⟩, ?_⟩
    subst ex
    subst ey
    rw [nI_clamp (by omega), nI_clamp (by omega)]
    by_cases h2 : x = y ∨ ¬ (1 ≤ c ∧ c ≤ 9)
    · rw [if_pos (by rcases h2 with e | e
                     · exact Or.inl (by rw [e])
                     · exact Or.inr e)]
      exact Or.inl ⟨h2, rfl⟩
    · rw [if_neg (by
        intro e
        rcases e with e | e
        · exact h2 (Or.inl (nI_inj (by omega) (by omega) e))
        · exact h2 (Or.inr e))]
      by_cases h3 : 1 ≤ c ∧ c ≤ 9
      · obtain ⟨q, eq, q1, q9⟩ := c19 h3
        subst eq
        refine Or.inr ⟨q, rfl, fun e => h2 (Or.inl e), q1, q9, ?_⟩
        have hh := W.h20 (t := x) (by omega)
        rw [H (31 + x) (by omega), nI_clamp (n := q) (by omega)]
        by_cases h4 : g (31 + x) < q
        · rw [if_pos (nI_lt h4 (by omega))]
          exact Or.inl ⟨h4, rfl⟩
        · rw [if_neg (nI_nlt (by omega) (by omega))]
          refine Or.inr ⟨by omega, ?_⟩
          have D := hD x y hx hy
          have D1 := dm_100 W D
          have D2 : dmN g x y ≤ 100 := by
            unfold dmN
            rcases isD_1000 D with e | e
            · rw [if_pos e]; omega
            · rw [if_neg (by omega)]; omega
          rw [ex_d W H D hx hy]
          rcases isD_1000 D with e | e
          · rw [if_pos (by rw [D1.mpr e]; rfl)]
            exact Or.inl ⟨e, rfl⟩
          · rw [if_neg (fun e2 => by
              have := D1.mp (nI_inj (b := 100) (by omega) (by omega) e2)
              omega)]
            refine Or.inr ⟨e, ?_⟩
            have H2 : GV (exM J (g 0) y 397) g := by rw [exM_ne (by decide)]; exact H
            have us := (W.2.2.1 y hy).2
            have cb := (W.2.1 y (by omega)).1
            have lb := last_le (off := 59) (c := 30) hK W (x := x) (by omega) (by omega : q ≤ g (31 + x)) (fun s hs => (W.car hK hs).2.2.2.2.2.1)
            rw [lnM_g hK W H2 (by omega) (by omega : q ≤ g (31 + x)), roM_g hK W H2 (by omega), pk_sub us]
            by_cases h5 : g (7 + y) - usN g y < lastN g x q 59
            · rw [if_pos (nI_lt h5 (by omega))]
              exact Or.inl ⟨by omega, rfl⟩
            · rw [if_neg (nI_nlt (by omega) (by omega))]
              exact Or.inr ⟨by omega, rfl⟩
      · exact absurd (Or.inr h3) h2
  · rw [if_pos h1]
    exact Or.inl ⟨fun e => h1 ⟨(tkM_g H hz a).mpr e.1, (tkM_g H hz b).mpr e.2⟩, rfl⟩
theorem mvD_ok {a b c : Int32} (h : mvD g a b c 0) : ∃ x y q, (x < g 0 ∧ a = nI x) ∧ (y < g 0 ∧ b = nI y) ∧ c = nI q ∧ x ≠ y ∧ 1 ≤ q ∧ q ≤ 9 ∧ q ≤ g (31 + x) ∧ dsN g x y < 8 ∧ usN g y + lastN g x q 59 ≤ g (7 + y) := by
  rcases h with ⟨-, h⟩ | ⟨x, y, hx, hy, ⟨-, h⟩ | ⟨q, eq, hxy, q1, q9, ⟨-, h⟩ | ⟨hq, ⟨-, h⟩ | ⟨hd, ⟨-, h⟩ | ⟨hr, -⟩⟩⟩⟩⟩
  · exact absurd h (by decide)
  · exact absurd h (by decide)
  · exact absurd h (by decide)
  · exact absurd h (by decide)
  · exact absurd h (by decide)
  · exact ⟨x, y, q, hx, hy, eq, hxy, q1, q9, hq, hd, hr⟩
theorem sN_mul {f : Nat → Nat} {c : Nat} : ∀ {n : Nat}, sN (fun k => c * f k) n = c * sN f n
  | 0 => rfl
  | n + 1 => by
    show sN (fun k => c * f k) n + c * f n = c * (sN f n + f n)
    rw [sN_mul, Nat.mul_add]
theorem fo_sum2 {w : Nat → Nat} {st : Nat → Int32 → Int32} {n b : Nat} (h : ∀ k a, k < n → st k a = a + nI (w k)) : fo st n 0 (nI b) = nI (b + sN w n) :=
  fo_at (e := n) (P := fun k a => a = nI (b + sN w k)) (f := st) (fun k a hk ha => by
    show st k a = nI (b + (sN w k + w k))
    rw [h k a hk, ha, nI_add, Nat.add_assoc]) n 0 _ (by omega) rfl
/-- the minutes of a move -/
noncomputable def mnN (g : Nat → Nat) (x y q : Nat) : Nat := 2 + dsN g x y + g (15 + y) * lastN g x q 119
theorem mnN_le (hK : K ≤ 5000) (W : WG K g) {x y q : Nat} (hx : x < g 0) (hy : y < g 0) (hq : q ≤ g (31 + x)) (q9 : q ≤ 9) (hd : dsN g x y < 8) : mnN g x y q ≤ 54 := by
  have hz := W.1.1
  have a := last_le (off := 119) (c := 1) hK W (x := x) (by omega) hq (fun s hs => (W.car hK hs).2.2.2.2.2.2.2.2.2.1)
  have b := (W.2.1 y (by omega)).2
  have c : g (15 + y) * lastN g x q 119 ≤ 5 * 9 := Nat.mul_le_mul b (by omega)
  unfold mnN
  omega
theorem minF_g (hK : K ≤ 5000) (W : WG K g) (T : CRt I g) (Hj : CRj I g) (H : CRc I g σ) {x y q : Nat} (hx : x < g 0) (hy : y < g 0) (hq : q ≤ g (31 + x)) : minF I (g 0) x y (nI q) = nI (mnN g x y q) := by
  have hz := W.1.1
  rw [minF, steps_d Hj W hx hy, (T y (by omega)).2.1, defLast_g hK W T H (by omega) hq, show (2 : Int32) = nI 2 from rfl, nI_add, pk_mul, nI_add]
  rfl
theorem miM_g {x y q : Nat} (hK : K ≤ 5000) (W : WG K g) (H : GV (J 397) g) (hD : isD (adN g) 1000 y x (dsN g x y)) (hx : x < g 0) (hy : y < g 0) (hq : q ≤ g (31 + x)) (hd : dsN g x y < 8) : miM J (g 1) (g 0) x y q = nI (mnN g x y q) := by
  have hz := W.1.1
  have H2 : GV (exM J (g 0) y 397) g := by rw [exM_ne (by decide)]; exact H
  rw [miM, ex_d W H hD hx hy, show (2 : Int32) = nI 2 from rfl, nI_add, fo_sum2 (w := fun k => g (15 + y) * g (119 + atS g x (g (31 + x) - 1 - k))) (fun k a hk => by
    rw [miS, feM_c hK W H2 (by omega) (by omega) (by decide), H2 (15 + y) (by omega), pk_mul]), sN_mul]
  unfold mnN dmN
  rw [if_neg (by omega)]
  rfl
end YMV
