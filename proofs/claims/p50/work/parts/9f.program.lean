/-! reading a program: class and model -/
section YPG
variable {tx : Nat → Int32} {q : Nat}
/-- the commands that were read: kinds and values -/
def CMS (Kd V P : Nat → Int32) (ct : Nat) : Prop := ∀ j, j < ct → ∃ kk, kk < 7 ∧ Kd j = nI kk ∧ P (6 * j) = kc kk ∧ (∀ x, x < cn kk → V (j * 5 + x) = P (6 * j + 1 + x)) ∧ (kk = 3 → P (6 * j + 5) = 0 ∨ P (6 * j + 5) = 1)
theorem cn5 : ∀ k, k < 7 → cn k ≤ 5 := by decide
theorem CMS.add {Kd V P Kd' V' P' : Nat → Int32} {ct kk : Nat} (h : CMS Kd V P ct) (hV : ∀ x, x < ct * 5 → V' x = V x) (hP : ∀ x, x < 6 * ct → P' x = P x) (hK : ∀ x, x < ct → Kd' x = Kd x) (hk : kk < 7) (h1 : Kd' ct = nI kk) (h2 : P' (6 * ct) = kc kk) (h3 : ∀ x, x < cn kk → V' (ct * 5 + x) = P' (6 * ct + 1 + x)) (h4 : kk = 3 → P' (6 * ct + 5) = 0 ∨ P' (6 * ct + 5) = 1) : CMS Kd' V' P' (ct + 1) := by
  intro j hj
  by_cases c : j = ct
  · subst c
    exact ⟨kk, hk, h1, h2, h3, h4⟩
  · obtain ⟨k, k1, k2, k3, k4, k5⟩ := h j (by omega)
    have c5 := cn5 k k1
    refine ⟨k, k1, (hK j (by omega)).trans k2, (hP _ (by omega)).trans k3, fun x hx => ?_, fun e => ?_⟩
    · rw [hV _ (by omega), hP _ (by omega)]
      exact k4 x hx
    · rw [hP _ (by omega)]
      exact k5 e
/-- both found the same place, or the same commands -/
def PO (q : Nat) (R : Int32 × PS) (M : Nat × MS) : Prop := (R.1 = nI M.2.1 ∧ (¬ M.2.2.1 = 0 ∨ M.2.1 < q) ∧ M.2.1 ≤ q) ∨ (R.1 = -1 ∧ M.2.2.1 = 0 ∧ ¬ M.2.1 < q ∧ R.2.2.2.2.1 = M.1 ∧ CMS R.2.2.2.2.2 R.2.2.2.1 M.2.2.2 M.1)
theorem pa_eq (hq : q ≤ 60) : ∀ n m p vt V ct Kd P, p ≤ q → q + 1 ≤ p + 2 * n → q + 1 ≤ p + 2 * m → CMS Kd V P ct → PO q (paL tx q n p vt V ct Kd) (rdM tx q m ct (p, 0, P))
  | 0, m, p, vt, V, ct, Kd, P, h1, h2, h3, h4 => by omega
  | n + 1, 0, p, vt, V, ct, Kd, P, h1, h2, h3, h4 => by omega
  | n + 1, m + 1, p, vt, V, ct, Kd, P, h1, h2, h3, h4 => by
    obtain ⟨o1, o2, o3⟩ := cm_all (tx := tx) (q := q) ct p (6 * ct) vt V P
    have ok := rcL_ok (tx := tx) (q := q) (ct := ct) h1 7 0 p vt V (by omega) h1
    obtain ⟨R, hR⟩ : ∃ R, R = rcL tx q ct p 7 0 p vt V := ⟨_, rfl⟩
    obtain ⟨s, hs⟩ : ∃ s, s = pX tx q (6 * ct) (p, 0, P) := ⟨_, rfl⟩
    unfold paL rdM
    rw [← hR, ← hs] at o3
    rw [← hR] at o1 ok
    rw [← hs] at o2
    rw [← hR, ← hs]
    rcases o3 with ⟨a1, a2, a3⟩ | ⟨a1, a2, a3, a4, a5, a6, a7⟩
    · have ns : ¬ (s.2.1 = 0 ∧ chA tx q s.1 = 59) := fun e => by rw [a2] at e; exact absurd e.1 (by decide)
      rw [if_pos a1, if_neg ns]
      refine Or.inl ⟨congrArg nI a3, Or.inl ?_, ?_⟩
      · show ¬ s.2.1 = 0
        rw [a2]
        decide
      · show s.1 ≤ q
        rw [← a3]
        exact ok.1
    · have nz : ¬ R.1 = 0 := by rw [a1]; decide
      have g := ok.2 nz
      rw [if_neg nz]
      have C2 : CMS (upV Kd ct (nI R.2.1)) R.2.2.2.2 s.2.2 (ct + 1) := h4.add o1 o2 (fun x hx => upV_ne (by omega)) a4 upV_eq a5 a6 a7
      by_cases b : q ≤ R.2.2.1
      · have ns : ¬ (s.2.1 = 0 ∧ chA tx q s.1 = 59) := fun e => by
          have : s.1 < q := chA_no e.2 (by decide)
          omega
        rw [if_pos b, if_neg ns]
        refine Or.inr ⟨rfl, a2, ?_, rfl, C2⟩
        show ¬ s.1 < q
        omega
      · rw [if_neg b]
        by_cases c : chA tx q R.2.2.1 = 59
        · have ys : s.2.1 = 0 ∧ chA tx q s.1 = 59 := ⟨a2, by rw [← a3]; exact c⟩
          rw [if_pos c, if_pos ys]
          have e : (s.1 + 1, s.2) = (R.2.2.1 + 1, (0 : Int32), s.2.2) := by
            rw [a3, ← a2]
          rw [e]
          exact pa_eq hq n m (R.2.2.1 + 1) R.2.2.2.1 R.2.2.2.2 (ct + 1) _ s.2.2 (by omega) (by omega) (by omega) C2
        · have ns : ¬ (s.2.1 = 0 ∧ chA tx q s.1 = 59) := fun e => c (by rw [a3]; exact e.2)
          rw [if_neg c, if_neg ns]
          refine Or.inl ⟨congrArg nI a3, Or.inr ?_, ?_⟩
          · show s.1 < q
            omega
          · show s.1 ≤ q
            omega
end YPG
