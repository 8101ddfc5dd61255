/-! the model: run -/
theorem PM_0 {I : HI} : up2 (up2 I 396 14 0) 396 15 0 = PM I (0, 0, I 404) := by
  funext a j
  unfold up2 PM
  by_cases ha : a = 396
  · subst ha
    by_cases h15 : j = 15
    · simp [h15]
    · by_cases h14 : j = 14
      · simp [h14]
        rfl
      · simp [h15, h14]
  · by_cases h4 : a = 404
    · simp [h4]
    · simp [ha, h4]
theorem rd_b {tx : Nat → Int32} {q : Nat} (hq : q ≤ 60) : ∀ (n ct : Nat) (s : MS), 2 * ct ≤ s.1 → s.1 ≤ q → (rdM tx q n ct s).1 ≤ 31 ∧ (rdM tx q n ct s).2.1 ≤ 100
  | 0, ct, s, h1, h2 => ⟨by show ct ≤ 31; omega, by show s.1 ≤ 100; omega⟩
  | n + 1, ct, s, h1, h2 => by
    have hb := pX_b (tx := tx) (q := q) (k := 6 * ct) (show s.1 ≤ 60 by omega)
    rw [rdM]
    split
    · rename_i h
      obtain ⟨a, b⟩ := pX_ok h.1
      have := chA_no h.2 (by decide)
      exact rd_b hq n (ct + 1) _ (by show 2 * (ct + 1) ≤ _ + 1; omega) (by show _ + 1 ≤ q; omega)
    · exact ⟨by show ct + 1 ≤ 31; omega, by show (pX tx q (6 * ct) s).1 ≤ 100; omega⟩
abbrev rd0 (I : HI) (q : Nat) : Nat × MS := rdM (I 401) q 61 0 (0, 0, I 404)
abbrev runE (I : HI) (q : Nat) : Prop := ¬ (rd0 I q).2.2.1 = 0 ∨ (rd0 I q).2.1 < q
def mrn0 (I : HI) (q : Nat) : HI := begM (up2 (PM I ((rd0 I q).2.1, 0, (rd0 I q).2.2.2)) 396 7 0)
def runM (I : HI) (q ch : Nat) : Int32 × HI := if runE I q then (0, up2 (up2 (up2 (PM I ((rd0 I q).2.1, 1, (rd0 I q).2.2.2)) 396 7 0) 396 8 (nI (rd0 I q).2.1)) 396 12 1)
  else mfi ch (rd0 I q).1 (mrL (rd0 I q).1 0 (mrn0 I q)).2 (mrL (rd0 I q).1 0 (mrn0 I q)).1
section PMQ
variable {X : JX} {d N v : Nat} {T : Nat → Option JS} {I : Nat → Nat → Int32} {L : Nat → Nat → Int64} {Dd : Nat → Nat → UInt64} {q k n ch ct : Nat} {c e : Int32} {s : MS}
end PMQ
