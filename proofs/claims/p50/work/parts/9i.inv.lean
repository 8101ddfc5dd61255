/-! what holds between two calls -/
section YIN
variable {K K' N v cap d nx q : Nat} {T : Nat → Option JS} {I J I1 : HI} {L L' : HL} {Dd Dd' : HD} {g g' σ : Nat → Nat} {gs : Nat → Nat → Nat} {sv : Option (Nat → Nat)} {tx : Nat → Int32} {er fl : Int32} {w : List Int32} {sh : JS} {P : PF}
abbrev P0 : PF := (396, fun _ => none, fun _ _ => 0)
/-- the class's part -/
def CP (K N v : Nat) (T : Nat → Option JS) (I : HI) (L : HL) (Dd : HD) (g : Nat → Nat) (gs : Nat → Nat → Nat) (d : Nat) (sv : Option (Nat → Nat)) (q : Nat) (tx : Nat → Int32) (er fl : Int32) (w : List Int32) : Prop :=
  (∃ σ, YC K I L g σ) ∧ (∃ nx, HC K I L gs d nx) ∧ SC K I L sv ∧ TC I q tx er fl ∧ ∃ cap, Ln P0 w cap N v T I L Dd ∧ cap ≤ 590
theorem Ln.fr (h : Ln P w cap N v T I L Dd) (hI : ∀ a, (a = 394 ∨ a = 395 ∨ 396 ≤ a) → I1 a = I a) (hL : ∀ a, 396 ≤ a → L' a = L a) (hD : ∀ a, 396 ≤ a → Dd' a = Dd a) : Ln P w cap N v T I1 L' Dd' := by
  obtain ⟨h1, h2, h3, h4, h5, h6, h7, h8, h9, h10⟩ := h
  have hv : I1 v = I v := hI v (by omega)
  refine ⟨h1, h2, h3, h4, by rw [hI 394 (Or.inl rfl)]; exact h5, by rw [hI 394 (Or.inl rfl)]; exact h6, h7, by rw [hv]; exact h8, by rw [hv]; exact h9, fun a ha j => ?_, fun a ha1 ha2 => ⟨(h10.2 a ha1 ha2).1, (hI a (by omega)).trans (h10.2 a ha1 ha2).2⟩⟩
  rw [hI a (by omega), hL a (by omega), hD a (by omega)]
  exact h10.1 a ha j
theorem Ln.new (h : Ln P w cap N v T I L Dd) : Ln P w cap (N + 1) v (upS T N sh) I L Dd := by
  obtain ⟨h1, h2, h3, h4, h5, h6, h7, h8, h9, h10⟩ := h
  refine ⟨?_, h2, by omega, by omega, h5, h6, h7, h8, h9, fun a ha j => h10.1 a (by omega) j, fun a ha1 ha2 => ⟨(upS_ne (by omega)).trans (h10.2 a ha1 ha2).1, (h10.2 a ha1 ha2).2⟩⟩
  rcases h2 with e | e
  · subst e
    exact h1
  · have e1 : ∀ T', SH v T' v = T' v := fun T' => by
      unfold SH
      rw [if_neg (by omega), if_neg (by omega), if_neg (by omega), if_neg (by omega), if_neg (by omega)]
    rw [e1] at h1 ⊢
    unfold upS
    rw [if_neg (by omega)]
    exact h1
/-- a query of the class -/
theorem CP.qu (h : CP K N v T I L Dd g gs d sv q tx er fl w) (hI : eqS I1 I) : CP K N v T I1 L Dd g gs d sv q tx er fl w := by
  obtain ⟨⟨σ, y⟩, ⟨nx, hc⟩, sc, tc, cap, ln, c9⟩ := h
  have r : ∀ a, 36 ≤ a → I1 a = I a := fun a ha => hI a (by omega) (by omega) (by omega) (by omega)
  exact ⟨⟨σ, y.eq (eqY.of hI) rfl⟩, ⟨nx, hc.fr (fun a h1 _ => r a (by omega)) (fun _ _ => rfl)⟩, sc.fr (fun a h1 _ => r a (by omega)) (fun _ _ => rfl), tc.fr (hI 0 (by decide) (by decide) (by decide) (by decide)) (by rw [r 388 (by decide)]) (r 389 (by decide)), cap, ln.fr (fun a ha => r a (by omega)) (fun _ _ => rfl) (fun _ _ => rfl), c9⟩
theorem CP.new (h : CP K N v T I L Dd g gs d sv q tx er fl w) : CP K (N + 1) v (upS T N sh) I L Dd g gs d sv q tx er fl w := by
  obtain ⟨y, hc, sc, tc, cap, ln, c9⟩ := h
  exact ⟨y, hc, sc, tc, cap, ln.new, c9⟩
theorem CP.mono (h : CP K N v T I L Dd g gs d sv q tx er fl w) (hK : K ≤ K') (h5 : K' ≤ 5000) : CP K' N v T I L Dd g gs d sv q tx er fl w := by
  obtain ⟨⟨σ, y⟩, ⟨nx, hc⟩, sc, tc, cap, ln, c9⟩ := h
  exact ⟨⟨σ, y.mono hK h5⟩, ⟨nx, hc.mono hK h5⟩, sc.mono hK h5, tc, cap, ln, c9⟩
theorem CP.N4 (h : CP K N v T I L Dd g gs d sv q tx er fl w) : 396 ≤ N := by
  obtain ⟨-, -, -, -, cap, ln, -⟩ := h
  exact ln.2.2.2.1
/-- what the class's walks ask of the state -/
theorem CP.pre (h : CP K N v T I L Dd g gs d sv q tx er fl w) : g 0 ≤ 8 ∧ I 6 0 = nI (g 0) ∧ (∀ t, t < 8 → ∃ hg, hg ≤ 20 ∧ I 31 t = nI hg) ∧ K ≤ 5000 ∧ q ≤ 60 ∧ d ≤ 8 := by
  obtain ⟨⟨σ, y⟩, ⟨nx, hc⟩, sc, tc, cap, ln, c9⟩ := h
  exact ⟨y.2.1.1.1, y.2.2.1.1, fun t ht => ⟨g (31 + t), y.2.1.h20 ht, (y.2.2.2.1 t ht).2.2.1⟩, y.1, tc.1, hc.2.2.2.1⟩
end YIN
