/-! what the class's rows and the model's row give: tracks, slots, sums -/
section YBA
variable {K : Nat} {I : HI} {L : HL} {G : Nat → Int32} {g σ : Nat → Nat}
theorem nI_inj {a b : Nat} (ha : a < 2 ^ 31) (hb : b < 2 ^ 31) (h : nI a = nI b) : a = b := (nI_eq ha hb).mp h
theorem nI_ex {t : Int32} {n : Nat} (hn : n < 2 ^ 31) : (0 ≤ t ∧ t < nI n) ↔ ∃ k, k < n ∧ t = nI k := by
  constructor
  · intro ⟨h0, h1⟩
    rw [Int32.le_iff_toInt_le] at h0
    obtain ⟨j, hj, e⟩ := nI_of (x := t) (by rw [Int32.lt_iff_toInt_lt]; exact Int.not_lt.mpr h0)
    subst e
    exact ⟨j, (nI_ltI hj hn).mp h1, rfl⟩
  · intro ⟨k, hk, e⟩
    subst e
    exact ⟨nI_pos' (by omega), nI_lt hk hn⟩
theorem nI_exL {t : Int32} {n : Nat} (hn : n < 2 ^ 31) : (0 ≤ t ∧ t ≤ nI n - 1) ↔ ∃ k, k < n ∧ t = nI k := by
  cases n with
  | zero =>
    constructor
    · intro ⟨h0, h1⟩
      exfalso
      have h2 := Int32.le_iff_toInt_le.mp h0
      have h3 := Int32.le_iff_toInt_le.mp h1
      have h4 : (nI 0 - 1 : Int32).toInt = -1 := by decide
      have h5 : (0 : Int32).toInt = 0 := rfl
      omega
    · intro ⟨k, hk, _⟩
      omega
  | succ n =>
    rw [nI_pred]
    constructor
    · intro ⟨h0, h1⟩
      obtain ⟨j, hj, e⟩ := nI_of (x := t) (by rw [Int32.lt_iff_toInt_lt]; exact Int.not_lt.mpr (Int32.le_iff_toInt_le.mp h0))
      subst e
      exact ⟨j, by have := (nI_leI hj (by omega)).mp h1; omega, rfl⟩
    · intro ⟨k, hk, e⟩
      subst e
      exact ⟨nI_pos' (by omega), nI_le (by omega) (by omega)⟩
theorem WG.h20 {t : Nat} (H : WG K g) (ht : t < 8) : g (31 + t) ≤ 20 := by
  have a := sN_pick (f := fun t => g (31 + t)) (k := t) (n := 8) ht
  have b := H.2.2.2.2.2.1
  have c := H.1.2.1
  try simp only at a
  omega
theorem WG.lt {k : Nat} (hK : K ≤ 5000) (H : WG K g) (hk : k < 7) : g k < 1000000000 := by
  obtain ⟨h1, h2, h3, h4, h5, h6, h7⟩ := H.1
  rcases (by omega : k = 0 ∨ k = 1 ∨ k = 2 ∨ k = 3 ∨ k = 4 ∨ k = 5 ∨ k = 6) with e | e | e | e | e | e | e <;> subst e <;> omega
theorem hasT_g (H : CRs I L g) (hz : g 0 ≤ 8) (t : Int32) : hasT I t ↔ ∃ k, k < g 0 ∧ t = nI k := by
  rw [hasT, H.1]
  exact nI_ex (by omega)
theorem tkM_g (H : GV (I 397) g) (hz : g 0 ≤ 8) (t : Int32) : tkM I t ↔ ∃ k, k < g 0 ∧ t = nI k := by
  rw [tkM, H 0 (by decide)]
  exact nI_exL (by omega)
theorem CRc.eqσ (H : CRc I g σ) {s s' : Nat} (hs : s < g 1) (hs' : s' < g 1) (e : σ s = σ s') : s = s' := by
  rcases Nat.lt_trichotomy s s' with c | c | c
  · exact absurd e (H.2.1 s s' c hs')
  · exact c
  · exact absurd e.symm (H.2.1 s' s c hs)
theorem WG.num (H : WG K g) {s s' : Nat} (hs : s < g 1) (hs' : s' < g 1) (e : g (39 + s) = g (39 + s')) : s = s' := by
  have h := H.2.2.2.2.2.2.2.1
  rcases Nat.lt_trichotomy s s' with c | c | c
  · exact absurd e (h s s' c hs').1
  · exact c
  · exact absurd e.symm (h s' s c hs).1
theorem WG.pos (H : WG K g) {s s' : Nat} (hs : s < g 1) (hs' : s' < g 1) (e : g (139 + s) = g (139 + s')) (e2 : g (159 + s) = g (159 + s')) : s = s' := by
  have h := H.2.2.2.2.2.2.2.1
  rcases Nat.lt_trichotomy s s' with c | c | c
  · exact absurd ⟨e, e2⟩ (h s s' c hs').2
  · exact c
  · exact absurd ⟨e.symm, e2.symm⟩ (h s' s c hs).2
/-- the bounds of a car -/
theorem WG.car (hK : K ≤ 5000) (H : WG K g) {s : Nat} (hs : s < g 1) : s < 20 ∧ 1 ≤ g (39 + s) ∧ g (39 + s) < g 2 ∧ g (39 + s) ≤ 5000 ∧ 5 ≤ g (59 + s) ∧ g (59 + s) ≤ 30 ∧ 10 ≤ g (79 + s) ∧ g (79 + s) ≤ 90 ∧ g (99 + s) ≤ 9 ∧ g (119 + s) ≤ 1 ∧ g (139 + s) < g 0 ∧ g (139 + s) < 8 ∧ g (159 + s) < g (31 + g (139 + s)) ∧ g (159 + s) < 20 := by
  obtain ⟨a, b, c, d, e, f, h⟩ := H.2.2.2.2.2.2.1 s hs
  obtain ⟨h1, h2, h3, -⟩ := H.1
  have := H.h20 (t := g (139 + s)) (by omega)
  omega
theorem slotOf_g (hK : K ≤ 5000) (W : WG K g) (H : CRc I g σ) (c : Int32) : (∃ s, s < g 1 ∧ c = nI (g (39 + s)) ∧ slotOf I c = nI (σ s)) ∨ ((∀ s, s < g 1 → c ≠ nI (g (39 + s))) ∧ slotOf I c = -1) := by
  by_cases h : ∃ s, s < g 1 ∧ c = nI (g (39 + s))
  · obtain ⟨s, hs, e⟩ := h
    refine Or.inl ⟨s, hs, e, ?_⟩
    have b := W.car hK hs
    have q := H.1 s hs
    refine fnd_at q.1 ⟨?_, q.2.1.trans e.symm⟩ (fun i hi hp => ?_)
    · rw [e]
      exact nI_lt (a := 0) (by omega) (by omega)
    · by_cases r : ∃ s', s' < g 1 ∧ σ s' = i
      · obtain ⟨s', hs', e'⟩ := r
        have q' := (H.1 s' hs').2.1
        have b' := W.car hK hs'
        rw [e'] at q'
        have e3 := nI_inj (by omega) (by omega) (q'.symm.trans (hp.2.trans e))
        rw [← e', W.num hs' hs e3]
      · have z := (H.2.2 i hi (fun s' hs' e' => r ⟨s', hs', e'⟩)).1
        have z2 : c = 0 := hp.2.symm.trans z
        have z3 := hp.1
        rw [z2] at z3
        exact absurd z3 (by decide)
  · refine Or.inr ⟨fun s hs e => h ⟨s, hs, e⟩, fnd_none (fun i hi hp => ?_)⟩
    by_cases r : ∃ s', s' < g 1 ∧ σ s' = i
    · obtain ⟨s', hs', e'⟩ := r
      have q' := (H.1 s' hs').2.1
      rw [e'] at q'
      exact h ⟨s', hs', hp.2.symm.trans q'⟩
    · have z := (H.2.2 i hi (fun s' hs' e' => r ⟨s', hs', e'⟩)).1
      have z2 : c = 0 := hp.2.symm.trans z
      have z3 := hp.1
      rw [z2] at z3
      exact absurd z3 (by decide)
theorem slOM_g (hK : K ≤ 5000) (W : WG K g) (H : GV (I 397) g) (c : Int32) : (∃ s, s < g 1 ∧ c = nI (g (39 + s)) ∧ slOM I (g 1) c = nI s) ∨ ((∀ s, s < g 1 → c ≠ nI (g (39 + s))) ∧ slOM I (g 1) c = -1) := by
  by_cases h : ∃ s, s < g 1 ∧ c = nI (g (39 + s))
  · obtain ⟨s, hs, e⟩ := h
    have b := W.car hK hs
    refine Or.inl ⟨s, hs, e, fnd_at hs ((H _ (by omega)).trans e.symm) (fun i hi hp => ?_)⟩
    have b' := W.car hK hi
    exact W.num hi hs (nI_inj (by omega) (by omega) ((H _ (by omega)).symm.trans (hp.trans e)))
  · refine Or.inr ⟨fun s hs e => h ⟨s, hs, e⟩, fnd_none (fun i hi hp => h ⟨i, hi, ?_⟩)⟩
    have b' := W.car hK hi
    exact hp.symm.trans (H _ (by omega))
theorem slotAt_g (hK : K ≤ 5000) (W : WG K g) (H : CRc I g σ) {t p : Int32} (ht : t ≠ -1) : (∃ s, s < g 1 ∧ t = nI (g (139 + s)) ∧ p = nI (g (159 + s)) ∧ slotAt I t p = nI (σ s)) ∨ ((∀ s, s < g 1 → ¬ (t = nI (g (139 + s)) ∧ p = nI (g (159 + s)))) ∧ slotAt I t p = -1) := by
  by_cases h : ∃ s, s < g 1 ∧ t = nI (g (139 + s)) ∧ p = nI (g (159 + s))
  · obtain ⟨s, hs, e, e2⟩ := h
    refine Or.inl ⟨s, hs, e, e2, ?_⟩
    have b := W.car hK hs
    have q := H.1 s hs
    refine fnd_at q.1 ⟨q.2.2.2.2.2.2.1.trans e.symm, q.2.2.2.2.2.2.2.trans e2.symm⟩ (fun i hi hp => ?_)
    by_cases r : ∃ s', s' < g 1 ∧ σ s' = i
    · obtain ⟨s', hs', e'⟩ := r
      have q' := (H.1 s' hs').2.2.2.2.2.2
      have b' := W.car hK hs'
      rw [e'] at q'
      have e3 := nI_inj (by omega) (by omega) (q'.1.symm.trans (hp.1.trans e))
      have e4 := nI_inj (by omega) (by omega) (q'.2.symm.trans (hp.2.trans e2))
      rw [← e', W.pos hs' hs e3 e4]
    · exact absurd (hp.1.symm.trans (H.2.2 i hi (fun s' hs' e' => r ⟨s', hs', e'⟩)).2) ht
  · refine Or.inr ⟨fun s hs e => h ⟨s, hs, e⟩, fnd_none (fun i hi hp => ?_)⟩
    by_cases r : ∃ s', s' < g 1 ∧ σ s' = i
    · obtain ⟨s', hs', e'⟩ := r
      have q' := (H.1 s' hs').2.2.2.2.2.2
      rw [e'] at q'
      exact h ⟨s', hs', hp.1.symm.trans q'.1, hp.2.symm.trans q'.2⟩
    · exact absurd (hp.1.symm.trans (H.2.2 i hi (fun s' hs' e' => r ⟨s', hs', e'⟩)).2) ht
theorem slAM_g (hK : K ≤ 5000) (W : WG K g) (H : GV (I 397) g) {t p : Int32} : (∃ s, s < g 1 ∧ t = nI (g (139 + s)) ∧ p = nI (g (159 + s)) ∧ slAM I (g 1) t p = nI s) ∨ ((∀ s, s < g 1 → ¬ (t = nI (g (139 + s)) ∧ p = nI (g (159 + s)))) ∧ slAM I (g 1) t p = -1) := by
  by_cases h : ∃ s, s < g 1 ∧ t = nI (g (139 + s)) ∧ p = nI (g (159 + s))
  · obtain ⟨s, hs, e, e2⟩ := h
    have b := W.car hK hs
    refine Or.inl ⟨s, hs, e, e2, fnd_at hs ⟨(H _ (by omega)).trans e.symm, (H _ (by omega)).trans e2.symm⟩ (fun i hi hp => ?_)⟩
    have b' := W.car hK hi
    exact W.pos hi hs (nI_inj (by omega) (by omega) ((H _ (by omega)).symm.trans (hp.1.trans e))) (nI_inj (by omega) (by omega) ((H _ (by omega)).symm.trans (hp.2.trans e2)))
  · refine Or.inr ⟨fun s hs e => h ⟨s, hs, e⟩, fnd_none (fun i hi hp => h ⟨i, hi, ?_⟩)⟩
    have b' := W.car hK hi
    exact ⟨hp.1.symm.trans (H _ (by omega)), hp.2.symm.trans (H _ (by omega))⟩
/-- the slot of the model that holds a place of a track -/
noncomputable def atS (g : Nat → Nat) (t p : Nat) : Nat := @dite Nat (∃ s, s < g 1 ∧ g (139 + s) = t ∧ g (159 + s) = p) (Classical.propDecidable _) (fun h => Classical.choose h) (fun _ => 0)
theorem atS_of {t p : Nat} (h : ∃ s, s < g 1 ∧ g (139 + s) = t ∧ g (159 + s) = p) : atS g t p < g 1 ∧ g (139 + atS g t p) = t ∧ g (159 + atS g t p) = p := by
  unfold atS
  rw [dif_pos h]
  exact Classical.choose_spec h
theorem atS_spec (W : WG K g) {t p : Nat} (ht : t < 8) (hp : p < g (31 + t)) : atS g t p < g 1 ∧ g (139 + atS g t p) = t ∧ g (159 + atS g t p) = p := atS_of (W.2.2.2.2.2.2.2.2 t p ht hp)
theorem atS_eq (W : WG K g) {s : Nat} (hs : s < g 1) : atS g (g (139 + s)) (g (159 + s)) = s := by
  have a := atS_of (g := g) ⟨s, hs, rfl, rfl⟩
  exact W.pos a.1 hs a.2.1 a.2.2
theorem slotAt_s (hK : K ≤ 5000) (W : WG K g) (H : CRc I g σ) {t p : Nat} (ht : t < 8) (hp : p < g (31 + t)) : slotAt I (nI t) (nI p) = nI (σ (atS g t p)) := by
  have a := atS_spec W ht hp
  have hh := W.h20 ht
  rcases slotAt_g hK W H (t := nI t) (p := nI p) (nI_mi (by omega)) with ⟨s, hs, e1, e2, e3⟩ | ⟨h, -⟩
  · have b := W.car hK hs
    rw [e3, ← atS_eq W hs, nI_inj (by omega) (by omega) e1, nI_inj (by omega) (by omega) e2]
  · exact absurd ⟨by rw [a.2.1], by rw [a.2.2]⟩ (h _ a.1)
theorem slAM_s (hK : K ≤ 5000) (W : WG K g) (H : GV (I 397) g) {t p : Nat} (ht : t < 8) (hp : p < g (31 + t)) : slAM I (g 1) (nI t) (nI p) = nI (atS g t p) := by
  have a := atS_spec W ht hp
  have hh := W.h20 ht
  rcases slAM_g hK W H (t := nI t) (p := nI p) with ⟨s, hs, e1, e2, e3⟩ | ⟨h, -⟩
  · have b := W.car hK hs
    rw [e3, ← atS_eq W hs, nI_inj (by omega) (by omega) e1, nI_inj (by omega) (by omega) e2]
  · exact absurd ⟨by rw [a.2.1], by rw [a.2.2]⟩ (h _ a.1)
theorem feM_at (hK : K ≤ 5000) (W : WG K g) (H : GV (I 397) g) {t k : Nat} (ht : t < 8) (hk : k < g (31 + t)) : feM I (g 1) t (nI k) = nI (atS g t (g (31 + t) - 1 - k)) := by
  have hh := W.h20 ht
  have e : I 397 (31 + t) - 1 - nI k = nI (g (31 + t) - 1 - k) := by
    rw [H _ (by omega), show (1 : Int32) = nI 1 from rfl, pk_sub (by omega), pk_sub (by omega)]
  rw [feM, e]
  exact slAM_s hK W H ht (by omega)
theorem PLM_g (hK : K ≤ 5000) (W : WG K g) (H : GV (I 397) g) : PLM I (g 1) := fun t ht => ⟨g (31 + t), W.h20 ht, H _ (by omega), fun p hp => ⟨atS g t p, (atS_spec W ht hp).1, slAM_s hK W H ht hp⟩⟩
/-- a sum over the class's slots -/
theorem cl_sum (H : CRc I g σ) {st : Nat → Int32 → Int32} {f : Nat → Nat} (h1 : ∀ s, s < g 1 → ∀ a, st (σ s) a = a + nI (f s)) (h2 : ∀ u, u < 20 → (∀ s, s < g 1 → σ s ≠ u) → ∀ a, st u a = a) : fo st 20 0 0 = nI (sN f (g 1)) := by
  have hw : ∃ w : Nat → Nat, (∀ s, s < g 1 → w (σ s) = f s) ∧ ∀ u, (∀ s, s < g 1 → σ s ≠ u) → w u = 0 := by
    refine ⟨fun u => @dite Nat (∃ s, s < g 1 ∧ σ s = u) (Classical.propDecidable _) (fun h => f (Classical.choose h)) (fun _ => 0), fun s hs => ?_, fun u hu => ?_⟩
    · have h : ∃ s', s' < g 1 ∧ σ s' = σ s := ⟨s, hs, rfl⟩
      try simp only
      rw [dif_pos h]
      exact congrArg f (H.eqσ (Classical.choose_spec h).1 hs (Classical.choose_spec h).2)
    · try simp only
      rw [dif_neg (fun ⟨s, hs, e⟩ => hu s hs e)]
  obtain ⟨w, w1, w2⟩ := hw
  rw [fo_sum (w := w) (fun k a hk => ?_), sN_re w (fun s hs => ⟨(H.1 s hs).1, w1 s hs⟩) H.2.1 (fun u hu hs => w2 u hs)]
  by_cases r : ∃ s, s < g 1 ∧ σ s = k
  · obtain ⟨s, hs, e⟩ := r
    subst e
    rw [h1 s hs, w1 s hs]
  · have r2 : ∀ s, s < g 1 → σ s ≠ k := fun s hs e => r ⟨s, hs, e⟩
    rw [h2 k hk r2, w2 k r2, nI_0, Int32.add_zero]
theorem weightOf_g (hK : K ≤ 5000) (W : WG K g) (H : CRc I g σ) {t : Nat} (ht : t < 8) : weightOf I (nI t) = nI (sN (fun s => if g (139 + s) = t then g (79 + s) else 0) (g 1)) := by
  refine cl_sum H (fun s hs a => ?_) (fun u hu hs a => ?_)
  · have q := H.1 s hs
    have b := W.car hK hs
    rw [stW, q.2.2.2.2.2.2.1, q.2.2.2.1]
    by_cases c : g (139 + s) = t
    · rw [if_pos (by rw [c]), if_pos c]
    · rw [if_neg (fun e => c (nI_inj (by omega) (by omega) e)), if_neg c, nI_0, Int32.add_zero]
  · rw [stW, (H.2.2 u hu hs).2, if_neg (fun e => nI_mi (by omega) e.symm)]
theorem smM_g (hK : K ≤ 5000) (W : WG K g) (H : GV (I 397) g) {t x : Nat} (ht : t < 8) (hx : x ≤ 159) : smM I (g 1) (nI t) x = nI (sN (fun s => if g (139 + s) = t then g (x + s) else 0) (g 1)) := by
  refine fo_sum (fun s a hs => ?_)
  have b := W.car hK hs
  rw [smS, H (139 + s) (by omega), H (x + s) (by omega)]
  by_cases c : g (139 + s) = t
  · rw [if_pos (by rw [c]), if_pos c]
  · rw [if_neg (fun e => c (nI_inj (by omega) (by omega) e)), if_neg c, nI_0]
theorem roM_g (hK : K ≤ 5000) (W : WG K g) (H : GV (I 397) g) {t : Nat} (ht : t < 8) : roM I (g 1) t = nI (g (7 + t)) - nI (usN g t) := by
  rw [roM, smM_g hK W H ht (by decide), H (7 + t) (by omega)]
  rfl
theorem boundF_g (hK : K ≤ 5000) (W : WG K g) (H : CRc I g σ) (c : Int32) : boundF I c = nI (sN (fun s => if nI (g (99 + s)) = c then 1 else 0) (g 1)) := by
  refine cl_sum H (fun s hs a => ?_) (fun u hu hs a => ?_)
  · have q := H.1 s hs
    have b := W.car hK hs
    rw [stB, q.2.1, q.2.2.2.2.1]
    by_cases e : nI (g (99 + s)) = c
    · rw [if_pos ⟨fun e2 => by have := nI_inj (b := 0) (by omega) (by omega) e2; omega, e⟩, if_pos e]; rfl
    · rw [if_neg (fun e2 => e e2.2), if_neg e, nI_0, Int32.add_zero]
  · rw [stB, (H.2.2 u hu hs).1, if_neg (fun e => e.1 rfl)]
theorem cfM_g (W : WG K g) (H : GV (I 397) g) (c : Int32) : fo (cfS I c) (g 1) 0 0 = nI (sN (fun s => if nI (g (99 + s)) = c then 1 else 0) (g 1)) := by
  refine fo_sum (fun s a hs => ?_)
  have b := W.1.2.1
  rw [cfS, H (99 + s) (by omega)]
  by_cases e : nI (g (99 + s)) = c
  · rw [if_pos e, if_pos e]; rfl
  · rw [if_neg e, if_neg e]; rfl
end YBA
