/-! the class's matrix -/
section FWA
variable {I : HI} {ad : Nat → Nat → Prop} {z : Nat}
def m0F (I : HI) (i j : Nat) : Nat := if i = j then 0 else if I 8 (i * 8 + j) = 1 then 1 else 1000
theorem fm_in {p : Nat} (hz8 : z ≤ 8) (hp : p < z) {J : HI} (h : (∀ a, a ≠ 14 → J a = I a) ∧ ∀ i j, j < z → i < p → J 14 (i * 8 + j) = nI (m0F I i j)) : (∀ a, a ≠ 14 → fmA z p J a = I a) ∧ ∀ i j, j < z → i < p + 1 → fmA z p J 14 (i * 8 + j) = nI (m0F I i j) := by
  have H := fo_at (e := z) (P := fun k (J : HI) => (∀ a, a ≠ 14 → J a = I a) ∧ ∀ i j, j < z → (i < p ∨ (i = p ∧ j < k)) → J 14 (i * 8 + j) = nI (m0F I i j)) (f := stF p) (fun k J hk hJ => by
    refine ⟨fun a ha => (up2_ne ha).trans (hJ.1 a ha), fun i j hj hij => ?_⟩
    show up2 J 14 (p * 8 + k) _ 14 (i * 8 + j) = _
    rw [up2_v]
    by_cases c : i * 8 + j = p * 8 + k
    · have e1 : i = p := by omega
      have e2 : j = k := by omega
      subst e1
      subst e2
      rw [if_pos rfl, hJ.1 8 (by decide)]
      unfold m0F
      by_cases e : i = j
      · rw [if_pos (by rw [e]), if_pos e]; rfl
      · rw [if_neg (fun q => e ((nI_eq (by omega) (by omega)).mp q)), if_neg e]
        split <;> rfl
    · rw [if_neg c]
      exact hJ.2 i j hj (by omega)) z 0 J (by omega) ⟨h.1, fun i j hj hij => h.2 i j hj (by omega)⟩
  exact ⟨H.1, fun i j hj hi => H.2 i j hj (by omega)⟩
theorem fm_all (hz8 : z ≤ 8) : (∀ a, a ≠ 14 → fo (fmA z) z 0 I a = I a) ∧ ∀ i j, j < z → i < z → fo (fmA z) z 0 I 14 (i * 8 + j) = nI (m0F I i j) :=
  fo_at (e := z) (P := fun p (J : HI) => (∀ a, a ≠ 14 → J a = I a) ∧ ∀ i j, j < z → i < p → J 14 (i * 8 + j) = nI (m0F I i j)) (f := fmA z) (fun p J hp hJ => fm_in hz8 hp hJ) z 0 I (by omega) ⟨fun _ _ => rfl, fun i j hj hi => by omega⟩
def fwV (I : HI) (z : Nat) (J : HI) (M : Nat → Nat → Nat) : Prop := (∀ a, a ≠ 14 → J a = I a) ∧ ∀ i j, i < z → j < z → J 14 (i * 8 + j) = nI (M i j)
theorem fw_comb (hz8 : z ≤ 8) {vi on : Nat} (hv : vi < z) (ho : on < z) {J : HI} {M : Nat → Nat → Nat} (hb : ∀ i j, i < z → j < z → M i j ≤ 1000) (H : fwV I z J M) : fwV I z (combI J z vi on) (fun i j => if i = on then min (M on j) (M on vi + M vi j) else M i j) := by
  have G := fo_at (e := z) (P := fun k (J' : HI) => fwV I z J' (fun i j => if i = on ∧ j < k then min (M on j) (M on vi + M vi j) else M i j)) (f := stC vi on (J 14 (on * 8 + vi))) (fun k J' hk hJ => by
    have b1 := hb on vi ho hv
    have b2 := hb vi k hv hk
    have b3 := hb on k ho hk
    have e1 : J 14 (on * 8 + vi) = nI (M on vi) := H.2 on vi ho hv
    have e2 : J' 14 (vi * 8 + k) = nI (M vi k) := by
      rw [hJ.2 vi k hv hk]
      show nI (if vi = on ∧ k < k then _ else _) = _
      rw [if_neg (by omega)]
    have e3 : J' 14 (on * 8 + k) = nI (M on k) := by
      rw [hJ.2 on k ho hk]
      show nI (if on = on ∧ k < k then _ else _) = _
      rw [if_neg (by omega)]
    have hc : (J 14 (on * 8 + vi) + J' 14 (vi * 8 + k) < J' 14 (on * 8 + k)) ↔ M on vi + M vi k < M on k := by
      rw [e1, e2, e3, nI_add]
      exact nI_ltI (by omega) (by omega)
    by_cases c : M on vi + M vi k < M on k
    · have hs : stC vi on (J 14 (on * 8 + vi)) k J' = up2 J' 14 (on * 8 + k) (nI (M on vi + M vi k)) := by
        unfold stC
        rw [if_pos (hc.mpr c), e1, e2, nI_add]
      rw [hs]
      refine ⟨fun a ha => (up2_ne ha).trans (hJ.1 a ha), fun i j hi hj => ?_⟩
      show up2 J' 14 (on * 8 + k) _ 14 (i * 8 + j) = nI (if i = on ∧ j < k + 1 then min (M on j) (M on vi + M vi j) else M i j)
      rw [up2_v]
      by_cases e : i * 8 + j = on * 8 + k
      · have e4 : i = on := by omega
        have e5 : j = k := by omega
        subst e4
        subst e5
        rw [if_pos rfl, if_pos ⟨rfl, by omega⟩]
        congr 1
        omega
      · rw [if_neg e]
        refine (hJ.2 i j hi hj).trans ?_
        show nI (if i = on ∧ j < k then min (M on j) (M on vi + M vi j) else M i j) = _
        congr 1
        by_cases c2 : i = on ∧ j < k
        · rw [if_pos c2, if_pos ⟨c2.1, by omega⟩]
        · rw [if_neg c2, if_neg (by omega)]
    · have hs : stC vi on (J 14 (on * 8 + vi)) k J' = J' := by
        unfold stC
        rw [if_neg (fun q => c (hc.mp q))]
      rw [hs]
      refine ⟨hJ.1, fun i j hi hj => (hJ.2 i j hi hj).trans ?_⟩
      show nI (if i = on ∧ j < k then min (M on j) (M on vi + M vi j) else M i j) = nI (if i = on ∧ j < k + 1 then min (M on j) (M on vi + M vi j) else M i j)
      congr 1
      by_cases c2 : i = on ∧ j < k
      · rw [if_pos c2, if_pos ⟨c2.1, by omega⟩]
      · rw [if_neg c2]
        by_cases c3 : i = on ∧ j < k + 1
        · have e5 : j = k := by omega
          rw [if_pos c3, c3.1, e5]
          omega
        · rw [if_neg c3]) z 0 J (by omega) ⟨H.1, fun i j hi hj => by
    show J 14 (i * 8 + j) = nI (if i = on ∧ j < 0 then _ else _)
    rw [if_neg (by omega)]
    exact H.2 i j hi hj⟩
  refine ⟨G.1, fun i j hi hj => (G.2 i j hi hj).trans ?_⟩
  show nI (if i = on ∧ j < z then min (M on j) (M on vi + M vi j) else M i j) = nI (if i = on then min (M on j) (M on vi + M vi j) else M i j)
  congr 1
  by_cases c : i = on
  · rw [if_pos ⟨c, hj⟩, if_pos c]
  · rw [if_neg (fun q => c q.1), if_neg c]
theorem fw_via (hz8 : z ≤ 8) {p : Nat} (hp : p < z) {J : HI} {M : Nat → Nat → Nat} (hb : ∀ i j, i < z → j < z → M i j ≤ 1000) (h0 : M p p = 0) (H : fwV I z J M) : fwV I z (fmB z p J) (fun i j => min (M i j) (M i p + M p j)) := by
  have G := fo_at (e := z) (P := fun on (J' : HI) => fwV I z J' (fun i j => if i < on then min (M i j) (M i p + M p j) else M i j)) (f := fun k J => combI J z p k) (fun on J' ho hJ => by
    have K := fw_comb (I := I) hz8 hp ho (fun i j hi hj => by
      have := hb i j hi hj
      show (if i < on then min (M i j) (M i p + M p j) else M i j) ≤ 1000
      split <;> omega) hJ
    refine ⟨K.1, fun i j hi hj => (K.2 i j hi hj).trans ?_⟩
    show nI (if i = on then min (if on < on then min (M on j) (M on p + M p j) else M on j) ((if on < on then min (M on p) (M on p + M p p) else M on p) + (if p < on then min (M p j) (M p p + M p j) else M p j)) else (if i < on then min (M i j) (M i p + M p j) else M i j)) = nI (if i < on + 1 then min (M i j) (M i p + M p j) else M i j)
    congr 1
    have e : (if p < on then min (M p j) (M p p + M p j) else M p j) = M p j := by
      rw [h0]
      split <;> omega
    rw [e, if_neg (by omega : ¬ on < on), if_neg (by omega : ¬ on < on)]
    by_cases c : i = on
    · rw [if_pos c, if_pos (by omega), c]
    · rw [if_neg c]
      by_cases c2 : i < on
      · rw [if_pos c2, if_pos (by omega)]
      · rw [if_neg c2, if_neg (by omega)]) z 0 J (by omega) ⟨H.1, fun i j hi hj => by
    show J 14 (i * 8 + j) = nI (if i < 0 then _ else _)
    rw [if_neg (by omega)]
    exact H.2 i j hi hj⟩
  refine ⟨G.1, fun i j hi hj => (G.2 i j hi hj).trans ?_⟩
  show nI (if i < z then min (M i j) (M i p + M p j) else M i j) = nI (min (M i j) (M i p + M p j))
  rw [if_pos hi]
def fwJ (I : HI) (ad : Nat → Nat → Prop) (z v : Nat) (J : HI) (M : Nat → Nat → Nat) : Prop := fwV I z J M ∧ (∀ i, i < z → M i i = 0) ∧ (∀ i j, i < z → j < z → M i j ≤ 1000) ∧ (∀ i j, i < z → j < z → M i j < 1000 → wk ad j (M i j) i) ∧ (∀ i j, ad i j → M i j ≤ 1) ∧ ∀ k i j, k < v → k < z → i < z → j < z → M i j ≤ M i k + M k j
theorem fw_st (hz8 : z ≤ 8) {v : Nat} (hv : v < z) {J : HI} {M : Nat → Nat → Nat} (H : fwJ I ad z v J M) : fwJ I ad z (v + 1) (fmB z v J) (fun i j => min (M i j) (M i v + M v j)) := by
  obtain ⟨h1, h2, h3, h4, h5, h6⟩ := H
  refine ⟨fw_via hz8 hv h3 (h2 v hv) h1, fun i hi => ?_, fun i j hi hj => ?_, fun i j hi hj hd => ?_, fun i j ha => ?_, fun k i j hk hkz hi hj => ?_⟩
  · have := h2 i hi
    show min (M i i) (M i v + M v i) = 0
    omega
  · have := h3 i j hi hj
    show min (M i j) (M i v + M v j) ≤ 1000
    omega
  · have hd2 : min (M i j) (M i v + M v j) < 1000 := hd
    show wk ad j (min (M i j) (M i v + M v j)) i
    by_cases c : M i j ≤ M i v + M v j
    · rw [Nat.min_eq_left c] at hd2 ⊢
      exact h4 i j hi hj hd2
    · rw [Nat.min_eq_right (by omega)] at hd2 ⊢
      exact wk_cat _ _ (h4 i v hi hv (by omega)) (h4 v j hv hj (by omega))
  · have := h5 i j ha
    show min (M i j) (M i v + M v j) ≤ 1
    omega
  · show min (M i j) (M i v + M v j) ≤ min (M i k) (M i v + M v k) + min (M k j) (M k v + M v j)
    by_cases c : k = v
    · subst c
      have := h2 k hkz
      omega
    · have a1 := h6 k i j (by omega) hkz hi hj
      have a2 := h6 k v j (by omega) hkz hv hj
      have a3 := h6 k i v (by omega) hkz hi hv
      omega
/-- what the matrix says -/
theorem mat_spec (hl : ∀ i k, i < z → k < z → (I 8 (i * 8 + k) = 1 ↔ ad i k)) (hir : ∀ i, ¬ ad i i) (hz : ∀ i j, ad i j → i < z ∧ j < z) (hz8 : z ≤ 8) : (∀ a, a ≠ 14 → matI I z a = I a) ∧ ∀ i j, i < z → j < z → ∃ x, matI I z 14 (i * 8 + j) = nI x ∧ isD ad 1000 j i x := by
  have F := fm_all (I := I) hz8
  have h0 : fwJ I ad z 0 (fo (fmA z) z 0 I) (m0F I) := by
    refine ⟨⟨F.1, fun i j hi hj => F.2 i j hj hi⟩, fun i hi => if_pos rfl, fun i j hi hj => ?_, fun i j hi hj hd => ?_, fun i j ha => ?_, fun k i j hk => by omega⟩
    · unfold m0F
      split
      · omega
      · split <;> omega
    · unfold m0F at hd ⊢
      by_cases c : i = j
      · rw [if_pos c]; exact c
      · rw [if_neg c] at hd ⊢
        by_cases c2 : I 8 (i * 8 + j) = 1
        · rw [if_pos c2]
          exact ⟨j, (hl i j hi hj).mp c2, rfl⟩
        · rw [if_neg c2] at hd
          omega
    · have hb := hz i j ha
      unfold m0F
      rw [if_neg (fun e => by subst e; exact hir i ha), if_pos ((hl i j hb.1 hb.2).mpr ha)]
      exact Nat.le_refl _
  have H := fo_at (e := z) (P := fun v (J : HI) => ∃ M, fwJ I ad z v J M) (f := fmB z) (fun v J hv ⟨M, hJ⟩ => ⟨_, fw_st hz8 hv hJ⟩) z 0 _ (by omega) ⟨_, h0⟩
  obtain ⟨M, h1, h2, h3, h4, h5, h6⟩ := H
  refine ⟨h1.1, fun i j hi hj => ⟨M i j, h1.2 i j hi hj, ?_⟩⟩
  have hA : ∀ k i, i < z → wk ad j k i → M i j ≤ k := by
    intro k
    induction k with
    | zero =>
      intro i hi hw
      have e : i = j := hw
      rw [e, h2 j hj]
      exact Nat.le_refl _
    | succ k ih =>
      intro i hi hw
      obtain ⟨n, hn, hw2⟩ := hw
      have hn2 := (hz i n hn).2
      have a := ih n hn2 hw2
      have b := h5 i n hn
      have c := h6 n i j hn2 hn2 hi hj
      omega
  exact isD_of hz hz8 hi (by decide) (h3 i j hi hj) (fun k hk hw => hA k i hi hw) (fun hd => h4 i j hi hj hd)
end FWA
