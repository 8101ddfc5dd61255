/-! constructors: the heap grows as a list over a base -/
def ovl (S : Nat → Option JS) (b : Nat) (l : List JS) : Nat → Option JS := fun k => if b ≤ k ∧ k < b + l.length then l[k - b]? else S k
section OVL
variable {S : Nat → Option JS} {b k j : Nat} {l l2 : List JS} {I : HI} {L : HL} {Dd : HD} {sh x : JS} {N : Nat}
theorem ovl_at (i : Nat) (h : l[i]? = some sh) : ovl S b l (b + i) = some sh := by
  have hi := (List.getElem?_eq_some_iff.mp h).1
  rw [ovl, if_pos ⟨Nat.le_add_right _ _, by omega⟩, Nat.add_sub_cancel_left]
  exact h
theorem ovl_b : ovl S b (x :: l) b = some x := ovl_at (l := x :: l) 0 rfl
theorem newS_ovl (hk : l.length = k) : newS (b + k, ovl S b l, I, L, Dd) sh = (b + (k + 1), ovl S b (l ++ [sh]), I, L, Dd) := by
  suffices e : upS (ovl S b l) (b + k) sh = ovl S b (l ++ [sh]) by
    show (b + k + 1, upS (ovl S b l) (b + k) sh, I, L, Dd) = _
    rw [e]
    rfl
  funext i
  unfold upS ovl
  subst hk
  by_cases h1 : i = b + l.length
  · subst h1
    rw [if_pos rfl, if_pos ⟨Nat.le_add_right _ _, by rw [List.length_append]; show b + l.length < b + (l.length + 1); omega⟩, Nat.add_sub_cancel_left]
    simp
  · rw [if_neg h1]
    by_cases h2 : b ≤ i ∧ i < b + l.length
    · rw [if_pos h2, if_pos ⟨h2.1, by rw [List.length_append]; omega⟩, List.getElem?_append_left (by omega)]
    · rw [if_neg h2, if_neg (fun z => h2 ⟨z.1, by have := z.2; rw [List.length_append] at this; have h3 : i < b + (l.length + 1) := this; omega⟩)]
theorem setF_ovl (i : Nat) (hi : i < l.length) : setF (N, ovl S b l, I, L, Dd) (b + i) sh = (N, ovl S b (l.set i sh), I, L, Dd) := by
  unfold setF
  show (N, upS (ovl S b l) (b + i) sh, I, L, Dd) = _
  congr 2
  funext j
  unfold upS ovl
  rw [List.length_set]
  by_cases h1 : j = b + i
  · subst h1
    rw [if_pos rfl, if_pos ⟨Nat.le_add_right _ _, by omega⟩, Nat.add_sub_cancel_left, List.getElem?_set_self hi]
  · rw [if_neg h1]
    by_cases h2 : b ≤ j ∧ j < b + l.length
    · rw [if_pos h2, if_pos h2, List.getElem?_set_ne (by omega)]
    · rw [if_neg h2, if_neg h2]
theorem setF_b : setF (N, ovl S b (x :: l), I, L, Dd) b sh = (N, ovl S b (sh :: l), I, L, Dd) := setF_ovl (l := x :: l) 0 (Nat.succ_pos _)
theorem ovl_ovl (hk : l.length = k) : ovl (ovl S b l) (b + k) l2 = ovl S b (l ++ l2) := by
  funext i
  unfold ovl
  rw [List.length_append]
  subst hk
  by_cases h1 : b + l.length ≤ i ∧ i < b + l.length + l2.length
  · rw [if_pos h1, if_pos ⟨by omega, by omega⟩, List.getElem?_append_right (by omega), show i - b - l.length = i - (b + l.length) by omega]
  · rw [if_neg h1]
    by_cases h2 : b ≤ i ∧ i < b + l.length
    · rw [if_pos h2, if_pos ⟨h2.1, by omega⟩, List.getElem?_append_left (by omega)]
    · rw [if_neg h2, if_neg (fun z => by omega)]
theorem ovl_in (hk : l.length = k) : ((b + k + j, ovl (ovl S b l) (b + k) l2, I, L, Dd) : MH) = (b + (k + j), ovl S b (l ++ l2), I, L, Dd) := by rw [ovl_ovl hk, Nat.add_assoc]
def Z0 (N : Nat) (I : HI) (L : HL) (Dd : HD) : Prop := ∀ a, N ≤ a → ∀ j, I a j = 0 ∧ L a j = 0 ∧ Dd a j = 0
theorem Z0.z (h : Z0 b I L Dd) : z0 (b + k, S, I, L, Dd) := ⟨fun j => (h _ (Nat.le_add_right _ _) j).1, fun j => (h _ (Nat.le_add_right _ _) j).2.1, fun j => (h _ (Nat.le_add_right _ _) j).2.2⟩
theorem Z0.le {N' : Nat} (h : Z0 N I L Dd) (hn : N ≤ N') : Z0 N' I L Dd := fun a ha => h a (Nat.le_trans hn ha)
end OVL
theorem fs_X4 : ∀ j, j < 1 → ∃ f, ([.inl .null] : List (Value ⊕ Bool))[j]? = some f ∧ dfl (tyX4 j) = some f := by
  intro j hj
  have : j = 0 := by omega
  rcases this with rfl <;> exact ⟨_, rfl, rfl⟩
theorem fs_X2 : ∀ j, j < 6 → ∃ f, ([.inr false, .inr false, .inl .null, .inl .null, .inl .null, .inl .null] : List (Value ⊕ Bool))[j]? = some f ∧ dfl (tyX2 j) = some f := by
  intro j hj
  have : j = 0 ∨ j = 1 ∨ j = 2 ∨ j = 3 ∨ j = 4 ∨ j = 5 := by omega
  rcases this with rfl | rfl | rfl | rfl | rfl | rfl <;> exact ⟨_, rfl, rfl⟩
theorem fs_X0 : ∀ j, j < 12 → ∃ f, ([.inr false, .inr false, .inl .null, .inl .null, .inl .null, .inl .null, .inl .null, .inl .null, .inl .null, .inl .null, .inl .null, .inl .null] : List (Value ⊕ Bool))[j]? = some f ∧ dfl (tyX0 j) = some f := by
  intro j hj
  have : j = 0 ∨ j = 1 ∨ j = 2 ∨ j = 3 ∨ j = 4 ∨ j = 5 ∨ j = 6 ∨ j = 7 ∨ j = 8 ∨ j = 9 ∨ j = 10 ∨ j = 11 := by omega
  rcases this with rfl | rfl | rfl | rfl | rfl | rfl | rfl | rfl | rfl | rfl | rfl | rfl <;> exact ⟨_, rfl, rfl⟩
theorem fs_X5 : ∀ j, j < 8 → ∃ f, ([.inl .null, .inl .null, .inl .null, .inl .null, .inr true, .inr false, .inr false, .inr true] : List (Value ⊕ Bool))[j]? = some f ∧ dfl (tyX5 j) = some f := by
  intro j hj
  have : j = 0 ∨ j = 1 ∨ j = 2 ∨ j = 3 ∨ j = 4 ∨ j = 5 ∨ j = 6 ∨ j = 7 := by omega
  rcases this with rfl | rfl | rfl | rfl | rfl | rfl | rfl | rfl <;> exact ⟨_, rfl, rfl⟩
theorem fs_X1 : ∀ j, j < 5 → ∃ f, ([.inl .null, .inr false, .inr false, .inl .null, .inr false] : List (Value ⊕ Bool))[j]? = some f ∧ dfl (tyX1 j) = some f := by
  intro j hj
  have : j = 0 ∨ j = 1 ∨ j = 2 ∨ j = 3 ∨ j = 4 := by omega
  rcases this with rfl | rfl | rfl | rfl | rfl <;> exact ⟨_, rfl, rfl⟩
theorem fs_X3 : ∀ j, j < 7 → ∃ f, ([.inl .null, .inr false, .inr false, .inl .null, .inl .null, .inr false, .inr false] : List (Value ⊕ Bool))[j]? = some f ∧ dfl (tyX3 j) = some f := by
  intro j hj
  have : j = 0 ∨ j = 1 ∨ j = 2 ∨ j = 3 ∨ j = 4 ∨ j = 5 ∨ j = 6 := by omega
  rcases this with rfl | rfl | rfl | rfl | rfl | rfl | rfl <;> exact ⟨_, rfl, rfl⟩
theorem fs_X6 : ∀ j, j < 7 → ∃ f, ([.inl .null, .inl .null, .inl .null, .inl .null, .inl .null, .inr false, .inr false] : List (Value ⊕ Bool))[j]? = some f ∧ dfl (tyX6 j) = some f := by
  intro j hj
  have : j = 0 ∨ j = 1 ∨ j = 2 ∨ j = 3 ∨ j = 4 ∨ j = 5 ∨ j = 6 := by omega
  rcases this with rfl | rfl | rfl | rfl | rfl | rfl | rfl <;> exact ⟨_, rfl, rfl⟩
theorem fs_J4 : ∀ j, j < 4 → ∃ f, ([.inl .null, .inr false, .inr false, .inr false] : List (Value ⊕ Bool))[j]? = some f ∧ dfl (tyJ4 j) = some f := by
  intro j hj
  have : j = 0 ∨ j = 1 ∨ j = 2 ∨ j = 3 := by omega
  rcases this with rfl | rfl | rfl | rfl <;> exact ⟨_, rfl, rfl⟩
section CTO
variable {X : JX} {d b : Nat} {S : Nat → Option JS} {I : HI} {L : HL} {Dd : HD}
theorem c_Row_8 (hX : JXok X) (hd : 1 ≤ d) (hz9 : Z0 b I L Dd) (hB9 : b + 3 < BIG) : MT X d 1 8 jdX4_init [.ref b, .int 8] (b + 1, ovl S b [.inr (4, [.inl .null])], I, L, Dd) (fun R => R = .inl (none, (b + 2, ovl S b [.inr (4, [.inl (.ref (b + 1))]), .inl (.int, 8)], I, L, Dd))) := by
  refine MT.mk diX4_init.1 ?_
  refine Ev.sg hX (sX4_init_0.sub 0 1) (pc' := 1) (ls' := [some (.ref b), some (.int 8)]) (st' := [.ref b]) (h' := (b + 1, ovl S b [.inr (4, [.inl .null])], I, L, Dd)) rfl ?_
  refine Ev.objI (bw_of 50 (by decide +kernel) (by decide +kernel)) (by omega) (by decide) dX4_init_1 ?_
  refine Ev.sg hX (sX4_init_4.sub 0 2) (pc' := 6) (ls' := [some (.ref b), some (.int 8)]) (st' := [.int 8, .ref b]) (h' := (b + 1, ovl S b [.inr (4, [.inl .null])], I, L, Dd)) rfl ?_
  refine Ev.if_ge (tgt := 13) dX4_init_6 (by decide) (fun b1 => ?_) (fun b1 => absurd (by decide) b1)
  refine Ev.sg hX (sX4_init_13.sub 0 1) (pc' := 14) (ls' := [some (.ref b), some (.int 8)]) (st' := [.int 8, .ref b]) (h' := (b + 1, ovl S b [.inr (4, [.inl .null])], I, L, Dd)) rfl ?_
  refine Ev.newI (n := 8) hX rfl (by omega) (Z0.z hz9) ⟨by omega, by omega⟩ (by show b + _ + 1 < BIG; omega) dX4_init_14 (by decide +kernel) ?_
  refine Ev.eqh (h' := (b + 2, ovl S b [.inr (4, [.inl .null]), .inl (.int, 8)], I, L, Dd)) (newS_ovl rfl) ?_
  show Ev _ _ _ _ _ _ 16 [some (.ref b), some (.int 8)] [.ref (b + 1), .ref b] (b + 2, ovl S b [.inr (4, [.inl .null]), .inl (.int, 8)], I, L, Dd)
  refine Ev.putR (j := 0) hX ci_X4 (by decide) (bw_of 51 (by decide +kernel) (by decide +kernel)) (Or.inr ⟨rfl, rfl, rfl⟩) ovl_b rfl (fun _ => rfl) (fun _ => rfl) dX4_init_16 ?_
  refine Ev.eqh (h' := (b + 2, ovl S b [.inr (4, [.inl (.ref (b + 1))]), .inl (.int, 8)], I, L, Dd)) (setF_b) ?_
  refine Ev.vret dX4_init_19 rfl ?_
  rfl
theorem c_Row_20 (hX : JXok X) (hd : 1 ≤ d) (hz9 : Z0 b I L Dd) (hB9 : b + 3 < BIG) : MT X d 1 20 jdX4_init [.ref b, .int 20] (b + 1, ovl S b [.inr (4, [.inl .null])], I, L, Dd) (fun R => R = .inl (none, (b + 2, ovl S b [.inr (4, [.inl (.ref (b + 1))]), .inl (.int, 20)], I, L, Dd))) := by
  refine MT.mk diX4_init.1 ?_
  refine Ev.sg hX (sX4_init_0.sub 0 1) (pc' := 1) (ls' := [some (.ref b), some (.int 20)]) (st' := [.ref b]) (h' := (b + 1, ovl S b [.inr (4, [.inl .null])], I, L, Dd)) rfl ?_
  refine Ev.objI (bw_of 50 (by decide +kernel) (by decide +kernel)) (by omega) (by decide) dX4_init_1 ?_
  refine Ev.sg hX (sX4_init_4.sub 0 2) (pc' := 6) (ls' := [some (.ref b), some (.int 20)]) (st' := [.int 20, .ref b]) (h' := (b + 1, ovl S b [.inr (4, [.inl .null])], I, L, Dd)) rfl ?_
  refine Ev.if_ge (tgt := 13) dX4_init_6 (by decide) (fun b1 => ?_) (fun b1 => absurd (by decide) b1)
  refine Ev.sg hX (sX4_init_13.sub 0 1) (pc' := 14) (ls' := [some (.ref b), some (.int 20)]) (st' := [.int 20, .ref b]) (h' := (b + 1, ovl S b [.inr (4, [.inl .null])], I, L, Dd)) rfl ?_
  refine Ev.newI (n := 20) hX rfl (by omega) (Z0.z hz9) ⟨by omega, by omega⟩ (by show b + _ + 1 < BIG; omega) dX4_init_14 (by decide +kernel) ?_
  refine Ev.eqh (h' := (b + 2, ovl S b [.inr (4, [.inl .null]), .inl (.int, 20)], I, L, Dd)) (newS_ovl rfl) ?_
  show Ev _ _ _ _ _ _ 16 [some (.ref b), some (.int 20)] [.ref (b + 1), .ref b] (b + 2, ovl S b [.inr (4, [.inl .null]), .inl (.int, 20)], I, L, Dd)
  refine Ev.putR (j := 0) hX ci_X4 (by decide) (bw_of 51 (by decide +kernel) (by decide +kernel)) (Or.inr ⟨rfl, rfl, rfl⟩) ovl_b rfl (fun _ => rfl) (fun _ => rfl) dX4_init_16 ?_
  refine Ev.eqh (h' := (b + 2, ovl S b [.inr (4, [.inl (.ref (b + 1))]), .inl (.int, 20)], I, L, Dd)) (setF_b) ?_
  refine Ev.vret dX4_init_19 rfl ?_
  rfl
theorem c_Row_40 (hX : JXok X) (hd : 1 ≤ d) (hz9 : Z0 b I L Dd) (hB9 : b + 3 < BIG) : MT X d 1 40 jdX4_init [.ref b, .int 40] (b + 1, ovl S b [.inr (4, [.inl .null])], I, L, Dd) (fun R => R = .inl (none, (b + 2, ovl S b [.inr (4, [.inl (.ref (b + 1))]), .inl (.int, 40)], I, L, Dd))) := by
  refine MT.mk diX4_init.1 ?_
  refine Ev.sg hX (sX4_init_0.sub 0 1) (pc' := 1) (ls' := [some (.ref b), some (.int 40)]) (st' := [.ref b]) (h' := (b + 1, ovl S b [.inr (4, [.inl .null])], I, L, Dd)) rfl ?_
  refine Ev.objI (bw_of 50 (by decide +kernel) (by decide +kernel)) (by omega) (by decide) dX4_init_1 ?_
  refine Ev.sg hX (sX4_init_4.sub 0 2) (pc' := 6) (ls' := [some (.ref b), some (.int 40)]) (st' := [.int 40, .ref b]) (h' := (b + 1, ovl S b [.inr (4, [.inl .null])], I, L, Dd)) rfl ?_
  refine Ev.if_ge (tgt := 13) dX4_init_6 (by decide) (fun b1 => ?_) (fun b1 => absurd (by decide) b1)
  refine Ev.sg hX (sX4_init_13.sub 0 1) (pc' := 14) (ls' := [some (.ref b), some (.int 40)]) (st' := [.int 40, .ref b]) (h' := (b + 1, ovl S b [.inr (4, [.inl .null])], I, L, Dd)) rfl ?_
  refine Ev.newI (n := 40) hX rfl (by omega) (Z0.z hz9) ⟨by omega, by omega⟩ (by show b + _ + 1 < BIG; omega) dX4_init_14 (by decide +kernel) ?_
  refine Ev.eqh (h' := (b + 2, ovl S b [.inr (4, [.inl .null]), .inl (.int, 40)], I, L, Dd)) (newS_ovl rfl) ?_
  show Ev _ _ _ _ _ _ 16 [some (.ref b), some (.int 40)] [.ref (b + 1), .ref b] (b + 2, ovl S b [.inr (4, [.inl .null]), .inl (.int, 40)], I, L, Dd)
  refine Ev.putR (j := 0) hX ci_X4 (by decide) (bw_of 51 (by decide +kernel) (by decide +kernel)) (Or.inr ⟨rfl, rfl, rfl⟩) ovl_b rfl (fun _ => rfl) (fun _ => rfl) dX4_init_16 ?_
  refine Ev.eqh (h' := (b + 2, ovl S b [.inr (4, [.inl (.ref (b + 1))]), .inl (.int, 40)], I, L, Dd)) (setF_b) ?_
  refine Ev.vret dX4_init_19 rfl ?_
  rfl
theorem c_Row_64 (hX : JXok X) (hd : 1 ≤ d) (hz9 : Z0 b I L Dd) (hB9 : b + 3 < BIG) : MT X d 1 64 jdX4_init [.ref b, .int 64] (b + 1, ovl S b [.inr (4, [.inl .null])], I, L, Dd) (fun R => R = .inl (none, (b + 2, ovl S b [.inr (4, [.inl (.ref (b + 1))]), .inl (.int, 64)], I, L, Dd))) := by
  refine MT.mk diX4_init.1 ?_
  refine Ev.sg hX (sX4_init_0.sub 0 1) (pc' := 1) (ls' := [some (.ref b), some (.int 64)]) (st' := [.ref b]) (h' := (b + 1, ovl S b [.inr (4, [.inl .null])], I, L, Dd)) rfl ?_
  refine Ev.objI (bw_of 50 (by decide +kernel) (by decide +kernel)) (by omega) (by decide) dX4_init_1 ?_
  refine Ev.sg hX (sX4_init_4.sub 0 2) (pc' := 6) (ls' := [some (.ref b), some (.int 64)]) (st' := [.int 64, .ref b]) (h' := (b + 1, ovl S b [.inr (4, [.inl .null])], I, L, Dd)) rfl ?_
  refine Ev.if_ge (tgt := 13) dX4_init_6 (by decide) (fun b1 => ?_) (fun b1 => absurd (by decide) b1)
  refine Ev.sg hX (sX4_init_13.sub 0 1) (pc' := 14) (ls' := [some (.ref b), some (.int 64)]) (st' := [.int 64, .ref b]) (h' := (b + 1, ovl S b [.inr (4, [.inl .null])], I, L, Dd)) rfl ?_
  refine Ev.newI (n := 64) hX rfl (by omega) (Z0.z hz9) ⟨by omega, by omega⟩ (by show b + _ + 1 < BIG; omega) dX4_init_14 (by decide +kernel) ?_
  refine Ev.eqh (h' := (b + 2, ovl S b [.inr (4, [.inl .null]), .inl (.int, 64)], I, L, Dd)) (newS_ovl rfl) ?_
  show Ev _ _ _ _ _ _ 16 [some (.ref b), some (.int 64)] [.ref (b + 1), .ref b] (b + 2, ovl S b [.inr (4, [.inl .null]), .inl (.int, 64)], I, L, Dd)
  refine Ev.putR (j := 0) hX ci_X4 (by decide) (bw_of 51 (by decide +kernel) (by decide +kernel)) (Or.inr ⟨rfl, rfl, rfl⟩) ovl_b rfl (fun _ => rfl) (fun _ => rfl) dX4_init_16 ?_
  refine Ev.eqh (h' := (b + 2, ovl S b [.inr (4, [.inl (.ref (b + 1))]), .inl (.int, 64)], I, L, Dd)) (setF_b) ?_
  refine Ev.vret dX4_init_19 rfl ?_
  rfl
end CTO
