/-! the model: its small methods -/
theorem naI {x y : Int32} {a b : Nat} (h : x = nI a) (g : y = nI b) : x + y = nI (a + b) := by rw [h, g, nI_add]
theorem nmI {x y : Int32} {a b : Nat} (h : x = nI a) (g : y = nI b) : x * y = nI (a * b) := by rw [h, g, pk_mul]
theorem nsI {x y : Int32} {a b : Nat} (h : x = nI a) (g : y = nI b) (hb : b ≤ a) : x - y = nI (a - b) := by rw [h, g, nI_subN hb]
theorem Ev.eqst {X : JX} {M : JM} {d mc ms : Nat} {Q : JR → Prop} {pc : Nat} {ls : List (Option Value)} {st st' : List Value} {h : MH} (e : st = st') (k : Ev X M d mc ms Q pc ls st' h) : Ev X M d mc ms Q pc ls st h := e ▸ k
theorem Ev.eqh {X : JX} {M : JM} {d mc ms : Nat} {Q : JR → Prop} {pc : Nat} {ls : List (Option Value)} {st : List Value} {h h' : MH} (e : h = h') (k : Ev X M d mc ms Q pc ls st h') : Ev X M d mc ms Q pc ls st h := e ▸ k
abbrev tkM (I : HI) (t : Int32) : Prop := 0 ≤ t ∧ t ≤ I 397 0 - 1
abbrev lkM (I : HI) (a b : Nat) : Prop := (I 397 (23 + a) >>> (nI b &&& 31)) &&& 1 = 1
/-- 179 entries of a from x to b from y -/
def cpM (I : HI) (a x b y : Nat) : HI := fun c j => if c = b then (if y ≤ j ∧ j < y + 179 then I a (x + (j - y)) else I b j) else I c j
def cpK (I : HI) (a x b y k : Nat) : HI := fun c j => if c = b then (if y ≤ j ∧ j < y + k then I a (x + (j - y)) else I b j) else I c j
theorem cpK_0 {I : HI} {a x b y : Nat} : cpK I a x b y 0 = I := by
  funext c j
  unfold cpK
  split
  · rename_i h
    rw [if_neg (by omega), h]
  · rfl
theorem cpK_s {I : HI} {a x b y k : Nat} (hab : a ≠ b) : up2 (cpK I a x b y k) b (y + k) (cpK I a x b y k a (x + k)) = cpK I a x b y (k + 1) := by
  funext c j
  unfold up2 cpK
  by_cases hc : c = b
  · by_cases hj : j = y + k
    · subst hj
      simp only [hc, and_self, if_true, if_neg hab]
      rw [if_pos (by omega), show y + k - y = k by omega]
    · simp only [hc, hj, and_false, if_false, if_true]
      by_cases h1 : y ≤ j ∧ j < y + k
      · rw [if_pos h1, if_pos (by omega)]
      · rw [if_neg h1, if_neg (by omega)]
  · simp only [hc, false_and, if_false]
theorem cpM_ne {I : HI} {a x b y c : Nat} (h : c ≠ b) : cpM I a x b y c = I c := by
  funext j
  rw [cpM, if_neg h]
section MOD
variable {X : JX} {d N v : Nat} {T : Nat → Option JS} {I : Nat → Nat → Int32} {L : Nat → Nat → Int64} {Dd : Nat → Nat → UInt64} {c e i0 lo hi : Int32}
theorem m_thrown (hX : JXok X) (hd : 0 ≤ d) : MT X d 0 0 jdX7_thrown [.ref 396] (N, SH v T, I, L, Dd) (fun R => R = .inl (some (.int (I 396 12)), (N, SH v T, I, L, Dd))) := by
  refine MT.mk dvX7_thrown.1 ?_
  refine Ev.sg hX sX7_thrown_0 (pc' := 4) (ls' := [some (.ref 396)]) (st' := [.int (I 396 12)]) (h' := (N, SH v T, I, L, Dd)) rfl ?_
  refine Ev.iret dX7_thrown_4 rfl ?_
  rfl
theorem m_in {h : MH} (hX : JXok X) (hd : 0 ≤ d) : MT X d 0 0 jdX7_in [.int c, .int lo, .int hi] h (fun R => R = .inl (some (.int (bi (lo ≤ c ∧ c ≤ hi))), h)) := by
  refine MT.mk dsX7_in.1 ?_
  refine Ev.sg hX sX7_in_0 (pc' := 2) (ls' := [some (.int c), some (.int lo), some (.int hi)]) (st' := [.int lo, .int c]) (h' := h) rfl ?_
  refine Ev.icmp_lt (tgt := 14) dX7_in_2 (by decide) (fun b1 => ?_) (fun b1 => ?_)
  · refine Ev.sg hX sX7_in_14 (pc' := 15) (ls' := [some (.int c), some (.int lo), some (.int hi)]) (st' := [.int 0]) (h' := h) rfl ?_
    refine Ev.zret dX7_in_15 rfl ?_ ?_
    · rfl
    simp [bi, Int32.not_le.mpr b1]
  · refine Ev.sg hX sX7_in_5 (pc' := 7) (ls' := [some (.int c), some (.int lo), some (.int hi)]) (st' := [.int hi, .int c]) (h' := h) rfl ?_
    refine Ev.icmp_gt (tgt := 14) dX7_in_7 (by decide) (fun b2 => ?_) (fun b2 => ?_)
    · refine Ev.sg hX sX7_in_14 (pc' := 15) (ls' := [some (.int c), some (.int lo), some (.int hi)]) (st' := [.int 0]) (h' := h) rfl ?_
      refine Ev.zret dX7_in_15 rfl ?_ ?_
      · rfl
      simp [bi, Int32.not_lt.mp b1, Int32.not_le.mpr b2]
    · refine Ev.sg hX sX7_in_10 (pc' := 15) (ls' := [some (.int c), some (.int lo), some (.int hi)]) (st' := [.int 1]) (h' := h) rfl ?_
      refine Ev.zret dX7_in_15 rfl ?_ ?_
      · rfl
      simp [bi, Int32.not_lt.mp b1, Int32.not_lt.mp b2]
theorem m_done (hX : JXok X) (hd : 0 ≤ d) : MT X d 0 0 jdX7_done [.ref 396, .int c] (N, SH v T, I, L, Dd) (fun R => R = .inl (some (.int (c)), (N, SH v T, up2 I 396 12 0, L, Dd))) := by
  refine MT.mk dvX7_done.1 ?_
  refine Ev.sg hX sX7_done_0 (pc' := 6) (ls' := [some (.ref 396), some (.int c)]) (st' := [.int c]) (h' := (N, SH v T, up2 I 396 12 0, L, Dd)) rfl ?_
  refine Ev.iret dX7_done_6 rfl ?_
  rfl
theorem m_fails (hX : JXok X) (hd : 0 ≤ d) : MT X d 0 0 jdX7_fails [.ref 396, .int c] (N, SH v T, I, L, Dd) (fun R => R = .inl (some (.int (0)), (N, SH v T, up2 I 396 12 c, L, Dd))) := by
  refine MT.mk dvX7_fails.1 ?_
  refine Ev.sg hX sX7_fails_0 (pc' := 6) (ls' := [some (.ref 396), some (.int c)]) (st' := [.int 0]) (h' := (N, SH v T, up2 I 396 12 c, L, Dd)) rfl ?_
  refine Ev.iret dX7_fails_6 rfl ?_
  rfl
theorem l_mcopy {a b x y na nb : Nat} (hX : JXok X) (hd : 0 ≤ d) (hab : a ≠ b) (hsa : SH v T a = some (.inl (.int, na))) (hsb : SH v T b = some (.inl (.int, nb))) (hna : na ≤ 100000) (hnb : nb ≤ 100000) (hx : x + 179 ≤ na) (hy : y + 179 ≤ nb) : ∀ (n k : Nat), k + n = 179 → Ev X (jm jdX7_copy) d 0 0 (fun R => R = .inl (none, (N, SH v T, cpM I a x b y, L, Dd))) 3 [some (.ref a), some (.int (nI x)), some (.ref b), some (.int (nI y)), some (.int (nI k))] [] (N, SH v T, cpK I a x b y k, L, Dd) := by
  intro n
  induction n with
  | zero =>
    intro k hk
    refine Ev.sg hX sX7_copy_3 (pc' := 8) (ls' := [some (.ref a), some (.int (nI x)), some (.ref b), some (.int (nI y)), some (.int (nI k))]) (st' := [.int 179, .int (nI k)]) (h' := (N, SH v T, cpK I a x b y k, L, Dd)) rfl ?_
    refine Ev.icmp_ge (tgt := 29) dX7_copy_8 (by decide) (fun b1 => ?_) (fun b1 => ?_)
    · refine Ev.vret dX7_copy_29 rfl ?_
      (rw [show k = 179 by omega]; rfl)
    · exact absurd ((nI_leI (a := 179) (b := k) (by decide) (by omega)).mpr (by omega)) b1
  | succ n ih =>
    intro k hk
    refine Ev.sg hX sX7_copy_3 (pc' := 8) (ls' := [some (.ref a), some (.int (nI x)), some (.ref b), some (.int (nI y)), some (.int (nI k))]) (st' := [.int 179, .int (nI k)]) (h' := (N, SH v T, cpK I a x b y k, L, Dd)) rfl ?_
    refine Ev.icmp_ge (tgt := 29) dX7_copy_8 (by decide) (fun b1 => ?_) (fun b1 => ?_)
    · exact absurd ((nI_leI (a := 179) (b := k) (by decide) (by omega)).mp b1) (by omega)
    · refine Ev.sg hX sX7_copy_11 (pc' := 21) (ls' := [some (.ref a), some (.int (nI x)), some (.ref b), some (.int (nI y)), some (.int (nI k))]) (st' := [.int ((nI x) + (nI k)), .ref a, .int ((nI y) + (nI k)), .ref b]) (h' := (N, SH v T, cpK I a x b y k, L, Dd)) rfl ?_
      refine Ev.ialdE (n := x + k) (N := na) hsa (naI rfl rfl) (by omega) hna dX7_copy_21 ?_
      show Ev _ _ _ _ _ _ 22 [some (.ref a), some (.int (nI x)), some (.ref b), some (.int (nI y)), some (.int (nI k))] [.int (cpK I a x b y k a (x + k)), .int ((nI y) + (nI k)), .ref b] (N, SH v T, cpK I a x b y k, L, Dd)
      refine Ev.iastE (n := y + k) (N := nb) hX hsb (naI rfl rfl) (by omega) hnb dX7_copy_22 ?_
      show Ev _ _ _ _ _ _ 23 [some (.ref a), some (.int (nI x)), some (.ref b), some (.int (nI y)), some (.int (nI k))] [] (N, SH v T, up2 (cpK I a x b y k) b (y + k) (cpK I a x b y k a (x + k)), L, Dd)
      refine Ev.sg hX sX7_copy_23 (pc' := 3) (ls' := [some (.ref a), some (.int (nI x)), some (.ref b), some (.int (nI y)), some (.int ((nI k) + 1))]) (st' := []) (h' := (N, SH v T, up2 (cpK I a x b y k) b (y + k) (cpK I a x b y k a (x + k)), L, Dd)) rfl ?_
      rw [nI_1]
      refine Ev.eqh (h' := (N, SH v T, cpK I a x b y (k + 1), L, Dd)) (congrArg (fun z => (N, SH v T, z, L, Dd)) (cpK_s hab)) ?_
      exact ih (k + 1) (by omega)
theorem m_copy {a b x y na nb : Nat} (hX : JXok X) (hd : 0 ≤ d) (hab : a ≠ b) (hsa : SH v T a = some (.inl (.int, na))) (hsb : SH v T b = some (.inl (.int, nb))) (hna : na ≤ 100000) (hnb : nb ≤ 100000) (hx : x + 179 ≤ na) (hy : y + 179 ≤ nb) : MT X d 0 0 jdX7_copy [.ref a, .int (nI x), .ref b, .int (nI y)] (N, SH v T, I, L, Dd) (fun R => R = .inl (none, (N, SH v T, cpM I a x b y, L, Dd))) := by
  refine MT.mk dsX7_copy.1 ?_
  refine Ev.sg hX sX7_copy_0 (pc' := 3) (ls' := [some (.ref a), some (.int (nI x)), some (.ref b), some (.int (nI y)), some (.int 0)]) (st' := []) (h' := (N, SH v T, I, L, Dd)) rfl ?_
  refine Ev.eqh (h' := (N, SH v T, cpK I a x b y 0, L, Dd)) (congrArg (fun z => (N, SH v T, z, L, Dd)) cpK_0.symm) ?_
  exact l_mcopy hX hd hab hsa hsb hna hnb hx hy 179 0 rfl
end MOD
