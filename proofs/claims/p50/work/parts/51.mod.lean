/-! the model: its small methods -/
theorem naI {x y : Int32} {a b : Nat} (h : x = nI a) (g : y = nI b) : x + y = nI (a + b) := by rw [h, g, nI_add]
theorem nmI {x y : Int32} {a b : Nat} (h : x = nI a) (g : y = nI b) : x * y = nI (a * b) := by rw [h, g, pk_mul]
theorem nsI {x y : Int32} {a b : Nat} (h : x = nI a) (g : y = nI b) (hb : b ≤ a) : x - y = nI (a - b) := by rw [h, g, nI_subN hb]
theorem Ev.eqst {X : JX} {M : JM} {d mc ms : Nat} {Q : JR → Prop} {pc : Nat} {ls : List (Option Value)} {st st' : List Value} {h : MH} (e : st = st') (k : Ev X M d mc ms Q pc ls st' h) : Ev X M d mc ms Q pc ls st h := e ▸ k
theorem Ev.eqh {X : JX} {M : JM} {d mc ms : Nat} {Q : JR → Prop} {pc : Nat} {ls : List (Option Value)} {st : List Value} {h h' : MH} (e : h = h') (k : Ev X M d mc ms Q pc ls st h') : Ev X M d mc ms Q pc ls st h := e ▸ k
abbrev tkM (I : HI) (t : Int32) : Prop := 0 ≤ t ∧ t ≤ I 397 0 - 1
abbrev lkM (I : HI) (a b : Nat) : Prop := (I 397 (23 + a) >>> (nI b &&& 31)) &&& 1 = 1
/-- 179 entries of a from x to b from y -/
def cpM (I : HI) (a x b y : Nat) : HI := fun c j => if c = b then (if y ≤ j ∧ j < y + 179 then I a (x + (j - y)) else I b j) else I c j
def cpK (I : HI) (a x b y k : Nat) : HI := fun c j => if c = b then (if y ≤ j ∧ j < y + k then I a (x + (j - y)) else I b j) else I c j
theorem cpK_0 {I : HI} {a x b y : Nat} : cpK I a x b y 0 = I := by
  funext c j
  unfold cpK
  split
  · rename_i h
    rw [if_neg (by omega), h]
  · rfl
theorem cpK_s {I : HI} {a x b y k : Nat} (hab : a ≠ b) : up2 (cpK I a x b y k) b (y + k) (cpK I a x b y k a (x + k)) = cpK I a x b y (k + 1) := by
  funext c j
  unfold up2 cpK
  by_cases hc : c = b
  · by_cases hj : j = y + k
    · subst hj
      simp only [hc, and_self, if_true, if_neg hab]
      rw [if_pos (by omega), show y + k - y = k by omega]
    · simp only [hc, hj, and_false, if_false, if_true]
      by_cases h1 : y ≤ j ∧ j < y + k
      · rw [if_pos h1, if_pos (by omega)]
      · rw [if_neg h1, if_neg (by omega)]
  · simp only [hc, false_and, if_false]
theorem cpM_ne {I : HI} {a x b y c : Nat} (h : c ≠ b) : cpM I a x b y c = I c := by
  funext j
  rw [cpM, if_neg h]
section MOD
variable {X : JX} {d N v : Nat} {T : Nat → Option JS} {I : Nat → Nat → Int32} {L : Nat → Nat → Int64} {Dd : Nat → Nat → UInt64} {c e i0 lo hi : Int32}
end MOD
