/-! the model: queries about tracks -/
def dnM (p : Prop) [Decidable p] (c : Int32) (I : HI) (e : Int32) : Int32 × HI := if p then (c, up2 I 396 12 0) else (0, up2 I 396 12 e)
theorem dnM_t {p : Prop} [Decidable p] {c e : Int32} {I : HI} (h : p) : dnM p c I e = (c, up2 I 396 12 0) := if_pos h
theorem dnM_f {p : Prop} [Decidable p] {c e : Int32} {I : HI} (h : ¬ p) : dnM p c I e = (0, up2 I 396 12 e) := if_neg h
def paS (I : HI) (m x i : Nat) : Nat → Int32 → Int32 := fun j acc => acc + (if I 397 (99 + (slAM I m (nI x) (nI j)).toNatClampNeg) < I 397 (99 + (slAM I m (nI x) (nI i)).toNatClampNeg) then 1 else 0)
def paM (I : HI) (m x c0 : Nat) : Int32 := fo (fun i acc => fo (paS I m x i) i 0 acc) c0 0 0
abbrev ahM (I : HI) (m a b : Nat) : Prop := 0 < roM I m a - roM I m b ∨ (roM I m a - roM I m b = 0 ∧ (0 < I 397 (15 + b) - I 397 (15 + a) ∨ (I 397 (15 + b) - I 397 (15 + a) = 0 ∧ nI a < nI b)))
section MOD8
variable {X : JX} {d N v : Nat} {T : Nat → Option JS} {I : Nat → Nat → Int32} {L : Nat → Nat → Int64} {Dd : Nat → Nat → UInt64} {a b c e i0 t dd le we de : Int32} {m z x y q c0 s n ch : Nat}
def carAtM (I : HI) (m : Nat) (t c : Int32) : Int32 × HI := if ¬ tkM I t then (0, up2 I 396 12 1) else dnM (0 ≤ c ∧ c ≤ I 397 (31 + t.toNatClampNeg) - 1) (I 397 (39 + (slAM I m t c).toNatClampNeg)) I 2
def srtM (I : HI) (m : Nat) (t : Int32) : Int32 × HI := if tkM I t then (bi ((paM I m t.toNatClampNeg (I 397 (31 + t.toNatClampNeg)).toNatClampNeg) = 0), up2 I 396 12 0) else (0, up2 I 396 12 1)
end MOD8
