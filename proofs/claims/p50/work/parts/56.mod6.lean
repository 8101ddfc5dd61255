/-! the model: departures; the calls that change -/
def dpS (m x : Nat) : Nat → HI → HI := fun k J => lvM J (m - k) (feM J (m - k) x 0).toNatClampNeg
def okDp (m x : Nat) : Nat → Nat → HI → Prop
  | 0, _, _ => True
  | n + 1, k, J => (∃ s t9, s < m - k ∧ feM J (m - k) x 0 = nI s ∧ t9 < 8 ∧ J 397 (139 + s) = nI t9) ∧ okDp m x n (k + 1) (dpS m x k J)
def trN (I : HI) (m x : Nat) : Int32 := trM I m x (I 397 (31 + x)).toNatClampNeg 0
def depM (I : HI) (m : Nat) (t dd : Int32) : Int32 × HI := if ¬ tkM I t then (0, up2 I 396 12 1) else if ¬ (0 ≤ dd ∧ dd ≤ 9) then (0, up2 I 396 12 2) else if I 397 (31 + t.toNatClampNeg) = 0 ∨ ¬ I 397 (99 + (feM I m t.toNatClampNeg 0).toNatClampNeg) = dd then (0, up2 I 396 12 3)
  else if ¬ fo (baS I m t.toNatClampNeg) (trN I m t.toNatClampNeg).toNatClampNeg 0 0 = 0 then (0, up2 I 396 12 4) else (trN I m t.toNatClampNeg, up2 (fo (dpS m t.toNatClampNeg) (trN I m t.toNatClampNeg).toNatClampNeg 0 I) 396 12 0)
section MOD6
variable {X : JX} {d N v : Nat} {T : Nat → Option JS} {I : Nat → Nat → Int32} {L : Nat → Nat → Int64} {Dd : Nat → Nat → UInt64} {a b c e i0 t dd le we de : Int32} {m z x y q c0 s n : Nat}
end MOD6
