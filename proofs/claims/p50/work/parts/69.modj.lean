/-! the model: floats -/
section MODP
variable {X : JX} {d N v : Nat} {T : Nat → Option JS} {I : Nat → Nat → Int32} {L : Nat → Nat → Int64} {Dd : Nat → Nat → UInt64} {c e i0 t : Int32} {m z x q c0 s k : Nat}
def meanM (I : HI) : UInt64 × HI := if I 397 3 = 0 then (FP.dconst0, up2 I 396 12 1) else (FP.ddiv (FP.i2d (I 397 5)) (FP.i2d (I 397 3)), up2 I 396 12 0)
def shareM (I : HI) (m z : Nat) : UInt32 × HI := if z = 0 then (FP.fconst0, up2 I 396 12 1) else (FP.fdiv (FP.i2f (fo (usS I m) z 0 (0, 0)).1) (FP.i2f (fo (usS I m) z 0 (0, 0)).2), up2 I 396 12 0)
end MODP
