/-! the model: queries about cars, totals, undo, saved states -/
def slP (I : HI) (m : Nat) (c : Int32) (f : Nat → Int32) : Int32 × HI := if slOM I m c = -1 then (0, up2 I 396 12 1) else (f (slOM I m c).toNatClampNeg, up2 I 396 12 0)
def cfS (I : HI) (c : Int32) : Nat → Int32 → Int32 := fun k acc => acc + (if I 397 (99 + k) = c then 1 else 0)
abbrev cahM (I : HI) (a b : Nat) : Prop := 0 < I 397 (99 + b) - I 397 (99 + a) ∨ (I 397 (99 + b) - I 397 (99 + a) = 0 ∧ (0 < I 397 (79 + a) - I 397 (79 + b) ∨ (I 397 (79 + a) - I 397 (79 + b) = 0 ∧ I 397 (39 + a) < I 397 (39 + b))))
def crS (I : HI) (y : Nat) : Nat → Int32 → Int32 := fun k acc => acc + (if cahM I k y then 1 else 0)
def crP (I : HI) (m : Nat) (c : Int32) : Nat → Nat → Int32 × HI
  | 0, _ => (0, up2 I 396 12 1)
  | n + 1, k => if fo (crS I k) m 0 0 = c then (I 397 (39 + k), up2 I 396 12 0) else crP I m c n (k + 1)
def usS (I : HI) (m : Nat) : Nat → Int32 × Int32 → Int32 × Int32 := fun k u => (u.1 + smM I m (nI k) 59, u.2 + I 397 (7 + k))
section MODB
variable {X : JX} {d N v : Nat} {T : Nat → Option JS} {I : Nat → Nat → Int32} {L : Nat → Nat → Int64} {Dd : Nat → Nat → UInt64} {a b c e i0 t dd le we de i : Int32} {m z x y y1 y2 q c0 s n ch : Nat}
theorem slOM_congr {I J : HI} {m : Nat} {c : Int32} (h : J 397 = I 397) : slOM J m c = slOM I m c := by unfold slOM; rw [h]
def restM (I : HI) : HI := if I 396 5 = 0 then up2 I 396 12 1 else up2 (cpM (up2 I 396 12 0) 400 0 397 0) 396 3 0
def undM (I : HI) (ch : Nat) : Int32 × HI := if ch = 0 then (0, up2 I 396 12 1) else (nI (ch - 1), up2 (cpM (up2 I 396 3 (nI (ch - 1))) 399 ((ch - 1) * 179) 397 0) 396 12 0)
end MODB
