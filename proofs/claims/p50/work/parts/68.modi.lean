/-! the model: the text line of a track; floats -/
section MODN
variable {X : JX} {d N v : Nat} {T : Nat → Option JS} {I : Nat → Nat → Int32} {L : Nat → Nat → Int64} {Dd : Nat → Nat → UInt64} {c e i0 t : Int32} {m z x q c0 s k num de sl us ca : Nat} {W : List Int32}
def wtM (I : HI) (m : Nat) (t : Int32) : Int32 × HI := if ¬ tkM I t then (0, up2 I 396 12 1) else (nI (trkTM I m t.toNatClampNeg (I 397 (31 + t.toNatClampNeg)).toNatClampNeg).length, up2 (LW I (trkTM I m t.toNatClampNeg (I 397 (31 + t.toNatClampNeg)).toNatClampNeg)) 396 12 0)
end MODN
