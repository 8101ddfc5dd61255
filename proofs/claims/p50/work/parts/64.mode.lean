/-! the model: a command by its first letter -/
theorem look_no {c : Int32} (h1 : ¬ c = 116) (h2 : ¬ c = 115) (h3 : ¬ c = 99) (h4 : ¬ c = 114) : Op.lookupswitch.offset [(99, 57), (114, 65), (115, 49), (116, 41)] 105 c.toInt = 105 := by
  have t : ∀ x : Int32, ¬ c = x → ¬ c.toInt = x.toInt := fun x hx e => hx (Int32.toInt_inj.mp e)
  have g1 := t 116 h1
  have g2 := t 115 h2
  have g3 := t 99 h3
  have g4 := t 114 h4
  rw [show (116 : Int32).toInt = 116 from rfl] at g1
  rw [show (115 : Int32).toInt = 115 from rfl] at g2
  rw [show (99 : Int32).toInt = 99 from rfl] at g3
  rw [show (114 : Int32).toInt = 114 from rfl] at g4
  simp [Op.lookupswitch.offset, g1, g2, g3, g4, Ne.symm g1, Ne.symm g2, Ne.symm g3, Ne.symm g4]
section PMO
variable {X : JX} {d N v : Nat} {T : Nat → Option JS} {I : Nat → Nat → Int32} {L : Nat → Nat → Int64} {Dd : Nat → Nat → UInt64} {q k n : Nat} {c e : Int32} {s : MS}
end PMO
