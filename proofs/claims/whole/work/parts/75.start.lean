/-! the heap at the law's loop has the fixed shape -/
theorem ovl_nil {S : Nat → Option JS} {b : Nat} : ovl S b [] = S := by
  funext i
  unfold ovl
  exact if_neg (fun z => by have := z.2; rw [List.length_nil] at this; omega)
abbrev mdL (b : Nat) : List JS := [.inr (7, [.inl (.ref (b + 1)), .inl (.ref (b + 2)), .inl (.ref (b + 3)), .inr false, .inl (.ref (b + 4)), .inr false, .inl (.ref (b + 5)), .inr false, .inr false, .inr false, .inl (.ref (b + 6)), .inr false, .inr false, .inl (.ref (b + 7)), .inr false, .inr false, .inl (.ref (b + 8))]), .inl (.int, 179), .inl (.int, 179), .inl (.int, 1432), .inl (.int, 179), .inl (.char, 60), .inl (.char, 300), .inl (.int, 8), .inl (.int, 360)]
abbrev L405 : List JS := klL 0 ++ mdL 396
abbrev L407 : List JS := L405 ++ [.inl (.long, 1), .inl (.double, 1)]
set_option maxRecDepth 100000 in
theorem L407_at : (List.range 407).map (fun k => L407[k]?) = (List.range 407).map (SH 395 (fun _ => none)) := by decide +kernel
set_option maxRecDepth 100000 in
theorem L407_len : L407.length = 407 := by decide +kernel
theorem ovl_start : ovl (fun _ => none) 0 L407 = SH 395 (fun _ => none) := by
  funext k
  unfold ovl
  rw [L407_len]
  by_cases h : k < 407
  · rw [if_pos ⟨Nat.zero_le _, by omega⟩, Nat.sub_zero]
    have e := congrArg (fun (l : List (Option JS)) => l[k]?) L407_at
    simp only [List.getElem?_map, List.getElem?_range h, Option.map_some] at e
    exact Option.some.inj e
  · rw [if_neg (by omega)]
    unfold SH
    rw [if_neg (by omega), if_neg (by omega), if_neg (by omega), if_neg (by omega), if_neg (by omega)]
