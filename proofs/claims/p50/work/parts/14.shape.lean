/-! the shape of the heap behind the law's start: the class's object is 0, its yard 1 to 35, and so on; v: the bytes of the text line; T: what came later -/
abbrev yL (b : Nat) : List JS := [.inr (5, [.inl (.ref (b + 1)), .inl (.ref (b + 3)), .inl (.ref (b + 5)), .inl (.ref (b + 14)), .inr true, .inr false, .inr false, .inr true]),
  .inr (4, [.inl (.ref (b + 2))]),
  .inl (.int, 8),
  .inr (4, [.inl (.ref (b + 4))]),
  .inl (.int, 8),
  .inr (2, [.inr false, .inr false, .inl (.ref (b + 6)), .inl (.ref (b + 8)), .inl (.ref (b + 10)), .inl (.ref (b + 12))]),
  .inr (4, [.inl (.ref (b + 7))]),
  .inl (.int, 64),
  .inr (4, [.inl (.ref (b + 9))]),
  .inl (.int, 8),
  .inr (4, [.inl (.ref (b + 11))]),
  .inl (.int, 8),
  .inr (4, [.inl (.ref (b + 13))]),
  .inl (.int, 64),
  .inr (0, [.inr false, .inr false, .inl (.ref (b + 15)), .inl (.ref (b + 17)), .inl (.ref (b + 19)), .inl (.ref (b + 21)), .inl (.ref (b + 23)), .inl (.ref (b + 25)), .inl (.ref (b + 27)), .inl (.ref (b + 29)), .inl (.ref (b + 31)), .inl (.ref (b + 33))]),
  .inr (4, [.inl (.ref (b + 16))]),
  .inl (.int, 20),
  .inr (4, [.inl (.ref (b + 18))]),
  .inl (.int, 20),
  .inr (4, [.inl (.ref (b + 20))]),
  .inl (.int, 20),
  .inr (4, [.inl (.ref (b + 22))]),
  .inl (.int, 20),
  .inr (4, [.inl (.ref (b + 24))]),
  .inl (.int, 20),
  .inr (4, [.inl (.ref (b + 26))]),
  .inl (.int, 20),
  .inr (4, [.inl (.ref (b + 28))]),
  .inl (.int, 20),
  .inr (4, [.inl (.ref (b + 30))]),
  .inl (.int, 8),
  .inr (4, [.inl (.ref (b + 32))]),
  .inl (.int, 8),
  .inr (4, [.inl (.ref (b + 34))]),
  .inl (.int, 20)]
def h0L : List JS := [.inr (1, [.inl (.ref 72), .inr false, .inr false, .inl (.ref 73), .inr false]), .inr (999, [.inl (.ref 108), .inl (.ref 143), .inl (.ref 178), .inl (.ref 213), .inl (.ref 248), .inl (.ref 283), .inl (.ref 318), .inl (.ref 353)])]
def p0L (v : Nat) : List JS := [.inr (3, [.inl (.ref 389), .inr false, .inr false, .inl (.ref 390), .inl (.ref 392), .inr false, .inr false]),
  .inl (.char, 60),
  .inr (4, [.inl (.ref 391)]),
  .inl (.int, 8),
  .inr (4, [.inl (.ref 393)]),
  .inl (.int, 40),
  .inr (8, [.inl (.ref v), .inr false, .inr false, .inr false]),
  .inl (.byte, 16)]
def x0S : JS := .inr (6, [.inl (.ref 1), .inl (.ref 36), .inl (.ref 71), .inl (.ref 388), .inl (.ref 394), .inr false, .inr false])
def SH (v : Nat) (T : Nat → Option JS) : Nat → Option JS := fun k =>
  if k = 0 then some x0S
  else if k < 71 then (yL (1 + 35 * ((k - 1) / 35)))[(k - 1) % 35]?
  else if k < 73 then h0L[k - 71]?
  else if k < 388 then (yL (73 + 35 * ((k - 73) / 35)))[(k - 73) % 35]?
  else if k < 396 then (p0L v)[k - 388]?
  else T k


theorem SH_test (v : Nat) (T : Nat → Option JS) : SH v T 22 = some (.inr (4, [.inl (.ref 23)])) ∧ SH v T 15 = some (.inr (0, [.inr false, .inr false, .inl (.ref 16), .inl (.ref 18), .inl (.ref 20), .inl (.ref 22), .inl (.ref 24), .inl (.ref 26), .inl (.ref 28), .inl (.ref 30), .inl (.ref 32), .inl (.ref 34)])) := ⟨rfl, rfl⟩
