/-! the model: reading a program -/
abbrev MS : Type := Nat × Int32 × (Nat → Int32)
def PM (I : HI) (s : MS) : HI := fun a j => if a = 396 then (if j = 14 then nI s.1 else if j = 15 then s.2.1 else I 396 j) else if a = 404 then s.2.2 j else I a j
def wr (s : MS) (i : Nat) (x : Int32) : MS := (s.1, s.2.1, upV s.2.2 i x)
section PML
variable {I : HI} {p : Nat} {w x : Int32} {P : Nat → Int32} {i : Nat} {s : MS}
theorem PM_sp {j : Nat} : up2 (PM I s) 396 14 (nI j) = PM I (j, s.2) := by
  funext a k
  unfold up2 PM
  by_cases ha : a = 396
  · by_cases hj : k = 14 <;> simp [ha, hj]
  · simp [ha]
theorem PM_w : up2 (PM I s) 396 15 x = PM I (s.1, x, s.2.2) := by
  funext a k
  unfold up2 PM
  by_cases ha : a = 396
  · by_cases hj : k = 15
    · simp [ha, hj]
    · by_cases h14 : k = 14 <;> simp [ha, hj, h14]
  · simp [ha]
theorem PM_P : up2 (PM I s) 404 i x = PM I (wr s i x) := by
  funext a k
  unfold up2 PM wr upV
  by_cases ha : a = 404
  · by_cases hj : k = i <;> simp [ha, hj]
  · simp [ha]
end PML
def nd (tx : Nat → Int32) (q : Nat) (c : Int32) (s : MS) : MS := if s.2.1 = 0 ∧ chA tx q s.1 = c then (s.1 + 1, 0, s.2.2) else (s.1, 1, s.2.2)
def dOK (tx : Nat → Int32) (q : Nat) (c : Int32) (s : MS) : Prop := (nd tx q c s).2.1 = 0 ∧ (48 ≤ chA tx q (nd tx q c s).1 ∧ chA tx q (nd tx q c s).1 ≤ 57)
abbrev dv (tx : Nat → Int32) (q : Nat) (c : Int32) (n : Nat) (s : MS) : Int32 := if (nd tx q c s).2.1 = 0 ∧ (48 ≤ chA tx q (nd tx q c s).1 ∧ chA tx q (nd tx q c s).1 ≤ 57) then (dgF tx q n (nd tx q c s).1 0).2 else 0
def dd9 (tx : Nat → Int32) (q : Nat) (c : Int32) (n : Nat) (s : MS) : MS := if (nd tx q c s).2.1 = 0 ∧ (48 ≤ chA tx q (nd tx q c s).1 ∧ chA tx q (nd tx q c s).1 ≤ 57) then ((dgF tx q n (nd tx q c s).1 0).1, 0, s.2.2) else ((nd tx q c s).1, 1, s.2.2)
def dw (tx : Nat → Int32) (q : Nat) (c : Int32) (n i : Nat) (s : MS) : MS := wr (dd9 tx q c n s) i (dv tx q c n s)
def pP (tx : Nat → Int32) (q k : Nat) (s : MS) : MS := dw tx q 45 1 (k + 2) (dw tx q 32 1 (k + 1) s)
def pT (tx : Nat → Int32) (q k : Nat) (s : MS) : MS := dw tx q 32 1 (k + 2) (if (nd tx q 97 (nd tx q 114 s)).2.1 = 0 ∧ chA tx q (nd tx q 97 (nd tx q 114 s)).1 = 105 then dw tx q 32 1 (k + 1) (nd tx q 110 (nd tx q 105 (wr (nd tx q 97 (nd tx q 114 s)) k 105))) else dw tx q 32 2 (k + 1) (nd tx q 107 (nd tx q 99 (nd tx q 97 (nd tx q 114 s)))))
def pS (tx : Nat → Int32) (q k : Nat) (s : MS) : MS := if chA tx q s.1 = 104 then dw tx q 32 1 (k + 3) (dw tx q 62 1 (k + 2) (dw tx q 32 1 (k + 1) (nd tx q 116 (nd tx q 110 (nd tx q 117 (nd tx q 104 (wr s k 104))))))) else pP tx q k (nd tx q 104 (nd tx q 99 (nd tx q 116 (nd tx q 105 (nd tx q 119 s)))))
def pC5 (tx : Nat → Int32) (q k : Nat) (s : MS) : MS := dw tx q 32 1 (k + 4) (dw tx q 32 2 (k + 3) (dw tx q 32 2 (k + 2) (dw tx q 32 1 (k + 1) (nd tx q 114 (nd tx q 97 s)))))
def pC (tx : Nat → Int32) (q k : Nat) (s : MS) : MS := if chA tx q s.1 = 117 then pP tx q k (nd tx q 116 (nd tx q 117 (wr s k 117))) else if (pC5 tx q k s).2.1 = 0 ∧ chA tx q (pC5 tx q k s).1 = 33 then ((pC5 tx q k s).1 + 1, (pC5 tx q k s).2.1, upV (pC5 tx q k s).2.2 (k + 5) 1) else wr (pC5 tx q k s) (k + 5) 0
def pX (tx : Nat → Int32) (q k : Nat) (s : MS) : MS := if chA tx q s.1 = 116 then pT tx q k (s.1 + 1, s.2.1, upV s.2.2 k 116) else if chA tx q s.1 = 115 then pS tx q k (s.1 + 1, s.2.1, upV s.2.2 k 115) else if chA tx q s.1 = 99 then pC tx q k (s.1 + 1, s.2.1, upV s.2.2 k 99)
  else if chA tx q s.1 = 114 then dw tx q 32 2 (k + 1) (nd tx q 114 (nd tx q 105 (nd tx q 97 (nd tx q 112 (nd tx q 101 (s.1 + 1, s.2.1, upV s.2.2 k 114)))))) else (s.1, 1, upV s.2.2 k (chA tx q s.1))
section PMB
variable {tx : Nat → Int32} {q k n i B : Nat} {c x : Int32} {s : MS}
theorem nd_b (h : s.1 ≤ B) : (nd tx q c s).1 ≤ B + 1 := by
  unfold nd
  split
  · exact Nat.succ_le_succ h
  · exact Nat.le_succ_of_le h
theorem dd_b (h : s.1 ≤ B) : (dd9 tx q c n s).1 ≤ B + 1 + n := by
  have h1 := nd_b (tx := tx) (q := q) (c := c) h
  unfold dd9
  split
  · exact Nat.le_trans (dgF_le (tx := tx) (q := q) n _ 0).2 (by omega)
  · show (nd tx q c s).1 ≤ _
    omega
theorem wr_b (h : s.1 ≤ B) : (wr s i x).1 ≤ B := h
theorem dw_b (h : s.1 ≤ B) : (dw tx q c n i s).1 ≤ B + 1 + n := dd_b h
theorem pP_b (h : s.1 ≤ B) : (pP tx q k s).1 ≤ B + 4 := dw_b (dw_b h)
theorem pT_b (h : s.1 ≤ B) : (pT tx q k s).1 ≤ B + 9 := by
  unfold pT
  refine Nat.le_trans (dw_b (B := B + 7) ?_) (by omega)
  split
  · exact Nat.le_trans (dw_b (nd_b (nd_b (wr_b (nd_b (nd_b h)))))) (by omega)
  · exact Nat.le_trans (dw_b (nd_b (nd_b (nd_b (nd_b h))))) (by omega)
theorem pS_b (h : s.1 ≤ B) : (pS tx q k s).1 ≤ B + 20 := by
  unfold pS
  split
  · exact Nat.le_trans (dw_b (dw_b (dw_b (nd_b (nd_b (nd_b (nd_b (wr_b h)))))))) (by omega)
  · exact Nat.le_trans (pP_b (nd_b (nd_b (nd_b (nd_b (nd_b h)))))) (by omega)
theorem pC5_b (h : s.1 ≤ B) : (pC5 tx q k s).1 ≤ B + 12 := Nat.le_trans (dw_b (dw_b (dw_b (dw_b (nd_b (nd_b h)))))) (by omega)
theorem pC_b (h : s.1 ≤ B) : (pC tx q k s).1 ≤ B + 20 := by
  have h5 := pC5_b (tx := tx) (q := q) (k := k) h
  unfold pC
  split
  · exact Nat.le_trans (pP_b (nd_b (nd_b (wr_b h)))) (by omega)
  · split
    · exact Nat.le_trans (Nat.succ_le_succ h5) (by omega)
    · exact Nat.le_trans (wr_b h5) (by omega)
end PMB
section PMM
variable {X : JX} {d N v : Nat} {T : Nat → Option JS} {I : Nat → Nat → Int32} {L : Nat → Nat → Int64} {Dd : Nat → Nat → UInt64} {q k n : Nat} {c e : Int32} {s : MS}
end PMM
