/-! z's rows, its first car's weight being 10: decided -/
def LN (l : List Nat) : Nat → Nat := fun k => l.getD k 0
def padN (n : Nat) (l : List Nat) : List Nat := l ++ List.replicate (n - l.length) 0
def zrN (a b c d e n l w de br tr po : List Nat) : List Nat := padN 7 a ++ padN 8 b ++ padN 8 c ++ padN 8 d ++ padN 8 e ++ padN 20 n ++ padN 20 l ++ padN 20 w ++ padN 20 de ++ padN 20 br ++ padN 20 tr ++ padN 20 po
def zl0 (k : Nat) : List Nat := zrN [3,0,1,0,0,0,0] [60,40,50] [1,k,5] [2,5,2] [] [] [] [] [] [] [] []
def zl1 (k : Nat) : List Nat := zrN [3,1,2,0,0,0,0] [60,40,50] [1,k,5] [2,5,2] [1] [1] [15] [10] [7] [1] [0] [0]
def zl2 (k : Nat) : List Nat := zrN [3,2,3,0,0,0,0] [60,40,50] [1,k,5] [2,5,2] [2] [1,2] [15,20] [10,90] [7,2] [1,0] [0,0] [0,1]
def zl3 (k : Nat) : List Nat := zrN [3,3,4,0,0,0,0] [60,40,50] [1,k,5] [2,5,2] [3] [1,2,3] [15,20,10] [10,90,10] [7,2,7] [1,0,1] [0,0,0] [0,1,2]
def zl4 (k : Nat) : List Nat := zrN [3,3,4,1,0,3+k,0] [60,40,50] [1,k,5] [2,5,2] [1,2] [1,2,3] [15,20,10] [10,90,10] [7,2,7] [1,0,1] [0,1,1] [0,1,0]
def zl5 (k : Nat) : List Nat := zrN [3,3,4,2,0,6+k,0] [60,40,50] [1,k,5] [2,5,2] [1,1,1] [1,2,3] [15,20,10] [10,90,10] [7,2,7] [1,0,1] [0,2,1] [0,0,0]
def zl6 (k : Nat) : List Nat := zrN [3,3,4,3,0,10+k,0] [60,40,50] [1,k,5] [2,5,2] [2,0,1] [1,2,3] [15,20,10] [10,90,10] [7,2,7] [1,0,1] [0,2,0] [0,0,1]
def zl7 (k : Nat) : List Nat := zrN [3,3,4,3,0,10+k,0] [60,40,50] [1,k,5] [2,5,2] [2,0,1] [1,2,3] [15,20,10] [10,90,10] [7,2,7] [1,0,0] [0,2,0] [0,0,1]
def zl8 (k : Nat) : List Nat := zrN [3,3,4,3,0,10+k,0] [60,40,50] [1,k,5] [2,5,2] [2,0,1] [1,2,3] [15,20,10] [10,90,10] [7,2,7] [0,0,0] [0,2,0] [0,0,1]
def zl9 (k : Nat) : List Nat := zrN [3,1,4,3,2,10+k,20] [60,40,50] [1,k,5] [2,5,2] [0,0,1] [2] [20] [90] [2] [0] [2] [0]
def zl10 (k : Nat) : List Nat := zrN [3,2,5,3,2,10+k,20] [60,40,50] [1,k,5] [2,5,2] [0,0,2] [2,4] [20,30] [90,10] [2,9] [0,0] [2,2] [0,1]
def zl11 (k : Nat) : List Nat := zrN [3,2,5,3,2,10+k,20] [60,40,50] [1,k,5] [2,1,0] [0,0,2] [2,4] [20,30] [90,10] [2,9] [0,0] [2,2] [0,1]
def T2 (k : Nat) : List Int32 := jshb.getD 22 [] ++ ([nI (48 + k)] ++ jshb.getD 23 [])
theorem T2_rd : ∀ k, k < 4 → ((rdT (T2 k)).1 = 5 ∧ (rdT (T2 k)).2.2.1 = 0 ∧ ¬ (rdT (T2 k)).2.1 < (T2 k).length) ∧ (T2 k).length = 54 := by decide +kernel
set_option maxRecDepth 100000 in
theorem zrun : ∀ k, k < 4 → (mrL 5 0 (GR st_g 0 (rdT (T2 k)).2.2.2)).1 = none ∧ ∀ j, j < 179 → canonG ((mrL 5 0 (GR st_g 0 (rdT (T2 k)).2.2.2)).2 397) j = LN (zl0 k) j := by decide +kernel
set_option maxRecDepth 100000 in
theorem zc1v : ∀ k, k < 4 → (mK (GJ (LN (zl0 k))) 3 0 0 15 10 7 1 3).1 = nI (1) ∧ (mK (GJ (LN (zl0 k))) 3 0 0 15 10 7 1 3).2 396 12 = 0 := by decide +kernel
set_option maxRecDepth 100000 in
theorem zc1r : ∀ k, k < 4 → ∀ j, j < 179 → canonG ((mK (GJ (LN (zl0 k))) 3 0 0 15 10 7 1 3).2 397) j = LN (zl1 k) j := by decide +kernel
set_option maxRecDepth 100000 in
theorem zc2v : ∀ k, k < 4 → (mK (GJ (LN (zl1 k))) 3 1 0 20 90 2 0 3).1 = nI (2) ∧ (mK (GJ (LN (zl1 k))) 3 1 0 20 90 2 0 3).2 396 12 = 0 := by decide +kernel
set_option maxRecDepth 100000 in
theorem zc2r : ∀ k, k < 4 → ∀ j, j < 179 → canonG ((mK (GJ (LN (zl1 k))) 3 1 0 20 90 2 0 3).2 397) j = LN (zl2 k) j := by decide +kernel
set_option maxRecDepth 100000 in
theorem zc3v : ∀ k, k < 4 → (mK (GJ (LN (zl2 k))) 3 2 0 10 10 7 1 3).1 = nI (3) ∧ (mK (GJ (LN (zl2 k))) 3 2 0 10 10 7 1 3).2 396 12 = 0 := by decide +kernel
set_option maxRecDepth 100000 in
theorem zc3r : ∀ k, k < 4 → ∀ j, j < 179 → canonG ((mK (GJ (LN (zl2 k))) 3 2 0 10 10 7 1 3).2 397) j = LN (zl3 k) j := by decide +kernel
set_option maxRecDepth 100000 in
theorem zf1 : ∀ k, k < 4 → (mK (GJ (LN (zl3 k))) 3 3 0 16 10 1 1 3).2 396 12 = 4 := by decide +kernel
set_option maxRecDepth 100000 in
theorem zf2 : ∀ k, k < 4 → (mK (GJ (LN (zl3 k))) 3 3 0 7 0 0 0 6).2 396 12 = 4 := by decide +kernel
set_option maxRecDepth 100000 in
theorem zf3 : ∀ k, k < 4 → (mK (GJ (LN (zl3 k))) 3 3 0 2 0 0 0 6).2 396 12 = 3 := by decide +kernel
set_option maxRecDepth 100000 in
theorem zf4 : ∀ k, k < 4 → (mK (GJ (LN (zl3 k))) 3 3 0 1 3 0 0 4).2 396 12 = 5 := by decide +kernel
set_option maxRecDepth 100000 in
theorem zc4v : ∀ k, k < 4 → (mK (GJ (LN (zl3 k))) 3 3 0 1 2 0 0 4).1 = nI (3 + k) ∧ (mK (GJ (LN (zl3 k))) 3 3 0 1 2 0 0 4).2 396 12 = 0 := by decide +kernel
set_option maxRecDepth 100000 in
theorem zc4r : ∀ k, k < 4 → ∀ j, j < 179 → canonG ((mK (GJ (LN (zl3 k))) 3 3 0 1 2 0 0 4).2 397) j = LN (zl4 k) j := by decide +kernel
set_option maxRecDepth 100000 in
theorem zc5v : ∀ k, k < 4 → (mK (GJ (LN (zl4 k))) 3 3 1 2 1 0 0 4).1 = nI (3) ∧ (mK (GJ (LN (zl4 k))) 3 3 1 2 1 0 0 4).2 396 12 = 0 := by decide +kernel
set_option maxRecDepth 100000 in
theorem zc5r : ∀ k, k < 4 → ∀ j, j < 179 → canonG ((mK (GJ (LN (zl4 k))) 3 3 1 2 1 0 0 4).2 397) j = LN (zl5 k) j := by decide +kernel
set_option maxRecDepth 100000 in
theorem zc6v : ∀ k, k < 4 → (mK (GJ (LN (zl5 k))) 3 3 1 0 1 0 0 4).1 = nI (4) ∧ (mK (GJ (LN (zl5 k))) 3 3 1 0 1 0 0 4).2 396 12 = 0 := by decide +kernel
set_option maxRecDepth 100000 in
theorem zc6r : ∀ k, k < 4 → ∀ j, j < 179 → canonG ((mK (GJ (LN (zl5 k))) 3 3 1 0 1 0 0 4).2 397) j = LN (zl6 k) j := by decide +kernel
set_option maxRecDepth 100000 in
theorem zc7v : ∀ k, k < 4 → (mK (GJ (LN (zl6 k))) 3 3 3 0 0 0 0 5).1 = nI (1) ∧ (mK (GJ (LN (zl6 k))) 3 3 3 0 0 0 0 5).2 396 12 = 0 := by decide +kernel
set_option maxRecDepth 100000 in
theorem zc7r : ∀ k, k < 4 → ∀ j, j < 179 → canonG ((mK (GJ (LN (zl6 k))) 3 3 3 0 0 0 0 5).2 397) j = LN (zl7 k) j := by decide +kernel
set_option maxRecDepth 100000 in
theorem zf5 : ∀ k, k < 4 → (mK (GJ (LN (zl7 k))) 3 3 0 7 0 0 0 6).2 396 12 = 4 := by decide +kernel
set_option maxRecDepth 100000 in
theorem zf6 : ∀ k, k < 4 → (mK (GJ (LN (zl7 k))) 3 3 3 0 0 0 0 5).2 396 12 = 2 := by decide +kernel
set_option maxRecDepth 100000 in
theorem zc8v : ∀ k, k < 4 → (mK (GJ (LN (zl7 k))) 3 3 1 0 0 0 0 5).1 = nI (0) ∧ (mK (GJ (LN (zl7 k))) 3 3 1 0 0 0 0 5).2 396 12 = 0 := by decide +kernel
set_option maxRecDepth 100000 in
theorem zc8r : ∀ k, k < 4 → ∀ j, j < 179 → canonG ((mK (GJ (LN (zl7 k))) 3 3 1 0 0 0 0 5).2 397) j = LN (zl8 k) j := by decide +kernel
set_option maxRecDepth 100000 in
theorem zc9v : ∀ k, k < 4 → (mK (GJ (LN (zl8 k))) 3 3 0 7 0 0 0 6).1 = nI (2) ∧ (mK (GJ (LN (zl8 k))) 3 3 0 7 0 0 0 6).2 396 12 = 0 := by decide +kernel
set_option maxRecDepth 100000 in
theorem zc9r : ∀ k, k < 4 → ∀ j, j < 179 → canonG ((mK (GJ (LN (zl8 k))) 3 3 0 7 0 0 0 6).2 397) j = LN (zl9 k) j := by decide +kernel
set_option maxRecDepth 100000 in
theorem zc10v : ∀ k, k < 4 → (mK (GJ (LN (zl9 k))) 3 1 2 30 10 9 0 3).1 = nI (4) ∧ (mK (GJ (LN (zl9 k))) 3 1 2 30 10 9 0 3).2 396 12 = 0 := by decide +kernel
set_option maxRecDepth 100000 in
theorem zc10r : ∀ k, k < 4 → ∀ j, j < 179 → canonG ((mK (GJ (LN (zl9 k))) 3 1 2 30 10 9 0 3).2 397) j = LN (zl10 k) j := by decide +kernel
set_option maxRecDepth 100000 in
theorem zc11v : ∀ k, k < 4 → (mK (GJ (LN (zl10 k))) 3 2 1 2 0 0 0 2).1 = nI (1) ∧ (mK (GJ (LN (zl10 k))) 3 2 1 2 0 0 0 2).2 396 12 = 0 := by decide +kernel
set_option maxRecDepth 100000 in
theorem zc11r : ∀ k, k < 4 → ∀ j, j < 179 → canonG ((mK (GJ (LN (zl10 k))) 3 2 1 2 0 0 0 2).2 397) j = LN (zl11 k) j := by decide +kernel
set_option maxRecDepth 100000 in
theorem zf7 : ∀ k, k < 4 → (mK (GJ (LN (zl11 k))) 3 2 2 0 1 0 0 4).2 396 12 = 4 := by decide +kernel
set_option maxRecDepth 100000 in
theorem zf8 : ∀ k, k < 4 → (mK (GJ (LN (zl11 k))) 3 2 1 1 0 0 0 2).2 396 12 = 2 := by decide +kernel
