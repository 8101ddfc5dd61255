/-! the model: cars, room, distances -/
def begM (I : HI) : HI := cpM I 397 0 398 0
def shM (I : HI) : HI := fo (fun k J => up2 J 399 k (J 399 (k + 179))) 1253 0 I
def kepM (I : HI) (c : Int32) (ch : Nat) : Int32 × HI := if I 396 12 = 0 then (c, if ch = 8 then up2 (cpM (up2 (shM I) 396 3 (nI 7)) 398 0 399 (7 * 179)) 396 3 (nI 8) else up2 (cpM I 398 0 399 (ch * 179)) 396 3 (nI (ch + 1))) else (0, cpM I 398 0 397 0)
theorem shM_ne {I : HI} {a : Nat} (h : a ≠ 399) : shM I a = I a := fo_inv (P := fun J => J a = I a) (fun k J e => (up2_ne h).trans e) 1253 0 I rfl
def slOM (I : HI) (m : Nat) (c : Int32) : Int32 := fnd (fun s => I 397 (39 + s) = c) m 0
def slAM (I : HI) (m : Nat) (t p : Int32) : Int32 := fnd (fun s => I 397 (139 + s) = t ∧ I 397 (159 + s) = p) m 0
def feM (I : HI) (m t : Nat) (k : Int32) : Int32 := slAM I m (nI t) (I 397 (31 + t) - 1 - k)
def smS (I : HI) (t : Int32) (a : Nat) : Nat → Int32 → Int32 := fun s acc => acc + (if I 397 (139 + s) = t then I 397 (a + s) else 0)
def smM (I : HI) (m : Nat) (t : Int32) (a : Nat) : Int32 := fo (smS I t a) m 0 0
def roM (I : HI) (m t : Nat) : Int32 := I 397 (7 + t) - smM I m (nI t) 59
def stE (i k : Nat) (J : HI) : HI := up2 J 403 i (if lkM J i k ∧ J 403 k + 1 < J 403 i then J 403 k + 1 else J 403 i)
def exI (u : Nat) : Nat → HI → HI := fun k J => up2 J 403 k (if nI k = nI u then 0 else 100)
def ex1 (z i : Nat) (J : HI) : HI := fo (stE i) z 0 J
def ex2 (z : Nat) (J : HI) : HI := fo (ex1 z) z 0 J
def exM (I : HI) (z u : Nat) : HI := fo (fun _ J => ex2 z J) 8 0 (fo (exI u) 8 0 I)
theorem exI_ne {I : HI} {u a n k : Nat} (h : a ≠ 403) : fo (exI u) n k I a = I a := fo_inv (P := fun J => J a = I a) (fun k J e => (up2_ne h).trans e) n k I rfl
theorem ex1_ne {I : HI} {z i a : Nat} (h : a ≠ 403) : ex1 z i I a = I a := fo_inv (P := fun J => J a = I a) (fun k J e => (up2_ne h).trans e) z 0 I rfl
theorem ex2_ne {I : HI} {z a : Nat} (h : a ≠ 403) : ex2 z I a = I a := fo_inv (P := fun J => J a = I a) (fun k J e => (ex1_ne h).trans e) z 0 I rfl
theorem exM_ne {I : HI} {z u a : Nat} (h : a ≠ 403) : exM I z u a = I a := fo_inv (P := fun (J : HI) => J a = I a) (fun k J e => (ex2_ne h).trans e) 8 0 _ (exI_ne h)
section MOD2
variable {X : JX} {d N v : Nat} {T : Nat → Option JS} {I : Nat → Nat → Int32} {L : Nat → Nat → Int64} {Dd : Nat → Nat → UInt64} {c e i0 : Int32} {m z : Nat}
end MOD2
