/-! the model: ranks and routes -/
theorem nI_mi {j : Nat} (h : j < 2 ^ 31) : ¬ nI j = -1 := by
  intro e
  have := congrArg Int32.toInt e
  rw [nI_toInt h] at this
  exact absurd this (by rw [show (-1 : Int32).toInt = -1 from rfl]; omega)
def rkS (I : HI) (m t : Nat) : Nat → Int32 → Int32 := fun k acc => acc + (if ahM I m k t then 1 else 0)
def rkF (I : HI) (m z : Nat) (c : Int32) : Nat → Nat → Int32 := fnd (fun t => fo (rkS I m t) z 0 0 = c)
def rkP (I : HI) (f : Int32) : Int32 × HI := if f = -1 then (0, up2 I 396 12 1) else (f, up2 I 396 12 0)
def acM (I : HI) (c e : Int32) : Int32 × HI := if tkM I c ∧ tkM I e then (bi (lkM (up2 I 396 12 0) c.toNatClampNeg e.toNatClampNeg), up2 I 396 12 0) else (0, up2 I 396 12 1)
def rlM (I : HI) (z : Nat) (c e : Int32) : Int32 × HI := if ¬ (tkM I c ∧ tkM I e) then (0, up2 I 396 12 1) else if exM I z e.toNatClampNeg 403 c.toNatClampNeg = 100 then (0, up2 (exM I z e.toNatClampNeg) 396 12 2) else (exM I z e.toNatClampNeg 403 c.toNatClampNeg, up2 (exM I z e.toNatClampNeg) 396 12 0)
def neM (I : HI) (x : Nat) : Nat → Nat → Int32 := fnd (fun n => lkM I x n ∧ I 403 n = I 403 x - 1)
def rtN (I : HI) : Nat → Nat → Nat
  | 0, x => x
  | n + 1, x => rtN I n (neM I x 8 0).toNatClampNeg
def okRt (I : HI) : Nat → Nat → Prop
  | 0, _ => True
  | n + 1, x => (∃ j, j < 8 ∧ neM I x 8 0 = nI j) ∧ okRt I n (neM I x 8 0).toNatClampNeg
def rtM (I : HI) (z : Nat) (c e i : Int32) : Int32 × HI := if ¬ (rlM I z c e).2 396 12 ≤ 0 then (0, (rlM I z c e).2) else if ¬ (0 ≤ i ∧ i ≤ (rlM I z c e).1) then (0, up2 (rlM I z c e).2 396 12 2) else (nI (rtN (rlM I z c e).2 i.toNatClampNeg c.toNatClampNeg), up2 (rlM I z c e).2 396 12 0)
def stiM (I : HI) (m z : Nat) (a b c : Int32) : Int32 × HI := if 0 < (whM I m z a b c).1 then (0, up2 (whM I m z a b c).2 396 12 (if (whM I m z a b c).1 < 3 then (whM I m z a b c).1 else 3)) else (miM (exM I z b.toNatClampNeg) m z a.toNatClampNeg b.toNatClampNeg c.toNatClampNeg, up2 (exM (exM I z b.toNatClampNeg) z b.toNatClampNeg) 396 12 0)
abbrev beL (I : HI) (m z x y1 y2 : Nat) : Int32 := miM I m z x y2 1 - miM (exM I z y2) m z x y1 1
abbrev beM (I : HI) (m z x y1 y2 : Nat) : Prop := 0 < beL I m z x y1 y2 ∨ (beL I m z x y1 y2 = 0 ∧ roM (exM (exM I z y2) z y1) m y2 < roM (exM (exM I z y2) z y1) m y1)
def nfS (m z x : Nat) : Nat → Int32 × HI → Int32 × HI := fun k u => if ¬ (whM u.2 m z (nI x) (nI k) 1).1 = 0 then (u.1, (whM u.2 m z (nI x) (nI k) 1).2) else if u.1 = -1 then (nI k, (whM u.2 m z (nI x) (nI k) 1).2)
  else (if beM (whM u.2 m z (nI x) (nI k) 1).2 m z x k u.1.toNatClampNeg then nI k else u.1, exM (exM (whM u.2 m z (nI x) (nI k) 1).2 z u.1.toNatClampNeg) z k)
def nfM (I : HI) (m z : Nat) (t : Int32) : Int32 × HI := if ¬ tkM I t then (0, up2 I 396 12 1) else if (fo (nfS m z t.toNatClampNeg) z 0 (-1, I)).1 = -1 then (0, up2 (fo (nfS m z t.toNatClampNeg) z 0 (-1, I)).2 396 12 2) else ((fo (nfS m z t.toNatClampNeg) z 0 (-1, I)).1, up2 (fo (nfS m z t.toNatClampNeg) z 0 (-1, I)).2 396 12 0)
section MOD9
variable {X : JX} {d N v : Nat} {T : Nat → Option JS} {I : Nat → Nat → Int32} {L : Nat → Nat → Int64} {Dd : Nat → Nat → UInt64} {a b c e i0 t dd le we de i : Int32} {m z x y q c0 s n ch : Nat}
theorem rlM_ok {I : HI} {z : Nat} {c e : Int32} (hz8 : z ≤ 8) (hz : I 397 0 = nI z) (h : (rlM I z c e).2 396 12 ≤ 0) : ∃ x, x < z ∧ c = nI x := by
  by_cases h1 : tkM I c ∧ tkM I e
  · exact tkM_nI hz8 hz h1.1
  · rw [rlM, if_pos h1] at h
    exact absurd (show (1 : Int32) ≤ 0 from h) (by decide)
end MOD9
