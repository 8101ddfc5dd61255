/-! the model: letters -/
def LW (I : HI) (W : List Int32) : HI := fun a j => if a = 396 ∧ j = 11 then nI W.length else if a = 402 ∧ j < W.length then W.getD j 0 else I a j
def cOKM (c : Int32) : Prop := (c.toUInt32 % 65536).toInt32 = c ∧ vp_nar .char c = c
theorem cOK_dg : ∀ j, j < 10 → cOKM (nI (48 + j)) := by
  unfold cOKM
  decide +kernel
theorem LW_0 {I : HI} : up2 I 396 11 0 = LW I [] := by
  funext a j
  unfold up2 LW
  by_cases ha : a = 396
  · by_cases hj : j = 11
    · simp [ha, hj]
      rfl
    · simp [ha, hj]
  · simp [ha]
theorem LW_s {I : HI} {W : List Int32} {c : Int32} : up2 (up2 (LW I W) 402 W.length c) 396 11 (nI (W.length + 1)) = LW I (W ++ [c]) := by
  funext a j
  unfold up2 LW
  by_cases ha : a = 396
  · by_cases hj : j = 11
    · simp [ha, hj]
    · simp [ha, hj]
  · by_cases h4 : a = 402
    · subst h4
      by_cases hj : j = W.length
      · subst hj
        simp
      · by_cases hl : j < W.length
        · simp [hj, hl, Nat.lt_succ_of_lt hl, List.getElem?_append_left hl]
        · have : ¬ j < W.length + 1 := by omega
          simp [hj, hl, this]
    · simp [ha, h4]
theorem LW_397 {I : HI} {W : List Int32} {a : Nat} (h : a ≠ 396) (h2 : a ≠ 402) : LW I W a = I a := by
  funext j
  rw [LW, if_neg (fun z => h z.1), if_neg (fun z => h2 z.1)]
def carTM (I : HI) (s : Nat) : List Int32 := carT (I 397 (39 + s)).toNatClampNeg (I 397 (99 + s)).toNatClampNeg (I 397 (119 + s))
def carsTM (I : HI) (m x : Nat) : Nat → Nat → List Int32
  | 0, _ => []
  | n + 1, p => carTM I (slAM I m (nI x) (nI p)).toNatClampNeg ++ carsTM I m x n (p + 1)
def trkTM (I : HI) (m x c0 : Nat) : List Int32 := dgL x ++ [47] ++ dgL (I 397 (15 + x)).toNatClampNeg ++ [91] ++ dgL (smM I m (nI x) 59).toNatClampNeg ++ [47] ++ dgL (I 397 (7 + x)).toNatClampNeg ++ [93] ++ carsTM I m x c0 0
section MODL
variable {X : JX} {d N v : Nat} {T : Nat → Option JS} {I : Nat → Nat → Int32} {L : Nat → Nat → Int64} {Dd : Nat → Nat → UInt64} {c e i0 : Int32} {m z x q c0 s k : Nat} {W : List Int32}
def apdM (I : HI) (q : Nat) (c : Int32) : Int32 × HI := if q = 60 then (0, up2 I 396 12 1) else (nI (q + 1), up2 (up2 (up2 I 401 q c) 396 7 (nI (q + 1))) 396 12 0)
def outM (I : HI) (q : Nat) (c : Int32) : Int32 × HI := if 0 ≤ c ∧ c ≤ nI q - 1 then (I 402 c.toNatClampNeg, up2 I 396 12 0) else (0, up2 I 396 12 1)
end MODL
