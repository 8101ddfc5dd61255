/-! the model: the calls that change, as a whole -/
theorem begM_ne {I : HI} {r : Nat} (h : r ≠ 398) : begM I r = I r := cpM_ne h
theorem adt_ch {I : HI} {z : Nat} {c e : Int32} : (adtM I z c e).2 396 3 = I 396 3 := by
  unfold adtM
  (repeat' split) <;> rfl
theorem cn_ch {I : HI} {z : Nat} {c e : Int32} : (cnM I z c e).2 396 3 = I 396 3 := by
  unfold cnM
  (repeat' split) <;> first | rfl | (dsimp only; rw [up2_i (show (3 : Nat) ≠ 12 by decide), tlM_ne (show (396 : Nat) ≠ 397 by decide)])
theorem dc_ch {I : HI} {z : Nat} {c e : Int32} : (dcM I z c e).2 396 3 = I 396 3 := by
  unfold dcM
  (repeat' split) <;> first | rfl | (dsimp only; rw [up2_i (show (3 : Nat) ≠ 12 by decide), tlM_ne (show (396 : Nat) ≠ 397 by decide)])
theorem acc_ch {I : HI} {m : Nat} {t le we de b : Int32} : (accM I m t le we de b).2 396 3 = I 396 3 := by
  unfold accM accI
  (repeat' split) <;> rfl
theorem rep_ch {I : HI} {m : Nat} {c : Int32} : (repM I m c).2 396 3 = I 396 3 := by
  unfold repM
  (repeat' split) <;> rfl
theorem shK_ne {I : HI} {m z x y q r : Nat} (h : r ≠ 397) (h2 : r ≠ 403) : shK I m z x y q r = I r := (fo_inv (P := fun (Z : HI) => Z r = exM (exM I z y) z y r) (fun i Z e => (mvS_ne h).trans e) _ _ _ rfl).trans ((exM_ne h2).trans (exM_ne h2))
theorem shu_ch {I : HI} {m z : Nat} {a b c : Int32} : (shuM I m z a b c).2 396 3 = I 396 3 := by
  unfold shuM
  split
  · dsimp only
    rw [up2_i (show (3 : Nat) ≠ 12 by decide), whM_ne (show (396 : Nat) ≠ 403 by decide)]
  · dsimp only
    rw [up2_i (show (3 : Nat) ≠ 12 by decide), up2_ne (show (396 : Nat) ≠ 397 by decide), up2_ne (show (396 : Nat) ≠ 397 by decide), shK_ne (show (396 : Nat) ≠ 397 by decide) (show (396 : Nat) ≠ 403 by decide)]
theorem dpF_ne {m x n k r : Nat} {J : HI} (h : r ≠ 397) : fo (dpS m x) n k J r = J r := fo_inv (P := fun (Z : HI) => Z r = J r) (fun i Z e => (lvM_ne h).trans e) _ _ J rfl
theorem dep_ch {I : HI} {m : Nat} {t dd : Int32} : (depM I m t dd).2 396 3 = I 396 3 := by
  unfold depM
  (repeat' split) <;> first | rfl | (dsimp only; rw [up2_i (show (3 : Nat) ≠ 12 by decide), dpF_ne (show (396 : Nat) ≠ 397 by decide)])
def pubM (f : Int32 × HI) (ch : Nat) : Int32 × HI := kepM f.2 f.1 ch
section MOD7
variable {X : JX} {d N v : Nat} {T : Nat → Option JS} {I : Nat → Nat → Int32} {L : Nat → Nat → Int64} {Dd : Nat → Nat → UInt64} {a b c e i0 t dd le we de : Int32} {m z x y q c0 s n ch : Nat}
end MOD7
