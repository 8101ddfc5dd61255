/-! how many tracks there are behind a command -/
section FST
variable {I J : HI} {m z s x k : Nat} {a b c e f : Int32}
theorem fs_396 {j : Nat} {y : Int32} : up2 J 396 j y 397 0 = J 397 0 := congrFun (up2_ne (by decide)) 0
theorem fs_exM {u : Nat} : exM I z u 397 0 = I 397 0 := congrFun (exM_ne (by decide)) 0
theorem fs_lvM : lvM I m s 397 0 = I 397 0 := by
  rw [lvM, up2_i (by decide), lvF_i (by decide), lv0, up2_i (by omega), up2_i (by decide), up2_i (by decide)]
theorem fs_whM : (whM I m z a b c).2 397 0 = I 397 0 := congrFun (whM_ne (by decide)) 0
theorem fs_shK {y q : Nat} : shK I m z x y q 397 0 = I 397 0 := by
  unfold shK
  refine (fo_inv (P := fun (Z : HI) => Z 397 0 = I 397 0) (fun i Z e => (mvS_1 (by decide)).trans e) _ _ _ ?_)
  rw [fs_exM, fs_exM]
theorem fs_tl {a b : Nat} : tlM I a b 397 0 = I 397 0 := tlM_i (by omega) (by omega)
theorem fs_dp {n : Nat} : fo (dpS m x) n 0 I 397 0 = I 397 0 := fo_inv (P := fun (Z : HI) => Z 397 0 = I 397 0) (fun i Z e => fs_lvM.trans e) _ _ _ rfl
theorem fs_acc {t : Nat} {le we de b : Int32} : accI I m t le we de b 397 0 = I 397 0 := by
  unfold accI
  rw [up2_i (by omega), up2_i (by omega), up2_i (by omega), up2_i (by omega), up2_i (by omega), up2_i (by omega), up2_i (by omega), up2_i (by omega), up2_i (by omega), up2_i (by omega)]
/-- a command makes one track more, or leaves them -/
theorem fs_mK {kk : Nat} (hk : kk < 7) : (mK J z m a b c e f kk).2 397 0 = J 397 0 ∨ ((mK J z m a b c e f kk).2 397 0 = nI z + 1 ∧ ¬ z = 8) := by
  rcases kk with _ | _ | _ | _ | _ | _ | _ | kk
  · show (adtM J z a b).2 397 0 = _ ∨ ((adtM J z a b).2 397 0 = _ ∧ _)
    unfold adtM
    split
    · dsimp only
      exact Or.inl fs_396
    · split
      · dsimp only
        exact Or.inl fs_396
      · rename_i q
        dsimp only
        exact Or.inr ⟨fs_396.trans up2_hit, q⟩
  · refine Or.inl ?_
    show (cnM J z a b).2 397 0 = _
    unfold cnM
    (repeat' split) <;> dsimp only <;> first | exact fs_396 | exact fs_396.trans fs_tl
  · refine Or.inl ?_
    show (dcM J z a b).2 397 0 = _
    unfold dcM
    (repeat' split) <;> dsimp only <;> first | exact fs_396 | exact fs_396.trans fs_tl
  · refine Or.inl ?_
    show (accM J m a b c e f).2 397 0 = _
    unfold accM
    (repeat' split) <;> dsimp only <;> first | exact fs_396 | exact fs_396.trans fs_acc
  · refine Or.inl ?_
    show (shuM J m z a b c).2 397 0 = _
    unfold shuM
    split
    · dsimp only
      exact fs_396.trans fs_whM
    · dsimp only
      refine fs_396.trans ?_
      rw [up2_i (by decide), up2_i (by decide)]
      exact fs_shK
  · refine Or.inl ?_
    show (repM J m a).2 397 0 = _
    unfold repM
    (repeat' split) <;> dsimp only <;> first | exact fs_396 | exact fs_396.trans (up2_i (by omega))
  · refine Or.inl ?_
    show (depM J m a b).2 397 0 = _
    unfold depM
    (repeat' split) <;> dsimp only <;> first | exact fs_396 | exact fs_396.trans fs_dp
  · omega
theorem fs_cm8 {s : GS} {kk : Nat} (h8 : s.1 0 ≤ 8) (hk : kk < 7) : s.1 0 ≤ (cmG s a b c e f kk).1 0 ∧ (cmG s a b c e f kk).1 0 ≤ 8 := by
  have q := fs_mK (J := GJ s.1) (z := s.1 0) (m := s.1 1) (a := a) (b := b) (c := c) (e := e) (f := f) hk
  unfold cmG cmS
  split
  · show s.1 0 ≤ canonG ((mK (GJ s.1) (s.1 0) (s.1 1) a b c e f kk).2 397) 0 ∧ canonG ((mK (GJ s.1) (s.1 0) (s.1 1) a b c e f kk).2 397) 0 ≤ 8
    unfold canonG
    rw [if_pos (by decide)]
    rcases q with q | ⟨q, q8⟩
    · rw [q, show GJ s.1 397 0 = nI (s.1 0) from rfl, nI_clamp (by omega)]
      exact ⟨Nat.le_refl _, h8⟩
    · rw [q, nI_1, nI_clamp (by omega)]
      omega
  · exact ⟨Nat.le_refl _, h8⟩
theorem fs_cm {s : GS} {kk : Nat} (h8 : s.1 0 ≤ 8) (hk : kk < 7) : s.1 0 ≤ (cmG s a b c e f kk).1 0 := (fs_cm8 h8 hk).1
theorem cm_8 {s : GS} {kk : Nat} (h8 : s.1 0 ≤ 8) (hk : kk < 7) : (cmG s a b c e f kk).1 0 ≤ 8 := (fs_cm8 h8 hk).2
/-- a remainder -/
def rmI (x y : Int32) : Int32 := x - x / y * y
theorem and_m (x m : Int32) (j : Nat) (hj : j ≤ 31) (hm : m.toBitVec.toNat = 2 ^ j - 1) : ∃ y, y < 2 ^ j ∧ x &&& m = nI y := by
  obtain ⟨n, hn⟩ := nI_all (x &&& m)
  have e : (x &&& m).toBitVec.toNat = x.toBitVec.toNat % 2 ^ j := by
    rw [Int32.toBitVec_and, BitVec.toNat_and, hm, Nat.and_two_pow_sub_one_eq_mod]
  have hlt : x.toBitVec.toNat % 2 ^ j < 2 ^ j := Nat.mod_lt _ (Nat.two_pow_pos j)
  refine ⟨x.toBitVec.toNat % 2 ^ j, hlt, ?_⟩
  apply Int32.toBitVec_inj.mp
  apply BitVec.eq_of_toNat_eq
  rw [e]
  have h31 : 2 ^ j ≤ 2 ^ 31 := Nat.pow_le_pow_right (by decide) hj
  show _ = (x.toBitVec.toNat % 2 ^ j) % 2 ^ 32
  omega
theorem rm_all : ∀ y, y < 8 → (0 ≤ rmI (nI y) 6 ∧ rmI (nI y) 6 ≤ 5) := by decide +kernel
theorem le_all : ∀ y, y < 128 → (10 ≤ 30 + nI y ∧ 30 + nI y ≤ 200) := by decide +kernel
end FST
