/-! floats, class and model -/
section YFB
variable {X : JX} {K N v d qq nx : Nat} {T : Nat → Option JS} {I I1 I2 J : HI} {L L2 : HL} {Dd : HD} {g g' σ : Nat → Nat} {gs : Nat → Nat → Nat} {sv : Option (Nat → Nat)} {tx : Nat → Int32} {er fl : Int32} {w : List Int32} {a b : Int32}
abbrev xAE : String := "java/lang/ArithmeticException"
def PDv (x b : Option Value) : Prop := ∃ w, x = some (.double w) ∧ b = some (.double w)
def PFv (x b : Option Value) : Prop := ∃ w, x = some (.float w) ∧ b = some (.float w) ∧ vf_n64 (FP.f2d w)
theorem vf64 {r : UInt64} (h : FP.Core.dIsNaN r = false) : vf_n64 r := by
  have h2 : ¬ 9218868437227405312 < r.toNat % 2 ^ 63 := fun q => by
    rw [(FP.Core.isNaN_bits r).mpr q] at h
    cases h
  unfold vf_n64
  rw [UInt64.le_iff_toNat_le, UInt64.toNat_and]
  have e : (0x7fffffffffffffff : UInt64).toNat = 2 ^ 63 - 1 := by decide
  have e2 : (0x7ff0000000000000 : UInt64).toNat = 9218868437227405312 := by decide
  rw [e, e2, Nat.and_two_pow_sub_one_eq_mod]
  omega
theorem vf32 {r : UInt32} (h : FP.Core.fIsNaN r = false) : vf_n32 r := by
  have h2 : ¬ 2139095040 < r.toNat % 2 ^ 31 := fun q => by
    rw [(FP.Core.isNaN_bits32 r).mpr q] at h
    cases h
  unfold vf_n32
  rw [UInt32.le_iff_toNat_le, UInt32.toNat_and]
  have e : (0x7fffffff : UInt32).toNat = 2 ^ 31 - 1 := by decide
  have e2 : (0x7f800000 : UInt32).toNat = 2139095040 := by decide
  rw [e, e2, Nat.and_two_pow_sub_one_eq_mod]
  omega
theorem ddiv_nn (hb : ¬ b = 0) : FP.Core.dIsNaN (FP.Core.ddiv (FP.Core.i2d a) (FP.Core.i2d b)) = false :=
  FP.Core.ddiv_out (FP.Core.DFin.notNaN (FP.Core.i2d_fin a)) (FP.Core.i2d_fin b) (fun z => FP.Core.i2d_ne_zero hb ((FP.Core.zero_bits2 _).mp z))
theorem fdiv_nn (hb : ¬ b = 0) : FP.Core.fIsNaN (FP.Core.fdiv (FP.Core.i2f a) (FP.Core.i2f b)) = false :=
  FP.Core.fdiv_out (FP.Core.FFin.notNaN (FP.Core.i2f_fin a)) (FP.Core.i2f_fin b) (fun z => FP.Core.i2f_ne_zero hb ((FP.Core.zero_bits32 _).mp z))
theorem l2d_w : FP.l2d a.toInt64 = FP.i2d a := by
  show FP.Core.l2d a.toInt64 = FP.Core.i2d a
  apply UInt64.toNat_inj.mp
  rw [FP.Core.toNat_l2d, FP.Core.toNat_i2d, Int32.toInt_toInt64]
theorem b_meanMoveTime (hX : JXok X) (h : CP K N v T I L Dd g gs d sv qq tx er fl w) (hm : MP I g gs d sv qq tx er fl w) (hN : N + 1 < BIG) : CLS X K 4 24 jdX6_meanMoveTime [] jdX7_meanMoveTime [] [xAE] PDv N v T I L Dd := by
  have h0 := h
  obtain ⟨⟨σ, y⟩, -⟩ := h
  have b1 := y.2.1.1
  have k5 := y.1
  have e5 : L 1 4 = (I 397 5).toInt64 := by
    rw [hm.1 5 (by decide), nI_l (by omega)]
    exact y.2.2.1.2.2.2.2.2.1
  have e3 : I 1 5 = I 397 3 := y.2.2.1.2.2.2.1.trans (hm.1 3 (by decide)).symm
  have nn : ¬ I 397 3 = 0 → vf_n64 (FP.ddiv (FP.i2d (I 397 5)) (FP.i2d (I 397 3))) := fun q => vf64 (ddiv_nn q)
  have C := c_meanMoveTime (N := N) (v := v) (T := T) (I := I) (L := L) (Dd := Dd) hX (by decide : 6 ≤ 12) h0.N4 hN (by rw [e5, e3, l2d_w]; exact nn)
  rw [e5, e3, l2d_w] at C
  refine cls_e h0 C (fun q L' Dd' hL hD => ?_) (fun E q => ?_)
  · by_cases c : I 397 3 = 0
    · rw [if_pos c] at q
      cases q
    · have M := m_mean2 (N := N) (v := v) (T := T) (I := I) (L := L') (Dd := Dd') hX (by decide : 0 ≤ 12) nn
      have e : meanM I = (FP.ddiv (FP.i2d (I 397 5)) (FP.i2d (I 397 3)), up2 I 396 12 0) := by
        unfold meanM
        rw [if_neg c]
      rw [e] at M
      exact M.mono (fun R hR => ⟨_, _, hR, ⟨_, rfl, rfl⟩, thr I 0, INV.qu h0 hm (eqS.rf I) FQ.rf.th hL hD⟩)
  · by_cases c : I 397 3 = 0
    · rw [if_pos c] at q
      cases q
      refine ⟨0, rfl, fun sh => mod_no (y := some (.double (meanM I).1)) (J := (meanM I).2) h0 hm (fun N v T L Dd => m_mean2 hX (by decide) nn) ?_ sh⟩
      unfold meanM
      rw [if_pos c]
      rfl
    · rw [if_neg c] at q
      cases q
/-- the sums of all tracks -/
theorem cap_g (hK : K ≤ 5000) (W : WG K g) (TT : CRt I g) : ∀ n, n ≤ g 0 → fo (fun k a => a + I 3 k) n 0 0 = nI (sN (fun t => g (7 + t)) n) ∧ fo (fun k a => a + I 33 k) n 0 0 = nI (sN (fun t => usN g t) n)
  | 0, _ => ⟨rfl, rfl⟩
  | n + 1, hn => by
    obtain ⟨i1, i2⟩ := cap_g hK W TT n (by omega)
    have z8 := W.1.1
    have q := TT n (by omega)
    sorry
end YFB
