/-! floats, class and model -/
section YFB
variable {X : JX} {K N v d qq nx : Nat} {T : Nat → Option JS} {I I1 I2 J : HI} {L L2 : HL} {Dd : HD} {g g' σ : Nat → Nat} {gs : Nat → Nat → Nat} {sv : Option (Nat → Nat)} {tx : Nat → Int32} {er fl : Int32} {w : List Int32} {a b : Int32}
def PDv (x b : Option Value) : Prop := ∃ w, x = some (.double w) ∧ b = some (.double w)
def PFv (x b : Option Value) : Prop := ∃ w, x = some (.float w) ∧ b = some (.float w) ∧ vf_n64 (FP.f2d w)
theorem vf64 {r : UInt64} (h : FP.Core.dIsNaN r = false) : vf_n64 r := by
  have h2 : ¬ 9218868437227405312 < r.toNat % 2 ^ 63 := fun q => by
    rw [(FP.Core.isNaN_bits r).mpr q] at h
    cases h
  unfold vf_n64
  rw [UInt64.le_iff_toNat_le, UInt64.toNat_and]
  have e : (0x7fffffffffffffff : UInt64).toNat = 2 ^ 63 - 1 := by decide
  have e2 : (0x7ff0000000000000 : UInt64).toNat = 9218868437227405312 := by decide
  rw [e, e2, Nat.and_two_pow_sub_one_eq_mod]
  omega
theorem vf32 {r : UInt32} (h : FP.Core.fIsNaN r = false) : vf_n32 r := by
  have h2 : ¬ 2139095040 < r.toNat % 2 ^ 31 := fun q => by
    rw [(FP.Core.isNaN_bits32 r).mpr q] at h
    cases h
  unfold vf_n32
  rw [UInt32.le_iff_toNat_le, UInt32.toNat_and]
  have e : (0x7fffffff : UInt32).toNat = 2 ^ 31 - 1 := by decide
  have e2 : (0x7f800000 : UInt32).toNat = 2139095040 := by decide
  rw [e, e2, Nat.and_two_pow_sub_one_eq_mod]
  omega
theorem ddiv_nn (hb : ¬ b = 0) : FP.Core.dIsNaN (FP.Core.ddiv (FP.Core.i2d a) (FP.Core.i2d b)) = false :=
  FP.Core.ddiv_out (FP.Core.DFin.notNaN (FP.Core.i2d_fin a)) (FP.Core.i2d_fin b) (fun z => FP.Core.i2d_ne_zero hb ((FP.Core.zero_bits2 _).mp z))
theorem fdiv_nn (hb : ¬ b = 0) : FP.Core.fIsNaN (FP.Core.fdiv (FP.Core.i2f a) (FP.Core.i2f b)) = false :=
  FP.Core.fdiv_out (FP.Core.FFin.notNaN (FP.Core.i2f_fin a)) (FP.Core.i2f_fin b) (fun z => FP.Core.i2f_ne_zero hb ((FP.Core.zero_bits232 _).mp z))
theorem l2d_w : FP.l2d a.toInt64 = FP.i2d a := by
  show FP.Core.l2d a.toInt64 = FP.Core.i2d a
  apply UInt64.toNat_inj.mp
  rw [FP.Core.toNat_l2d, FP.Core.toNat_i2d, Int32.toInt_toInt64]
theorem b_meanMoveTime (hX : JXok X) (h : CP K N v T I L Dd g gs d sv qq tx er fl w) (hm : MP I g gs d sv qq tx er fl w) (hN : N + 1 < BIG) : CLS X K 4 24 jdX6_meanMoveTime [] jdX7_meanMoveTime [] [xAE] PDv N v T I L Dd := by
  have h0 := h
  obtain ⟨⟨σ, y⟩, -⟩ := h
  have b1 := y.2.1.1
  have k5 := y.1
  have e5 : L 1 4 = (I 397 5).toInt64 := by
    rw [hm.1 5 (by decide), nI_l (by omega)]
    exact y.2.2.1.2.2.2.2.2.1
  have e3 : I 1 5 = I 397 3 := y.2.2.1.2.2.2.1.trans (hm.1 3 (by decide)).symm
  have nn : ¬ I 397 3 = 0 → vf_n64 (FP.ddiv (FP.i2d (I 397 5)) (FP.i2d (I 397 3))) := fun q => vf64 (ddiv_nn q)
  have C := c_meanMoveTime (N := N) (v := v) (T := T) (I := I) (L := L) (Dd := Dd) hX (by decide : 6 ≤ 12) h0.N4 hN (by rw [e5, e3, l2d_w]; exact nn)
  rw [e5, e3, l2d_w] at C
  refine cls_e h0 C (fun _ => ⟨_, _, rfl, rfl⟩) (fun q L' Dd' hL hD => ?_) (fun E q => ?_)
  · by_cases c : I 397 3 = 0
    · rw [if_pos c] at q
      cases q
    · have M := m_mean2 (N := N) (v := v) (T := T) (I := I) (L := L') (Dd := Dd') hX (by decide : 0 ≤ 12) nn
      have e : meanM I = (FP.ddiv (FP.i2d (I 397 5)) (FP.i2d (I 397 3)), up2 I 396 12 0) := by
        unfold meanM
        rw [if_neg c]
      rw [e] at M
      exact M.mono (fun R hR => ⟨_, _, hR, ⟨_, rfl, rfl⟩, thr I 0, INV.qu h0 hm (eqS.rf I) FQ.rf.th hL hD⟩)
  · by_cases c : I 397 3 = 0
    · rw [if_pos c] at q
      cases q
      refine ⟨0, rfl, fun sh => mod_no (y := some (.double (meanM I).1)) (J := (meanM I).2) ⟨_, _, rfl, rfl⟩ h0 hm (fun N v T L Dd => m_mean2 hX (by decide) nn) ?_ sh⟩
      unfold meanM
      rw [if_pos c]
      rfl
    · rw [if_neg c] at q
      cases q
/-- the sums of all tracks -/
theorem caps_g (TT : CRt I g) (z8 : g 0 ≤ 8) : capF I (g 0) = nI (sN (fun t => g (7 + t)) (g 0)) ∧ usedF I (g 0) = nI (sN (fun t => usN g t) (g 0)) := by
  refine ⟨fo_sum (fun k a hk => ?_), fo_sum (fun k a hk => ?_)⟩
  · have q := TT k (by omega)
    show a + I 3 k = _
    rw [q.1]
  · have q := TT k (by omega)
    show a + I 33 k = _
    rw [q.2.2.2]
theorem us_m (hK : K ≤ 5000) (W : WG K g) (V : GV (I 397) g) : fo (usS I (g 1)) (g 0) 0 (0, 0) = (nI (sN (fun t => usN g t) (g 0)), nI (sN (fun t => g (7 + t)) (g 0))) := by
  have z8 := W.1.1
  refine fo_at (e := g 0) (P := fun k (u : Int32 × Int32) => u = (nI (sN (fun t => usN g t) k), nI (sN (fun t => g (7 + t)) k))) (fun k u hk hu => ?_) (g 0) 0 (0, 0) (by omega) rfl
  have us : smM I (g 1) (nI k) 59 = nI (usN g k) := smM_g hK W V (by omega) (by decide)
  show (u.1 + smM I (g 1) (nI k) 59, u.2 + I 397 (7 + k)) = (nI (sN (fun t => usN g t) k + usN g k), nI (sN (fun t => g (7 + t)) k + g (7 + k)))
  rw [hu, us, V _ (by omega)]
  exact congr (congrArg Prod.mk (naI rfl rfl)) (naI rfl rfl)
theorem caps_0 (W : WG K g) : nI (sN (fun t => g (7 + t)) (g 0)) = 0 ↔ g 0 = 0 := by
  have z8 := W.1.1
  have le : sN (fun t => g (7 + t)) (g 0) ≤ 200 * g 0 := sN_le (fun k hk => (W.2.1 k (by omega)).1)
  constructor
  · intro q
    have e : sN (fun t => g (7 + t)) (g 0) = 0 := nI_inj (b := 0) (by omega) (by omega) q
    by_cases c : g 0 = 0
    · exact c
    · have a := sN_pick (f := fun t => g (7 + t)) (k := 0) (n := g 0) (by omega)
      have b := (W.2.2.1 0 (by omega)).1
      have a2 : g (7 + 0) ≤ sN (fun t => g (7 + t)) (g 0) := a
      omega
  · intro q
    rw [q]
    rfl
theorem b_usedShare (hX : JXok X) (h : CP K N v T I L Dd g gs d sv qq tx er fl w) (hm : MP I g gs d sv qq tx er fl w) (hN : N + 1 < BIG) : CLS X K 4 24 jdX6_usedShare [] jdX7_usedShare [] [xAE] PFv N v T I L Dd := by
  have h0 := h
  obtain ⟨p1, p2, -⟩ := h.pre
  obtain ⟨m20, -⟩ := h.m20
  obtain ⟨⟨σ, y⟩, -⟩ := h
  obtain ⟨e1, e2⟩ := caps_g y.2.2.2.1 p1
  have e3 := us_m y.1 y.2.1 hm.1
  have e0 := caps_0 y.2.1
  have nf : ¬ nI (sN (fun t => g (7 + t)) (g 0)) = 0 → FP.Core.fIsNaN (FP.Core.fdiv (FP.Core.i2f (nI (sN (fun t => usN g t) (g 0)))) (FP.Core.i2f (nI (sN (fun t => g (7 + t)) (g 0))))) = false := fun q => fdiv_nn q
  have nn : ¬ nI (sN (fun t => g (7 + t)) (g 0)) = 0 → vf_n32 (FP.fdiv (FP.i2f (nI (sN (fun t => usN g t) (g 0)))) (FP.i2f (nI (sN (fun t => g (7 + t)) (g 0))))) := fun q => vf32 (nf q)
  have n2 : ¬ nI (g 0) = 0 → ¬ nI (sN (fun t => g (7 + t)) (g 0)) = 0 := fun q r => q (by rw [e0.mp r]; rfl)
  have C := c_usedShare (N := N) (v := v) (T := T) (I := I) (L := L) (Dd := Dd) hX (by decide : 6 ≤ 12) h0.N4 hN p1 p2 (by rw [e1, e2]; exact nn)
  rw [e1, e2] at C
  have Mo : ∀ N v T L Dd, MT X 12 0 0 jdX7_usedShare [.ref 396] (N, SH v T, I, L, Dd) (fun R => R = .inl (some (.float (shareM I (g 1) (g 0)).1), (N, SH v T, (shareM I (g 1) (g 0)).2, L, Dd))) := fun N v T L Dd => m_share2 hX (by decide) m20 (hm.1 1 (by decide)) p1 (hm.1 0 (by decide)) (fun q => by rw [e3]; exact nn (n2 q))
  have fv : ¬ nI (sN (fun t => g (7 + t)) (g 0)) = 0 → vf_n64 (FP.f2d (FP.fdiv (FP.i2f (nI (sN (fun t => usN g t) (g 0)))) (FP.i2f (nI (sN (fun t => g (7 + t)) (g 0)))))) := fun c => by
    have nf2 := nf c
    show vf_n64 (if FP.Core.fIsNaN (FP.Core.fdiv (FP.Core.i2f (nI (sN (fun t => usN g t) (g 0)))) (FP.Core.i2f (nI (sN (fun t => g (7 + t)) (g 0))))) = true then _ else FP.Core.f2d _)
    rw [if_neg (by rw [nf2]; decide)]
    exact vf64 (FP.Core.f2d_out nf2)
  refine cls_e h0 C (fun q => ?_) (fun q L' Dd' hL hD => ?_) (fun E q => ?_)
  · by_cases c : nI (sN (fun t => g (7 + t)) (g 0)) = 0
    · rw [if_pos c] at q
      cases q
    · exact ⟨_, _, rfl, rfl, fv c⟩
  · by_cases c : nI (sN (fun t => g (7 + t)) (g 0)) = 0
    · rw [if_pos c] at q
      cases q
    · have e : shareM I (g 1) (g 0) = (FP.fdiv (FP.i2f (nI (sN (fun t => usN g t) (g 0)))) (FP.i2f (nI (sN (fun t => g (7 + t)) (g 0)))), up2 I 396 12 0) := by
        unfold shareM
        rw [if_neg (fun r => c (e0.mpr r)), e3]
      have M := Mo N v T L' Dd'
      rw [e] at M
      exact M.mono (fun R hR => ⟨_, _, hR, ⟨_, rfl, rfl, fv c⟩, thr I 0, INV.qu h0 hm (eqS.rf I) FQ.rf.th hL hD⟩)
  · by_cases c : nI (sN (fun t => g (7 + t)) (g 0)) = 0
    · rw [if_pos c] at q
      cases q
      have sh0 : vf_n64 (FP.f2d (shareM I (g 1) (g 0)).1) := by
        have e : (shareM I (g 1) (g 0)).1 = FP.fconst0 := by
          unfold shareM
          rw [if_pos (e0.mp c)]
        rw [e]
        unfold vf_n64
        decide +kernel
      refine ⟨0, rfl, fun sh => mod_no (y := some (.float (shareM I (g 1) (g 0)).1)) (J := (shareM I (g 1) (g 0)).2) ⟨_, _, rfl, rfl, sh0⟩ h0 hm Mo ?_ sh⟩
      unfold shareM
      rw [if_pos (e0.mp c)]
      rfl
    · rw [if_neg c] at q
      cases q
end YFB
