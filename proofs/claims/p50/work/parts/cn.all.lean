/-! the law's walk, whole -/
section LAL
variable {X : JX} {mc ms : Nat} {Q : JR → Prop} {I : HI} {m k w : Nat} {a c e f t v : Int32} {p r : Int32} {s : GS}
theorem acc_67 (hm : 1 ≤ m ∧ m < 20) (ht : t.toNatClampNeg < 8) (h : W67 p r I) : W67 p r (accM I m t a v c e).2 := by
  unfold accM accI
  (repeat' split) <;> first | exact h.up (Or.inl (by decide)) | exact ((((((((((h.up (Or.inr ⟨by omega, by omega⟩)).up (Or.inr ⟨by omega, by omega⟩)).up (Or.inr ⟨by omega, by omega⟩)).up (Or.inr ⟨by omega, by omega⟩)).up (Or.inr ⟨by omega, by omega⟩)).up (Or.inr ⟨by omega, by omega⟩)).up (Or.inr ⟨by omega, by omega⟩)).up (Or.inr ⟨by omega, by omega⟩)).up (Or.inr ⟨by omega, by omega⟩)).up (Or.inr ⟨by omega, by omega⟩)).up (Or.inl (by decide))
theorem z_3w (hk : k < 4) (hw : 10 ≤ w ∧ w ≤ 73) (h : s.1 = LN (zl0 k)) : (cmG (cmG (cmG s 0 15 (nI w) 7 1 3) 0 20 90 2 0 3) 0 10 10 7 1 3).1 6 = 0 ∧ (cmG (cmG (cmG s 0 15 (nI w) 7 1 3) 0 20 90 2 0 3) 0 10 10 7 1 3).1 79 = w := by
  have hz : ZL (zl0 k) s := fun j _ _ => by rw [h]
  obtain ⟨s1, e1⟩ : ∃ t, t = cmG s 0 15 (nI w) 7 1 3 := ⟨_, rfl⟩
  have q1 := z_1 hk hw hz
  have w1 := z_1w hk hw h
  rw [← e1] at q1 w1 ⊢
  have q2 := z_2 hk q1.2.2
  have m1 : s1.1 1 = 1 := (q1.2.2 1 (by decide) (by decide)).trans (zl_01 k hk).2.1.2
  have w2 := z_67 (g := s1) (a := 0) (b := 20) (c := 90) (e := 2) (f := 0) (kk := 3) (fun p r q => by
    have ef : (cmF s1 0 20 90 2 0 3).2 = (accM (GJ s1.1) 1 0 20 90 2 0).2 := by
      unfold cmF
      rw [m1]
      rfl
    rw [ef]
    exact acc_67 ⟨by decide, by decide⟩ (by decide) q) q2.2.1 (by decide) (by omega) w1.1 w1.2
  obtain ⟨s2, e2⟩ : ∃ t, t = cmG s1 0 20 90 2 0 3 := ⟨_, rfl⟩
  rw [← e2] at q2 w2 ⊢
  have q3 := z_3 hk q2.2.2
  have m2 : s2.1 1 = 2 := (q2.2.2 1 (by decide) (by decide)).trans (zl_01 k hk).2.2.1.2
  exact z_67 (g := s2) (a := 0) (b := 10) (c := 10) (e := 7) (f := 1) (kk := 3) (fun p r q => by
    have ef : (cmF s2 0 10 10 7 1 3).2 = (accM (GJ s2.1) 2 0 10 10 7 1).2 := by
      unfold cmF
      rw [m2]
      rfl
    rw [ef]
    exact acc_67 ⟨by decide, by decide⟩ (by decide) q) q3.2.1 (by decide) (by omega) w2.1 w2.2
/-- the law, from its start to its end -/
theorem law_all {h0 : MH} (hX : JXok X) (hM : jM X ≤ 396) (hs : jSn X < 2 ^ 31) (hN : zN h0 = 0) (hz : Z0 (zN h0) (zI h0) (zL h0) (zD h0)) (hm : 100000 ≤ mc ∧ 1000000 ≤ ms) (hQ : ∀ h', Q (.inl (some (.int 1), h'))) :
    Ev X (jm jdL_law) 17 mc ms Q 0 [some (.ref (BIG + 300)), none, none, none, none, none, none, none, none] [] h0 := by
  refine law_A hX hM hs hN hz ⟨by omega, by omega⟩ (fun h1 bY now n mc1 ms1 sx sy bY4 ox oy hsx hnow n1 m1 k1 => ?_)
  refine law_T hX hM hs ox (by omega) ⟨by omega, by omega⟩ (fun h2 b c k w mc2 ms2 hk w1 w2 b4 ox oz n2 m2 k2 => ?_)
  refine law_U hX hM b4 ox oz (by omega) ⟨by omega, by omega⟩ (fun h3 mc3 ms3 ox oz n3 m3 k3 => ?_)
  refine law_V hX hM b4 hk ox oz rfl (by omega) ⟨by omega, by omega⟩ (fun h4 mc4 ms4 ox oz n4 m4 k4 => ?_)
  obtain ⟨s0, R, hs0, -⟩ := rn_T3 hk
  refine law_W hX hM b4 hk ox oz R hs0 (by decide) (by omega) ⟨by omega, by omega⟩ (fun h5 mc5 ms5 ox oz n5 m5 k5 => ?_)
  refine law_X hX hM b4 hk ⟨w1, w2⟩ ox oz (fun j _ _ => by rw [hs0]) (by decide) (by omega) ⟨by omega, by omega⟩ (fun h6 mc6 ms6 s3 ox oz es3 z3 n6 m6 k6 => ?_)
  have w3 : s3.1 6 = 0 ∧ s3.1 79 = w := by
    rw [es3]
    exact z_3w hk ⟨w1, w2⟩ hs0
  refine law_a hX hM b4 hk ox oz z3 (by omega) ⟨by omega, by omega⟩ (fun h7 mc7 ms7 ox oz n7 m7 k7 => ?_)
  refine law_b hX hM b4 hk ox oz z3 (by decide) (by omega) ⟨by omega, by omega⟩ (fun h8 mc8 ms8 ox oz n8 m8 k8 => ?_)
  refine law_c hX hM b4 hk ox oz z3 (by decide) (by omega) ⟨by omega, by omega⟩ (fun h9 mc9 ms9 ox oz n9 m9 k9 => ?_)
  refine law_d hX hM b4 hk ox oz z3 w3 w2 (by decide) (by omega) ⟨by omega, by omega⟩ (fun ha mca msa s4 ox oz z4 na ma ka => ?_)
  refine law_e1 hX hM b4 hk ox oz z4.1 z4.2 w2 (by decide) (by omega) ⟨by omega, by omega⟩ (fun hb mcb msb s6 ox oz z6 nb mb kb => ?_)
  refine law_e2 hX hM b4 hk ox oz z6.1 (by decide) (by omega) ⟨by omega, by omega⟩ (fun hb2 mcb2 msb2 t ox oz et nb2 mb2 kb2 => ?_)
  rw [et] at oz
  refine law_e3 hX hM b4 hk ox oz z6.1 (by decide) (by omega) ⟨by omega, by omega⟩ (fun hb3 mcb3 msb3 t ox oz et nb3 mb3 kb3 => ?_)
  rw [et] at oz
  refine law_f1 hX hM b4 hk ox oz z6.1 z6.2 w2 (by decide) (by omega) ⟨by omega, by omega⟩ (fun hc mcc msc s7 ox oz z7 nc mc0 kc => ?_)
  refine law_f2 hX hM b4 hk ox oz z7.1 z7.2 w2 (by decide) (by omega) ⟨by omega, by omega⟩ (fun hc2 mcc2 msc2 s9 ox oz z9 nc2 mc02 kc2 => ?_)
  refine law_f3 hX hM b4 hk ox oz z9.1 z9.2 w2 (by decide) (by omega) ⟨by omega, by omega⟩ (fun hc3 mcc3 msc3 t ox oz et nc3 mc03 kc3 => ?_)
  rw [et] at oz
  refine law_g1 hX hM b4 hk ox oz z9.1 (by decide) (by omega) ⟨by omega, by omega⟩ (fun hd mcd msd t ox oz et nd md kd => ?_)
  rw [et] at oz
  refine law_g2 hX hM b4 hk ox oz z9.1 (by decide) (by omega) ⟨by omega, by omega⟩ (fun hd2 mcd2 msd2 t ox oz et nd2 md2 kd2 => ?_)
  rw [et] at oz
  refine law_g3 hX hM b4 hk ox oz z9.1 (by decide) (by omega) ⟨by omega, by omega⟩ (fun hd3 mcd3 msd3 sa ox oz za nd3 md3 kd3 => ?_)
  refine law_h hX hM b4 hk ox oz za (by omega) ⟨by omega, by omega⟩ (fun he v mce mse sb ox oz djv zb ne me ke => ?_)
  refine law_i1 hX hM b4 hk djv ox oz zb (by decide) (by omega) ⟨by omega, by omega⟩ (fun hf mcf msf sc ox oz zc nf mf kf => ?_)
  refine law_i2 hX hM b4 hk djv ox oz zc.1 (by decide) (by omega) ⟨by omega, by omega⟩ (fun hf2 mcf2 msf2 t ox oz et nf2 mf2 kf2 => ?_)
  rw [et] at oz
  refine law_i3 hX hM b4 hk djv ox oz zc.2.1 zc.2.2 (by decide) (by omega) ⟨by omega, by omega⟩ (fun hf3 mcf3 msf3 t ox oz et nf3 mf3 kf3 => ?_)
  exact law_Z hX hM ox hsx hnow (by omega) ⟨by omega, by omega⟩ hQ
end LAL
