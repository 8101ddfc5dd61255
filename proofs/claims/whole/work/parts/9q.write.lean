/-! writing a track: class and model -/
section YWT
variable {X : JX} {K N v d qq nx cap cap' : Nat} {T : Nat → Option JS} {I I1 I2 J : HI} {L L2 : HL} {Dd : HD} {g g' σ : Nat → Nat} {gs : Nat → Nat → Nat} {sv : Option (Nat → Nat)} {tx : Nat → Int32} {er fl : Int32} {w w' : List Int32} {a b c e f i0 t : Int32} {x : Nat}
theorem CP.wr {N' v' : Nat} {T' : Nat → Option JS} (h : CP K N v T I L Dd g gs d sv qq tx er fl w) (hf : Fr I I1) (ln : Ln w' cap' N' v' T' I1 L Dd) (c9 : cap' ≤ 590) : CP K N' v' T' I1 L Dd g gs d sv qq tx er fl w' := by
  obtain ⟨⟨σ, y⟩, ⟨nx, hs⟩, sc, tc, -⟩ := h
  have o : ∀ a, a < 394 → I1 a = I a := fun a ha => hf a (Or.inl ha)
  exact ⟨⟨σ, y.eq (fun a ha _ _ _ _ => o a (by omega)) rfl⟩, ⟨nx, hs.fr (fun a h1 h2 => o a (by omega)) (fun _ _ => rfl)⟩, sc.fr (fun a h1 h2 => o a (by omega)) (fun _ _ => rfl), tc.fr (o 0 (by omega)) (by rw [o 388 (by omega)]) (o 389 (by omega)), cap', ln, c9⟩
theorem MP.wr (hm : MP J g gs d sv qq tx er fl w) (hl : w'.length ≤ 300) (hc : ∀ x, x ∈ w' → chW x) : MP (up2 (LW J w') 396 12 0) g gs d sv qq tx er fl w' ∧ ∀ a, (a < 396 ∨ 405 ≤ a) → up2 (LW J w') 396 12 0 a = J a := by
  obtain ⟨m1, m2, m3, m4, m5⟩ := hm
  obtain ⟨A, hA⟩ : ∃ A, A = up2 (LW J w') 396 12 0 := ⟨_, rfl⟩
  rw [← hA]
  have lw : ∀ a, a ≠ 396 → a ≠ 402 → LW J w' a = J a := fun a h1 h2 => by
    funext j
    unfold LW
    rw [if_neg (fun q => h1 q.1), if_neg (fun q => h2 q.1)]
  have r : ∀ a, a ≠ 396 → a ≠ 402 → A a = J a := fun a h1 h2 => by rw [hA, up2_ne h1, lw a h1 h2]
  have r6 : ∀ j, j ≠ 11 → j ≠ 12 → A 396 j = J 396 j := fun j h1 h2 => by
    rw [hA, up2_v, if_neg h2]
    unfold LW
    rw [if_neg (fun q => h1 q.2), if_neg (fun q => absurd q.1 (by decide))]
  refine ⟨⟨by rw [r 397 (by decide) (by decide)]; exact m1, m2.fr (r6 3 (by decide) (by decide)) (r 399 (by decide) (by decide)), m3.fr (r6 5 (by decide) (by decide)) (r 400 (by decide) (by decide)), m4.fr (r6 7 (by decide) (by decide)) (r6 8 (by decide) (by decide)) (r6 9 (by decide) (by decide)) (r 401 (by decide) (by decide)), ?_, hl, fun j hj => ?_, hc⟩, fun a ha => r a (by omega) (by omega)⟩
  · rw [hA, up2_v, if_neg (by decide)]
    unfold LW
    rw [if_pos ⟨rfl, rfl⟩]
  · rw [hA, up2_ne (by decide)]
    unfold LW
    rw [if_neg (fun q => absurd q.1 (by decide)), if_pos ⟨rfl, hj⟩]
/-- what the model's walk asks -/
theorem wt_ok {x : Nat} (hK : K ≤ 5000) (W : WG K g) (V : GV (J 397) g) (hx : x < g 0) (et : t = nI x) : ∃ sl us ca c0, J 397 (15 + t.toNatClampNeg) = nI sl ∧ sl < 10000 ∧ smM J (g 1) (nI t.toNatClampNeg) 59 = nI us ∧ us < 10000 ∧ J 397 (7 + t.toNatClampNeg) = nI ca ∧ ca < 10000 ∧ c0 ≤ 20 ∧ J 397 (31 + t.toNatClampNeg) = nI c0 ∧ ∀ p, p < c0 → ∃ s num de, s < g 1 ∧ slAM J (g 1) (nI t.toNatClampNeg) (nI p) = nI s ∧ J 397 (39 + s) = nI num ∧ num < 10000 ∧ J 397 (99 + s) = nI de ∧ de < 10000 := by
  have z8 := W.1.1
  have m20 := W.1.2.1
  have b1 := W.2.1 x (by omega)
  have u := usN_le hK W (t := x)
  have us : smM J (g 1) (nI x) 59 = nI (usN g x) := smM_g hK W V (by omega) (by decide)
  have h20 := W.h20 (t := x) (by omega)
  rw [et, nI_clamp (by omega)]
  refine ⟨g (15 + x), usN g x, g (7 + x), g (31 + x), V _ (by omega), by omega, us, by omega, V _ (by omega), by omega, h20, V _ (by omega), fun p hp => ?_⟩
  have a := atS_spec W (t := x) (by omega) hp
  have b := W.car hK a.1
  exact ⟨atS g x p, g (39 + atS g x p), g (99 + atS g x p), a.1, slAM_s hK W V (by omega) hp, V _ (by omega), by omega, V _ (by omega), by omega⟩
theorem wt_car (y : YC K I L g σ) {x : Nat} (hx : x < 8) : ∀ p, p < g (31 + x) → ∃ s num de, s < 20 ∧ slotAt I (nI x) (nI p) = nI s ∧ I 17 s = nI num ∧ num < 10000 ∧ I 19 s = nI de ∧ de < 10000 := fun p hp => by
  obtain ⟨hK, W, S, TT, Jj, C⟩ := y
  have a := atS_spec W hx hp
  have b := W.car hK a.1
  have q := C.1 _ a.1
  exact ⟨σ (atS g x p), g (39 + atS g x p), g (99 + atS g x p), q.1, slotAt_s hK W C hx hp, q.2.1, by omega, q.2.2.2.2.1, by omega⟩
theorem b_writeTrack (hX : JXok X) (h : CP K N v T I L Dd g gs d sv qq tx er fl w) (hm : MP I g gs d sv qq tx er fl w) (hN : N + 1500 < BIG) : ∃ mc ms, mc ≤ 1160 ∧ ms ≤ 1160 ∧ CLS X K mc ms jdX6_writeTrack [.int t] jdX7_writeTrack [.int t] [xIO] PIv N v T I L Dd := by
  have h0 := h
  obtain ⟨p1, p2, -, -, -, p6⟩ := h.pre
  obtain ⟨m20, -⟩ := h.m20
  obtain ⟨⟨σ, y⟩, -, -, -, cap, ln, c9⟩ := h
  have hN4 := h0.N4
  by_cases c : hasT I t
  · obtain ⟨x, hx, et⟩ := (hasT_g y.2.2.1 p1 t).mp c
    have x8 : x < 8 := by omega
    subst et
    have W := y.2.1
    have b1 := W.2.1 x x8
    have u := usN_le y.1 W (t := x)
    have q := y.2.2.2.1 x x8
    have C := c_writeTrack2 hX (by decide : 9 ≤ 12) c x8 (W.h20 x8) q.2.1 (by omega : g (15 + x) < 10000) q.2.2.2 (by omega) q.1 (by omega) q.2.2.1 (wt_car y x8) ln c9 hN4 hN
    rw [trkT_g y x8] at C
    have wok := wrG_ok y.1 W x8
    refine ⟨1160, 1160, Nat.le_refl _, Nat.le_refl _, _, C, fun R hR => ?_⟩
    obtain ⟨N', v', T', I', cap', e1, ln', hf, hN', c9'⟩ := hR
    have m1 : MP I' g gs d sv qq tx er fl w := hm.fr (fun a h1 h2 => hf a (Or.inr ⟨by omega, by omega⟩))
    have M := m1.wr wok.1 wok.2
    have P := h0.wr hf ln' c9'
    refine ⟨N', v', T', I', L, ln'.2.2.2.1, by omega, Or.inl ⟨_, e1, ⟨_, _, rfl, rfl⟩, fun L' Dd' hL hD => ?_⟩⟩
    have V := m1.1
    have ew : wtM I' (g 1) (nI x) = (nI (wrG g x).length, up2 (LW I' (wrG g x)) 396 12 0) := by
      have tk : tkM I' (nI x) := (tkM_g V p1 (nI x)).mpr ⟨x, hx, rfl⟩
      have h20 := W.h20 x8
      unfold wtM
      rw [if_neg (fun q => q tk), nI_clamp (by omega), V _ (by omega), nI_clamp (by omega), trkTM_g y.1 W V x8]
    have Mt := m_writeTrack (N := N') (v := v') (T := T') (L := L') (Dd := Dd') (t := nI x) hX (by decide : 4 ≤ 12) m20 (m1.1 1 (by decide)) p1 (m1.1 0 (by decide)) (fun _ => wt_ok y.1 W V hx rfl)
    rw [ew] at Mt
    exact Mt.mono (fun R hR => ⟨_, up2 (LW I' (wrG g x)) 396 12 0, hR, ⟨_, rfl, rfl⟩, thr _ 0, g, gs, d, sv, qq, tx, er, fl, wrG g x, P.fr M.2 hL hD, M.1⟩)
  · refine ⟨4, 24, by decide, by decide, _, c_writeTrackX hX (by decide) c hN4 (by omega), fun R hR => ?_⟩
    obtain ⟨sh, e1⟩ := hR
    refine ⟨N + 1, v, upS T N sh, I, L, by omega, by omega, Or.inr ⟨0, xIO, rfl, e1, ?_⟩⟩
    have V := hm.1
    have nt : ¬ tkM I t := fun q => by
      obtain ⟨k, hk, ek⟩ := (tkM_g V p1 t).mp q
      exact c ((hasT_g y.2.2.1 p1 t).mpr ⟨k, hk, ek⟩)
    refine mod_no (y := some (.int (wtM I (g 1) t).1)) (J := (wtM I (g 1) t).2) ⟨_, _, rfl, rfl⟩ h0 hm (fun N v T L Dd => m_writeTrack hX (by decide) m20 (hm.1 1 (by decide)) p1 (hm.1 0 (by decide)) (fun q => absurd q nt)) ?_ sh
    unfold wtM
    rw [if_pos nt]
    rfl
end YWT
