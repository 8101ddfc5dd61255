/-! a run: class and model, the call -/
section YRO
variable {X : JX} {K N v d qq nx : Nat} {T : Nat → Option JS} {I I1 : HI} {L L2 : HL} {Dd : HD} {g g' σ : Nat → Nat} {gs : Nat → Nat → Nat} {sv : Option (Nat → Nat)} {tx : Nat → Int32} {er fl : Int32} {w : List Int32}
/-- the model's run, in a heap that has the model's rows -/
theorem b_run (hX : JXok X) (h : CP K N v T I L Dd g gs d sv qq tx er fl w) (hm : MP I g gs d sv qq tx er fl w) (hN : N + 1 < BIG) (hK8 : K + 8 ≤ 5000) : CLS X (K + 8) 4 24 jdX6_run [] jdX7_run [] [xIA, xUO] PIv N v T I L Dd := by
  have hN4 := h.N4
  obtain ⟨-, -, -, -, q60, d8⟩ := h.pre
  obtain ⟨p, ep⟩ := nI_all (I 388 5)
  obtain ⟨vt, ev⟩ := nI_all (I 388 6)
  obtain ⟨ct, ec⟩ := nI_all (I 388 2)
  have h00 := h
  obtain ⟨y00, ⟨nx, hnx⟩, -, tc, -⟩ := h00
  have hnx0 := hnx
  obtain ⟨n8, n1, d1, -, -⟩ := hnx
  have PO0 := pa_eq (tx := tx) q60 60 61 0 vt (I 393) 0 (I 391) (I 404) (by omega) (by omega) (by omega) (fun j hj => absurd hj (by omega))
  have c8 := paL_1 (tx := tx) (q := qq) 60 0 vt (I 393) 0 (I 391) (by omega) (by omega) q60
  have e9 : I 389 = tx := tc.2.2.1
  have es : PI I qq (p, vt, I 393, ct, I 391) = I := PI_self ep ev ec tc.2.1
  obtain ⟨A, hA⟩ : ∃ A, A = paL tx qq 60 0 vt (I 393) 0 (I 391) := ⟨_, rfl⟩
  obtain ⟨M, hM⟩ : ∃ M, M = rdM tx qq 61 0 (0, 0, I 404) := ⟨_, rfl⟩
  rw [← hA, ← hM] at PO0
  rw [← hA] at c8
  obtain ⟨B, hB⟩ : ∃ B, B = rn1 I qq vt (I 393) (I 391) := ⟨_, rfl⟩
  have eB : B = up2 (PI I qq A.2) 388 1 0 := by
    rw [hB, hA, ← e9]
    rfl
  have PB : CP K N v T B L Dd g gs d sv 0 tx er fl w := by
    rw [eB]
    exact h.pr
  have oB : ∀ a, a ≠ 388 → a ≠ 391 → a ≠ 393 → B a = I a := fun a h1 h2 h3 => by
    rw [eB]
    exact (up2_ne h1).trans (PI_o h1 h2 h3)
  have hnB : HC K B L gs d nx := hnx0.fr (fun a h1 h2 => oB a (by omega) (by omega) (by omega)) (fun _ _ => rfl)
  obtain ⟨σ, y1⟩ := PB.y1
  have hb : 1 + 35 ≤ 36 ∨ 36 + 35 ≤ 1 := Or.inl (by omega)
  -- the commands of both
  have both : ∀ J1 : HI, (∀ a, 396 ≤ a → a < 405 → J1 a = I a) → A.1 = -1 → A.2.2.2.2.1 = M.1 → CMS A.2.2.2.2.2 A.2.2.2.1 M.2.2.2 M.1 →
      rOK A.2.2.2.2.1 nx d A.2.2.2.2.1 0 (yardCpI B 36 1) (yardCpL L 36 1) ∧ mrOK d M.1 0 (begM (up2 (PM J1 (M.2.1, 0, M.2.2.2)) 396 7 0)) ∧ FRC (yardCpI B 36 1) (runL M.1 0 (yardCpI B 36 1) (yardCpL L 36 1)).2.1 ∧ (∀ b, b ≠ 1 → (runL M.1 0 (yardCpI B 36 1) (yardCpL L 36 1)).2.2 b = yardCpL L 36 1 b) ∧ FRM (begM (up2 (PM J1 (M.2.1, 0, M.2.2.2)) 396 7 0)) (mrL M.1 0 (begM (up2 (PM J1 (M.2.1, 0, M.2.2.2)) 396 7 0))).2 ∧
      ((∃ i v, (runL M.1 0 (yardCpI B 36 1) (yardCpL L 36 1)).1 = some i ∧ (mrL M.1 0 (begM (up2 (PM J1 (M.2.1, 0, M.2.2.2)) 396 7 0))).1 = some (i, v)) ∨ ((runL M.1 0 (yardCpI B 36 1) (yardCpL L 36 1)).1 = none ∧ (mrL M.1 0 (begM (up2 (PM J1 (M.2.1, 0, M.2.2.2)) 396 7 0))).1 = none ∧ ∃ g' σ', YR (K + M.1) (runL M.1 0 (yardCpI B 36 1) (yardCpL L 36 1)).2.1 (runL M.1 0 (yardCpI B 36 1) (yardCpL L 36 1)).2.2 ((mrL M.1 0 (begM (up2 (PM J1 (M.2.1, 0, M.2.2.2)) 396 7 0))).2 397) g' σ')) := fun J1 hJ a1 a2 a3 => by
    have mJ : MP J1 g gs d sv qq tx er fl w := hm.fr hJ
    have m1 := (mJ.pr (s := (M.2.1, 0, M.2.2.2))).1
    obtain ⟨J, hJJ⟩ : ∃ J, J = up2 (PM J1 (M.2.1, 0, M.2.2.2)) 396 7 0 := ⟨_, rfl⟩
    rw [← hJJ] at m1 ⊢
    have e4 : begM J 404 = M.2.2.2 := by
      rw [begM_ne (by decide), hJJ, up2_ne (by decide), PM_404]
    have o2 : ∀ a, (a < 36 ∨ 71 ≤ a) → yardCpI B 36 1 a = B a := fun a ha => yc_o hb (by omega)
    have Y0 : YC K (yardCpI B 36 1) (yardCpL L 36 1) g σ := by
      have Y1 : YC K (yv (yardCpI B 36 1) 1) (yl (yardCpL L 36 1) 1) g σ := y1.fr (fun a h1 h2 => o2 a (by omega)) (by omega) (yardCpL_o (by omega))
      rw [yv_1, yl_1] at Y1
      exact Y1
    have V : GV (begM J 397) g := by
      rw [begM_ne (by decide)]
      exact m1.1
    have C2 : CMS (yardCpI B 36 1 391) (yardCpI B 36 1 393) (begM J 404) (0 + M.1) := by
      rw [o2 391 (Or.inr (by decide)), o2 393 (Or.inr (by decide)), e4, eB, up2_ne (by decide), up2_ne (by decide), PI_391, PI_393, Nat.zero_add]
      exact a3
    have R := run_lo (k := nx) (m := d) (ct := M.1) d8 M.1 0 _ _ (begM J) g σ K (Y0.yr V) (by omega) C2 (by rw [o2 388 (Or.inr (by decide)), eB, up2_v, if_neg (by decide), PI_2, a2]) (by rw [o2 71 (Or.inr (by decide)), oB 71 (by decide) (by decide) (by decide)]; exact n1) (by rw [o2 71 (Or.inr (by decide)), oB 71 (by decide) (by decide) (by decide)]; exact d1) ((congrFun (begM_ne (by decide)) 3).trans m1.2.1.1)
    rw [a2]
    exact R
  have C : MT X 12 4 24 jdX6_run [.ref 0] (N, SH v T, PI I qq (p, vt, I 393, ct, I 391), L, Dd) (rnRes N v T Dd I L qq vt (I 393) (I 391) nx d) := by
    refine c_run hX (by decide) hN4 hN n8 d8 q60 (fun q => ?_)
    rw [e9, ← hA] at q ⊢
    rw [← hB]
    rcases PO0 with ⟨b1, b2, b3⟩ | ⟨b1, b2, b3, b4, b5⟩
    · rw [b1] at q
      exact absurd q (nI_mi (by omega))
    · exact (both I (fun _ _ _ => rfl) b1 b4 b5).1
  rw [es] at C
  obtain ⟨Q9, hQ9⟩ : ∃ Q9, Q9 = rnRes N v T Dd I L qq vt (I 393) (I 391) nx d := ⟨_, rfl⟩
  rw [← hQ9] at C
  refine ⟨_, C, fun R hR => ?_⟩
  rw [hQ9] at hR
  unfold rnRes rnR at hR
  rw [e9, ← hA, ← hB] at hR
  have e401 : I 401 = tx := hm.2.2.2.1.2.1
  have e0 : ∀ J1 : HI, (∀ a, 396 ≤ a → a < 405 → J1 a = I a) → rd0 J1 qq = M := fun J1 hJ => by
    show rdM (J1 401) qq 61 0 (0, 0, J1 404) = M
    rw [hJ 401 (by decide) (by decide), hJ 404 (by decide) (by decide), e401, hM]
  rcases PO0 with ⟨b1, b2, b3⟩ | ⟨b1, b2, b3, b4, b5⟩
  · -- the text is no program
    rw [if_neg (by rw [b1]; exact nI_mi (by omega))] at hR
    obtain ⟨sh, e⟩ := hR
    have hI : ∀ a, 396 ≤ a → a < 405 → up2 B 0 5 A.1 a = I a := fun a h1 h2 => (up2_ne (by omega)).trans (oB a (by omega) (by omega) (by omega))
    have mI : MP (up2 B 0 5 A.1) g gs d sv qq tx er fl w := hm.fr hI
    have P := ((PB.er5 (e := A.1)).new (sh := sh)).mono (K' := K + 8) (by omega) hK8
    have er9 : runE (up2 B 0 5 A.1) qq := by
      show ¬ (rd0 (up2 B 0 5 A.1) qq).2.2.1 = 0 ∨ (rd0 (up2 B 0 5 A.1) qq).2.1 < qq
      rw [e0 _ hI]
      exact b2
    have Mr := m_run (N := N + 1) (v := v) (T := upS T N sh) (I := up2 B 0 5 A.1) (L := L) (Dd := Dd) hX (by decide : 8 ≤ 12) q60 mI.pre.2.2.2 d8 (fun q => absurd er9 q)
    have rm : runM (up2 B 0 5 A.1) qq d = (0, up2 (up2 (up2 (PM (up2 B 0 5 A.1) (M.2.1, 1, M.2.2.2)) 396 7 0) 396 8 (nI M.2.1)) 396 12 1) := by
      unfold runM
      rw [if_pos er9, e0 _ hI]
    rw [rm] at Mr
    obtain ⟨q1, q2⟩ := mI.pr (s := (M.2.1, 1, M.2.2.2))
    have q3 := q1.er8 (e := nI M.2.1)
    have q4 := q3.th (I1 := up2 (up2 (up2 (PM (up2 B 0 5 A.1) (M.2.1, 1, M.2.2.2)) 396 7 0) 396 8 (nI M.2.1)) 396 12 1) (fun a h1 h2 => up2_ne (by omega)) (fun j hj => up2_i hj)
    rw [b1] at P
    refine ⟨N + 1, v, upS T N sh, up2 B 0 5 A.1, L, by omega, by omega, Or.inr ⟨0, xIA, rfl, e, Mr.mono (fun R hR2 => ⟨_, _, hR2, ⟨_, _, rfl, rfl⟩, thr (up2 (up2 (PM (up2 B 0 5 A.1) (M.2.1, 1, M.2.2.2)) 396 7 0) 396 8 (nI M.2.1)) 1, g, gs, d, sv, 0, tx, nI M.2.1, fl, w, ?_, q4⟩)⟩⟩
    refine CP.fr (I := up2 B 0 5 (nI M.2.1)) P (fun a ha => ?_) (fun _ _ => rfl) (fun _ _ => rfl)
    show up2 (up2 (up2 (PM (up2 B 0 5 A.1) (M.2.1, 1, M.2.2.2)) 396 7 0) 396 8 (nI M.2.1)) 396 12 1 a = _
    rw [up2_ne (by omega), up2_ne (by omega), q2 a ha, b1]
  · rw [if_pos b1, b4] at hR
    have ok := both I (fun _ _ _ => rfl) b1 b4 b5
    obtain ⟨X1, hX1⟩ : ∃ X1, X1 = runL M.1 0 (yardCpI B 36 1) (yardCpL L 36 1) := ⟨_, rfl⟩
    rw [← hX1] at hR
    have fc : FRC (yardCpI B 36 1) X1.2.1 := by rw [hX1]; exact ok.2.2.1
    have fl9 : ∀ b, b ≠ 1 → X1.2.2 b = yardCpL L 36 1 b := by rw [hX1]; exact ok.2.2.2.1
    have c8' : M.1 ≤ 8 := by rw [← b4]; exact c8
    have rB : ∀ a, (a = 0 ∨ 71 ≤ a) → X1.2.1 a = B a := fun a ha => (fc a (by omega)).trans (yc_o hb (by omega))
    have nr : ∀ J1 : HI, (∀ a, 396 ≤ a → a < 405 → J1 a = I a) → ¬ runE J1 qq := fun J1 hJ => by
      show ¬ (¬ (rd0 J1 qq).2.2.1 = 0 ∨ (rd0 J1 qq).2.1 < qq)
      rw [e0 J1 hJ]
      intro q
      rcases q with q | q
      · exact q b2
      · exact b3 q
    have Mr : ∀ (J1 : HI) N v T L Dd, (∀ a, 396 ≤ a → a < 405 → J1 a = I a) → MT X 12 0 0 jdX7_run [.ref 396] (N, SH v T, J1, L, Dd) (fun R => R = .inl (some (.int (mfi d M.1 (mrL M.1 0 (begM (up2 (PM J1 (M.2.1, 0, M.2.2.2)) 396 7 0))).2 (mrL M.1 0 (begM (up2 (PM J1 (M.2.1, 0, M.2.2.2)) 396 7 0))).1).1), (N, SH v T, (mfi d M.1 (mrL M.1 0 (begM (up2 (PM J1 (M.2.1, 0, M.2.2.2)) 396 7 0))).2 (mrL M.1 0 (begM (up2 (PM J1 (M.2.1, 0, M.2.2.2)) 396 7 0))).1).2, L, Dd))) := fun J1 N v T L Dd hJ => by
      have mJ : MP J1 g gs d sv qq tx er fl w := hm.fr hJ
      have rm : runM J1 qq d = mfi d M.1 (mrL M.1 0 (begM (up2 (PM J1 (M.2.1, 0, M.2.2.2)) 396 7 0))).2 (mrL M.1 0 (begM (up2 (PM J1 (M.2.1, 0, M.2.2.2)) 396 7 0))).1 := by
        unfold runM mrn0
        rw [if_neg (nr J1 hJ), e0 J1 hJ]
      have C := m_run (N := N) (v := v) (T := T) (I := J1) (L := L) (Dd := Dd) hX (by decide : 8 ≤ 12) q60 mJ.pre.2.2.2 d8 (fun _ => by
        have e1 : rdM (J1 401) qq 61 0 (0, 0, J1 404) = M := e0 J1 hJ
        rw [e1]
        exact (both J1 hJ b1 b4 b5).2.1)
      rw [rm] at C
      exact C
    rcases ok.2.2.2.2.2 with ⟨i, v9, r1, -⟩ | ⟨r1, -, -⟩
    · -- a command failed
      rw [← hX1] at r1
      rw [r1] at hR
      obtain ⟨sh, e⟩ : ∃ sh, R = .inr (xUO, (N + 1, SH v (upS T N sh), up2 (yardCpI X1.2.1 1 36) 0 6 (nI i), yardCpL X1.2.2 1 36, Dd)) := hR
      have hb2 : 36 + 35 ≤ 1 ∨ 1 + 35 ≤ 36 := Or.inr (by omega)
      have hI : ∀ a, 396 ≤ a → a < 405 → up2 (yardCpI X1.2.1 1 36) 0 6 (nI i) a = I a := fun a h1 h2 => (up2_ne (by omega)).trans ((yc_o hb2 (by omega)).trans ((rB a (by omega)).trans (oB a (by omega) (by omega) (by omega))))
      obtain ⟨I1, hI1⟩ : ∃ I1, I1 = up2 (yardCpI X1.2.1 1 36) 0 6 (nI i) := ⟨_, rfl⟩
      have P := ((PB.fail (f := nI i) fc fl9).new (sh := sh)).mono (K' := K + 8) (by omega) hK8
      rw [← hI1] at hI P e
      have mI : MP I1 g gs d sv qq tx er fl w := hm.fr hI
      obtain ⟨q1, q2⟩ := mI.pr (s := (M.2.1, 0, M.2.2.2))
      obtain ⟨-, -, -, -, s5, s6⟩ := both I1 hI b1 b4 b5
      have C := Mr I1 (N + 1) v (upS T N sh) (yardCpL X1.2.2 1 36) Dd hI
      obtain ⟨J0, hJ0⟩ : ∃ J0, J0 = up2 (PM I1 (M.2.1, 0, M.2.2.2)) 396 7 0 := ⟨_, rfl⟩
      rw [← hJ0] at C s5 s6 q1 q2
      rcases s6 with ⟨i2, v2, t1, t2⟩ | ⟨t1, -, -⟩
      · rw [← hX1, r1] at t1
        cases t1
        rw [t2] at C
        have Z := q1.runX (e := nI i) (c := v2) s5
        refine ⟨N + 1, v, upS T N sh, I1, yardCpL X1.2.2 1 36, by omega, by omega, Or.inr ⟨1, xUO, rfl, e, C.mono (fun R hR2 => ⟨_, _, hR2, ⟨_, _, rfl, rfl⟩, Z.2, g, gs, d, sv, 0, tx, er, nI i, w, ?_, Z.1⟩)⟩⟩
        refine P.fr (fun a ha => ?_) (fun _ _ => rfl) (fun _ _ => rfl)
        exact (kepM_o (by omega) (by omega) (by omega)).trans ((up2_ne (by omega)).trans ((up2_ne (by omega)).trans ((s5.1 a (by omega) (by omega) (by omega)).trans ((begM_ne (by omega)).trans (q2 a ha)))))
      · rw [← hX1, r1] at t1
        cases t1
    · -- all were carried out
      rw [← hX1] at r1
      rw [r1] at hR
      have e : R = .inl (some (.int (nI M.1)), (N, SH v T, remI X1.2.1 nx d 36, yardCpL X1.2.2 (108 + 35 * nx) 36, Dd)) := hR
      have hI : ∀ a, 396 ≤ a → a < 405 → remI X1.2.1 nx d 36 a = I a := fun a h1 h2 => (rem_o n8 (by decide) (by omega) (by omega)).trans ((rB a (by omega)).trans (oB a (by omega) (by omega) (by omega)))
      obtain ⟨I1, hI1⟩ : ∃ I1, I1 = remI X1.2.1 nx d 36 := ⟨_, rfl⟩
      rw [← hI1] at hI e
      have mI : MP I1 g gs d sv qq tx er fl w := hm.fr hI
      obtain ⟨q1, q2⟩ := mI.pr (s := (M.2.1, 0, M.2.2.2))
      obtain ⟨-, -, -, -, s5, s6⟩ := both I1 hI b1 b4 b5
      have C := Mr I1 N v T
      obtain ⟨J0, hJ0⟩ : ∃ J0, J0 = up2 (PM I1 (M.2.1, 0, M.2.2.2)) 396 7 0 := ⟨_, rfl⟩
      rw [← hJ0] at C s5 s6 q1 q2
      rcases s6 with ⟨i2, v2, t1, -⟩ | ⟨-, t2, g', σ', Y⟩
      · rw [← hX1, r1] at t1
        cases t1
      · rw [← hX1] at Y
        rw [t2] at C
        have P := (PB.goes hnB (by omega) fc fl9 Y.yc).mono (K' := K + 8) (by omega) hK8
        rw [← hI1] at P
        have Z := q1.push (F := (nI M.1, up2 (mrL M.1 0 (begM J0)).2 396 12 0)) (g' := g') d8 s5.th (thr (mrL M.1 0 (begM J0)).2 0) (by
          show GV (up2 (mrL M.1 0 (begM J0)).2 396 12 0 397) g'
          rw [up2_ne (by decide)]
          exact Y.2.1)
        refine ⟨N, v, T, I1, yardCpL X1.2.2 (108 + 35 * nx) 36, hN4, by omega, Or.inl ⟨_, e, ⟨_, _, rfl, rfl⟩, fun L' Dd' hL hD => ?_⟩⟩
        refine (C L' Dd' hI).mono (fun R hR2 => ⟨_, _, hR2, ⟨_, rfl, ?_⟩, Z.2.2, g', pushG gs d g, min 8 (d + 1), sv, 0, tx, er, fl, w, ?_, Z.1⟩)
        · exact congrArg (fun z => some (Value.int z)) Z.2.1
        · refine P.fr (fun a ha => ?_) hL hD
          exact (pubM_o (F := (nI M.1, up2 (mrL M.1 0 (begM J0)).2 396 12 0)) (J := J0) (d := d) s5.th a ha).trans (q2 a ha)
end YRO
