/-! a run: what the class answers, and the object behind it -/
section YRO
variable {X : JX} {K N v d qq nx : Nat} {T : Nat → Option JS} {I I1 : HI} {L L2 : HL} {Dd : HD} {g g' σ : Nat → Nat} {gs : Nat → Nat → Nat} {sv : Option (Nat → Nat)} {tx : Nat → Int32} {er fl : Int32} {w : List Int32}
/-- the text, read -/
def rdG (tx : Nat → Int32) (qq : Nat) : Nat × MS := rdM tx qq 61 0 (0, 0, fun _ => 0)
/-- the numbers and the read commands, where the functions look for them -/
def GR (g : Nat → Nat) (d : Nat) (m : Nat → Int32) : HI := fun a k => if a = 397 then nI (g k) else if a = 404 then m k else if a = 396 ∧ k = 3 then nI d else 0
theorem GR_404 {m : Nat → Int32} : GR g d m 404 = m := rfl
theorem GR_v {m : Nat → Int32} : GV (GR g d m 397) g := fun k _ => rfl
theorem GR_3 {m : Nat → Int32} : GR g d m 396 3 = nI d := rfl
/-- a run: value, refusal, the object behind it -/
def rnS (g : Nat → Nat) (gs : Nat → Nat → Nat) (d : Nat) (sv : Option (Nat → Nat)) (qq : Nat) (tx : Nat → Int32) (er fl : Int32) (w : List Int32) : Int32 × Int32 × GS :=
  if ¬ (rdG tx qq).2.2.1 = 0 ∨ (rdG tx qq).2.1 < qq then (0, 1, (g, gs, d, sv, 0, tx, nI (rdG tx qq).2.1, fl, w))
  else match (mrL (rdG tx qq).1 0 (GR g d (rdG tx qq).2.2.2)).1 with
    | some p => (0, 2, (g, gs, d, sv, 0, tx, er, nI p.1, w))
    | none => (nI (rdG tx qq).1, 0, (canonG ((mrL (rdG tx qq).1 0 (GR g d (rdG tx qq).2.2.2)).2 397), pushG gs d g, min 8 (d + 1), sv, 0, tx, er, fl, w))
theorem q_run (hX : JXok X) (h : CP K N v T I L Dd g gs d sv qq tx er fl w) (hN : N + 1 < BIG) (hK8 : K + 8 ≤ 5000) : CQ X (K + 8) 4 24 jdX6_run [] [xIA, xUO] (some (.int (rnS g gs d sv qq tx er fl w).1)) (rnS g gs d sv qq tx er fl w).2.1 (rnS g gs d sv qq tx er fl w).2.2 N v T I L Dd := by
  have hN4 := h.N4
  obtain ⟨-, -, -, -, q60, d8⟩ := h.pre
  obtain ⟨p, ep⟩ := nI_all (I 388 5)
  obtain ⟨vt, ev⟩ := nI_all (I 388 6)
  obtain ⟨ct, ec⟩ := nI_all (I 388 2)
  have h00 := h
  obtain ⟨y00, ⟨nx, hnx⟩, -, tc, -⟩ := h00
  have hnx0 := hnx
  obtain ⟨n8, n1, d1, -, -⟩ := hnx
  have PO0 := pa_eq (tx := tx) q60 60 61 0 vt (I 393) 0 (I 391) (fun _ => 0) (by omega) (by omega) (by omega) (fun j hj => absurd hj (by omega))
  have c8 := paL_1 (tx := tx) (q := qq) 60 0 vt (I 393) 0 (I 391) (by omega) (by omega) q60
  have e9 : I 389 = tx := tc.2.2.1
  have es : PI I qq (p, vt, I 393, ct, I 391) = I := PI_self ep ev ec tc.2.1
  obtain ⟨A, hA⟩ : ∃ A, A = paL tx qq 60 0 vt (I 393) 0 (I 391) := ⟨_, rfl⟩
  obtain ⟨M, hM⟩ : ∃ M, M = rdG tx qq := ⟨_, rfl⟩
  have hM2 : rdM tx qq 61 0 (0, 0, fun _ => 0) = M := hM.symm
  rw [← hA, hM2] at PO0
  rw [← hA] at c8
  unfold rnS
  rw [← hM]
  obtain ⟨B, hB⟩ : ∃ B, B = rn1 I qq vt (I 393) (I 391) := ⟨_, rfl⟩
  have eB : B = up2 (PI I qq A.2) 388 1 0 := by
    rw [hB, hA, ← e9]
    rfl
  have PB : CP K N v T B L Dd g gs d sv 0 tx er fl w := by
    rw [eB]
    exact h.pr
  have oB : ∀ a, a ≠ 388 → a ≠ 391 → a ≠ 393 → B a = I a := fun a h1 h2 h3 => by
    rw [eB]
    exact (up2_ne h1).trans (PI_o h1 h2 h3)
  have hnB : HC K B L gs d nx := hnx0.fr (fun a h1 h2 => oB a (by omega) (by omega) (by omega)) (fun _ _ => rfl)
  obtain ⟨σ, y1⟩ := PB.y1
  have hb : 1 + 35 ≤ 36 ∨ 36 + 35 ≤ 1 := Or.inl (by omega)
  obtain ⟨Jr, hJr⟩ : ∃ Jr, Jr = GR g d M.2.2.2 := ⟨_, rfl⟩
  rw [← hJr]
  -- the commands
  have both : A.1 = -1 → A.2.2.2.2.1 = M.1 → CMS A.2.2.2.2.2 A.2.2.2.1 M.2.2.2 M.1 →
      rOK A.2.2.2.2.1 nx d A.2.2.2.2.1 0 (yardCpI B 36 1) (yardCpL L 36 1) ∧ FRC (yardCpI B 36 1) (runL M.1 0 (yardCpI B 36 1) (yardCpL L 36 1)).2.1 ∧ (∀ b, b ≠ 1 → (runL M.1 0 (yardCpI B 36 1) (yardCpL L 36 1)).2.2 b = yardCpL L 36 1 b) ∧
      ((∃ i v, (runL M.1 0 (yardCpI B 36 1) (yardCpL L 36 1)).1 = some i ∧ (mrL M.1 0 Jr).1 = some (i, v)) ∨ ((runL M.1 0 (yardCpI B 36 1) (yardCpL L 36 1)).1 = none ∧ (mrL M.1 0 Jr).1 = none ∧ ∃ g' σ', YR (K + M.1) (runL M.1 0 (yardCpI B 36 1) (yardCpL L 36 1)).2.1 (runL M.1 0 (yardCpI B 36 1) (yardCpL L 36 1)).2.2 ((mrL M.1 0 Jr).2 397) g' σ')) := fun a1 a2 a3 => by
    have o2 : ∀ a, (a < 36 ∨ 71 ≤ a) → yardCpI B 36 1 a = B a := fun a ha => yc_o hb (by omega)
    have Y0 : YC K (yardCpI B 36 1) (yardCpL L 36 1) g σ := by
      have Y1 : YC K (yv (yardCpI B 36 1) 1) (yl (yardCpL L 36 1) 1) g σ := y1.fr (fun a h1 h2 => o2 a (by omega)) (by omega) (yardCpL_o (by omega))
      rw [yv_1, yl_1] at Y1
      exact Y1
    have V : GV (Jr 397) g := by
      rw [hJr]
      exact GR_v
    have C2 : CMS (yardCpI B 36 1 391) (yardCpI B 36 1 393) (Jr 404) (0 + M.1) := by
      rw [o2 391 (Or.inr (by decide)), o2 393 (Or.inr (by decide)), hJr, GR_404, eB, up2_ne (by decide), up2_ne (by decide), PI_391, PI_393, Nat.zero_add]
      exact a3
    have R := run_lo (k := nx) (m := d) (ct := M.1) d8 M.1 0 _ _ Jr g σ K (Y0.yr V) (by omega) C2 (by rw [o2 388 (Or.inr (by decide)), eB, up2_v, if_neg (by decide), PI_2, a2]) (by rw [o2 71 (Or.inr (by decide)), oB 71 (by decide) (by decide) (by decide)]; exact n1) (by rw [o2 71 (Or.inr (by decide)), oB 71 (by decide) (by decide) (by decide)]; exact d1) (by rw [hJr]; exact GR_3)
    rw [a2]
    exact ⟨R.1, R.2.2.1, R.2.2.2.1, R.2.2.2.2.2⟩
  have C : MT X 12 4 24 jdX6_run [.ref 0] (N, SH v T, PI I qq (p, vt, I 393, ct, I 391), L, Dd) (rnRes N v T Dd I L qq vt (I 393) (I 391) nx d) := by
    refine c_run hX (by decide) hN4 hN n8 d8 q60 (fun q => ?_)
    rw [e9, ← hA] at q ⊢
    rw [← hB]
    rcases PO0 with ⟨b1, b2, b3⟩ | ⟨b1, b2, b3, b4, b5⟩
    · rw [b1] at q
      exact absurd q (nI_mi (by omega))
    · exact (both b1 b4 b5).1
  rw [es] at C
  obtain ⟨Q9, hQ9⟩ : ∃ Q9, Q9 = rnRes N v T Dd I L qq vt (I 393) (I 391) nx d := ⟨_, rfl⟩
  rw [← hQ9] at C
  refine ⟨_, C, fun R hR => ?_⟩
  rw [hQ9] at hR
  unfold rnRes rnR at hR
  rw [e9, ← hA, ← hB] at hR
  rcases PO0 with ⟨b1, b2, b3⟩ | ⟨b1, b2, b3, b4, b5⟩
  · -- the text is no program
    rw [if_neg (by rw [b1]; exact nI_mi (by omega))] at hR
    rw [if_pos b2]
    obtain ⟨sh, e⟩ := hR
    have P := ((PB.er5 (e := A.1)).new (sh := sh)).mono (K' := K + 8) (by omega) hK8
    rw [b1] at P e
    exact ⟨N + 1, upS T N sh, up2 B 0 5 (nI M.2.1), L, ⟨Nat.le_succ _, by omega, Or.inl rfl, fun a h1 h2 => ⟨upS_o h2, fun _ => (up2_ne (by omega)).trans (oB a (by omega) (by omega) (by omega)), rfl⟩⟩, P, Or.inr ⟨0, xIA, rfl, rfl, e⟩⟩
  · rw [if_pos b1, b4] at hR
    rw [if_neg (fun q => q.elim (fun q => q b2) b3)]
    have ok := both b1 b4 b5
    obtain ⟨X1, hX1⟩ : ∃ X1, X1 = runL M.1 0 (yardCpI B 36 1) (yardCpL L 36 1) := ⟨_, rfl⟩
    rw [← hX1] at hR
    have fc : FRC (yardCpI B 36 1) X1.2.1 := by rw [hX1]; exact ok.2.1
    have fl9 : ∀ b, b ≠ 1 → X1.2.2 b = yardCpL L 36 1 b := by rw [hX1]; exact ok.2.2.1
    have c8' : M.1 ≤ 8 := by rw [← b4]; exact c8
    have rB : ∀ a, (a = 0 ∨ 71 ≤ a) → X1.2.1 a = B a := fun a ha => (fc a (by omega)).trans (yc_o hb (by omega))
    have rL : ∀ a, 71 ≤ a → X1.2.2 a = L a := fun a ha => (fl9 a (by omega)).trans (yardCpL_o (by omega))
    rcases ok.2.2.2 with ⟨i, v9, r1, r2⟩ | ⟨r1, r2, g', σ', Y⟩
    · -- a command failed
      rw [← hX1] at r1
      rw [r1] at hR
      rw [r2]
      obtain ⟨sh, e⟩ : ∃ sh, R = .inr (xUO, (N + 1, SH v (upS T N sh), up2 (yardCpI X1.2.1 1 36) 0 6 (nI i), yardCpL X1.2.2 1 36, Dd)) := hR
      have hb2 : 36 + 35 ≤ 1 ∨ 1 + 35 ≤ 36 := Or.inr (by omega)
      have P := ((PB.fail (f := nI i) fc fl9).new (sh := sh)).mono (K' := K + 8) (by omega) hK8
      exact ⟨N + 1, upS T N sh, _, yardCpL X1.2.2 1 36, ⟨Nat.le_succ _, by omega, Or.inl rfl, fun a h1 h2 => ⟨upS_o h2, fun _ => (up2_ne (by omega)).trans ((yc_o hb2 (by omega)).trans ((rB a (by omega)).trans (oB a (by omega) (by omega) (by omega)))), (yardCpL_o (by omega)).trans (rL a (by omega))⟩⟩, P, Or.inr ⟨1, xUO, rfl, rfl, e⟩⟩
    · -- all were carried out
      rw [← hX1] at r1 Y
      rw [r1] at hR
      rw [r2]
      have e : R = .inl (some (.int (nI M.1)), (N, SH v T, remI X1.2.1 nx d 36, yardCpL X1.2.2 (108 + 35 * nx) 36, Dd)) := hR
      have P := (PB.goes hnB (by omega) fc fl9 Y.canon).mono (K' := K + 8) (by omega) hK8
      exact ⟨N, T, _, yardCpL X1.2.2 (108 + 35 * nx) 36, ⟨Nat.le_refl _, by omega, Or.inl rfl, fun a h1 h2 => ⟨rfl, fun _ => (rem_o n8 (by decide) (by omega) (by omega)).trans ((rB a (by omega)).trans (oB a (by omega) (by omega) (by omega))), (yardCpL_o (by omega)).trans (rL a (by omega))⟩⟩, P, Or.inl ⟨rfl, e⟩⟩
end YRO
