/-! a run: class and model -/
section YRN
variable {X : JX} {K N v d qq nx cap cap' n m : Nat} {T : Nat → Option JS} {I I1 I2 J J2 B Y : HI} {L L2 XL : HL} {Dd : HD} {g g' σ σ' : Nat → Nat} {gs : Nat → Nat → Nat} {sv : Option (Nat → Nat)} {tx : Nat → Int32} {er fl : Int32} {w w' : List Int32} {a b c e f i0 t : Int32} {x : Nat}
theorem nI_all (x : Int32) : ∃ n, x = nI n := ⟨x.toUInt32.toNat, by
  cases x with
  | ofUInt32 u => exact congrArg Int32.ofUInt32 (UInt32.ofNat_toNat).symm⟩
theorem PI_o {s : PS} {r : Nat} (h1 : r ≠ 388) (h2 : r ≠ 391) (h3 : r ≠ 393) : PI I n s r = I r := by
  funext j
  unfold PI
  rw [if_neg h1, if_neg h3, if_neg h2]
theorem PI_391 {s : PS} : PI I n s 391 = s.2.2.2.2 := by
  funext j
  unfold PI
  rw [if_neg (by decide), if_neg (by decide), if_pos rfl]
theorem PI_393 {s : PS} : PI I n s 393 = s.2.2.1 := by
  funext j
  unfold PI
  rw [if_neg (by decide), if_pos rfl]
theorem PI_2 {s : PS} : PI I n s 388 2 = nI s.2.2.2.1 := by
  unfold PI
  rw [if_pos rfl, if_neg (by decide), if_neg (by decide), if_pos rfl]
theorem PM_o {s : MS} {r : Nat} (h1 : r ≠ 396) (h2 : r ≠ 404) : PM I s r = I r := by
  funext j
  unfold PM
  rw [if_neg h1, if_neg h2]
theorem PM_396 {s : MS} {j : Nat} (h1 : j ≠ 14) (h2 : j ≠ 15) : PM I s 396 j = I 396 j := by
  unfold PM
  rw [if_pos rfl, if_neg h1, if_neg h2]
theorem PM_404 {s : MS} : PM I s 404 = s.2.2 := by
  funext j
  unfold PM
  rw [if_neg (by decide), if_pos rfl]
/-- the class has read the text -/
theorem CP.pr {s : PS} (h : CP K N v T I L Dd g gs d sv qq tx er fl w) : CP K N v T (up2 (PI I qq s) 388 1 0) L Dd g gs d sv 0 tx er fl w := by
  obtain ⟨⟨σ, y⟩, ⟨nx, hs⟩, sc, tc, cap, ln, c9⟩ := h
  have o : ∀ a, a ≠ 388 → a ≠ 391 → a ≠ 393 → up2 (PI I qq s) 388 1 0 a = I a := fun a h1 h2 h3 => (up2_ne h1).trans (PI_o h1 h2 h3)
  exact ⟨⟨σ, y.eq (fun a ha _ _ _ _ => o a (by omega) (by omega) (by omega)) rfl⟩, ⟨nx, hs.fr (fun a h1 h2 => o a (by omega) (by omega) (by omega)) (fun _ _ => rfl)⟩, sc.fr (fun a h1 h2 => o a (by omega) (by omega) (by omega)) (fun _ _ => rfl), ⟨by omega, by rw [up2_v, if_pos rfl]; rfl, (o 389 (by decide) (by decide) (by decide)).trans tc.2.2.1, by rw [o 0 (by decide) (by decide) (by decide)]; exact tc.2.2.2.1, by rw [o 0 (by decide) (by decide) (by decide)]; exact tc.2.2.2.2⟩, cap, ln.fr (fun a ha => o a (by omega) (by omega) (by omega)) (fun _ _ => rfl) (fun _ _ => rfl), c9⟩
theorem CP.y1 (h : CP K N v T I L Dd g gs d sv qq tx er fl w) : ∃ σ, YC K (yv I 1) (yl L 1) g σ := by
  obtain ⟨⟨σ, y⟩, -⟩ := h
  exact ⟨σ, by rw [yv_1, yl_1]; exact y⟩
/-- the place of the error -/
theorem CP.er5 (h : CP K N v T I L Dd g gs d sv qq tx er fl w) : CP K N v T (up2 I 0 5 e) L Dd g gs d sv qq tx e fl w := by
  obtain ⟨σ, y1⟩ := h.y1
  obtain ⟨-, ⟨nx, hs⟩, sc, tc, cap, ln, c9⟩ := h
  have o : ∀ a, a ≠ 0 → up2 I 0 5 e a = I a := fun a h1 => up2_ne h1
  have Y2 : YC K (yv (up2 I 0 5 e) 1) (yl L 1) g σ := y1.fr (fun a h1 h2 => o a (by omega)) (by omega) rfl
  rw [yv_1, yl_1] at Y2
  exact ⟨⟨σ, Y2⟩, ⟨nx, hs.fr (fun a h1 h2 => o a (by omega)) (fun _ _ => rfl)⟩, sc.fr (fun a h1 h2 => o a (by omega)) (fun _ _ => rfl), ⟨tc.1, by rw [o 388 (by decide)]; exact tc.2.1, (o 389 (by decide)).trans tc.2.2.1, by rw [up2_v, if_pos rfl], by rw [up2_v, if_neg (by decide)]; exact tc.2.2.2.2⟩, cap, ln.fr (fun a ha => o a (by omega)) (fun _ _ => rfl) (fun _ _ => rfl), c9⟩
/-- the run has begun: the yard before it is kept -/
theorem run_b {B : HI} (h : YC K (yv B 1) (yl L 1) g σ) (hf : FRC (yardCpI B 36 1) Y) (hl : ∀ b, b ≠ 1 → XL b = yardCpL L 36 1 b) : (∀ a, (a = 0 ∨ 71 ≤ a) → Y a = B a) ∧ (∀ b, b ≠ 1 → b ≠ 36 → XL b = L b) ∧ YC K (yv Y 36) (yl XL 36) g σ := by
  have hb : 1 + 35 ≤ 36 ∨ 36 + 35 ≤ 1 := Or.inl (by omega)
  refine ⟨fun a ha => (hf a (by omega)).trans (yc_o hb (by omega)), fun b h1 h2 => (hl b h1).trans (yardCpL_o h2), ?_⟩
  exact (h.cp (b := 36) (by omega) (by omega) (djB hb)).fr (fun a h1 h2 => hf a (by omega)) (by omega) (hl 36 (by decide))
/-- a command failed: the yard is as before the run -/
theorem CP.fail (h : CP K N v T B L Dd g gs d sv qq tx er fl w) (hf : FRC (yardCpI B 36 1) Y) (hl : ∀ b, b ≠ 1 → XL b = yardCpL L 36 1 b) : CP K N v T (up2 (yardCpI Y 1 36) 0 6 f) (yardCpL XL 1 36) Dd g gs d sv qq tx er f w := by
  obtain ⟨σ, y1⟩ := h.y1
  obtain ⟨o, oL, Y36⟩ := run_b y1 hf hl
  obtain ⟨-, ⟨nx, hs⟩, sc, tc, cap, ln, c9⟩ := h
  have hb : 36 + 35 ≤ 1 ∨ 1 + 35 ≤ 36 := Or.inr (by omega)
  have r : ∀ a, 71 ≤ a → up2 (yardCpI Y 1 36) 0 6 f a = B a := fun a ha => (up2_ne (by omega)).trans ((yc_o hb (by omega)).trans (o a (Or.inr ha)))
  have r0 : ∀ j, j ≠ 6 → up2 (yardCpI Y 1 36) 0 6 f 0 j = B 0 j := fun j hj => by
    rw [up2_v, if_neg hj, yc_o hb (by omega), o 0 (Or.inl rfl)]
  have rL : ∀ a, 71 ≤ a → yardCpL XL 1 36 a = L a := fun a ha => (yardCpL_o (by omega)).trans (oL a (by omega) (by omega))
  have Y2 : YC K (yv (up2 (yardCpI Y 1 36) 0 6 f) 1) (yl (yardCpL XL 1 36) 1) g σ := (Y36.cp (b := 1) (by omega) (by omega) (djB hb)).fr (fun a h1 h2 => up2_ne (by omega)) (by omega) rfl
  rw [yv_1, yl_1] at Y2
  exact ⟨⟨σ, Y2⟩, ⟨nx, hs.fr (fun a h1 h2 => r a h1) (fun a ha => rL a ha)⟩, sc.fr (fun a h1 h2 => r a h1) (fun a ha => rL a ha), ⟨tc.1, by rw [r 388 (by decide)]; exact tc.2.1, (r 389 (by decide)).trans tc.2.2.1, (r0 5 (by decide)).trans tc.2.2.2.1, by rw [up2_v, if_pos rfl]⟩, cap, ln.fr (fun a ha => r a (by omega)) (fun a ha => rL a (by omega)) (fun _ _ => rfl), c9⟩
/-- all commands were carried out: the yard before the run is remembered -/
theorem CP.goes (h : CP K N v T B L Dd g gs d sv qq tx er fl w) (hnx : HC K B L gs d nx) (hK : K + n ≤ 5000) (hf : FRC (yardCpI B 36 1) Y) (hl : ∀ b, b ≠ 1 → XL b = yardCpL L 36 1 b) (Y2 : YC (K + n) Y XL g' σ') : CP (K + n) N v T (remI Y nx d 36) (yardCpL XL (108 + 35 * nx) 36) Dd g' (pushG gs d g) (min 8 (d + 1)) sv qq tx er fl w := by
  obtain ⟨σ, y1⟩ := h.y1
  obtain ⟨o, oL, Y36⟩ := run_b y1 hf hl
  obtain ⟨-, -, sc, tc, cap, ln, c9⟩ := h
  have n8 := hnx.1
  have hc2 : HC K Y XL gs d nx := hnx.fr (fun a h1 h2 => o a (Or.inr h1)) (fun a ha => oL a (by omega) (by omega))
  have sc2 : SC K Y XL sv := sc.fr (fun a h1 h2 => o a (Or.inr h1)) (fun a ha => oL a (by omega) (by omega))
  have tc2 : TC Y qq tx er fl := tc.fr (o 0 (Or.inl rfl)) (by rw [o 388 (by omega)]) (o 389 (by omega))
  exact ⟨⟨σ', Y2.eq (rem_Y n8 (by decide)) (yardCpL_o (by omega))⟩, ⟨_, (hc2.rem (by decide) (by decide) Y36).mono (Nat.le_add_right K n) hK⟩, (sc2.rem n8 (by decide)).mono (Nat.le_add_right K n) hK, tc2.rem n8 (by decide), cap, ln.fr (fun a ha => (rem_o n8 (by decide) (by omega) (by omega)).trans (o a (by omega))) (fun a ha => (yardCpL_o (by omega)).trans (oL a (by omega) (by omega))) (fun _ _ => rfl), c9⟩
end YRN
