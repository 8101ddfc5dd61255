/-! the written text: class and model -/
section YTX
variable {X : JX} {K N v d qq nx cap cap' : Nat} {T : Nat → Option JS} {I I1 I2 J : HI} {L L2 : HL} {Dd : HD} {g g' σ : Nat → Nat} {gs : Nat → Nat → Nat} {sv : Option (Nat → Nat)} {tx : Nat → Int32} {er fl : Int32} {w w' : List Int32} {a b c e f i0 t : Int32} {x : Nat} {P : PF}
theorem ge0 {c : Int32} : (¬ c < 0) ↔ 0 ≤ c := by
  rw [Int32.lt_iff_toInt_lt, Int32.le_iff_toInt_le]
  exact Int.not_lt
theorem getD_mem {w : List Int32} {j : Nat} (hj : j < w.length) : w.getD j 0 ∈ w := by
  rw [List.getD_eq_getElem?_getD, List.getElem?_eq_getElem hj]
  exact List.getElem_mem hj
/-- the text of a track, of the model's row -/
noncomputable def crG (g : Nat → Nat) (x : Nat) : Nat → Nat → List Int32
  | 0, _ => []
  | n + 1, p => carT (g (39 + atS g x p)) (g (99 + atS g x p)) (nI (g (119 + atS g x p))) ++ crG g x n (p + 1)
noncomputable def wrG (g : Nat → Nat) (x : Nat) : List Int32 := dgL x ++ [47] ++ dgL (g (15 + x)) ++ [91] ++ dgL (usN g x) ++ [47] ++ dgL (g (7 + x)) ++ [93] ++ crG g x (g (31 + x)) 0
theorem carsT_g (hK : K ≤ 5000) (W : WG K g) (C : CRc I g σ) (hx : x < 8) : ∀ n p, p + n = g (31 + x) → carsT I x n p = crG g x n p
  | 0, p, _ => rfl
  | n + 1, p, h => by
    have a := atS_spec W hx (p := p) (by omega)
    have b := W.car hK a.1
    have q := C.1 _ a.1
    show carT (I 17 (slotAt I (nI x) (nI p)).toNatClampNeg).toNatClampNeg (I 19 (slotAt I (nI x) (nI p)).toNatClampNeg).toNatClampNeg (I 21 (slotAt I (nI x) (nI p)).toNatClampNeg) ++ carsT I x n (p + 1) = _
    rw [slotAt_s hK W C hx (by omega), nI_clamp (by omega), q.2.1, q.2.2.2.2.1, q.2.2.2.2.2.1, nI_clamp (by omega), nI_clamp (by omega), carsT_g hK W C hx n (p + 1) (by omega)]
    rfl
theorem carsTM_g (hK : K ≤ 5000) (W : WG K g) (V : GV (I 397) g) (hx : x < 8) : ∀ n p, p + n = g (31 + x) → carsTM I (g 1) x n p = crG g x n p
  | 0, p, _ => rfl
  | n + 1, p, h => by
    have a := atS_spec W hx (p := p) (by omega)
    have b := W.car hK a.1
    have m20 := W.1.2.1
    show carT (I 397 (39 + (slAM I (g 1) (nI x) (nI p)).toNatClampNeg)).toNatClampNeg (I 397 (99 + (slAM I (g 1) (nI x) (nI p)).toNatClampNeg)).toNatClampNeg (I 397 (119 + (slAM I (g 1) (nI x) (nI p)).toNatClampNeg)) ++ carsTM I (g 1) x n (p + 1) = _
    rw [slAM_s hK W V hx (by omega), nI_clamp (by omega), V _ (by omega), V _ (by omega), V _ (by omega), nI_clamp (by omega), nI_clamp (by omega), carsTM_g hK W V hx n (p + 1) (by omega)]
    rfl
theorem dg4 {k : Nat} (h : k < 10000) : (dgL k).length ≤ 4 := by
  rw [dgL_len k h]
  unfold sb_dg
  (repeat' split) <;> omega
theorem dg1 {k : Nat} (h : k < 10) : (dgL k).length = 1 := by
  unfold dgL
  rw [if_pos h]
  rfl
theorem chW_s : chW 47 ∧ chW 91 ∧ chW 93 ∧ chW 32 ∧ chW 58 ∧ chW 33 := by
  unfold chW
  decide +kernel
theorem crG_ok (hK : K ≤ 5000) (W : WG K g) (hx : x < 8) : ∀ n p, p + n = g (31 + x) → (crG g x n p).length ≤ 8 * n ∧ ∀ c, c ∈ crG g x n p → chW c
  | 0, p, _ => ⟨Nat.le_refl _, fun c hc => by cases hc⟩
  | n + 1, p, h => by
    have a := atS_spec W hx (p := p) (by omega)
    have b := W.car hK a.1
    obtain ⟨i1, i2⟩ := crG_ok hK W hx n (p + 1) (by omega)
    have s := chW_s
    have l1 := dg4 (k := g (39 + atS g x p)) (by omega)
    have l2 := dg1 (k := g (99 + atS g x p)) (by omega)
    have e : crG g x (n + 1) p = carT (g (39 + atS g x p)) (g (99 + atS g x p)) (nI (g (119 + atS g x p))) ++ crG g x n (p + 1) := rfl
    have lt : (if nI (g (119 + atS g x p)) = 1 then [(33 : Int32)] else []).length ≤ 1 := by
      split
      · exact Nat.le_refl 1
      · exact Nat.zero_le 1
    rw [e]
    unfold carT
    refine ⟨?_, fun c hc => ?_⟩
    · simp only [List.length_append, List.length_cons, List.length_nil]
      omega
    · simp only [List.mem_append, List.mem_cons, List.not_mem_nil, or_false] at hc
      rcases hc with ((((hc | hc) | hc) | hc) | hc) | hc
      · rw [hc]; exact s.2.2.2.1
      · exact dgL_chW _ (by omega) _ hc
      · rw [hc]; exact s.2.2.2.2.1
      · exact dgL_chW _ (by omega) _ hc
      · split at hc
        · simp only [List.mem_cons, List.not_mem_nil, or_false] at hc
          rw [hc]
          exact s.2.2.2.2.2
        · cases hc
      · exact i2 c hc
theorem wrG_ok (hK : K ≤ 5000) (W : WG K g) (hx : x < 8) : (wrG g x).length ≤ 300 ∧ ∀ c, c ∈ wrG g x → chW c := by
  obtain ⟨i1, i2⟩ := crG_ok hK W hx (g (31 + x)) 0 (by omega)
  have h20 := W.h20 hx
  have m20 := W.1.2.1
  have s := chW_s
  have b1 := W.2.1 x hx
  have u := usN_le hK W (t := x)
  have l1 := dg1 (k := x) (by omega)
  have l2 := dg1 (k := g (15 + x)) (by omega)
  have l3 := dg4 (k := usN g x) (by omega)
  have l4 := dg4 (k := g (7 + x)) (by omega)
  unfold wrG
  refine ⟨?_, fun c hc => ?_⟩
  · simp only [List.length_append, List.length_cons, List.length_nil]
    omega
  · simp only [List.mem_append, List.mem_cons, List.not_mem_nil, or_false] at hc
    rcases hc with (((((((hc | hc) | hc) | hc) | hc) | hc) | hc) | hc) | hc
    · exact dgL_chW _ (by omega) _ hc
    · rw [hc]; exact s.1
    · exact dgL_chW _ (by omega) _ hc
    · rw [hc]; exact s.2.1
    · exact dgL_chW _ (by omega) _ hc
    · rw [hc]; exact s.1
    · exact dgL_chW _ (by omega) _ hc
    · rw [hc]; exact s.2.2.1
    · exact i2 c hc
theorem trkT_g (y : YC K I L g σ) (hx : x < 8) : trkT I x = wrG g x := by
  obtain ⟨hK, W, S, TT, Jj, C⟩ := y
  have b1 := W.2.1 x hx
  have h20 := W.h20 hx
  have m20 := W.1.2.1
  have u := usN_le hK W (t := x)
  have q := TT x hx
  unfold trkT wrG
  rw [q.1, q.2.1, q.2.2.1, q.2.2.2, nI_clamp (by omega), nI_clamp (by omega), nI_clamp (by omega), nI_clamp (by omega), carsT_g hK W C hx _ 0 (by omega)]
theorem trkTM_g (hK : K ≤ 5000) (W : WG K g) (V : GV (I 397) g) (hx : x < 8) : trkTM I (g 1) x (g (31 + x)) = wrG g x := by
  have b1 := W.2.1 x hx
  have m20 := W.1.2.1
  have u := usN_le hK W (t := x)
  have us : smM I (g 1) (nI x) 59 = nI (usN g x) := smM_g hK W V hx (by decide)
  unfold trkTM wrG
  rw [us, V _ (by omega), V _ (by omega), nI_clamp (by omega), nI_clamp (by omega), nI_clamp (by omega), carsTM_g hK W V hx _ 0 (by omega)]
end YTX
