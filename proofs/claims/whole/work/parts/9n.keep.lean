/-! undo, save, restore, the text: class and model -/
section YKE
variable {X : JX} {K N v d qq nx a0 : Nat} {T : Nat → Option JS} {I I1 I2 J : HI} {L L2 : HL} {Dd : HD} {g g' σ : Nat → Nat} {gs : Nat → Nat → Nat} {sv : Option (Nat → Nat)} {tx : Nat → Int32} {er fl : Int32} {w : List Int32} {a b c e f i0 : Int32} {jx jy : JD} {ax ay : List Value} {x y : Option Value} {P : Option Value → Option Value → Prop} {xs : List String} {fo : Option String}
theorem cls_e (h : CP K N v T I L Dd g gs d sv qq tx er fl w)
    (hc : MT X 12 4 24 jx (.ref 0 :: ax) (N, SH v T, I, L, Dd) (outE fo N v T I L Dd (.inl (x, (N, SH v T, I2, L2, Dd)))))
    (hp : fo = none → ∃ b, P x b) (ho : fo = none → ∀ L' Dd', (∀ a, a ≠ 405 → L' a = L2 a) → (∀ a, a ≠ 406 → Dd' a = Dd a) → MOD X K jy ay 0 (P x) N v T I2 L' Dd')
    (hn : ∀ E, fo = some E → ∃ k, xs[k]? = some E ∧ ∀ sh, MOD X K jy ay (nI (k + 1)) (fun b => ∃ x, P x b) (N + 1) v (upS T N sh) I L Dd) : CLS X K 4 24 jx ax jy ay xs P N v T I L Dd := by
  have hN := h.N4
  refine ⟨_, hc, fun R hR => ?_⟩
  rcases fo with _ | E
  · exact ⟨N, v, T, I2, L2, hN, by omega, Or.inl ⟨x, hR, hp rfl, ho rfl⟩⟩
  · obtain ⟨sh, e⟩ := hR
    obtain ⟨k, h1, h2⟩ := hn E rfl
    exact ⟨N + 1, v, upS T N sh, I, L, by omega, by omega, Or.inr ⟨k, E, h1, e, h2 sh⟩⟩
/-- a refusal that the model only notes -/
theorem mod_no {cd : Int32} {J : HI} (hp : ∃ x, P x y) (h : CP K N v T I L Dd g gs d sv qq tx er fl w) (hm : MP I g gs d sv qq tx er fl w) (hy : ∀ N v T L Dd, MT X 12 0 0 jy (.ref 396 :: ay) (N, SH v T, I, L, Dd) (fun R => R = .inl (y, (N, SH v T, J, L, Dd)))) (hJ : J = up2 I 396 12 cd) (sh : JS) : MOD X K jy ay cd (fun b => ∃ x, P x b) (N + 1) v (upS T N sh) I L Dd := by
  subst hJ
  exact (hy (N + 1) v (upS T N sh) L Dd).mono (fun R hR => ⟨y, _, hR, hp, thr I cd, INV.qu h.new hm (eqS.rf I) FQ.rf.th (fun _ _ => rfl) (fun _ _ => rfl)⟩)
theorem djB {b2 b : Nat} (h : b2 + 35 ≤ b ∨ b + 35 ≤ b2) : ∀ x y, x < 35 → y < 35 → b2 + x ≠ b + y := fun x y hx hy => by omega
/-- rows of the class outside the yards, the ring and the text -/
theorem yc_o {b b2 a : Nat} (h : b2 + 35 ≤ b ∨ b + 35 ≤ b2) (ha : a < b ∨ b + 35 ≤ a) : yardCpI I b b2 a = I a := yardCpI_o (djB h) ha
theorem undo_o {p : Nat} (hp : ringPrev nx = p) (ha : a0 < 1 ∨ 36 ≤ a0) (h71 : a0 ≠ 71) : undoI I nx a0 = I a0 := by
  unfold undoI takeI
  rw [hp, yc_o (Or.inr (by omega)) (by omega), up2_ne h71, up2_ne h71]
theorem undo_71 {p : Nat} (hp : ringPrev nx = p) : undoI I nx 71 1 = nI p ∧ undoI I nx 71 2 = I 71 2 - 1 ∧ undoI I nx 71 4 = I 71 4 := by
  have e : undoI I nx 71 = takeI I nx 71 := by
    unfold undoI
    rw [hp]
    exact yc_o (Or.inr (by omega)) (by omega)
  rw [e]
  unfold takeI
  refine ⟨?_, ?_, ?_⟩
  · rw [up2_v, if_neg (by decide), up2_v, if_pos rfl, hp]
  · rw [up2_v, if_pos rfl, up2_v, if_neg (by decide)]
  · rw [up2_v, if_neg (by decide), up2_v, if_neg (by decide)]
theorem CP.undo (h : CP K N v T I L Dd g gs d sv qq tx er fl w) (hnx : HC K I L gs d nx) (hd : 1 ≤ d) : CP K N v T (undoI I nx) (yardCpL L 1 (108 + 35 * ringPrev nx)) Dd (gs (d - 1)) gs (d - 1) sv qq tx er fl w := by
  obtain ⟨-, -, sc, tc, cap, ln, c9⟩ := h
  obtain ⟨n8, n1, d1, d8, hs⟩ := hnx
  obtain ⟨p, hp⟩ : ∃ p, p = (nx + 7) % 8 := ⟨_, rfl⟩
  have hp8 : p < 8 := by omega
  have rp : ringPrev nx = p := (ringPrev_m n8).trans hp.symm
  have q := undo_71 (I := I) rp
  have tk : ∀ a, a ≠ 71 → takeI I nx a = I a := fun a ha => by
    unfold takeI
    rw [up2_ne ha, up2_ne ha]
  have hb : 108 + 35 * p + 35 ≤ 1 ∨ 1 + 35 ≤ 108 + 35 * p := Or.inr (by omega)
  -- a yard elsewhere
  have oth : ∀ c g' σ', 73 ≤ c → YC K (yv I c) (yl L c) g' σ' → YC K (yv (undoI I nx) c) (yl (yardCpL L 1 (108 + 35 * ringPrev nx)) c) g' σ' := fun c g' σ' hc Y => by
    have Y1 : YC K (yv (takeI I nx) c) (yl L c) g' σ' := Y.fr (fun a h1 h2 => tk a (by omega)) (by omega) rfl
    unfold undoI
    rw [rp]
    exact Y1.cpo (by omega) (djB hb) (Or.inr (by omega))
  refine ⟨?_, ⟨p, hp8, q.1, ?_, by omega, fun j hj => ?_⟩, ?_, ?_, cap, ?_, c9⟩
  · obtain ⟨σ', Y⟩ := hs (d - 1) (by omega)
    have e : slot nx d (d - 1) = 108 + 35 * p := by
      unfold slot
      omega
    rw [e] at Y
    have Y1 : YC K (yv (takeI I nx) (108 + 35 * p)) (yl L (108 + 35 * p)) (gs (d - 1)) σ' := Y.fr (fun a h1 h2 => tk a (by omega)) (by omega) rfl
    have Y2 := Y1.cp (b := 1) (by omega) (by omega) (djB hb)
    rw [yv_1, yl_1] at Y2
    refine ⟨σ', ?_⟩
    unfold undoI
    rw [rp]
    exact Y2
  · rw [q.2.1, d1]
    exact nI_m1 hd
  · obtain ⟨σ', Y⟩ := hs j (by omega)
    have e : slot p (d - 1) j = slot nx d j := by
      unfold slot
      omega
    have r := slot_r nx d j
    rw [e]
    exact ⟨σ', oth _ _ _ (by omega) Y⟩
  · rcases sc with ⟨h1, h2⟩ | ⟨g', h1, h2, σ', Y⟩
    · exact Or.inl ⟨h1, q.2.2.trans h2⟩
    · exact Or.inr ⟨g', h1, q.2.2.trans h2, σ', oth _ _ _ (by omega) Y⟩
  · exact tc.fr (undo_o rp (by omega) (by omega)) (by rw [undo_o rp (by omega) (by omega)]) (undo_o rp (by omega) (by omega))
  · exact ln.fr (fun a ha => undo_o rp (by omega) (by omega)) (fun a ha => yardCpL_o (by omega)) (fun _ _ => rfl)
theorem MP.undo (hm : MP J g gs d sv qq tx er fl w) (hd : 1 ≤ d) : MP (undM J d).2 (gs (d - 1)) gs (d - 1) sv qq tx er fl w ∧ (undM J d).1 = nI (d - 1) ∧ (undM J d).2 396 12 = 0 ∧ ∀ a, (a < 396 ∨ 405 ≤ a) → (undM J d).2 a = J a := by
  obtain ⟨m1, m2, m3, m4, m5⟩ := hm
  unfold undM
  rw [if_neg (show ¬ d = 0 by omega)]
  obtain ⟨A, hA⟩ : ∃ A, A = up2 (cpM (up2 J 396 3 (nI (d - 1))) 399 ((d - 1) * 179) 397 0) 396 12 0 := ⟨_, rfl⟩
  show MP (up2 (cpM (up2 J 396 3 (nI (d - 1))) 399 ((d - 1) * 179) 397 0) 396 12 0) _ _ _ _ _ _ _ _ _ ∧ nI (d - 1) = nI (d - 1) ∧ up2 (cpM (up2 J 396 3 (nI (d - 1))) 399 ((d - 1) * 179) 397 0) 396 12 0 396 12 = 0 ∧ ∀ a, (a < 396 ∨ 405 ≤ a) → up2 (cpM (up2 J 396 3 (nI (d - 1))) 399 ((d - 1) * 179) 397 0) 396 12 0 a = J a
  rw [← hA]
  have r : ∀ a, a ≠ 396 → a ≠ 397 → A a = J a := fun a h1 h2 => by rw [hA, up2_ne h1, cpM_ne h2, up2_ne h1]
  have r6 : ∀ j, j ≠ 3 → j ≠ 12 → A 396 j = J 396 j := fun j h1 h2 => by rw [hA, up2_v, if_neg h2, cpM_ne (by decide), up2_v, if_neg h1]
  have r3 : A 396 3 = nI (d - 1) := by rw [hA, up2_v, if_neg (by decide), cpM_ne (by decide), up2_v, if_pos rfl]
  have r12 : A 396 12 = 0 := by rw [hA]; exact thr _ 0
  refine ⟨⟨fun k hk => ?_, ⟨r3, fun j hj => ?_⟩, m3.fr (r6 5 (by decide) (by decide)) (r 400 (by decide) (by decide)), m4.fr (r6 7 (by decide) (by decide)) (r6 8 (by decide) (by decide)) (r6 9 (by decide) (by decide)) (r 401 (by decide) (by decide)), m5.fr (r6 11 (by decide) (by decide)) (r 402 (by decide) (by decide))⟩, rfl, r12, fun a ha => r a (by omega) (by omega)⟩
  · rw [hA, up2_ne (by decide), cpM_v, if_pos (by omega), up2_ne (by decide)]
    exact m2.2 (d - 1) (by omega) k hk
  · rw [r 399 (by decide) (by decide)]
    exact m2.2 j (by omega)
theorem b_undo (hX : JXok X) (h : CP K N v T I L Dd g gs d sv qq tx er fl w) (hm : MP I g gs d sv qq tx er fl w) (hN : N + 1 < BIG) : CLS X K 4 24 jdX6_undo [] jdX7_undo [] [xIS] PIv N v T I L Dd := by
  have h0 := h
  obtain ⟨-, ⟨nx, hc⟩, -⟩ := h
  have hc0 := hc
  obtain ⟨n8, n1, d1, d8, -⟩ := hc
  refine cls_e h0 (c_undo hX (by decide) h0.N4 hN n8 n1 d8 d1) (fun _ => ⟨_, _, rfl, rfl⟩) (fun q L' Dd' hL hD => ?_) (fun E q => ?_)
  · have dp : 1 ≤ d := by
      by_cases c : d = 0
      · rw [if_pos (by rw [d1, c]; rfl)] at q
        cases q
      · omega
    have rp := ringPrev_m n8
    have P := h0.undo hc0 dp
    have m1 : MP (undoI I nx) g gs d sv qq tx er fl w := hm.fr (fun a h1 h2 => undo_o rp (by omega) (by omega))
    have M := m1.undo dp
    refine (m_undo hX (by decide) m1.2.1.1 d8).mono (fun R hR => ⟨_, _, hR, ⟨_, rfl, ?_⟩, M.2.2.1, gs (d - 1), gs, d - 1, sv, qq, tx, er, fl, w, P.fr M.2.2.2 hL hD, M.1⟩)
    rw [M.2.1, (undo_71 (I := I) rp).2.1, d1, nI_m1 dp]
  · by_cases c : I 71 2 = 0
    · rw [if_pos c] at q
      cases q
      have d0 : d = 0 := nI_inj (by omega) (by omega) (d1.symm.trans c)
      refine ⟨0, rfl, fun sh => mod_no (y := some (.int (undM I d).1)) (J := (undM I d).2) ⟨_, _, rfl, rfl⟩ h0 hm (fun N v T L Dd => m_undo hX (by decide) hm.2.1.1 d8) ?_ sh⟩
      unfold undM
      rw [if_pos d0]
      rfl
    · rw [if_neg c] at q
      cases q
theorem CP.save (h : CP K N v T I L Dd g gs d sv qq tx er fl w) : CP K N v T (up2 (yardCpI I 73 1) 71 4 1) (yardCpL L 73 1) Dd g gs d (some g) qq tx er fl w := by
  obtain ⟨⟨σ, y⟩, ⟨nx, n8, n1, d1, d8, hs⟩, -, tc, cap, ln, c9⟩ := h
  have hb : 1 + 35 ≤ 73 ∨ 73 + 35 ≤ 1 := Or.inl (by omega)
  have y1 : YC K (yv I 1) (yl L 1) g σ := by rw [yv_1, yl_1]; exact y
  have o : ∀ a, (a < 73 ∨ 108 ≤ a) → a ≠ 71 → up2 (yardCpI I 73 1) 71 4 1 a = I a := fun a ha h71 => (up2_ne h71).trans (yc_o hb (by omega))
  have o7 : ∀ j, j ≠ 4 → up2 (yardCpI I 73 1) 71 4 1 71 j = I 71 j := fun j hj => by
    rw [up2_v, if_neg hj, yc_o hb (by omega)]
  refine ⟨⟨σ, ?_⟩, ⟨nx, n8, (o7 1 (by decide)).trans n1, (o7 2 (by decide)).trans d1, d8, fun j hj => ?_⟩, Or.inr ⟨g, rfl, by rw [up2_v, if_pos rfl], σ, ?_⟩, tc.fr (o 0 (by omega) (by omega)) (by rw [o 388 (by omega) (by omega)]) (o 389 (by omega) (by omega)), cap, ln.fr (fun a ha => o a (by omega) (by omega)) (fun a ha => yardCpL_o (by omega)) (fun _ _ => rfl), c9⟩
  · have Y2 : YC K (yv (up2 (yardCpI I 73 1) 71 4 1) 1) (yl (yardCpL L 73 1) 1) g σ := y1.fr (fun a h1 h2 => o a (by omega) (by omega)) (by omega) (yardCpL_o (by omega))
    rw [yv_1, yl_1] at Y2
    exact Y2
  · obtain ⟨σ', Y⟩ := hs j hj
    have r := slot_r nx d j
    exact ⟨σ', Y.fr (fun a h1 h2 => o a (by omega) (by omega)) (by omega) (yardCpL_o (by omega))⟩
  · exact (y1.cp (b := 73) (by omega) (by omega) (djB hb)).fr (fun a h1 h2 => up2_ne (by omega)) (by omega) rfl
theorem MP.save (hm : MP J g gs d sv qq tx er fl w) : MP (up2 (up2 (cpM J 397 0 400 0) 396 5 1) 396 12 0) g gs d (some g) qq tx er fl w ∧ ∀ a, (a < 396 ∨ 405 ≤ a) → up2 (up2 (cpM J 397 0 400 0) 396 5 1) 396 12 0 a = J a := by
  obtain ⟨m1, m2, m3, m4, m5⟩ := hm
  obtain ⟨A, hA⟩ : ∃ A, A = up2 (up2 (cpM J 397 0 400 0) 396 5 1) 396 12 0 := ⟨_, rfl⟩
  rw [← hA]
  have r : ∀ a, a ≠ 396 → a ≠ 400 → A a = J a := fun a h1 h2 => by rw [hA, up2_ne h1, up2_ne h1, cpM_ne h2]
  have r6 : ∀ j, j ≠ 5 → j ≠ 12 → A 396 j = J 396 j := fun j h1 h2 => by rw [hA, up2_v, if_neg h2, up2_v, if_neg h1, cpM_ne (by decide)]
  refine ⟨⟨?_, m2.fr (r6 3 (by decide) (by decide)) (r 399 (by decide) (by decide)), Or.inr ⟨g, rfl, ?_, fun k hk => ?_⟩, m4.fr (r6 7 (by decide) (by decide)) (r6 8 (by decide) (by decide)) (r6 9 (by decide) (by decide)) (r 401 (by decide) (by decide)), m5.fr (r6 11 (by decide) (by decide)) (r 402 (by decide) (by decide))⟩, fun a ha => r a (by omega) (by omega)⟩
  · rw [r 397 (by decide) (by decide)]
    exact m1
  · rw [hA, up2_v, if_neg (by decide), up2_v, if_pos rfl]
  · rw [hA, up2_ne (by decide), up2_ne (by decide), cpM_v, if_pos (by omega)]
    have := m1 k hk
    rw [show 0 + (k - 0) = k by omega]
    exact this
theorem b_save (hX : JXok X) (h : CP K N v T I L Dd g gs d sv qq tx er fl w) (hm : MP I g gs d sv qq tx er fl w) : CLS X K 0 0 jdX6_save [] jdX7_save [] [] PNv N v T I L Dd := by
  have hN := h.N4
  have hb : 1 + 35 ≤ 73 ∨ 73 + 35 ≤ 1 := Or.inl (by omega)
  have m1 : MP (up2 (yardCpI I 73 1) 71 4 1) g gs d sv qq tx er fl w := hm.fr (fun a h1 h2 => (up2_ne (by omega)).trans (yc_o hb (by omega)))
  have M := m1.save
  refine ⟨_, c_save hX (by decide), fun R hR => ⟨N, v, T, _, _, hN, by omega, Or.inl ⟨none, hR, ⟨none, rfl, rfl⟩, fun L' Dd' hL hD => ?_⟩⟩⟩
  exact (m_save hX (by decide)).mono (fun R hR2 => ⟨none, _, hR2, ⟨rfl, rfl⟩, thr _ 0, g, gs, d, some g, qq, tx, er, fl, w, h.save.fr M.2 hL hD, M.1⟩)
theorem CP.rest (h : CP K N v T I L Dd g gs d (some g') qq tx er fl w) : CP K N v T (up2 (yardCpI I 1 73) 71 2 0) (yardCpL L 1 73) Dd g' gs 0 (some g') qq tx er fl w := by
  obtain ⟨-, ⟨nx, n8, n1, d1, d8, hs⟩, sc, tc, cap, ln, c9⟩ := h
  have hb : 73 + 35 ≤ 1 ∨ 1 + 35 ≤ 73 := Or.inr (by omega)
  have o : ∀ a, (a < 1 ∨ 36 ≤ a) → a ≠ 71 → up2 (yardCpI I 1 73) 71 2 0 a = I a := fun a ha h71 => (up2_ne h71).trans (yc_o hb (by omega))
  have o7 : ∀ j, j ≠ 2 → up2 (yardCpI I 1 73) 71 2 0 71 j = I 71 j := fun j hj => by
    rw [up2_v, if_neg hj, yc_o hb (by omega)]
  rcases sc with ⟨h1, -⟩ | ⟨g2, h1, h2, σ, Y⟩
  · cases h1
  · cases h1
    refine ⟨⟨σ, ?_⟩, ⟨nx, n8, (o7 1 (by decide)).trans n1, by rw [up2_v, if_pos rfl]; rfl, by omega, fun j hj => absurd hj (by omega)⟩, Or.inr ⟨g', rfl, (o7 4 (by decide)).trans h2, σ, Y.fr (fun a h1 h2 => o a (by omega) (by omega)) (by omega) (yardCpL_o (by omega))⟩, tc.fr (o 0 (by omega) (by omega)) (by rw [o 388 (by omega) (by omega)]) (o 389 (by omega) (by omega)), cap, ln.fr (fun a ha => o a (by omega) (by omega)) (fun a ha => yardCpL_o (by omega)) (fun _ _ => rfl), c9⟩
    have Y2 := (Y.cp (b := 1) (by omega) (by omega) (djB hb)).fr (I' := up2 (yardCpI I 1 73) 71 2 0) (fun a h1 h2 => up2_ne (by omega)) (by omega) rfl
    rw [yv_1, yl_1] at Y2
    exact Y2
theorem MP.rest (hm : MP J g gs d (some g') qq tx er fl w) : MP (restM J) g' gs 0 (some g') qq tx er fl w ∧ restM J 396 12 = 0 ∧ ∀ a, (a < 396 ∨ 405 ≤ a) → restM J a = J a := by
  obtain ⟨m1, m2, m3, m4, m5⟩ := hm
  rcases m3 with ⟨h1, -⟩ | ⟨g2, h1, h2, V⟩
  · cases h1
  cases h1
  unfold restM
  rw [if_neg (by rw [h2]; decide)]
  obtain ⟨A, hA⟩ : ∃ A, A = up2 (cpM (up2 J 396 12 0) 400 0 397 0) 396 3 0 := ⟨_, rfl⟩
  rw [← hA]
  have r : ∀ a, a ≠ 396 → a ≠ 397 → A a = J a := fun a h1 h2 => by rw [hA, up2_ne h1, cpM_ne h2, up2_ne h1]
  have r6 : ∀ j, j ≠ 3 → j ≠ 12 → A 396 j = J 396 j := fun j h1 h2 => by rw [hA, up2_v, if_neg h1, cpM_ne (by decide), up2_v, if_neg h2]
  have r12 : A 396 12 = 0 := by rw [hA, up2_v, if_neg (by decide), cpM_ne (by decide), up2_v, if_pos rfl]
  refine ⟨⟨fun k hk => ?_, ⟨?_, fun j hj => absurd hj (by omega)⟩, Or.inr ⟨g', rfl, (r6 5 (by decide) (by decide)).trans h2, ?_⟩, m4.fr (r6 7 (by decide) (by decide)) (r6 8 (by decide) (by decide)) (r6 9 (by decide) (by decide)) (r 401 (by decide) (by decide)), m5.fr (r6 11 (by decide) (by decide)) (r 402 (by decide) (by decide))⟩, r12, fun a ha => r a (by omega) (by omega)⟩
  · rw [hA, up2_ne (by decide), cpM_v, if_pos (by omega), up2_ne (by decide), show 0 + (k - 0) = k by omega]
    exact V k hk
  · rw [hA, up2_v, if_pos rfl]
    rfl
  · rw [r 400 (by decide) (by decide)]
    exact V
theorem b_restore (hX : JXok X) (h : CP K N v T I L Dd g gs d sv qq tx er fl w) (hm : MP I g gs d sv qq tx er fl w) (hN : N + 1 < BIG) : CLS X K 4 24 jdX6_restore [] jdX7_restore [] [xIS] PNv N v T I L Dd := by
  have h0 := h
  obtain ⟨-, -, sc, -⟩ := h
  have hb : 73 + 35 ≤ 1 ∨ 1 + 35 ≤ 73 := Or.inr (by omega)
  refine cls_e h0 (c_restore hX (by decide) h0.N4 hN) (fun _ => ⟨none, rfl, rfl⟩) (fun q L' Dd' hL hD => ?_) (fun E q => ?_)
  · rcases sc with ⟨h1, h2⟩ | ⟨g', h1, h2, -⟩
    · rw [if_pos h2] at q
      cases q
    · subst h1
      have m1 : MP (up2 (yardCpI I 1 73) 71 2 0) g gs d (some g') qq tx er fl w := hm.fr (fun a h1 h2 => (up2_ne (by omega)).trans (yc_o hb (by omega)))
      have M := m1.rest
      exact (m_restore hX (by decide)).mono (fun R hR => ⟨none, _, hR, ⟨rfl, rfl⟩, M.2.1, g', gs, 0, some g', qq, tx, er, fl, w, h0.rest.fr M.2.2 hL hD, M.1⟩)
  · rcases sc with ⟨h1, h2⟩ | ⟨g', h1, h2, -⟩
    · rw [if_pos h2] at q
      cases q
      refine ⟨0, rfl, fun sh => mod_no (y := none) (J := restM I) ⟨none, rfl, rfl⟩ h0 hm (fun N v T L Dd => m_restore hX (by decide)) ?_ sh⟩
      subst h1
      rcases hm.2.2.1 with ⟨-, h4⟩ | ⟨g', h3, -⟩
      · unfold restM
        rw [if_pos h4]
        rfl
      · cases h3
    · rw [if_neg (by rw [h2]; decide)] at q
      cases q
theorem b_append (hX : JXok X) (h : CP K N v T I L Dd g gs d sv qq tx er fl w) (hm : MP I g gs d sv qq tx er fl w) (hN : N + 1 < BIG) (hc : vp_nar .char c = c) : CLS X K 4 24 jdX6_append [.int c] jdX7_append [.int c] [xIS] PIv N v T I L Dd := by
  have h0 := h
  obtain ⟨⟨σ, y⟩, ⟨nx, hs⟩, sc, ⟨q60, t1, t2, t3, t4⟩, cap, ln, c9⟩ := h
  obtain ⟨m1, m2, m3, ⟨u1, u2, u3, u4⟩, m5⟩ := hm
  have hm0 : MP I g gs d sv qq tx er fl w := ⟨m1, m2, m3, ⟨u1, u2, u3, u4⟩, m5⟩
  refine cls_e h0 (c_append hX (by decide) h0.N4 hN q60 t1 hc) (fun _ => ⟨_, _, rfl, rfl⟩) (fun q L' Dd' hL hD => ?_) (fun E q => ?_)
  · have q59 : qq < 60 := by
      by_cases c6 : qq < 60
      · exact c6
      · have e : qq = 60 := by omega
        rw [if_neg (by rw [t1, e]; decide)] at q
        cases q
    have o : ∀ a, a ≠ 388 → a ≠ 389 → addI I qq c a = I a := fun a h1 h2 => by
      unfold addI
      rw [up2_ne h1, up2_ne h2]
    have e9 : addI I qq c 389 = fun j => if j = qq then c else tx j := by
      unfold addI
      rw [up2_ne (by decide), up2_eq, t2]
    have e8 : addI I qq c 388 1 = nI (qq + 1) := by
      unfold addI
      rw [up2_v, if_pos rfl, up2_ne (by decide), t1]
      exact nI_1 qq
    have P : CP K N v T (addI I qq c) L Dd g gs d sv (qq + 1) (fun j => if j = qq then c else tx j) er fl w := ⟨⟨σ, y.eq (fun a ha _ _ _ _ => o a (by omega) (by omega)) rfl⟩, ⟨nx, hs.fr (fun a h1 h2 => o a (by omega) (by omega)) (fun _ _ => rfl)⟩, sc.fr (fun a h1 h2 => o a (by omega) (by omega)) (fun _ _ => rfl), ⟨by omega, e8, e9, by rw [o 0 (by decide) (by decide)]; exact t3, by rw [o 0 (by decide) (by decide)]; exact t4⟩, cap, ln.fr (fun a ha => o a (by omega) (by omega)) (fun _ _ => rfl) (fun _ _ => rfl), c9⟩
    have u1' : addI I qq c 396 7 = nI qq := by rw [o 396 (by decide) (by decide)]; exact u1
    obtain ⟨A, hA⟩ : ∃ A, A = up2 (up2 (up2 (addI I qq c) 401 qq c) 396 7 (nI (qq + 1))) 396 12 0 := ⟨_, rfl⟩
    have r : ∀ a, a ≠ 396 → a ≠ 401 → A a = addI I qq c a := fun a h1 h2 => by rw [hA, up2_ne h1, up2_ne h1, up2_ne h2]
    have r6 : ∀ j, j ≠ 7 → j ≠ 12 → A 396 j = addI I qq c 396 j := fun j h1 h2 => by rw [hA, up2_v, if_neg h2, up2_v, if_neg h1, up2_ne (by decide)]
    have ea : apdM (addI I qq c) qq c = (nI (qq + 1), A) := by
      unfold apdM
      rw [if_neg (show ¬ qq = 60 by omega), hA]
    have mm : MP (addI I qq c) g gs d sv qq tx er fl w := hm0.fr (fun a h1 h2 => o a (by omega) (by omega))
    obtain ⟨n1, n2, n3, ⟨v1, v2, v3, v4⟩, n5⟩ := mm
    have M : MP A g gs d sv (qq + 1) (fun j => if j = qq then c else tx j) er fl w := by
      refine ⟨by rw [r 397 (by decide) (by decide)]; exact n1, n2.fr (r6 3 (by decide) (by decide)) (r 399 (by decide) (by decide)), n3.fr (r6 5 (by decide) (by decide)) (r 400 (by decide) (by decide)), ⟨?_, ?_, (r6 8 (by decide) (by decide)).trans v3, (r6 9 (by decide) (by decide)).trans v4⟩, n5.fr (r6 11 (by decide) (by decide)) (r 402 (by decide) (by decide))⟩
      · rw [hA, up2_v, if_neg (by decide), up2_v, if_pos rfl]
      · rw [hA, up2_ne (by decide), up2_ne (by decide), up2_eq, v2]
    refine (m_append (c := c) (I := addI I qq c) hX (by decide) q60 u1' hc).mono (fun R hR => ?_)
    rw [ea] at hR
    refine ⟨_, _, hR, ⟨_, rfl, by rw [e8]⟩, by show A 396 12 = 0; rw [hA]; exact thr _ 0, g, gs, d, sv, qq + 1, _, er, fl, w, P.fr (fun a ha => r a (by omega) (by omega)) hL hD, M⟩
  · by_cases c6 : qq < 60
    · rw [if_pos (by rw [t1]; show nI qq < nI 60; exact nI_lt (by omega) (by omega))] at q
      cases q
    · have e : qq = 60 := by omega
      have E9 : E = xIS := by
        rw [if_neg (by rw [t1, e]; decide)] at q
        cases q
        rfl
      subst E9
      refine ⟨0, rfl, fun sh => mod_no (y := some (.int (apdM I qq c).1)) (J := (apdM I qq c).2) ⟨_, _, rfl, rfl⟩ h0 hm0 (fun N v T L Dd => m_append hX (by decide) q60 u1 hc) ?_ sh⟩
      unfold apdM
      rw [if_pos e]
      rfl
end YKE
