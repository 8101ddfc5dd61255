/-! undo, save, restore, the text: class and model -/
section YKE
variable {X : JX} {K N v d qq nx a0 : Nat} {T : Nat → Option JS} {I I1 I2 J : HI} {L L2 : HL} {Dd : HD} {g g' σ : Nat → Nat} {gs : Nat → Nat → Nat} {sv : Option (Nat → Nat)} {tx : Nat → Int32} {er fl : Int32} {w : List Int32} {a b c e f i0 : Int32} {jx : JD} {ax : List Value} {x x9 : Option Value} {xs : List String} {fo : Option String}
/-- a refusal that the model only notes -/
theorem djB {b2 b : Nat} (h : b2 + 35 ≤ b ∨ b + 35 ≤ b2) : ∀ x y, x < 35 → y < 35 → b2 + x ≠ b + y := fun x y hx hy => by omega
/-- rows of the class outside the yards, the ring and the text -/
theorem yc_o {b b2 a : Nat} (h : b2 + 35 ≤ b ∨ b + 35 ≤ b2) (ha : a < b ∨ b + 35 ≤ a) : yardCpI I b b2 a = I a := yardCpI_o (djB h) ha
theorem undo_o {p : Nat} (hp : ringPrev nx = p) (ha : a0 < 1 ∨ 36 ≤ a0) (h71 : a0 ≠ 71) : undoI I nx a0 = I a0 := by
  unfold undoI takeI
  rw [hp, yc_o (Or.inr (by omega)) (by omega), up2_ne h71, up2_ne h71]
theorem undo_71 {p : Nat} (hp : ringPrev nx = p) : undoI I nx 71 1 = nI p ∧ undoI I nx 71 2 = I 71 2 - 1 ∧ undoI I nx 71 4 = I 71 4 := by
  have e : undoI I nx 71 = takeI I nx 71 := by
    unfold undoI
    rw [hp]
    exact yc_o (Or.inr (by omega)) (by omega)
  rw [e]
  unfold takeI
  refine ⟨?_, ?_, ?_⟩
  · rw [up2_v, if_neg (by decide), up2_v, if_pos rfl, hp]
  · rw [up2_v, if_pos rfl, up2_v, if_neg (by decide)]
  · rw [up2_v, if_neg (by decide), up2_v, if_neg (by decide)]
theorem CP.undo (h : CP K N v T I L Dd g gs d sv qq tx er fl w) (hnx : HC K I L gs d nx) (hd : 1 ≤ d) : CP K N v T (undoI I nx) (yardCpL L 1 (108 + 35 * ringPrev nx)) Dd (gs (d - 1)) gs (d - 1) sv qq tx er fl w := by
  obtain ⟨-, -, sc, tc, cap, ln, c9⟩ := h
  obtain ⟨n8, n1, d1, d8, hs⟩ := hnx
  obtain ⟨p, hp⟩ : ∃ p, p = (nx + 7) % 8 := ⟨_, rfl⟩
  have hp8 : p < 8 := by omega
  have rp : ringPrev nx = p := (ringPrev_m n8).trans hp.symm
  have q := undo_71 (I := I) rp
  have tk : ∀ a, a ≠ 71 → takeI I nx a = I a := fun a ha => by
    unfold takeI
    rw [up2_ne ha, up2_ne ha]
  have hb : 108 + 35 * p + 35 ≤ 1 ∨ 1 + 35 ≤ 108 + 35 * p := Or.inr (by omega)
  -- a yard elsewhere
  have oth : ∀ c g' σ', 73 ≤ c → YC K (yv I c) (yl L c) g' σ' → YC K (yv (undoI I nx) c) (yl (yardCpL L 1 (108 + 35 * ringPrev nx)) c) g' σ' := fun c g' σ' hc Y => by
    have Y1 : YC K (yv (takeI I nx) c) (yl L c) g' σ' := Y.fr (fun a h1 h2 => tk a (by omega)) (by omega) rfl
    unfold undoI
    rw [rp]
    exact Y1.cpo (by omega) (djB hb) (Or.inr (by omega))
  refine ⟨?_, ⟨p, hp8, q.1, ?_, by omega, fun j hj => ?_⟩, ?_, ?_, cap, ?_, c9⟩
  · obtain ⟨σ', Y⟩ := hs (d - 1) (by omega)
    have e : slot nx d (d - 1) = 108 + 35 * p := by
      unfold slot
      omega
    rw [e] at Y
    have Y1 : YC K (yv (takeI I nx) (108 + 35 * p)) (yl L (108 + 35 * p)) (gs (d - 1)) σ' := Y.fr (fun a h1 h2 => tk a (by omega)) (by omega) rfl
    have Y2 := Y1.cp (b := 1) (by omega) (by omega) (djB hb)
    rw [yv_1, yl_1] at Y2
    refine ⟨σ', ?_⟩
    unfold undoI
    rw [rp]
    exact Y2
  · rw [q.2.1, d1]
    exact nI_m1 hd
  · obtain ⟨σ', Y⟩ := hs j (by omega)
    have e : slot p (d - 1) j = slot nx d j := by
      unfold slot
      omega
    have r := slot_r nx d j
    rw [e]
    exact ⟨σ', oth _ _ _ (by omega) Y⟩
  · rcases sc with ⟨h1, h2⟩ | ⟨g', h1, h2, σ', Y⟩
    · exact Or.inl ⟨h1, q.2.2.trans h2⟩
    · exact Or.inr ⟨g', h1, q.2.2.trans h2, σ', oth _ _ _ (by omega) Y⟩
  · exact tc.fr (undo_o rp (by omega) (by omega)) (by rw [undo_o rp (by omega) (by omega)]) (undo_o rp (by omega) (by omega))
  · exact ln.fr (fun a ha => undo_o rp (by omega) (by omega)) (fun a ha => yardCpL_o (by omega)) (fun _ _ => rfl)
theorem CP.save (h : CP K N v T I L Dd g gs d sv qq tx er fl w) : CP K N v T (up2 (yardCpI I 73 1) 71 4 1) (yardCpL L 73 1) Dd g gs d (some g) qq tx er fl w := by
  obtain ⟨⟨σ, y⟩, ⟨nx, n8, n1, d1, d8, hs⟩, -, tc, cap, ln, c9⟩ := h
  have hb : 1 + 35 ≤ 73 ∨ 73 + 35 ≤ 1 := Or.inl (by omega)
  have y1 : YC K (yv I 1) (yl L 1) g σ := by rw [yv_1, yl_1]; exact y
  have o : ∀ a, (a < 73 ∨ 108 ≤ a) → a ≠ 71 → up2 (yardCpI I 73 1) 71 4 1 a = I a := fun a ha h71 => (up2_ne h71).trans (yc_o hb (by omega))
  have o7 : ∀ j, j ≠ 4 → up2 (yardCpI I 73 1) 71 4 1 71 j = I 71 j := fun j hj => by
    rw [up2_v, if_neg hj, yc_o hb (by omega)]
  refine ⟨⟨σ, ?_⟩, ⟨nx, n8, (o7 1 (by decide)).trans n1, (o7 2 (by decide)).trans d1, d8, fun j hj => ?_⟩, Or.inr ⟨g, rfl, by rw [up2_v, if_pos rfl], σ, ?_⟩, tc.fr (o 0 (by omega) (by omega)) (by rw [o 388 (by omega) (by omega)]) (o 389 (by omega) (by omega)), cap, ln.fr (fun a ha => o a (by omega) (by omega)) (fun a ha => yardCpL_o (by omega)) (fun _ _ => rfl), c9⟩
  · have Y2 : YC K (yv (up2 (yardCpI I 73 1) 71 4 1) 1) (yl (yardCpL L 73 1) 1) g σ := y1.fr (fun a h1 h2 => o a (by omega) (by omega)) (by omega) (yardCpL_o (by omega))
    rw [yv_1, yl_1] at Y2
    exact Y2
  · obtain ⟨σ', Y⟩ := hs j hj
    have r := slot_r nx d j
    exact ⟨σ', Y.fr (fun a h1 h2 => o a (by omega) (by omega)) (by omega) (yardCpL_o (by omega))⟩
  · exact (y1.cp (b := 73) (by omega) (by omega) (djB hb)).fr (fun a h1 h2 => up2_ne (by omega)) (by omega) rfl
theorem CP.rest (h : CP K N v T I L Dd g gs d (some g') qq tx er fl w) : CP K N v T (up2 (yardCpI I 1 73) 71 2 0) (yardCpL L 1 73) Dd g' gs 0 (some g') qq tx er fl w := by
  obtain ⟨-, ⟨nx, n8, n1, d1, d8, hs⟩, sc, tc, cap, ln, c9⟩ := h
  have hb : 73 + 35 ≤ 1 ∨ 1 + 35 ≤ 73 := Or.inr (by omega)
  have o : ∀ a, (a < 1 ∨ 36 ≤ a) → a ≠ 71 → up2 (yardCpI I 1 73) 71 2 0 a = I a := fun a ha h71 => (up2_ne h71).trans (yc_o hb (by omega))
  have o7 : ∀ j, j ≠ 2 → up2 (yardCpI I 1 73) 71 2 0 71 j = I 71 j := fun j hj => by
    rw [up2_v, if_neg hj, yc_o hb (by omega)]
  rcases sc with ⟨h1, -⟩ | ⟨g2, h1, h2, σ, Y⟩
  · cases h1
  · cases h1
    refine ⟨⟨σ, ?_⟩, ⟨nx, n8, (o7 1 (by decide)).trans n1, by rw [up2_v, if_pos rfl]; rfl, by omega, fun j hj => absurd hj (by omega)⟩, Or.inr ⟨g', rfl, (o7 4 (by decide)).trans h2, σ, Y.fr (fun a h1 h2 => o a (by omega) (by omega)) (by omega) (yardCpL_o (by omega))⟩, tc.fr (o 0 (by omega) (by omega)) (by rw [o 388 (by omega) (by omega)]) (o 389 (by omega) (by omega)), cap, ln.fr (fun a ha => o a (by omega) (by omega)) (fun a ha => yardCpL_o (by omega)) (fun _ _ => rfl), c9⟩
    have Y2 := (Y.cp (b := 1) (by omega) (by omega) (djB hb)).fr (I' := up2 (yardCpI I 1 73) 71 2 0) (fun a h1 h2 => up2_ne (by omega)) (by omega) rfl
    rw [yv_1, yl_1] at Y2
    exact Y2
theorem cq_e {s : GS} (h : CP K N v T I L Dd g gs d sv qq tx er fl w)
    (hc : MT X 12 4 24 jx (.ref 0 :: ax) (N, SH v T, I, L, Dd) (outE fo N v T I L Dd (.inl (x, (N, SH v T, I2, L2, Dd))))) (hf : ∀ a, 396 ≤ a → I2 a = I a ∧ L2 a = L a)
    {cd : Int32} (ho : fo = none → cd = 0 ∧ x = x9 ∧ CPs K N v T I2 L2 Dd s) (hn : ∀ E, fo = some E → ∃ k, xs[k]? = some E ∧ cd = nI (k + 1) ∧ s = (g, gs, d, sv, qq, tx, er, fl, w)) : CQ X K 4 24 jx ax xs x9 cd s N v T I L Dd := by
  refine ⟨_, hc, fun R hR => ?_⟩
  rcases fo with _ | E
  · obtain ⟨h1, h2, h3⟩ := ho rfl
    exact ⟨N, T, I2, L2, ⟨Nat.le_refl _, by omega, Or.inl rfl, fun a h4 _ => ⟨rfl, fun _ => (hf a h4).1, (hf a h4).2⟩⟩, h3, Or.inl ⟨h1, by rw [← h2]; exact hR⟩⟩
  · obtain ⟨sh, e⟩ := hR
    obtain ⟨k, h1, h2, h3⟩ := hn E rfl
    subst h3
    exact ⟨N + 1, upS T N sh, I, L, FX.new, h.new, Or.inr ⟨k, E, h1, h2, e⟩⟩
theorem q_undo (hX : JXok X) (h : CP K N v T I L Dd g gs d sv qq tx er fl w) (hN : N + 1 < BIG) : CQ X K 4 24 jdX6_undo [] [xIS] (some (.int (nI (d - 1)))) (if d = 0 then 1 else 0) (if d = 0 then (g, gs, d, sv, qq, tx, er, fl, w) else (gs (d - 1), gs, d - 1, sv, qq, tx, er, fl, w)) N v T I L Dd := by
  have h0 := h
  obtain ⟨-, ⟨nx, hc⟩, -⟩ := h
  have hc0 := hc
  obtain ⟨n8, n1, d1, d8, -⟩ := hc
  have rp := ringPrev_m n8
  refine cq_e h0 (c_undo hX (by decide) h0.N4 hN n8 n1 d8 d1) (fun a ha => ⟨undo_o rp (by omega) (by omega), yardCpL_o (by omega)⟩) (fun q => ?_) (fun E q => ?_)
  · have dp : ¬ d = 0 := fun c => by
      rw [if_pos (by rw [d1, c]; rfl)] at q
      cases q
    rw [if_neg dp, if_neg dp]
    refine ⟨rfl, ?_, h0.undo hc0 (by omega)⟩
    rw [(undo_71 (I := I) rp).2.1, d1, nI_m1 (by omega)]
  · by_cases c : I 71 2 = 0
    · rw [if_pos c] at q
      cases q
      have d0 : d = 0 := nI_inj (by omega) (by omega) (d1.symm.trans c)
      rw [if_pos d0, if_pos d0]
      exact ⟨0, rfl, rfl, rfl⟩
    · rw [if_neg c] at q
      cases q
theorem q_save (hX : JXok X) (h : CP K N v T I L Dd g gs d sv qq tx er fl w) : CQ X K 0 0 jdX6_save [] [] none 0 (g, gs, d, some g, qq, tx, er, fl, w) N v T I L Dd := by
  refine ⟨_, c_save hX (by decide), fun R hR => ⟨N, T, _, _, ⟨Nat.le_refl _, by omega, Or.inl rfl, fun a h1 _ => ⟨rfl, fun _ => (up2_ne (by omega)).trans (yc_o (b := 73) (b2 := 1) (Or.inl (by omega)) (by omega)), yardCpL_o (by omega)⟩⟩, h.save, Or.inl ⟨rfl, hR⟩⟩⟩
theorem q_restore (hX : JXok X) (h : CP K N v T I L Dd g gs d sv qq tx er fl w) (hN : N + 1 < BIG) {gv : Nat → Nat} (hv : sv = some gv) : CQ X K 4 24 jdX6_restore [] [xIS] none 0 (gv, gs, 0, some gv, qq, tx, er, fl, w) N v T I L Dd := by
  subst hv
  have h0 := h
  obtain ⟨-, -, sc, -⟩ := h
  have hb : 73 + 35 ≤ 1 ∨ 1 + 35 ≤ 73 := Or.inr (by omega)
  have c : ¬ I 71 4 = 0 := by
    rcases sc with ⟨h1, -⟩ | ⟨g', h1, h2, -⟩
    · cases h1
    · rw [h2]
      decide
  refine cq_e h0 (c_restore hX (by decide) h0.N4 hN) (fun a ha => ⟨(up2_ne (by omega)).trans (yc_o hb (by omega)), yardCpL_o (by omega)⟩) (fun _ => ⟨rfl, rfl, h0.rest⟩) (fun E q => ?_)
  rw [if_neg c] at q
  cases q
theorem q_append (hX : JXok X) (h : CP K N v T I L Dd g gs d sv qq tx er fl w) (hN : N + 1 < BIG) (hc : vp_nar .char c = c) (q59 : qq < 60) : CQ X K 4 24 jdX6_append [.int c] [xIS] (some (.int (nI (qq + 1)))) 0 (g, gs, d, sv, qq + 1, (fun j => if j = qq then c else tx j), er, fl, w) N v T I L Dd := by
  have h0 := h
  obtain ⟨⟨σ, y⟩, ⟨nx, hs⟩, sc, ⟨q60, t1, t2, t3, t4⟩, cap, ln, c9⟩ := h
  have o9 : ∀ a, 396 ≤ a → addI I qq c a = I a := fun a ha => by
    unfold addI
    rw [up2_ne (by omega), up2_ne (by omega)]
  refine cq_e h0 (c_append hX (by decide) h0.N4 hN q60 t1 hc) (fun a ha => ⟨o9 a ha, rfl⟩) (fun q => ?_) (fun E q => ?_)
  · have o : ∀ a, a ≠ 388 → a ≠ 389 → addI I qq c a = I a := fun a h1 h2 => by
      unfold addI
      rw [up2_ne h1, up2_ne h2]
    have e9 : addI I qq c 389 = fun j => if j = qq then c else tx j := by
      unfold addI
      rw [up2_ne (by decide), up2_eq, t2]
    have e8 : addI I qq c 388 1 = nI (qq + 1) := by
      unfold addI
      rw [up2_v, if_pos rfl, up2_ne (by decide), t1]
      exact nI_1 qq
    have P : CP K N v T (addI I qq c) L Dd g gs d sv (qq + 1) (fun j => if j = qq then c else tx j) er fl w := ⟨⟨σ, y.eq (fun a ha _ _ _ _ => o a (by omega) (by omega)) rfl⟩, ⟨nx, hs.fr (fun a h1 h2 => o a (by omega) (by omega)) (fun _ _ => rfl)⟩, sc.fr (fun a h1 h2 => o a (by omega) (by omega)) (fun _ _ => rfl), ⟨by omega, e8, e9, by rw [o 0 (by decide) (by decide)]; exact t3, by rw [o 0 (by decide) (by decide)]; exact t4⟩, cap, ln.fr (fun a ha => o a (by omega) (by omega)) (fun _ _ => rfl) (fun _ _ => rfl), c9⟩
    exact ⟨rfl, by rw [e8], P⟩
  · rw [if_pos (by rw [t1]; show nI qq < nI 60; exact nI_lt (by omega) (by omega))] at q
    cases q
end YKE
