/-! shunting to its end; repairs; new tracks -/
section YDN
variable {K : Nat} {I J : HI} {L : HL} {g g' σ : Nat → Nat} {x y s t i k u : Nat}
theorem YR.fin {mn : Nat} (H : YR K I L (J 397) g σ) (hmn : mn ≤ 100) (hK1 : K + 1 ≤ 5000) : YR (K + 1) (up2 I 1 5 (I 1 5 + 1)) (up2 L 1 4 (L 1 4 + (nI mn).toInt64)) (up2 (up2 J 397 5 (J 397 5 + nI mn)) 397 3 (J 397 3 + 1) 397) (un (un g 5 (g 5 + mn)) 3 (g 3 + 1)) σ := by
  obtain ⟨hK, V, ⟨⟨b0, b1, b2, b3, b4, b5, b6⟩, W⟩, ⟨s1, s2, s3, s4, s5, s6, s7, s8⟩, T, Hj, C⟩ := H
  have hg : ∀ k, k ≠ 3 → k ≠ 4 → k ≠ 5 → k ≠ 6 → un (un g 5 (g 5 + mn)) 3 (g 3 + 1) k = g k := fun k h3 h4 h5 h6 => by rw [un_ne h3, un_ne h5]
  have e0 := hg 0 (by decide) (by decide) (by decide) (by decide)
  have e1 := hg 1 (by decide) (by decide) (by decide) (by decide)
  have e2 := hg 2 (by decide) (by decide) (by decide) (by decide)
  have e3 : un (un g 5 (g 5 + mn)) 3 (g 3 + 1) 3 = g 3 + 1 := un_eq
  have e4 : un (un g 5 (g 5 + mn)) 3 (g 3 + 1) 4 = g 4 := by rw [un_ne (by decide), un_ne (by decide)]
  have e5 : un (un g 5 (g 5 + mn)) 3 (g 3 + 1) 5 = g 5 + mn := by rw [un_ne (by decide), un_eq]
  have e6 : un (un g 5 (g 5 + mn)) 3 (g 3 + 1) 6 = g 6 := by rw [un_ne (by decide), un_ne (by decide)]
  have q : eqY (up2 I 1 5 (I 1 5 + 1)) (up2 I 1 5 (I 1 5 + 1)) := fun a _ _ _ _ _ => rfl
  have T2 : CRt (up2 I 1 5 (I 1 5 + 1)) g := fun t ht => by
    rw [up2_ne (by decide), up2_ne (by decide), up2_ne (by decide), up2_ne (by decide)]
    exact T t ht
  have J2 : CRj (up2 I 1 5 (I 1 5 + 1)) g := fun i j hi hj => by
    rw [up2_ne (by decide)]
    exact Hj i j hi hj
  have C2 : CRc (up2 I 1 5 (I 1 5 + 1)) g σ := by
    unfold CRc
    rw [up2_ne (by decide), up2_ne (by decide), up2_ne (by decide), up2_ne (by decide), up2_ne (by decide), up2_ne (by decide), up2_ne (by decide)]
    exact C
  refine ⟨hK1, ?_, ⟨?_, W.cg hg⟩, ⟨?_, ?_, ?_, ?_, ?_, ?_, ?_, ?_⟩, T2.cg hg, J2.cg hg, C2.cg hg⟩
  · exact (V.up (by rw [V 5 (by decide), nI_add])).up (by rw [V 3 (by decide), nI_1])
  · rw [e0, e1, e2, e3, e4, e5, e6]
    omega
  · rw [e0, up2_ne (by decide)]; exact s1
  · rw [e1, up2_ne (by decide)]; exact s2
  · rw [e2, up2_ne (by decide)]; exact s3
  · rw [e3, up2_v, if_pos rfl, s4, nI_1]
  · rw [e4, up2_v, if_neg (by decide)]; exact s5
  · rw [e5, up2_v, if_pos rfl, s6, nI_l (by omega), lN_add]
  · rw [e6, up2_v, if_neg (by decide)]; exact s7
  · rw [up2_ne (by decide), lkc.cg hg]; exact s8
theorem exM_gv (V : GV (J 397) g) : GV (exM J (g 0) y 397) g := by rw [exM_ne (by decide)]; exact V
theorem cmd_shunt {q : Nat} (H : YR K I L (J 397) g σ) (hK1 : K + 1 ≤ 5000) (hx : x < g 0) (hy : y < g 0) (hxy : x ≠ y) (q9 : q ≤ 9) (hq : q ≤ g (31 + x)) (hd : dsN g x y < 8) (hr : usN g y + lastN g x q 59 ≤ g (7 + y)) :
    mvOK x y q (bfsI I (g 0) y) ∧ okMv (g 1) x y q (exM (exM J (g 0) y) (g 0) y) ∧ minF I (g 0) x y (nI q) = nI (mnN g x y q) ∧ miM (exM J (g 0) y) (g 1) (g 0) x y q = nI (mnN g x y q) ∧
    ∃ g', YR (K + 1) (moveI (bfsI I (g 0) y) x y q) (up2 L 1 4 (L 1 4 + (minF I (g 0) x y (nI q)).toInt64)) (up2 (up2 (shK J (g 1) (g 0) x y q) 397 5 (shK J (g 1) (g 0) x y q 397 5 + miM (exM J (g 0) y) (g 1) (g 0) x y q)) 397 3 (shK J (g 1) (g 0) x y q 397 3 + 1) 397) g' σ := by
  have hK := H.1
  have V := H.2.1
  have W := H.2.2.1
  have T := H.2.2.2.2.1
  have Hj := H.2.2.2.2.2.1
  have C := H.2.2.2.2.2.2
  have D := ds_isD Hj W hx hy
  have a1 := minF_g hK W T Hj C hx hy hq
  have a2 := miM_g (J := exM J (g 0) y) hK W (exM_gv V) D hx hy hq hd
  have H2 : YR K (bfsI I (g 0) y) L (exM (exM J (g 0) y) (g 0) y 397) g σ := by
    rw [exM_ne (by decide), exM_ne (by decide)]
    exact H.sc (eqY.of bfsI_eq) rfl
  obtain ⟨r1, r2, g', r3, r4⟩ := mv_loop q 0 _ _ g H2 hx hy hxy hq hr
  refine ⟨r1, r2, a1, a2, un (un g' 5 (g' 5 + mnN g x y q)) 3 (g' 3 + 1), ?_⟩
  rw [a1, a2]
  exact YR.fin (J := shK J (g 1) (g 0) x y q) (I := fo (fun _ J => moveL x y J) q 0 (bfsI I (g 0) y)) r3 (by have := mnN_le hK W hx hy hq q9 hd; omega) hK1
theorem WS.bad (h : ∀ k, k < 119 ∨ 139 ≤ k → g' k = g k) (hm : g 1 ≤ 20) (hz : g 0 ≤ 8) (hb : ∀ i, i < g 1 → g' (119 + i) ≤ 1) (W : WS g) : WS g' := by
  obtain ⟨w1, w2, w3, w4, w5, w6, w7, w8⟩ := W
  have e1 := h 1 (by omega)
  have e0 := h 0 (by omega)
  have us : ∀ t, usN g' t = usN g t := fun t => by
    unfold usN
    rw [e1]
    refine sN_congr (fun i hi => ?_)
    try simp only
    rw [h _ (by omega), h _ (by omega)]
  refine ⟨fun t ht => ?_, fun t ht => ?_, fun i hi => ?_, fun i j hi hj hl => ?_, ?_, fun i hi => ?_, fun i j hij hj => ?_, fun t p ht hp => ?_⟩
  · rw [h _ (by omega), h _ (by omega)]; exact w1 t ht
  · rw [e0] at ht
    rw [h _ (by omega), us]; exact w2 t ht
  · rw [h _ (by omega)]; exact w3 i hi
  · unfold lkN at hl ⊢
    rw [h _ (by omega)] at hl ⊢
    rw [h _ (by omega)]
    exact w4 i j hi hj hl
  · rw [e1, ← w5]
    exact sN_congr (fun t ht => h _ (by omega))
  · rw [e1] at hi
    have a := w6 i hi
    have b := hb i hi
    rw [h (39 + i) (by omega), h 2 (by omega), h (59 + i) (by omega), h (79 + i) (by omega), h (99 + i) (by omega), h (139 + i) (by omega), h (159 + i) (by omega), e0, h (31 + g (139 + i)) (by omega)]
    exact ⟨a.1, a.2.1, a.2.2.1, a.2.2.2.1, b, a.2.2.2.2.2⟩
  · rw [e1] at hj
    rw [h _ (by omega), h _ (by omega), h _ (by omega), h _ (by omega), h _ (by omega), h _ (by omega)]
    exact w7 i j hij hj
  · rw [h _ (by omega)] at hp
    obtain ⟨s', h1, h2, h3⟩ := w8 t p ht hp
    exact ⟨s', by rw [e1]; exact h1, by rw [h _ (by omega)]; exact h2, by rw [h _ (by omega)]; exact h3⟩
theorem bad_g (hK : K ≤ 5000) (W : WG K g) (C : CRc I g σ) : fo (stM I) 20 0 0 = nI (sN (fun i => g (119 + i)) (g 1)) := by
  refine cl_sum C (fun s hs a => ?_) (fun u hu hs a => ?_)
  · have b := W.car hK hs
    rw [stM, (C.1 s hs).2.1, (C.1 s hs).2.2.2.2.2.1, if_pos (fun e2 => by have := nI_inj (b := 0) (by omega) (by omega) e2; omega)]
  · rw [stM, (C.2.2 u hu hs).1, if_neg (fun e => e rfl)]
/-- a repair -/
theorem cmd_repair (H : YR K I L (J 397) g σ) (hK1 : K + 1 ≤ 5000) (c : Int32) :
    (repairFt I c = 4 ∧ repM J (g 1) c = (0, up2 J 396 12 1)) ∨ (repairFt I c = 3 ∧ repM J (g 1) c = (0, up2 J 396 12 2)) ∨
    (repairFt I c = 0 ∧ ∃ s, s < g 1 ∧ σ s < 20 ∧ slotOf I c = nI (σ s) ∧ repM J (g 1) c = (fo (stM (mendI I (σ s))) 20 0 0, up2 (up2 J 397 (119 + s) 0) 396 12 0) ∧ YR (K + 1) (mendI I (σ s)) L (up2 J 397 (119 + s) 0 397) (un g (119 + s) 0) σ) := by
  obtain ⟨hK, V, W, S, T, Hj, C⟩ := H
  have hm := W.1.2.1
  have hz := W.1.1
  rcases slotOf_g hK W C c with ⟨s, hs, e1, e2⟩ | ⟨n1, n2⟩
  · rcases slOM_g hK W V c with ⟨s', hs', e1', e2'⟩ | ⟨n1', -⟩
    · have cb := W.car hK hs
      have cb' := W.car hK hs'
      have e3 : s' = s := W.num hs' hs (nI_inj (by omega) (by omega) (e1'.symm.trans e1))
      subst e3
      have q := C.1 s' hs
      have f1 : repairFt I c = if g (119 + s') = 1 then 0 else 3 := by
        unfold repairFt
        rw [e2, if_neg (nI_mi (by omega)), rg_nI q.1 (by decide), q.2.2.2.2.2.1]
        by_cases d : g (119 + s') = 1
        · rw [if_pos (by rw [d]; rfl), if_pos d]
        · rw [if_neg (show ¬ nI (g (119 + s')) = 1 from fun e => d (nI_inj (b := 1) (by omega) (by omega) e)), if_neg d]
      have f2 : repM J (g 1) c = if g (119 + s') = 0 then (0, up2 J 396 12 2) else (fo (reS (up2 J 397 (119 + s') 0)) (g 1) 0 0, up2 (up2 J 397 (119 + s') 0) 396 12 0) := by
        unfold repM
        rw [e2', if_neg (nI_mi (by omega)), nI_clamp (by omega), V _ (by omega)]
        by_cases d : g (119 + s') = 0
        · rw [if_pos (by rw [d]; rfl), if_pos d]
        · rw [if_neg (show ¬ nI (g (119 + s')) = 0 from fun e => d (nI_inj (b := 0) (by omega) (by omega) e)), if_neg d]
      by_cases d : g (119 + s') = 1
      · have hg : ∀ k, k < 119 ∨ 139 ≤ k → un g (119 + s') 0 k = g k := fun k hk => un_ne (by omega)
        have V2 : GV (up2 J 397 (119 + s') 0 397) (un g (119 + s') 0) := V.up rfl
        have W2 : WG (K + 1) (un g (119 + s') 0) := ⟨by
          rw [hg 0 (by omega), hg 1 (by omega), hg 2 (by omega), hg 3 (by omega), hg 4 (by omega), hg 5 (by omega), hg 6 (by omega)]
          have := W.1
          omega, W.2.bad hg hm hz (fun i hi => by
            rw [un_v]
            have := W.car hK hi
            split <;> omega)⟩
        have C2 : CRc (mendI I (σ s')) (un g (119 + s') 0) σ := by
          refine ⟨fun i hi => ?_, fun i j hij hj => ?_, fun u hu hn => ?_⟩
          · rw [hg 1 (by omega)] at hi
            obtain ⟨c0, c1, c2, c3, c4, c5, c6, c7⟩ := C.1 i hi
            unfold mendI
            rw [up2_ne (by decide), up2_ne (by decide), up2_ne (by decide), up2_ne (by decide), up2_v, up2_ne (by decide), up2_ne (by decide), hg _ (by omega), hg _ (by omega), hg _ (by omega), hg _ (by omega), un_v, hg _ (by omega), hg _ (by omega)]
            refine ⟨c0, c1, c2, c3, c4, ?_, c6, c7⟩
            by_cases e : i = s'
            · rw [if_pos (by rw [e]), if_pos (by rw [e])]; rfl
            · rw [if_neg (fun e4 => e (C.eqσ hi hs e4)), if_neg (by omega)]; exact c5
          · rw [hg 1 (by omega)] at hj
            exact C.2.1 i j hij hj
          · rw [hg 1 (by omega)] at hn
            unfold mendI
            rw [up2_ne (by decide), up2_ne (by decide)]
            exact C.2.2 u hu hn
        refine Or.inr (Or.inr ⟨by rw [f1, if_pos d], s', hs, q.1, e2, ?_, ⟨hK1, V2, W2, ?_, ?_, ?_, C2⟩⟩)
        · rw [f2, if_neg (by omega), bad_g hK1 W2 C2, hg 1 (by omega)]
          refine congrArg (fun v => (v, _)) (fo_sum (fun k a hk => ?_))
          rw [reS, V2 _ (by omega)]
        · obtain ⟨s1, s2, s3, s4, s5, s6, s7, s8⟩ := S
          unfold CRs mendI
          rw [up2_ne (by decide), up2_ne (by decide), up2_ne (by decide), hg 0 (by omega), hg 1 (by omega), hg 2 (by omega), hg 3 (by omega), hg 4 (by omega), hg 5 (by omega), hg 6 (by omega), lkc_lo (g := g) (hg 0 (by omega)) (fun i hi => hg _ (by omega)) hz]
          exact ⟨s1, s2, s3, s4, s5, s6, s7, s8⟩
        · intro t ht
          unfold mendI
          rw [up2_ne (by decide), up2_ne (by decide), up2_ne (by decide), up2_ne (by decide), hg _ (by omega), hg _ (by omega), hg _ (by omega)]
          have us : usN (un g (119 + s') 0) t = usN g t := by
            unfold usN
            rw [hg 1 (by omega)]
            refine sN_congr (fun i hi => ?_)
            try simp only
            rw [hg _ (by omega), hg _ (by omega)]
          rw [us]
          exact T t ht
        · intro i j hi hj
          unfold mendI
          rw [up2_ne (by decide), hg _ (by omega)]
          exact Hj i j hi hj
      · refine Or.inr (Or.inl ⟨by rw [f1, if_neg d], by rw [f2, if_pos (by omega)]⟩)
    · exact absurd e1 (n1' s hs)
  · rcases slOM_g hK W V c with ⟨s', hs', e1', e2'⟩ | ⟨-, n2'⟩
    · exact absurd e1' (n1 s' hs')
    · refine Or.inl ⟨?_, ?_⟩
      · unfold repairFt
        rw [n2, if_pos rfl]
      · unfold repM
        rw [n2', if_pos rfl]
end YDN
