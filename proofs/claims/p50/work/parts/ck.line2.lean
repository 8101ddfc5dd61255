/-! the line's text; an object whose line has other bytes; a shunting time that is refused -/
section CKA
variable {X : JX} {M : JM} {d mc ms : Nat} {Q : JR → Prop} {pc : Nat} {ls : List (Option Value)} {h : MH} {b b' v k K Ky : Nat} {s sy : GS} {a0 a1 a2 : Int32}
set_option maxRecDepth 100000 in
theorem zt10 : ∀ k, k < 4 → (LN (zl10 k) 17 = 5 ∧ LN (zl10 k) 9 = 50 ∧ LN (zl10 k) 33 = 2) ∧ (LN (zl10 k) 139 = 2 ∧ LN (zl10 k) 140 = 2 ∧ LN (zl10 k) 159 = 0 ∧ LN (zl10 k) 160 = 1) ∧ (LN (zl10 k) 59 = 20 ∧ LN (zl10 k) 60 = 30) ∧ (LN (zl10 k) 39 = 2 ∧ LN (zl10 k) 40 = 4) ∧ (LN (zl10 k) 99 = 2 ∧ LN (zl10 k) 100 = 9) ∧ (LN (zl10 k) 119 = 0 ∧ LN (zl10 k) 120 = 0) := by decide +kernel
theorem z_text : dgL 2 ++ [47] ++ dgL 5 ++ [91] ++ dgL 50 ++ [47] ++ dgL 50 ++ [93] ++ (carT 2 2 (nI 0) ++ (carT 4 9 (nI 0) ++ [])) = jshb.getD 24 [] ∧ (jshb.getD 24 []).length = 18 := by decide +kernel
theorem z_line (hk : k < 4) (h : ZL (zl10 k) s) : wrG s.1 2 = jshb.getD 24 [] := by
  obtain ⟨⟨a1, a2, a3⟩, ⟨a4, a5, a6, a7⟩, ⟨a8, a9⟩, ⟨b1, b2⟩, ⟨b3, b4⟩, b5, b6⟩ := zt10 k hk
  have z1 : s.1 1 = 2 := (h 1 (by decide) (by decide)).trans (zl_01 k hk).2.2.2.2.2.2.2.2.2.2.1.2
  have c17 : s.1 (15 + 2) = 5 := (h 17 (by decide) (by decide)).trans a1
  have c9 : s.1 (7 + 2) = 50 := (h 9 (by decide) (by decide)).trans a2
  have c33 : s.1 (31 + 2) = 2 := (h 33 (by decide) (by decide)).trans a3
  have c139 : s.1 (139 + 0) = 2 := (h 139 (by decide) (by decide)).trans a4
  have c140 : s.1 (139 + 1) = 2 := (h 140 (by decide) (by decide)).trans a5
  have c159 : s.1 (159 + 0) = 0 := (h 159 (by decide) (by decide)).trans a6
  have c160 : s.1 (159 + 1) = 1 := (h 160 (by decide) (by decide)).trans a7
  have c59 : s.1 (59 + 0) = 20 := (h 59 (by decide) (by decide)).trans a8
  have c60 : s.1 (59 + 1) = 30 := (h 60 (by decide) (by decide)).trans a9
  have c39 : s.1 (39 + 0) = 2 := (h 39 (by decide) (by decide)).trans b1
  have c40 : s.1 (39 + 1) = 4 := (h 40 (by decide) (by decide)).trans b2
  have c99 : s.1 (99 + 0) = 2 := (h 99 (by decide) (by decide)).trans b3
  have c100 : s.1 (99 + 1) = 9 := (h 100 (by decide) (by decide)).trans b4
  have c119 : s.1 (119 + 0) = 0 := (h 119 (by decide) (by decide)).trans b5
  have c120 : s.1 (119 + 1) = 0 := (h 120 (by decide) (by decide)).trans b6
  have e0 : atS s.1 2 0 = 0 := by
    obtain ⟨q1, q2, q3⟩ := atS_of (g := s.1) (t := 2) (p := 0) ⟨0, by rw [z1]; decide, c139, c159⟩
    rw [z1] at q1
    have q : atS s.1 2 0 = 0 ∨ atS s.1 2 0 = 1 := by omega
    rcases q with q | q
    · exact q
    · rw [q, c160] at q3
      exact absurd q3 (by decide)
  have e1 : atS s.1 2 1 = 1 := by
    obtain ⟨q1, q2, q3⟩ := atS_of (g := s.1) (t := 2) (p := 1) ⟨1, by rw [z1]; decide, c140, c160⟩
    rw [z1] at q1
    have q : atS s.1 2 1 = 0 ∨ atS s.1 2 1 = 1 := by omega
    rcases q with q | q
    · rw [q, c159] at q3
      exact absurd q3 (by decide)
    · exact q
  have us : usN s.1 2 = 50 := by
    unfold usN
    rw [z1]
    show 0 + (if s.1 (139 + 0) = 2 then s.1 (59 + 0) else 0) + (if s.1 (139 + 1) = 2 then s.1 (59 + 1) else 0) = 50
    rw [c139, c140, c59, c60]
    rfl
  have ec : crG s.1 2 2 0 = carT 2 2 (nI 0) ++ (carT 4 9 (nI 0) ++ []) := by
    show carT (s.1 (39 + atS s.1 2 0)) (s.1 (99 + atS s.1 2 0)) (nI (s.1 (119 + atS s.1 2 0))) ++ (carT (s.1 (39 + atS s.1 2 1)) (s.1 (99 + atS s.1 2 1)) (nI (s.1 (119 + atS s.1 2 1))) ++ []) = _
    rw [e0, e1, c39, c99, c119, c40, c100, c120]
  unfold wrG
  rw [c17, us, c9, c33, ec]
  exact z_text.1
theorem dj_v (hb : 396 ≤ b) (hv : v = 395 ∨ b + 396 ≤ v) : DJ 0 395 b v := by
  have e1 : swp 0 395 = 395 := rfl
  have e2 : swp b v = b + 395 ∨ (swp b v = v ∧ b + 396 ≤ v) := by
    rcases hv with rfl | h
    · exact Or.inl (if_pos (by decide))
    · refine Or.inr ⟨?_, h⟩
      unfold swp
      rw [if_neg (by omega), if_neg (by omega)]
  unfold DJ
  rw [e1]
  omega
theorem OB.keep3 {ex : Nat} {h' : MH} {K' : Nat} {s' : GS} (hb : b = 0 ∨ 396 ≤ b) (hb' : b' = 0 ∨ 396 ≤ b') (hd : DJ b' 395 b v) (hy : OB Ky b' 395 sy h) (st : STEP b v ex h h') (ho : OB K' b v s' h') : OB Ky b' 395 sy h' := hy.keep hb' st hd (ho.fresh hb).2
/-- a call of the class, its line's bytes anywhere -/
theorem Ev.askV {q : JD} {idx mc1 ms1 K' : Nat} {As rest : List Value} {xs : List String} {val : Option Value} {s' : GS} (hX : JXok X) (hM : jM X ≤ 396) (hb : b = 0 ∨ 396 ≤ b) (hb' : b' = 0 ∨ 396 ≤ b') (hd : DJ b' 395 b v) (ho : OB K b v s h) (hy : OB Ky b' 395 sy h) (hB : zN h + 4 < BIG) (hq : DV q) (hl : Cond.methodLink M.1.cls idx q.1 ∈ BW) (hcl : q.1.cls = "ClassificationYard") (hdg : decode M.2.1 pc = .ok (.invokevirtual idx, 3)) (hdd : 13 ≤ d) (hlo : q.2.2.1 ≤ 21) (hc : (mc1 ≤ 4 ∧ ms1 ≤ 24) ∧ 4 ≤ mc ∧ 24 ≤ ms) (hn : As.length = q.2.2.2.2) (hw : (rest.map fun v => v.category).sum ≤ 8) (ha : ∀ v ∈ As, nref v) (hv : ∀ π, val.map (piV π) = val) (hxs : xs.length < 100)
    (hC : ∀ X' T I L D, JXok X' → CPs K (zN h) v T I L D s → CQ X' K' mc1 ms1 q As xs val 0 s' (zN h) v T I L D) (kk : ∀ h' mc' ms', zN h ≤ zN h' → zN h' ≤ zN h + 4 → OB K' b v s' h' → OB Ky b' 395 sy h' → mc - 4 ≤ mc' → ms - 24 ≤ ms' → Ev X M d mc' ms' Q (pc + 3) ls (val.toList ++ rest) h') : Ev X M d mc ms Q pc ls (As.reverse ++ .ref b :: rest) h := by
  refine Ev.ask (mc1 := mc1) (ms1 := ms1) hX hM hb ho (by omega) hq hl hcl hdg hdd hlo ⟨by omega, by omega⟩ hn hw ha hv hxs hC (fun h' st ob => ?_)
  exact kk h' _ _ st.1 st.2.1 ob (OB.keep3 hb hb' hd hy st ob) (by omega) (by omega)
theorem Ev.lawV {q : JD} {hh : JHs} {idx d' mc1 ms1 ex K' : Nat} {As rest : List Value} {val : Option Value} {s' : GS} (hb : b = 0 ∨ 396 ≤ b) (hb' : b' = 0 ∨ 396 ≤ b') (hd : DJ b' 395 b v) (hy : OB Ky b' 395 sy h) (hq : DSH q hh) (hl : Cond.methodLink M.1.cls idx q.1 ∈ BW) (hdg : decode M.2.1 pc = .ok (.invokestatic idx, 3)) (hm : MTH X d' mc1 ms1 q hh As h (fun R => ∃ h', STEP b v ex h h' ∧ OB K' b v s' h' ∧ R = .inl (val, h'))) (hdd : d' + 1 ≤ d ∧ q.2.2.1 + 19 + 40 * d' ≤ 40 * d) (hc : mc1 ≤ mc ∧ ms1 ≤ ms) (hn : As.length = q.2.2.2.2) (hw : (rest.map fun v => v.category).sum ≤ 8)
    (kk : ∀ h' mc' ms', zN h ≤ zN h' → zN h' ≤ zN h + ex → OB K' b v s' h' → OB Ky b' 395 sy h' → mc - mc1 ≤ mc' → ms - ms1 ≤ ms' → Ev X M d mc' ms' Q (pc + 3) ls (val.toList ++ rest) h') : Ev X M d mc ms Q pc ls (As.reverse ++ rest) h := by
  refine Ev.callSX hq hl hdg hm hdd hc hn hw (fun v9 h9 e9 => ?_) (fun E9 h9 e9 => ?_)
  · obtain ⟨h', st, ob, e⟩ := e9
    cases e
    exact kk h9 _ _ st.1 st.2.1 ob (OB.keep3 hb hb' hd hy st ob) (Nat.le_refl _) (Nat.le_refl _)
  · obtain ⟨h', st, ob, e⟩ := e9
    cases e
/-- a shunting time that is out of range -/
theorem c_act6 (hX : JXok X) (hM : jM X ≤ 396) (hB : zN h + 1 < BIG) (hb : b = 0 ∨ 396 ≤ b) (ho : OB K b v s h) (hc : (stiM (GJ s.1) (s.1 1) (s.1 0) a0 a1 a2).2 396 12 = nI 2) : MTH X 13 4 24 jdL_act hhL_act [.ref b, .int 6, .int a0, .int a1, .int a2] h (AR K b v s h (-2)) := by
  obtain ⟨fs9, h0⟩ := ho.at0 hb
  refine MTH.mk dhL_act ?_
  refine Ev.sg hX sL_act_0 (pc' := 1) (ls' := [some (.ref b), some (.int 6), some (.int a0), some (.int a1), some (.int a2), none]) (st' := [.int 6]) (h' := h) rfl ?_
  refine Ev.tabOut (tgt := 83) dL_act_1 (Or.inr (by decide)) (by decide) ?_
  refine Ev.sg hX sL_act_83 (pc' := 88) (ls' := [some (.ref b), some (.int 6), some (.int a0), some (.int a1), some (.int a2), none]) (st' := [.int a2, .int a1, .int a0, .ref b]) (h' := h) rfl ?_
  have C : MT X 12 4 24 jdX6_shuntingTime (.ref b :: [.int a0, .int a1, .int a2]) h _ := OB.call (xs := [xIO, xIA, xNE]) (val := some (.int (stiM (GJ s.1) (s.1 1) (s.1 0) a0 a1 a2).1)) (cd := nI 2) (s' := s) hX hM (by omega) hb ho (fun v hv => by rcases List.mem_map.mp (show v ∈ [a0, a1, a2].map Value.int from hv) with ⟨x, -, rfl⟩; exact fun _ => rfl) (fun _ => rfl) (fun X' T I L D hX' c => by
    have q := q_shuntingTime (a := a0) (b := a1) (c := a2) hX' c hB
    rw [hc] at q
    exact q)
  refine Ev.callV (As := [.int a0, .int a1, .int a2]) (rest := []) dvX6_shuntingTime mkL_62 h0 rfl dL_act_88 C ⟨Nat.le_refl _, by show 5 + 19 + 40 * _ ≤ 40 * _; omega⟩ ⟨Nat.le_refl _, Nat.le_refl _⟩ rfl (Nat.le_of_ble_eq_true rfl) (fun v9 h9 e9 => ?_) (fun E9 h9 e9 => ?_)
  · obtain ⟨h8, st9, ob9, ⟨c0, e⟩ | ⟨k, E, x1, x2, e⟩⟩ := e9
    · exact absurd c0 (by decide)
    · cases e
  obtain ⟨h8, st9, ob9, ⟨c0, e⟩ | ⟨k, E, x1, x2, e⟩⟩ := e9
  · exact absurd c0 (by decide)
  cases e
  rcases k with _ | _ | _ | k
  · exact absurd x2 (by decide)
  · cases x1
    refine EvX.catchL (c := 67) rfl (by unfold lxP; decide) 13 (83, 91, 96, 67) rfl (by decide +kernel) ⟨by decide, by decide⟩ rfl rfl (sL_act_96.dc 0 (q := (96, .astore 5, 0, 0)) rfl) ?_
    show Ev _ _ _ _ _ _ 98 [some (.ref b), some (.int 6), some (.int a0), some (.int a1), some (.int a2), none] [] h9
    refine Ev.sg hX (sL_act_96.sub 1 1) (pc' := 100) (ls' := [some (.ref b), some (.int 6), some (.int a0), some (.int a1), some (.int a2), none]) (st' := [.int (-2)]) (h' := h9) rfl ?_
    refine Ev.iret dL_act_100 rfl ?_
    exact ⟨h9, st9, ob9, rfl⟩
  · exact absurd x2 (by decide)
  · cases x1
end CKA
