/-! the law's small methods over an object: a changing call, a car, a run -/
section EVP
variable {X : JX} {M : JM} {d mc ms : Nat} {Q : JR → Prop} {pc : Nat} {ls : List (Option Value)} {st : List Value} {h : MH}
theorem EvX.catchP {E : String} (hE : E ∈ jexc) (pre : List (Nat × Nat × Nat × Nat)) (x : Nat × Nat × Nat × Nat) (suf : List (Nat × Nat × Nat × Nat)) (hsp : M.2.2.2.2 = pre ++ x :: suf) (hc : Cond.castable E E ∈ FA)
    (hpre : ∀ z ∈ pre, (pc < z.1 ∨ z.2.1 ≤ pc) ∨ (z.2.2.2 ≠ 0 ∧ ∃ nm ∈ jexc, E ≠ nm ∧ Cond.classLink M.1.cls z.2.2.2 nm ∈ BW)) (hlo : x.1 ≤ pc ∧ pc < x.2.1) (h0 : x.2.2.2 ≠ 0) (hk : Cond.classLink M.1.cls x.2.2.2 E ∈ BW)
    (kk : ∀ q : Nat, ∀ (p : Program) (ev : Env) (R : Room) (s : State) (m : MethodId) (args : Array Value) (below : List Frame) (meth : Method) (c : Code) (H : Heap) (locs : List Loc) (cells slots : Nat) (lsA : Array Slot), BF X M p s m meth c → KK X s → Hd X h H → va_S (jF X) s.heap H locs → LH X lsA M.2.2.1 ls → (d ≤ R.frames ∧ 40 * d ≤ R.locals ∧ cells + mc ≤ R.cells ∧ slots + ms ≤ R.slots) → W p X.1 ev R s m args below meth c H locs cells slots (vx_MQ below (JQ X Q) (JXc X Q) args s R.cells R.slots (jF X)) (F0 m x.2.2.1 lsA [.ref q])) : EvX X M d mc ms Q pc ls E h := by
  intro p ev R s m args below meth c H locs cells slots lsA rest ce q hB hK hH hS hL hR h1 h2 h3
  refine vx_catch (own := M.1.cls) (name := E) hB.2.2.2.1 (tableOf pre) ⟨x.1, x.2.1, x.2.2.1, x.2.2.2⟩ (tableOf suf) (by rw [hB.2.2.2.2.2.2.1, hsp]; simp [tableOf]) (fun z hz => ?_) ?_ h0 (hK.word hk args) (hK.faw hc args) h1 h2 h3 (kk q p ev R s m args below meth c H locs cells slots lsA hB hK hH hS hL hR)
  · obtain ⟨y, hy, rfl⟩ := List.mem_map.mp hz
    rcases hpre y hy with q1 | ⟨q1, nm, q2, q3, q4⟩
    · refine Or.inl ?_
      simp [covers]
      omega
    · exact Or.inr ⟨q1, nm, hK.word q4 args, hK.ks.nc E hE nm q2 q3⟩
  · simp [covers, hlo.1, hlo.2]
/-- the classes that the law catches, by their places -/
def lx (c : Nat) : String := if c = 65 then xIO else if c = 67 then xIA else if c = 69 then xIS else if c = 71 then xNE else xUO
def lxP (c : Nat) : Prop := c = 65 ∨ c = 67 ∨ c = 69 ∨ c = 71 ∨ c = 73
theorem lx_bw {c : Nat} (h : lxP c) : Cond.classLink "ClassificationYardLaw" c (lx c) ∈ BW := by
  rcases h with rfl | rfl | rfl | rfl | rfl
  · exact bw_of 1317 (by decide +kernel) (by decide +kernel)
  · exact bw_of 1320 (by decide +kernel) (by decide +kernel)
  · exact bw_of 1321 (by decide +kernel) (by decide +kernel)
  · exact bw_of 1322 (by decide +kernel) (by decide +kernel)
  · exact bw_of 1323 (by decide +kernel) (by decide +kernel)
theorem lx_j {c : Nat} (h : lxP c) : lx c ∈ jexc := by
  rcases h with rfl | rfl | rfl | rfl | rfl <;> decide +kernel
theorem lx_c {c : Nat} (h : lxP c) : Cond.castable (lx c) (lx c) ∈ FA := by
  rcases h with rfl | rfl | rfl | rfl | rfl
  · exact List.mem_filter.mpr ⟨List.mem_of_getElem? (show tables_1[311]? = some _ by decide +kernel), by decide +kernel⟩
  · exact List.mem_filter.mpr ⟨List.mem_of_getElem? (show tables_1[383]? = some _ by decide +kernel), by decide +kernel⟩
  · exact List.mem_filter.mpr ⟨List.mem_of_getElem? (show tables_1[399]? = some _ by decide +kernel), by decide +kernel⟩
  · exact List.mem_filter.mpr ⟨List.mem_of_getElem? (show tables_1[415]? = some _ by decide +kernel), by decide +kernel⟩
  · exact List.mem_filter.mpr ⟨List.mem_of_getElem? (show tables_1[431]? = some _ by decide +kernel), by decide +kernel⟩
theorem lx_0 {c : Nat} (h : lxP c) : c ≠ 0 := by
  rcases h with rfl | rfl | rfl | rfl | rfl <;> decide
def preOK (pc c : Nat) (l : List (Nat × Nat × Nat × Nat)) : Bool := l.all fun z => (decide (pc < z.1) || decide (z.2.1 ≤ pc)) || ((z.2.2.2 == 65 || (z.2.2.2 == 67 || (z.2.2.2 == 69 || (z.2.2.2 == 71 || z.2.2.2 == 73)))) && !(lx c == lx z.2.2.2))
theorem preOK_of {c : Nat} {l : List (Nat × Nat × Nat × Nat)} (hcl : M.1.cls = "ClassificationYardLaw") (h : preOK pc c l = true) : ∀ z ∈ l, (pc < z.1 ∨ z.2.1 ≤ pc) ∨ (z.2.2.2 ≠ 0 ∧ ∃ nm ∈ jexc, lx c ≠ nm ∧ Cond.classLink M.1.cls z.2.2.2 nm ∈ BW) := by
  intro z hz
  have q := List.all_eq_true.mp h z hz
  simp only [Bool.or_eq_true, Bool.and_eq_true, decide_eq_true_eq, beq_iff_eq, Bool.not_eq_true', beq_eq_false_iff_ne, ne_eq] at q
  rcases q with q | ⟨q1, q2⟩
  · exact Or.inl q
  · have qp : lxP z.2.2.2 := q1
    exact Or.inr ⟨lx_0 qp, lx z.2.2.2, lx_j qp, q2, by rw [hcl]; exact lx_bw qp⟩
theorem split_at {l : List (Nat × Nat × Nat × Nat)} {k : Nat} {x : Nat × Nat × Nat × Nat} (h : l[k]? = some x) : l = l.take k ++ x :: l.drop (k + 1) := by
  obtain ⟨h1, h2⟩ := List.getElem?_eq_some_iff.mp h
  rw [← h2, ← List.drop_eq_getElem_cons h1, List.take_append_drop]
theorem EvX.catchL (hcl : M.1.cls = "ClassificationYardLaw") {c : Nat} (hc : lxP c) (k : Nat) (x : Nat × Nat × Nat × Nat) (hk : M.2.2.2.2[k]? = some x) (hpre : preOK pc c (M.2.2.2.2.take k) = true) (hlo : x.1 ≤ pc ∧ pc < x.2.1) (hcx : x.2.2.2 = c)
    {i : Nat} {ls1 : List (Option Value)} (hi : st1 ls i .null = some ls1) (dd : decode M.2.1 x.2.2.1 = .ok (.astore i, 2)) (kk : Ev X M d mc ms Q (x.2.2.1 + 2) (ls1.set i none) [] h) : EvX X M d mc ms Q pc ls (lx c) h := by
  refine EvX.catchP (lx_j hc) _ x _ (split_at hk) (lx_c hc) (preOK_of hcl hpre) hlo (by rw [hcx]; exact lx_0 hc) (by rw [hcl, hcx]; exact lx_bw hc) (fun q p ev R s m args below meth c H locs cells slots lsA hB hK hH hS hL hR => ?_)
  obtain ⟨g1, g2⟩ := hL.atop hi
  exact lv_astore hB.1 hB.2.1 dd hL.has g1 rfl (fun lsB hb9 => kk p ev R s m args below meth c H locs cells slots lsB hB hK hH hS (g2 _ lsB hb9) hR)
theorem EvX.catchLn (hcl : M.1.cls = "ClassificationYardLaw") {c : Nat} (hc : lxP c) (k : Nat) (x : Nat × Nat × Nat × Nat) (hk : M.2.2.2.2[k]? = some x) (hpre : preOK pc c (M.2.2.2.2.take k) = true) (hlo : x.1 ≤ pc ∧ pc < x.2.1) (hcx : x.2.2.2 = c)
    {i : Fin 4} {ls1 : List (Option Value)} (hi : st1 ls i .null = some ls1) (dd : decode M.2.1 x.2.2.1 = .ok (.astore_n i, 1)) (kk : Ev X M d mc ms Q (x.2.2.1 + 1) (ls1.set i none) [] h) : EvX X M d mc ms Q pc ls (lx c) h := by
  refine EvX.catchP (lx_j hc) _ x _ (split_at hk) (lx_c hc) (preOK_of hcl hpre) hlo (by rw [hcx]; exact lx_0 hc) (by rw [hcl, hcx]; exact lx_bw hc) (fun q p ev R s m args below meth c H locs cells slots lsA hB hK hH hS hL hR => ?_)
  obtain ⟨g1, g2⟩ := hL.atop hi
  exact lv_astore_n hB.1 hB.2.1 dd rfl hL.has g1 rfl (fun lsB hb9 => kk p ev R s m args below meth c H locs cells slots lsB hB hK hH hS (g2 _ lsB hb9) hR)
end EVP
/-- what the law makes of a refusal -/
def exR (E : String) : Int32 := if E = xIO then -1 else if E = xIA then -2 else if E = xIS then -3 else if E = xNE then -4 else -5
def rsV (xs : List String) (v cd : Int32) : Int32 := if cd = 0 then v else exR (xs.getD (cd.toNatClampNeg - 1) "")
theorem rsV_0 {xs : List String} {v cd : Int32} (h : cd = 0) : rsV xs v cd = v := if_pos h
theorem rsV_k {xs : List String} {v cd : Int32} {k : Nat} {E : String} (h1 : xs[k]? = some E) (h2 : cd = nI (k + 1)) (hk : k < 100) : rsV xs v cd = exR E := by
  unfold rsV
  have e : ¬ cd = 0 := fun q => by
    rw [h2] at q
    have := nI_inj (b := 0) (by omega) (by omega) q
    omega
  rw [if_neg e, h2, nI_clamp (by omega), Nat.add_sub_cancel, List.getD_eq_getElem?_getD, h1]
  rfl
section LSM
variable {X : JX} {K b v : Nat} {s : GS} {h : MH} {a0 a1 a2 a3 f : Int32}
theorem OB.at0 (hb : b = 0 ∨ 396 ≤ b) (ho : OB K b v s h) : ∃ fs, zS h b = some (.inr (6, fs)) := by
  obtain ⟨hN, T, e, -⟩ := ho
  have q := congrFun e 0
  have q2 : (zS h (swp b 0)).map (piS (swp b)) = some x0S := q
  have e0 : swp b 0 = b := if_pos (by decide)
  rw [e0] at q2
  cases hs : zS h b with
  | none => rw [hs] at q2; cases q2
  | some js =>
    rw [hs] at q2
    rcases js with a | ⟨ci, fs⟩
    · have := Option.some.inj q2
      cases this
    · have q3 := Option.some.inj q2
      have q4 : (ci, fs.map (piF (swp b))) = (6, _) := Sum.inr.inj q3
      have q5 : ci = 6 := congrArg (fun z => z.1) q4
      subst q5
      exact ⟨fs, rfl⟩
/-- a changing call, as the law sees it -/
def cmF (s : GS) (a b c e f : Int32) (kk : Nat) : Int32 × HI := mK (GJ s.1) (s.1 0) (s.1 1) a b c e f kk
def cmV (s : GS) (a b c e f : Int32) (kk : Nat) : Int32 := rsV (xsK kk) (cmF s a b c e f kk).1 ((cmF s a b c e f kk).2 396 12)
def cmG (s : GS) (a b c e f : Int32) (kk : Nat) : GS := cmS s.1 s.2.1 s.2.2.1 s (cmF s a b c e f kk)
/-- an object behind a call: what it answers, what it tells then -/
def AR (K b v : Nat) (s' : GS) (h : MH) (x : Int32) : JR → Prop := fun R => ∃ h', STEP b v 4 h h' ∧ OB K b v s' h' ∧ R = .inl (some (.int x), h')
theorem c_act0 (hX : JXok X) (hM : jM X ≤ 396) (hB : zN h + 1 < BIG) (hb : b = 0 ∨ 396 ≤ b) (ho : OB K b v s h) (hK1 : K + 1 ≤ 5000) : MTH X 13 4 24 jdL_act hhL_act [.ref b, .int 0, .int a0, .int a1, .int a2] h (AR (K + 1) b v (cmG s a0 a1 0 0 0 0) h (cmV s a0 a1 0 0 0 0)) := by
  obtain ⟨fs9, h0⟩ := ho.at0 hb
  refine MTH.mk dhL_act ?_
  refine Ev.sg hX sL_act_0 (pc' := 1) (ls' := [some (.ref b), some (.int 0), some (.int a0), some (.int a1), some (.int a2), none]) (st' := [.int 0]) (h' := h) rfl ?_
  refine Ev.tabIn (tgt := 40) (off := 39) dL_act_1 (by decide) (by decide) rfl rfl ?_
  refine Ev.sg hX sL_act_40 (pc' := 43) (ls' := [some (.ref b), some (.int 0), some (.int a0), some (.int a1), some (.int a2), none]) (st' := [.int a1, .int a0, .ref b]) (h' := h) rfl ?_
  have C : MT X 12 4 24 jdX6_addTrack (.ref b :: [.int a0, .int a1]) h _ := OB.call (xs := xsK 0) (val := some (.int (cmF s a0 a1 0 0 0 0).1)) (cd := (cmF s a0 a1 0 0 0 0).2 396 12) (s' := cmG s a0 a1 0 0 0 0) hX hM (by omega) hb ho (fun v hv => by rcases List.mem_map.mp (show v ∈ [a0, a1].map Value.int from hv) with ⟨x, -, rfl⟩; exact fun _ => rfl) (fun _ => rfl) (fun X' T I L D hX' c => q_addTrack hX' c hB hK1)
  refine Ev.callV (As := [.int a0, .int a1]) (rest := []) dvX6_addTrack mkL_41 h0 rfl dL_act_43 C ⟨Nat.le_refl _, by show 3 + 19 + 40 * _ ≤ 40 * _; omega⟩ ⟨Nat.le_refl _, Nat.le_refl _⟩ rfl (Nat.le_of_ble_eq_true rfl) (fun v9 h9 e9 => ?_) (fun E9 h9 e9 => ?_)
  · obtain ⟨h8, st9, ob9, ⟨c0, e⟩ | ⟨k, E, x1, x2, e⟩⟩ := e9
    · cases e
      show Ev _ _ _ _ _ _ 46 [some (.ref b), some (.int 0), some (.int a0), some (.int a1), some (.int a2), none] [.int (cmF s a0 a1 0 0 0 0).1] h9
      refine Ev.iret dL_act_46 rfl ?_
      exact ⟨h9, st9, ob9, by rw [show cmV s a0 a1 0 0 0 0 = (cmF s a0 a1 0 0 0 0).1 from rsV_0 c0]⟩
    · cases e
  obtain ⟨h8, st9, ob9, ⟨c0, e⟩ | ⟨k, E, x1, x2, e⟩⟩ := e9
  · cases e
  cases e
  obtain ⟨v9, hv9⟩ : ∃ x, x = cmV s a0 a1 0 0 0 0 := ⟨_, rfl⟩
  rw [← hv9]
  rw [show cmV s a0 a1 0 0 0 0 = rsV (xsK 0) (cmF s a0 a1 0 0 0 0).1 ((cmF s a0 a1 0 0 0 0).2 396 12) from rfl] at hv9
  rcases k with _ | _ | k
  · cases x1
    rw [rsV_k (k := 0) rfl x2 (by decide)] at hv9
    rw [show exR xIA = -2 by decide +kernel] at hv9
    refine EvX.catchL (c := 67) rfl (by unfold lxP; decide) 7 (0, 46, 96, 67) rfl (by decide +kernel) ⟨by decide, by decide⟩ rfl rfl (sL_act_96.dc 0 (q := (96, .astore 5, 0, 0)) rfl) ?_
    show Ev _ _ _ _ _ _ 98 [some (.ref b), some (.int 0), some (.int a0), some (.int a1), some (.int a2), none] [] h9
    refine Ev.sg hX (sL_act_96.sub 1 1) (pc' := 100) (ls' := [some (.ref b), some (.int 0), some (.int a0), some (.int a1), some (.int a2), none]) (st' := [.int (-2)]) (h' := h9) rfl ?_
    refine Ev.iret dL_act_100 rfl ?_
    exact ⟨h9, st9, ob9, by rw [hv9]⟩
  · cases x1
    rw [rsV_k (k := 1) rfl x2 (by decide)] at hv9
    rw [show exR xIS = -3 by decide +kernel] at hv9
    refine EvX.catchL (c := 69) rfl (by unfold lxP; decide) 14 (0, 46, 101, 69) rfl (by decide +kernel) ⟨by decide, by decide⟩ rfl rfl (sL_act_101.dc 0 (q := (101, .astore 5, 0, 0)) rfl) ?_
    show Ev _ _ _ _ _ _ 103 [some (.ref b), some (.int 0), some (.int a0), some (.int a1), some (.int a2), none] [] h9
    refine Ev.sg hX (sL_act_101.sub 1 1) (pc' := 105) (ls' := [some (.ref b), some (.int 0), some (.int a0), some (.int a1), some (.int a2), none]) (st' := [.int (-3)]) (h' := h9) rfl ?_
    refine Ev.iret dL_act_105 rfl ?_
    exact ⟨h9, st9, ob9, by rw [hv9]⟩
  · cases x1
theorem c_act1 (hX : JXok X) (hM : jM X ≤ 396) (hB : zN h + 1 < BIG) (hb : b = 0 ∨ 396 ≤ b) (ho : OB K b v s h) (hK1 : K + 1 ≤ 5000) : MTH X 13 4 24 jdL_act hhL_act [.ref b, .int 1, .int a0, .int a1, .int a2] h (AR (K + 1) b v (cmG s a0 a1 0 0 0 1) h (cmV s a0 a1 0 0 0 1)) := by
  obtain ⟨fs9, h0⟩ := ho.at0 hb
  refine MTH.mk dhL_act ?_
  refine Ev.sg hX sL_act_0 (pc' := 1) (ls' := [some (.ref b), some (.int 1), some (.int a0), some (.int a1), some (.int a2), none]) (st' := [.int 1]) (h' := h) rfl ?_
  refine Ev.tabIn (tgt := 47) (off := 46) dL_act_1 (by decide) (by decide) rfl rfl ?_
  refine Ev.sg hX sL_act_47 (pc' := 50) (ls' := [some (.ref b), some (.int 1), some (.int a0), some (.int a1), some (.int a2), none]) (st' := [.int a1, .int a0, .ref b]) (h' := h) rfl ?_
  have C : MT X 12 4 24 jdX6_connect (.ref b :: [.int a0, .int a1]) h _ := OB.call (xs := xsK 1) (val := some (.int (cmF s a0 a1 0 0 0 1).1)) (cd := (cmF s a0 a1 0 0 0 1).2 396 12) (s' := cmG s a0 a1 0 0 0 1) hX hM (by omega) hb ho (fun v hv => by rcases List.mem_map.mp (show v ∈ [a0, a1].map Value.int from hv) with ⟨x, -, rfl⟩; exact fun _ => rfl) (fun _ => rfl) (fun X' T I L D hX' c => q_connect hX' c hB hK1)
  refine Ev.callV (As := [.int a0, .int a1]) (rest := []) dvX6_connect mkL_45 h0 rfl dL_act_50 C ⟨Nat.le_refl _, by show 3 + 19 + 40 * _ ≤ 40 * _; omega⟩ ⟨Nat.le_refl _, Nat.le_refl _⟩ rfl (Nat.le_of_ble_eq_true rfl) (fun v9 h9 e9 => ?_) (fun E9 h9 e9 => ?_)
  · obtain ⟨h8, st9, ob9, ⟨c0, e⟩ | ⟨k, E, x1, x2, e⟩⟩ := e9
    · cases e
      show Ev _ _ _ _ _ _ 53 [some (.ref b), some (.int 1), some (.int a0), some (.int a1), some (.int a2), none] [.int (cmF s a0 a1 0 0 0 1).1] h9
      refine Ev.iret dL_act_53 rfl ?_
      exact ⟨h9, st9, ob9, by rw [show cmV s a0 a1 0 0 0 1 = (cmF s a0 a1 0 0 0 1).1 from rsV_0 c0]⟩
    · cases e
  obtain ⟨h8, st9, ob9, ⟨c0, e⟩ | ⟨k, E, x1, x2, e⟩⟩ := e9
  · cases e
  cases e
  obtain ⟨v9, hv9⟩ : ∃ x, x = cmV s a0 a1 0 0 0 1 := ⟨_, rfl⟩
  rw [← hv9]
  rw [show cmV s a0 a1 0 0 0 1 = rsV (xsK 1) (cmF s a0 a1 0 0 0 1).1 ((cmF s a0 a1 0 0 0 1).2 396 12) from rfl] at hv9
  rcases k with _ | _ | _ | k
  · cases x1
    rw [rsV_k (k := 0) rfl x2 (by decide)] at hv9
    rw [show exR xIO = -1 by decide +kernel] at hv9
    refine EvX.catchL (c := 65) rfl (by unfold lxP; decide) 1 (47, 53, 92, 65) rfl (by decide +kernel) ⟨by decide, by decide⟩ rfl rfl (sL_act_92.dc 0 (q := (92, .astore 5, 0, 0)) rfl) ?_
    show Ev _ _ _ _ _ _ 94 [some (.ref b), some (.int 1), some (.int a0), some (.int a1), some (.int a2), none] [] h9
    refine Ev.sg hX (sL_act_92.sub 1 1) (pc' := 95) (ls' := [some (.ref b), some (.int 1), some (.int a0), some (.int a1), some (.int a2), none]) (st' := [.int (-1)]) (h' := h9) rfl ?_
    refine Ev.iret dL_act_95 rfl ?_
    exact ⟨h9, st9, ob9, by rw [hv9]⟩
  · cases x1
    rw [rsV_k (k := 1) rfl x2 (by decide)] at hv9
    rw [show exR xIA = -2 by decide +kernel] at hv9
    refine EvX.catchL (c := 67) rfl (by unfold lxP; decide) 8 (47, 53, 96, 67) rfl (by decide +kernel) ⟨by decide, by decide⟩ rfl rfl (sL_act_96.dc 0 (q := (96, .astore 5, 0, 0)) rfl) ?_
    show Ev _ _ _ _ _ _ 98 [some (.ref b), some (.int 1), some (.int a0), some (.int a1), some (.int a2), none] [] h9
    refine Ev.sg hX (sL_act_96.sub 1 1) (pc' := 100) (ls' := [some (.ref b), some (.int 1), some (.int a0), some (.int a1), some (.int a2), none]) (st' := [.int (-2)]) (h' := h9) rfl ?_
    refine Ev.iret dL_act_100 rfl ?_
    exact ⟨h9, st9, ob9, by rw [hv9]⟩
  · cases x1
    rw [rsV_k (k := 2) rfl x2 (by decide)] at hv9
    rw [show exR xIS = -3 by decide +kernel] at hv9
    refine EvX.catchL (c := 69) rfl (by unfold lxP; decide) 15 (47, 53, 101, 69) rfl (by decide +kernel) ⟨by decide, by decide⟩ rfl rfl (sL_act_101.dc 0 (q := (101, .astore 5, 0, 0)) rfl) ?_
    show Ev _ _ _ _ _ _ 103 [some (.ref b), some (.int 1), some (.int a0), some (.int a1), some (.int a2), none] [] h9
    refine Ev.sg hX (sL_act_101.sub 1 1) (pc' := 105) (ls' := [some (.ref b), some (.int 1), some (.int a0), some (.int a1), some (.int a2), none]) (st' := [.int (-3)]) (h' := h9) rfl ?_
    refine Ev.iret dL_act_105 rfl ?_
    exact ⟨h9, st9, ob9, by rw [hv9]⟩
  · cases x1
theorem c_act2 (hX : JXok X) (hM : jM X ≤ 396) (hB : zN h + 1 < BIG) (hb : b = 0 ∨ 396 ≤ b) (ho : OB K b v s h) (hK1 : K + 1 ≤ 5000) : MTH X 13 4 24 jdL_act hhL_act [.ref b, .int 2, .int a0, .int a1, .int a2] h (AR (K + 1) b v (cmG s a0 a1 0 0 0 2) h (cmV s a0 a1 0 0 0 2)) := by
  obtain ⟨fs9, h0⟩ := ho.at0 hb
  refine MTH.mk dhL_act ?_
  refine Ev.sg hX sL_act_0 (pc' := 1) (ls' := [some (.ref b), some (.int 2), some (.int a0), some (.int a1), some (.int a2), none]) (st' := [.int 2]) (h' := h) rfl ?_
  refine Ev.tabIn (tgt := 54) (off := 53) dL_act_1 (by decide) (by decide) rfl rfl ?_
  refine Ev.sg hX sL_act_54 (pc' := 57) (ls' := [some (.ref b), some (.int 2), some (.int a0), some (.int a1), some (.int a2), none]) (st' := [.int a1, .int a0, .ref b]) (h' := h) rfl ?_
  have C : MT X 12 4 24 jdX6_disconnect (.ref b :: [.int a0, .int a1]) h _ := OB.call (xs := xsK 2) (val := some (.int (cmF s a0 a1 0 0 0 2).1)) (cd := (cmF s a0 a1 0 0 0 2).2 396 12) (s' := cmG s a0 a1 0 0 0 2) hX hM (by omega) hb ho (fun v hv => by rcases List.mem_map.mp (show v ∈ [a0, a1].map Value.int from hv) with ⟨x, -, rfl⟩; exact fun _ => rfl) (fun _ => rfl) (fun X' T I L D hX' c => q_disconnect hX' c hB hK1)
  refine Ev.callV (As := [.int a0, .int a1]) (rest := []) dvX6_disconnect mkL_48 h0 rfl dL_act_57 C ⟨Nat.le_refl _, by show 3 + 19 + 40 * _ ≤ 40 * _; omega⟩ ⟨Nat.le_refl _, Nat.le_refl _⟩ rfl (Nat.le_of_ble_eq_true rfl) (fun v9 h9 e9 => ?_) (fun E9 h9 e9 => ?_)
  · obtain ⟨h8, st9, ob9, ⟨c0, e⟩ | ⟨k, E, x1, x2, e⟩⟩ := e9
    · cases e
      show Ev _ _ _ _ _ _ 60 [some (.ref b), some (.int 2), some (.int a0), some (.int a1), some (.int a2), none] [.int (cmF s a0 a1 0 0 0 2).1] h9
      refine Ev.iret dL_act_60 rfl ?_
      exact ⟨h9, st9, ob9, by rw [show cmV s a0 a1 0 0 0 2 = (cmF s a0 a1 0 0 0 2).1 from rsV_0 c0]⟩
    · cases e
  obtain ⟨h8, st9, ob9, ⟨c0, e⟩ | ⟨k, E, x1, x2, e⟩⟩ := e9
  · cases e
  cases e
  obtain ⟨v9, hv9⟩ : ∃ x, x = cmV s a0 a1 0 0 0 2 := ⟨_, rfl⟩
  rw [← hv9]
  rw [show cmV s a0 a1 0 0 0 2 = rsV (xsK 2) (cmF s a0 a1 0 0 0 2).1 ((cmF s a0 a1 0 0 0 2).2 396 12) from rfl] at hv9
  rcases k with _ | _ | k
  · cases x1
    rw [rsV_k (k := 0) rfl x2 (by decide)] at hv9
    rw [show exR xIO = -1 by decide +kernel] at hv9
    refine EvX.catchL (c := 65) rfl (by unfold lxP; decide) 2 (54, 60, 92, 65) rfl (by decide +kernel) ⟨by decide, by decide⟩ rfl rfl (sL_act_92.dc 0 (q := (92, .astore 5, 0, 0)) rfl) ?_
    show Ev _ _ _ _ _ _ 94 [some (.ref b), some (.int 2), some (.int a0), some (.int a1), some (.int a2), none] [] h9
    refine Ev.sg hX (sL_act_92.sub 1 1) (pc' := 95) (ls' := [some (.ref b), some (.int 2), some (.int a0), some (.int a1), some (.int a2), none]) (st' := [.int (-1)]) (h' := h9) rfl ?_
    refine Ev.iret dL_act_95 rfl ?_
    exact ⟨h9, st9, ob9, by rw [hv9]⟩
  · cases x1
    rw [rsV_k (k := 1) rfl x2 (by decide)] at hv9
    rw [show exR xIS = -3 by decide +kernel] at hv9
    refine EvX.catchL (c := 69) rfl (by unfold lxP; decide) 16 (54, 60, 101, 69) rfl (by decide +kernel) ⟨by decide, by decide⟩ rfl rfl (sL_act_101.dc 0 (q := (101, .astore 5, 0, 0)) rfl) ?_
    show Ev _ _ _ _ _ _ 103 [some (.ref b), some (.int 2), some (.int a0), some (.int a1), some (.int a2), none] [] h9
    refine Ev.sg hX (sL_act_101.sub 1 1) (pc' := 105) (ls' := [some (.ref b), some (.int 2), some (.int a0), some (.int a1), some (.int a2), none]) (st' := [.int (-3)]) (h' := h9) rfl ?_
    refine Ev.iret dL_act_105 rfl ?_
    exact ⟨h9, st9, ob9, by rw [hv9]⟩
  · cases x1
theorem c_act3 (hX : JXok X) (hM : jM X ≤ 396) (hB : zN h + 1 < BIG) (hb : b = 0 ∨ 396 ≤ b) (ho : OB K b v s h) (hK1 : K + 1 ≤ 5000) : MTH X 13 4 24 jdL_act hhL_act [.ref b, .int 3, .int a0, .int a1, .int a2] h (AR (K + 1) b v (cmG s a0 a1 a2 0 0 4) h (cmV s a0 a1 a2 0 0 4)) := by
  obtain ⟨fs9, h0⟩ := ho.at0 hb
  refine MTH.mk dhL_act ?_
  refine Ev.sg hX sL_act_0 (pc' := 1) (ls' := [some (.ref b), some (.int 3), some (.int a0), some (.int a1), some (.int a2), none]) (st' := [.int 3]) (h' := h) rfl ?_
  refine Ev.tabIn (tgt := 61) (off := 60) dL_act_1 (by decide) (by decide) rfl rfl ?_
  refine Ev.sg hX sL_act_61 (pc' := 66) (ls' := [some (.ref b), some (.int 3), some (.int a0), some (.int a1), some (.int a2), none]) (st' := [.int a2, .int a1, .int a0, .ref b]) (h' := h) rfl ?_
  have C : MT X 12 4 24 jdX6_shunt (.ref b :: [.int a0, .int a1, .int a2]) h _ := OB.call (xs := xsK 4) (val := some (.int (cmF s a0 a1 a2 0 0 4).1)) (cd := (cmF s a0 a1 a2 0 0 4).2 396 12) (s' := cmG s a0 a1 a2 0 0 4) hX hM (by omega) hb ho (fun v hv => by rcases List.mem_map.mp (show v ∈ [a0, a1, a2].map Value.int from hv) with ⟨x, -, rfl⟩; exact fun _ => rfl) (fun _ => rfl) (fun X' T I L D hX' c => q_shunt hX' c hB hK1)
  refine Ev.callV (As := [.int a0, .int a1, .int a2]) (rest := []) dvX6_shunt mkL_51 h0 rfl dL_act_66 C ⟨Nat.le_refl _, by show 4 + 19 + 40 * _ ≤ 40 * _; omega⟩ ⟨Nat.le_refl _, Nat.le_refl _⟩ rfl (Nat.le_of_ble_eq_true rfl) (fun v9 h9 e9 => ?_) (fun E9 h9 e9 => ?_)
  · obtain ⟨h8, st9, ob9, ⟨c0, e⟩ | ⟨k, E, x1, x2, e⟩⟩ := e9
    · cases e
      show Ev _ _ _ _ _ _ 69 [some (.ref b), some (.int 3), some (.int a0), some (.int a1), some (.int a2), none] [.int (cmF s a0 a1 a2 0 0 4).1] h9
      refine Ev.iret dL_act_69 rfl ?_
      exact ⟨h9, st9, ob9, by rw [show cmV s a0 a1 a2 0 0 4 = (cmF s a0 a1 a2 0 0 4).1 from rsV_0 c0]⟩
    · cases e
  obtain ⟨h8, st9, ob9, ⟨c0, e⟩ | ⟨k, E, x1, x2, e⟩⟩ := e9
  · cases e
  cases e
  obtain ⟨v9, hv9⟩ : ∃ x, x = cmV s a0 a1 a2 0 0 4 := ⟨_, rfl⟩
  rw [← hv9]
  rw [show cmV s a0 a1 a2 0 0 4 = rsV (xsK 4) (cmF s a0 a1 a2 0 0 4).1 ((cmF s a0 a1 a2 0 0 4).2 396 12) from rfl] at hv9
  rcases k with _ | _ | _ | _ | _ | k
  · cases x1
    rw [rsV_k (k := 0) rfl x2 (by decide)] at hv9
    rw [show exR xIO = -1 by decide +kernel] at hv9
    refine EvX.catchL (c := 65) rfl (by unfold lxP; decide) 3 (61, 69, 92, 65) rfl (by decide +kernel) ⟨by decide, by decide⟩ rfl rfl (sL_act_92.dc 0 (q := (92, .astore 5, 0, 0)) rfl) ?_
    show Ev _ _ _ _ _ _ 94 [some (.ref b), some (.int 3), some (.int a0), some (.int a1), some (.int a2), none] [] h9
    refine Ev.sg hX (sL_act_92.sub 1 1) (pc' := 95) (ls' := [some (.ref b), some (.int 3), some (.int a0), some (.int a1), some (.int a2), none]) (st' := [.int (-1)]) (h' := h9) rfl ?_
    refine Ev.iret dL_act_95 rfl ?_
    exact ⟨h9, st9, ob9, by rw [hv9]⟩
  · cases x1
    rw [rsV_k (k := 1) rfl x2 (by decide)] at hv9
    rw [show exR xIA = -2 by decide +kernel] at hv9
    refine EvX.catchL (c := 67) rfl (by unfold lxP; decide) 10 (61, 69, 96, 67) rfl (by decide +kernel) ⟨by decide, by decide⟩ rfl rfl (sL_act_96.dc 0 (q := (96, .astore 5, 0, 0)) rfl) ?_
    show Ev _ _ _ _ _ _ 98 [some (.ref b), some (.int 3), some (.int a0), some (.int a1), some (.int a2), none] [] h9
    refine Ev.sg hX (sL_act_96.sub 1 1) (pc' := 100) (ls' := [some (.ref b), some (.int 3), some (.int a0), some (.int a1), some (.int a2), none]) (st' := [.int (-2)]) (h' := h9) rfl ?_
    refine Ev.iret dL_act_100 rfl ?_
    exact ⟨h9, st9, ob9, by rw [hv9]⟩
  · cases x1
    rw [rsV_k (k := 2) rfl x2 (by decide)] at hv9
    rw [show exR xIS = -3 by decide +kernel] at hv9
    refine EvX.catchL (c := 69) rfl (by unfold lxP; decide) 17 (61, 69, 101, 69) rfl (by decide +kernel) ⟨by decide, by decide⟩ rfl rfl (sL_act_101.dc 0 (q := (101, .astore 5, 0, 0)) rfl) ?_
    show Ev _ _ _ _ _ _ 103 [some (.ref b), some (.int 3), some (.int a0), some (.int a1), some (.int a2), none] [] h9
    refine Ev.sg hX (sL_act_101.sub 1 1) (pc' := 105) (ls' := [some (.ref b), some (.int 3), some (.int a0), some (.int a1), some (.int a2), none]) (st' := [.int (-3)]) (h' := h9) rfl ?_
    refine Ev.iret dL_act_105 rfl ?_
    exact ⟨h9, st9, ob9, by rw [hv9]⟩
  · cases x1
    rw [rsV_k (k := 3) rfl x2 (by decide)] at hv9
    rw [show exR xNE = -4 by decide +kernel] at hv9
    refine EvX.catchL (c := 71) rfl (by unfold lxP; decide) 24 (61, 69, 106, 71) rfl (by decide +kernel) ⟨by decide, by decide⟩ rfl rfl (sL_act_106.dc 0 (q := (106, .astore 5, 0, 0)) rfl) ?_
    show Ev _ _ _ _ _ _ 108 [some (.ref b), some (.int 3), some (.int a0), some (.int a1), some (.int a2), none] [] h9
    refine Ev.sg hX (sL_act_106.sub 1 1) (pc' := 110) (ls' := [some (.ref b), some (.int 3), some (.int a0), some (.int a1), some (.int a2), none]) (st' := [.int (-4)]) (h' := h9) rfl ?_
    refine Ev.iret dL_act_110 rfl ?_
    exact ⟨h9, st9, ob9, by rw [hv9]⟩
  · cases x1
    rw [rsV_k (k := 4) rfl x2 (by decide)] at hv9
    rw [show exR xUO = -5 by decide +kernel] at hv9
    refine EvX.catchL (c := 73) rfl (by unfold lxP; decide) 31 (61, 69, 111, 73) rfl (by decide +kernel) ⟨by decide, by decide⟩ rfl rfl (sL_act_111.dc 0 (q := (111, .astore 5, 0, 0)) rfl) ?_
    show Ev _ _ _ _ _ _ 113 [some (.ref b), some (.int 3), some (.int a0), some (.int a1), some (.int a2), none] [] h9
    refine Ev.sg hX (sL_act_111.sub 1 1) (pc' := 115) (ls' := [some (.ref b), some (.int 3), some (.int a0), some (.int a1), some (.int a2), none]) (st' := [.int (-5)]) (h' := h9) rfl ?_
    refine Ev.iret dL_act_115 rfl ?_
    exact ⟨h9, st9, ob9, by rw [hv9]⟩
  · cases x1
theorem c_act4 (hX : JXok X) (hM : jM X ≤ 396) (hB : zN h + 1 < BIG) (hb : b = 0 ∨ 396 ≤ b) (ho : OB K b v s h) (hK1 : K + 1 ≤ 5000) : MTH X 13 4 24 jdL_act hhL_act [.ref b, .int 4, .int a0, .int a1, .int a2] h (AR (K + 1) b v (cmG s a0 0 0 0 0 5) h (cmV s a0 0 0 0 0 5)) := by
  obtain ⟨fs9, h0⟩ := ho.at0 hb
  refine MTH.mk dhL_act ?_
  refine Ev.sg hX sL_act_0 (pc' := 1) (ls' := [some (.ref b), some (.int 4), some (.int a0), some (.int a1), some (.int a2), none]) (st' := [.int 4]) (h' := h) rfl ?_
  refine Ev.tabIn (tgt := 70) (off := 69) dL_act_1 (by decide) (by decide) rfl rfl ?_
  refine Ev.sg hX sL_act_70 (pc' := 72) (ls' := [some (.ref b), some (.int 4), some (.int a0), some (.int a1), some (.int a2), none]) (st' := [.int a0, .ref b]) (h' := h) rfl ?_
  have C : MT X 12 4 24 jdX6_repair (.ref b :: [.int a0]) h _ := OB.call (xs := xsK 5) (val := some (.int (cmF s a0 0 0 0 0 5).1)) (cd := (cmF s a0 0 0 0 0 5).2 396 12) (s' := cmG s a0 0 0 0 0 5) hX hM (by omega) hb ho (fun v hv => by rcases List.mem_map.mp (show v ∈ [a0].map Value.int from hv) with ⟨x, -, rfl⟩; exact fun _ => rfl) (fun _ => rfl) (fun X' T I L D hX' c => q_repair hX' c hB hK1)
  refine Ev.callV (As := [.int a0]) (rest := []) dvX6_repair mkL_55 h0 rfl dL_act_72 C ⟨Nat.le_refl _, by show 2 + 19 + 40 * _ ≤ 40 * _; omega⟩ ⟨Nat.le_refl _, Nat.le_refl _⟩ rfl (Nat.le_of_ble_eq_true rfl) (fun v9 h9 e9 => ?_) (fun E9 h9 e9 => ?_)
  · obtain ⟨h8, st9, ob9, ⟨c0, e⟩ | ⟨k, E, x1, x2, e⟩⟩ := e9
    · cases e
      show Ev _ _ _ _ _ _ 75 [some (.ref b), some (.int 4), some (.int a0), some (.int a1), some (.int a2), none] [.int (cmF s a0 0 0 0 0 5).1] h9
      refine Ev.iret dL_act_75 rfl ?_
      exact ⟨h9, st9, ob9, by rw [show cmV s a0 0 0 0 0 5 = (cmF s a0 0 0 0 0 5).1 from rsV_0 c0]⟩
    · cases e
  obtain ⟨h8, st9, ob9, ⟨c0, e⟩ | ⟨k, E, x1, x2, e⟩⟩ := e9
  · cases e
  cases e
  obtain ⟨v9, hv9⟩ : ∃ x, x = cmV s a0 0 0 0 0 5 := ⟨_, rfl⟩
  rw [← hv9]
  rw [show cmV s a0 0 0 0 0 5 = rsV (xsK 5) (cmF s a0 0 0 0 0 5).1 ((cmF s a0 0 0 0 0 5).2 396 12) from rfl] at hv9
  rcases k with _ | _ | k
  · cases x1
    rw [rsV_k (k := 0) rfl x2 (by decide)] at hv9
    rw [show exR xNE = -4 by decide +kernel] at hv9
    refine EvX.catchL (c := 71) rfl (by unfold lxP; decide) 25 (70, 75, 106, 71) rfl (by decide +kernel) ⟨by decide, by decide⟩ rfl rfl (sL_act_106.dc 0 (q := (106, .astore 5, 0, 0)) rfl) ?_
    show Ev _ _ _ _ _ _ 108 [some (.ref b), some (.int 4), some (.int a0), some (.int a1), some (.int a2), none] [] h9
    refine Ev.sg hX (sL_act_106.sub 1 1) (pc' := 110) (ls' := [some (.ref b), some (.int 4), some (.int a0), some (.int a1), some (.int a2), none]) (st' := [.int (-4)]) (h' := h9) rfl ?_
    refine Ev.iret dL_act_110 rfl ?_
    exact ⟨h9, st9, ob9, by rw [hv9]⟩
  · cases x1
    rw [rsV_k (k := 1) rfl x2 (by decide)] at hv9
    rw [show exR xIS = -3 by decide +kernel] at hv9
    refine EvX.catchL (c := 69) rfl (by unfold lxP; decide) 18 (70, 75, 101, 69) rfl (by decide +kernel) ⟨by decide, by decide⟩ rfl rfl (sL_act_101.dc 0 (q := (101, .astore 5, 0, 0)) rfl) ?_
    show Ev _ _ _ _ _ _ 103 [some (.ref b), some (.int 4), some (.int a0), some (.int a1), some (.int a2), none] [] h9
    refine Ev.sg hX (sL_act_101.sub 1 1) (pc' := 105) (ls' := [some (.ref b), some (.int 4), some (.int a0), some (.int a1), some (.int a2), none]) (st' := [.int (-3)]) (h' := h9) rfl ?_
    refine Ev.iret dL_act_105 rfl ?_
    exact ⟨h9, st9, ob9, by rw [hv9]⟩
  · cases x1
theorem c_act5 (hX : JXok X) (hM : jM X ≤ 396) (hB : zN h + 1 < BIG) (hb : b = 0 ∨ 396 ≤ b) (ho : OB K b v s h) (hK1 : K + 1 ≤ 5000) : MTH X 13 4 24 jdL_act hhL_act [.ref b, .int 5, .int a0, .int a1, .int a2] h (AR (K + 1) b v (cmG s a0 a1 0 0 0 6) h (cmV s a0 a1 0 0 0 6)) := by
  obtain ⟨fs9, h0⟩ := ho.at0 hb
  refine MTH.mk dhL_act ?_
  refine Ev.sg hX sL_act_0 (pc' := 1) (ls' := [some (.ref b), some (.int 5), some (.int a0), some (.int a1), some (.int a2), none]) (st' := [.int 5]) (h' := h) rfl ?_
  refine Ev.tabIn (tgt := 76) (off := 75) dL_act_1 (by decide) (by decide) rfl rfl ?_
  refine Ev.sg hX sL_act_76 (pc' := 79) (ls' := [some (.ref b), some (.int 5), some (.int a0), some (.int a1), some (.int a2), none]) (st' := [.int a1, .int a0, .ref b]) (h' := h) rfl ?_
  have C : MT X 12 4 24 jdX6_depart (.ref b :: [.int a0, .int a1]) h _ := OB.call (xs := xsK 6) (val := some (.int (cmF s a0 a1 0 0 0 6).1)) (cd := (cmF s a0 a1 0 0 0 6).2 396 12) (s' := cmG s a0 a1 0 0 0 6) hX hM (by omega) hb ho (fun v hv => by rcases List.mem_map.mp (show v ∈ [a0, a1].map Value.int from hv) with ⟨x, -, rfl⟩; exact fun _ => rfl) (fun _ => rfl) (fun X' T I L D hX' c => q_depart hX' c hB hK1)
  refine Ev.callV (As := [.int a0, .int a1]) (rest := []) dvX6_depart mkL_59 h0 rfl dL_act_79 C ⟨Nat.le_refl _, by show 3 + 19 + 40 * _ ≤ 40 * _; omega⟩ ⟨Nat.le_refl _, Nat.le_refl _⟩ rfl (Nat.le_of_ble_eq_true rfl) (fun v9 h9 e9 => ?_) (fun E9 h9 e9 => ?_)
  · obtain ⟨h8, st9, ob9, ⟨c0, e⟩ | ⟨k, E, x1, x2, e⟩⟩ := e9
    · cases e
      show Ev _ _ _ _ _ _ 82 [some (.ref b), some (.int 5), some (.int a0), some (.int a1), some (.int a2), none] [.int (cmF s a0 a1 0 0 0 6).1] h9
      refine Ev.iret dL_act_82 rfl ?_
      exact ⟨h9, st9, ob9, by rw [show cmV s a0 a1 0 0 0 6 = (cmF s a0 a1 0 0 0 6).1 from rsV_0 c0]⟩
    · cases e
  obtain ⟨h8, st9, ob9, ⟨c0, e⟩ | ⟨k, E, x1, x2, e⟩⟩ := e9
  · cases e
  cases e
  obtain ⟨v9, hv9⟩ : ∃ x, x = cmV s a0 a1 0 0 0 6 := ⟨_, rfl⟩
  rw [← hv9]
  rw [show cmV s a0 a1 0 0 0 6 = rsV (xsK 6) (cmF s a0 a1 0 0 0 6).1 ((cmF s a0 a1 0 0 0 6).2 396 12) from rfl] at hv9
  rcases k with _ | _ | _ | _ | k
  · cases x1
    rw [rsV_k (k := 0) rfl x2 (by decide)] at hv9
    rw [show exR xIO = -1 by decide +kernel] at hv9
    refine EvX.catchL (c := 65) rfl (by unfold lxP; decide) 5 (76, 82, 92, 65) rfl (by decide +kernel) ⟨by decide, by decide⟩ rfl rfl (sL_act_92.dc 0 (q := (92, .astore 5, 0, 0)) rfl) ?_
    show Ev _ _ _ _ _ _ 94 [some (.ref b), some (.int 5), some (.int a0), some (.int a1), some (.int a2), none] [] h9
    refine Ev.sg hX (sL_act_92.sub 1 1) (pc' := 95) (ls' := [some (.ref b), some (.int 5), some (.int a0), some (.int a1), some (.int a2), none]) (st' := [.int (-1)]) (h' := h9) rfl ?_
    refine Ev.iret dL_act_95 rfl ?_
    exact ⟨h9, st9, ob9, by rw [hv9]⟩
  · cases x1
    rw [rsV_k (k := 1) rfl x2 (by decide)] at hv9
    rw [show exR xIA = -2 by decide +kernel] at hv9
    refine EvX.catchL (c := 67) rfl (by unfold lxP; decide) 12 (76, 82, 96, 67) rfl (by decide +kernel) ⟨by decide, by decide⟩ rfl rfl (sL_act_96.dc 0 (q := (96, .astore 5, 0, 0)) rfl) ?_
    show Ev _ _ _ _ _ _ 98 [some (.ref b), some (.int 5), some (.int a0), some (.int a1), some (.int a2), none] [] h9
    refine Ev.sg hX (sL_act_96.sub 1 1) (pc' := 100) (ls' := [some (.ref b), some (.int 5), some (.int a0), some (.int a1), some (.int a2), none]) (st' := [.int (-2)]) (h' := h9) rfl ?_
    refine Ev.iret dL_act_100 rfl ?_
    exact ⟨h9, st9, ob9, by rw [hv9]⟩
  · cases x1
    rw [rsV_k (k := 2) rfl x2 (by decide)] at hv9
    rw [show exR xIS = -3 by decide +kernel] at hv9
    refine EvX.catchL (c := 69) rfl (by unfold lxP; decide) 19 (76, 82, 101, 69) rfl (by decide +kernel) ⟨by decide, by decide⟩ rfl rfl (sL_act_101.dc 0 (q := (101, .astore 5, 0, 0)) rfl) ?_
    show Ev _ _ _ _ _ _ 103 [some (.ref b), some (.int 5), some (.int a0), some (.int a1), some (.int a2), none] [] h9
    refine Ev.sg hX (sL_act_101.sub 1 1) (pc' := 105) (ls' := [some (.ref b), some (.int 5), some (.int a0), some (.int a1), some (.int a2), none]) (st' := [.int (-3)]) (h' := h9) rfl ?_
    refine Ev.iret dL_act_105 rfl ?_
    exact ⟨h9, st9, ob9, by rw [hv9]⟩
  · cases x1
    rw [rsV_k (k := 3) rfl x2 (by decide)] at hv9
    rw [show exR xUO = -5 by decide +kernel] at hv9
    refine EvX.catchL (c := 73) rfl (by unfold lxP; decide) 33 (76, 82, 111, 73) rfl (by decide +kernel) ⟨by decide, by decide⟩ rfl rfl (sL_act_111.dc 0 (q := (111, .astore 5, 0, 0)) rfl) ?_
    show Ev _ _ _ _ _ _ 113 [some (.ref b), some (.int 5), some (.int a0), some (.int a1), some (.int a2), none] [] h9
    refine Ev.sg hX (sL_act_111.sub 1 1) (pc' := 115) (ls' := [some (.ref b), some (.int 5), some (.int a0), some (.int a1), some (.int a2), none]) (st' := [.int (-5)]) (h' := h9) rfl ?_
    refine Ev.iret dL_act_115 rfl ?_
    exact ⟨h9, st9, ob9, by rw [hv9]⟩
  · cases x1
theorem c_car (hX : JXok X) (hM : jM X ≤ 396) (hB : zN h + 1 < BIG) (hb : b = 0 ∨ 396 ≤ b) (ho : OB K b v s h) (hK1 : K + 1 ≤ 5000) (hf : f = 0 ∨ f = 1) : MTH X 13 4 24 jdL_car hhL_car [.ref b, .int a0, .int a1, .int a2, .int a3, .int f] h (AR (K + 1) b v (cmG s a0 a1 a2 a3 f 3) h (cmV s a0 a1 a2 a3 f 3)) := by
  obtain ⟨fs9, h0⟩ := ho.at0 hb
  refine MTH.mk dhL_car ?_
  refine Ev.sg hX sL_car_0 (pc' := 8) (ls' := [some (.ref b), some (.int a0), some (.int a1), some (.int a2), some (.int a3), some (.int f), none]) (st' := [.int f, .int a3, .int a2, .int a1, .int a0, .ref b]) (h' := h) rfl ?_
  have C : MT X 12 4 24 jdX6_addCar (.ref b :: [.int a0, .int a1, .int a2, .int a3, .int f]) h _ := OB.call (xs := xsK 3) (val := some (.int (cmF s a0 a1 a2 a3 f 3).1)) (cd := (cmF s a0 a1 a2 a3 f 3).2 396 12) (s' := cmG s a0 a1 a2 a3 f 3) hX hM (by omega) hb ho (fun v hv => by rcases List.mem_map.mp (show v ∈ [a0, a1, a2, a3, f].map Value.int from hv) with ⟨x, -, rfl⟩; exact fun _ => rfl) (fun _ => rfl) (fun X' T I L D hX' c => q_addCar hX' c hB hK1 hf)
  refine Ev.callV (As := [.int a0, .int a1, .int a2, .int a3, .int f]) (rest := []) dvX6_addCar mkL_75 h0 rfl dL_car_8 C ⟨Nat.le_refl _, by show 6 + 19 + 40 * _ ≤ 40 * _; omega⟩ ⟨Nat.le_refl _, Nat.le_refl _⟩ rfl (Nat.le_of_ble_eq_true rfl) (fun v9 h9 e9 => ?_) (fun E9 h9 e9 => ?_)
  · obtain ⟨h8, st9, ob9, ⟨c0, e⟩ | ⟨k, E, x1, x2, e⟩⟩ := e9
    · cases e
      show Ev _ _ _ _ _ _ 11 [some (.ref b), some (.int a0), some (.int a1), some (.int a2), some (.int a3), some (.int f), none] [.int (cmF s a0 a1 a2 a3 f 3).1] h9
      refine Ev.iret dL_car_11 rfl ?_
      exact ⟨h9, st9, ob9, by rw [show cmV s a0 a1 a2 a3 f 3 = (cmF s a0 a1 a2 a3 f 3).1 from rsV_0 c0]⟩
    · cases e
  obtain ⟨h8, st9, ob9, ⟨c0, e⟩ | ⟨k, E, x1, x2, e⟩⟩ := e9
  · cases e
  cases e
  obtain ⟨v9, hv9⟩ : ∃ x, x = cmV s a0 a1 a2 a3 f 3 := ⟨_, rfl⟩
  rw [← hv9]
  rw [show cmV s a0 a1 a2 a3 f 3 = rsV (xsK 3) (cmF s a0 a1 a2 a3 f 3).1 ((cmF s a0 a1 a2 a3 f 3).2 396 12) from rfl] at hv9
  rcases k with _ | _ | _ | _ | k
  · cases x1
    rw [rsV_k (k := 0) rfl x2 (by decide)] at hv9
    rw [show exR xIO = -1 by decide +kernel] at hv9
    refine EvX.catchL (c := 65) rfl (by unfold lxP; decide) 0 (0, 11, 12, 65) rfl (by decide +kernel) ⟨by decide, by decide⟩ rfl rfl (sL_car_12.dc 0 (q := (12, .astore 6, 0, 0)) rfl) ?_
    show Ev _ _ _ _ _ _ 14 [some (.ref b), some (.int a0), some (.int a1), some (.int a2), some (.int a3), some (.int f), none] [] h9
    refine Ev.sg hX (sL_car_12.sub 1 1) (pc' := 15) (ls' := [some (.ref b), some (.int a0), some (.int a1), some (.int a2), some (.int a3), some (.int f), none]) (st' := [.int (-1)]) (h' := h9) rfl ?_
    refine Ev.iret dL_car_15 rfl ?_
    exact ⟨h9, st9, ob9, by rw [hv9]⟩
  · cases x1
    rw [rsV_k (k := 1) rfl x2 (by decide)] at hv9
    rw [show exR xIA = -2 by decide +kernel] at hv9
    refine EvX.catchL (c := 67) rfl (by unfold lxP; decide) 1 (0, 11, 16, 67) rfl (by decide +kernel) ⟨by decide, by decide⟩ rfl rfl (sL_car_16.dc 0 (q := (16, .astore 6, 0, 0)) rfl) ?_
    show Ev _ _ _ _ _ _ 18 [some (.ref b), some (.int a0), some (.int a1), some (.int a2), some (.int a3), some (.int f), none] [] h9
    refine Ev.sg hX (sL_car_16.sub 1 1) (pc' := 20) (ls' := [some (.ref b), some (.int a0), some (.int a1), some (.int a2), some (.int a3), some (.int f), none]) (st' := [.int (-2)]) (h' := h9) rfl ?_
    refine Ev.iret dL_car_20 rfl ?_
    exact ⟨h9, st9, ob9, by rw [hv9]⟩
  · cases x1
    rw [rsV_k (k := 2) rfl x2 (by decide)] at hv9
    rw [show exR xIS = -3 by decide +kernel] at hv9
    refine EvX.catchL (c := 69) rfl (by unfold lxP; decide) 2 (0, 11, 21, 69) rfl (by decide +kernel) ⟨by decide, by decide⟩ rfl rfl (sL_car_21.dc 0 (q := (21, .astore 6, 0, 0)) rfl) ?_
    show Ev _ _ _ _ _ _ 23 [some (.ref b), some (.int a0), some (.int a1), some (.int a2), some (.int a3), some (.int f), none] [] h9
    refine Ev.sg hX (sL_car_21.sub 1 1) (pc' := 25) (ls' := [some (.ref b), some (.int a0), some (.int a1), some (.int a2), some (.int a3), some (.int f), none]) (st' := [.int (-3)]) (h' := h9) rfl ?_
    refine Ev.iret dL_car_25 rfl ?_
    exact ⟨h9, st9, ob9, by rw [hv9]⟩
  · cases x1
    rw [rsV_k (k := 3) rfl x2 (by decide)] at hv9
    rw [show exR xUO = -5 by decide +kernel] at hv9
    refine EvX.catchL (c := 73) rfl (by unfold lxP; decide) 3 (0, 11, 26, 73) rfl (by decide +kernel) ⟨by decide, by decide⟩ rfl rfl (sL_car_26.dc 0 (q := (26, .astore 6, 0, 0)) rfl) ?_
    show Ev _ _ _ _ _ _ 28 [some (.ref b), some (.int a0), some (.int a1), some (.int a2), some (.int a3), some (.int f), none] [] h9
    refine Ev.sg hX (sL_car_26.sub 1 1) (pc' := 30) (ls' := [some (.ref b), some (.int a0), some (.int a1), some (.int a2), some (.int a3), some (.int f), none]) (st' := [.int (-5)]) (h' := h9) rfl ?_
    refine Ev.iret dL_car_30 rfl ?_
    exact ⟨h9, st9, ob9, by rw [hv9]⟩
  · cases x1
/-- a run of an object -/
def rnG (s : GS) : Int32 × Int32 × GS := rnS s.1 s.2.1 s.2.2.1 s.2.2.2.1 s.2.2.2.2.1 s.2.2.2.2.2.1 s.2.2.2.2.2.2.1 s.2.2.2.2.2.2.2.1 s.2.2.2.2.2.2.2.2
def rnV (s : GS) : Int32 := if (rnG s).2.1 = 0 then (rnG s).1 else if (rnG s).2.1 = 1 then -1 else -2
theorem c_runs (hX : JXok X) (hM : jM X ≤ 396) (hB : zN h + 1 < BIG) (hb : b = 0 ∨ 396 ≤ b) (ho : OB K b v s h) (hK8 : K + 8 ≤ 5000) : MTH X 13 4 24 jdL_runs hhL_runs [.ref b] h (AR (K + 8) b v (rnG s).2.2 h (rnV s)) := by
  obtain ⟨fs9, h0⟩ := ho.at0 hb
  refine MTH.mk dhL_runs ?_
  refine Ev.sg hX sL_runs_0 (pc' := 1) (ls' := [some (.ref b), none]) (st' := [.ref b]) (h' := h) rfl ?_
  have C : MT X 12 4 24 jdX6_run (.ref b :: []) h _ := OB.call (xs := [xIA, xUO]) (val := some (.int (rnG s).1)) (cd := (rnG s).2.1) (s' := (rnG s).2.2) hX hM (by omega) hb ho (fun v hv => nomatch hv) (fun _ => rfl) (fun X' T I L D hX' c => q_run hX' c hB hK8)
  refine Ev.callV (As := []) (rest := []) dvX6_run mkL_164 h0 rfl dL_runs_1 C ⟨Nat.le_refl _, by show 3 + 19 + 40 * _ ≤ 40 * _; omega⟩ ⟨Nat.le_refl _, Nat.le_refl _⟩ rfl (Nat.le_of_ble_eq_true rfl) (fun v9 h9 e9 => ?_) (fun E9 h9 e9 => ?_)
  · obtain ⟨h8, st9, ob9, ⟨c0, e⟩ | ⟨k, E, x1, x2, e⟩⟩ := e9
    · cases e
      show Ev _ _ _ _ _ _ 4 [some (.ref b), none] [.int (rnG s).1] h9
      refine Ev.iret dL_runs_4 rfl ?_
      exact ⟨h9, st9, ob9, by rw [show rnV s = (rnG s).1 from if_pos c0]⟩
    · cases e
  obtain ⟨h8, st9, ob9, ⟨c0, e⟩ | ⟨k, E, x1, x2, e⟩⟩ := e9
  · cases e
  cases e
  rcases k with _ | _ | k
  · cases x1
    have ev : rnV s = -1 := by
      have e1 : (rnG s).2.1 = 1 := x2
      unfold rnV
      rw [if_neg (by rw [e1]; decide), if_pos e1]
    refine EvX.catchLn (c := 67) rfl (by unfold lxP; decide) 0 (0, 4, 5, 67) rfl (by decide +kernel) ⟨by decide, by decide⟩ rfl (i := 1) rfl (sL_runs_5.dc 0 (q := (5, .astore_n 1, 0, 0)) rfl) ?_
    show Ev _ _ _ _ _ _ 6 [some (.ref b), none] [] h9
    refine Ev.sg hX (sL_runs_5.sub 1 1) (pc' := 7) (ls' := [some (.ref b), none]) (st' := [.int (-1)]) (h' := h9) rfl ?_
    refine Ev.iret dL_runs_7 rfl ?_
    exact ⟨h9, st9, ob9, by rw [ev]⟩
  · cases x1
    have ev : rnV s = -2 := by
      have e1 : (rnG s).2.1 = 2 := x2
      unfold rnV
      rw [if_neg (by rw [e1]; decide), if_neg (by rw [e1]; decide)]
    refine EvX.catchLn (c := 73) rfl (by unfold lxP; decide) 1 (0, 4, 8, 73) rfl (by decide +kernel) ⟨by decide, by decide⟩ rfl (i := 1) rfl (sL_runs_8.dc 0 (q := (8, .astore_n 1, 0, 0)) rfl) ?_
    show Ev _ _ _ _ _ _ 9 [some (.ref b), none] [] h9
    refine Ev.sg hX (sL_runs_8.sub 1 1) (pc' := 11) (ls' := [some (.ref b), none]) (st' := [.int (-2)]) (h' := h9) rfl ?_
    refine Ev.iret dL_runs_11 rfl ?_
    exact ⟨h9, st9, ob9, by rw [ev]⟩
  · cases x1
end LSM
