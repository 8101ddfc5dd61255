/-! what the law reads of an object's state: one number, a function of the yard's numbers -/
section STA
variable {X : JX} {M : JM} {d mc ms : Nat} {Q : JR → Prop} {pc : Nat} {ls : List (Option Value)} {st : List Value} {K b v r n t : Nat} {s : GS} {h h' : MH}
/-- a call that is not refused -/
theorem Ev.ask {q : JD} {idx mc1 ms1 K' : Nat} {As rest : List Value} {xs : List String} {val : Option Value} {s' : GS} (hX : JXok X) (hM : jM X ≤ 396) (hb : b = 0 ∨ 396 ≤ b) (ho : OB K b v s h) (hB : zN h + 1 < BIG) (hq : DV q) (hl : Cond.methodLink M.1.cls idx q.1 ∈ BW) (hcl : q.1.cls = "ClassificationYard") (hdg : decode M.2.1 pc = .ok (.invokevirtual idx, 3)) (hd : 13 ≤ d) (hlo : q.2.2.1 ≤ 21) (hc : mc1 ≤ mc ∧ ms1 ≤ ms) (hn : As.length = q.2.2.2.2) (hw : (rest.map fun v => v.category).sum ≤ 8) (ha : ∀ v ∈ As, nref v) (hv : ∀ π, val.map (piV π) = val) (hxs : xs.length < 100)
    (hC : ∀ X' T I L D, JXok X' → CPs K (zN h) v T I L D s → CQ X' K' mc1 ms1 q As xs val 0 s' (zN h) v T I L D) (kk : ∀ h', STEP b v 4 h h' → OB K' b v s' h' → Ev X M d (mc - mc1) (ms - ms1) Q (pc + 3) ls (val.toList ++ rest) h') : Ev X M d mc ms Q pc ls (As.reverse ++ .ref b :: rest) h := by
  obtain ⟨fs9, h0⟩ := ho.at0 hb
  refine Ev.callV (T := TX6) (N := 7) hq hl h0 (by rw [hcl]; rfl) hdg (OB.call hX hM (by omega) hb ho ha hv hC) ⟨by omega, by omega⟩ hc hn hw (fun v9 h9 e9 => ?_) (fun E9 h9 e9 => ?_)
  · obtain ⟨h8, st, ob, ⟨c0, e⟩ | ⟨k, E, x1, x2, e⟩⟩ := e9
    · cases e
      exact kk h9 st ob
    · cases e
  · obtain ⟨h8, st, ob, ⟨c0, e⟩ | ⟨k, E, x1, x2, e⟩⟩ := e9
    · cases e
    · have hk : k < xs.length := (List.getElem?_eq_some_iff.mp x1).1
      have := nI_inj (a := 0) (b := k + 1) (by omega) (by omega) x2
      omega
theorem nr_1 {a : Int32} : ∀ v ∈ [Value.int a], nref v := fun v hv => by rw [List.mem_singleton.mp hv]; exact fun _ => rfl
theorem nr_2 {a c : Int32} : ∀ v ∈ [Value.int a, Value.int c], nref v := fun v hv => by
  rcases List.mem_cons.mp hv with rfl | hv
  · exact fun _ => rfl
  · exact nr_1 v hv
theorem nr_0 : ∀ v ∈ ([] : List Value), nref v := fun v hv => nomatch hv
/-- the pieces -/
def stH (g : Nat → Nat) : Int32 := 31 * (31 * (31 * nI (g 3) + (lN (g 5)).toInt32) + nI (g 4)) + (lN (g 6)).toInt32
def stFl (g : Nat → Nat) (t : Nat) : Int32 := roM (GJ g) (g 1) (nI t).toNatClampNeg
def stWo (g : Nat → Nat) (t : Nat) : Int32 := smM (GJ g) (g 1) (nI t) 79
def stDe (g : Nat → Nat) (c : Int32) : Int32 := (slP (GJ g) (g 1) c (fun s => GJ g 397 (99 + s))).1
def stDf (g : Nat → Nat) (c : Int32) : Int32 := bi ((slP (GJ g) (g 1) c (fun s => GJ g 397 (119 + s))).1 = 1)
def stCo (g : Nat → Nat) (t o : Nat) : Int32 := (acM (GJ g) (nI t) (nI o)).1
def stCar (g : Nat → Nat) (t p : Nat) (x : Int32) : Int32 := 31 * (31 * x + caV g t p) + stDe g (caV g t p) + (if stDf g (caV g t p) = 0 then 0 else 10)
def stLk (g : Nat → Nat) (t o : Nat) (x : Int32) : Int32 := 2 * x + (if stCo g t o = 0 then 0 else 1)
def stTr (g : Nat → Nat) (t : Nat) (x : Int32) : Int32 := fo (stLk g t) t 0 (fo (stCar g t) (g (31 + t)) 0 (31 * (31 * x + stFl g t) + stWo g t))
def stGF (g : Nat → Nat) : Int32 := 31 * fo (stTr g) (g 0) 0 (stH g) + nI (g 0)
/-- a car on a track is in the yard -/
theorem sl_ok {g : Nat → Nat} {k : Nat} (hK : K ≤ 5000) (hW : WG K g) (ht : t < g 0) (hk : k < g (31 + t)) (f : Nat → Int32) : (slP (GJ g) (g 1) (caV g t k) f).2 396 12 = 0 := by
  have z8 := hW.1.1
  have t8 : t < 8 := by omega
  have h20 := hW.h20 t8
  have V : GV (GJ g 397) g := GJ_v
  have ev : caV g t k = nI (g (39 + atS g t k)) := by
    unfold caV carAtM
    rw [if_neg (fun q => q (tk_ok z8 ht))]
    have e : GJ g 397 (31 + (nI t).toNatClampNeg) = nI (g (31 + t)) := by
      rw [nI_clamp (by omega)]
      exact GJ_v _ (by omega)
    rw [(dn_ok (by rw [e, nI_m1 (by omega)]; exact ⟨nI_pos' (by omega), (nI_leI (by omega) (by omega)).mpr (by omega)⟩)).1, slAM_s hK hW V t8 hk]
    have a := (atS_spec hW t8 hk).1
    have m20 := hW.1.2.1
    rw [nI_clamp (by omega)]
    exact GJ_v _ (by omega)
  have a := (atS_spec hW t8 hk).1
  unfold slP
  rcases slOM_g hK hW V (caV g t k) with ⟨s', h4, h5, h6⟩ | ⟨h4, h6⟩
  · have m20 := hW.1.2.1
    rw [if_neg (by rw [h6]; exact nI_mi (by omega))]
    exact thr (GJ g) 0
  · exact absurd ev (h4 _ a)
theorem ac_ok {g : Nat → Nat} {o : Nat} (hz : g 0 ≤ 8) (ht : t < g 0) (hu : o < g 0) : (acM (GJ g) (nI t) (nI o)).2 396 12 = 0 := by
  unfold acM
  rw [if_pos ⟨tk_ok hz ht, tk_ok hz hu⟩]
  exact thr (GJ g) 0
/-- the cars of a track, taken in -/
theorem l_stC (hX : JXok X) (hM : jM X ≤ 396) (hb : b = 0 ∨ 396 ≤ b) (ht : t < s.1 0) (hn : n = s.1 (31 + t)) : ∀ (m p : Nat) (x : Int32) (l6 : Option Value) (h : MH) (mc ms : Nat), p + m = n → OB K b v s h → r < zN h → (r < b ∨ b + 396 ≤ r) → r ≠ swp b v → zS h r = some (.inl (.int, n)) → (∀ j, j < n → zI h r j = caV s.1 t j) → zN h + 8 * m + 2 < BIG → 8 * m ≤ mc → 48 * m ≤ ms →
    (∀ h' l6, STEP b v (8 * m) h h' → OB K b v s h' → Ev X (jm jdL_state) 15 (mc - 8 * m) (ms - 48 * m) Q 127 [some (.ref b), some (.int (fo (stCar s.1 t) m p x)), some (.int (nI t)), some (.ref r), some (.int (nI n)), some (.int (nI n)), l6] [] h') →
    Ev X (jm jdL_state) 15 mc ms Q 74 [some (.ref b), some (.int x), some (.int (nI t)), some (.ref r), some (.int (nI n)), some (.int (nI p)), l6] [] h := by
  intro m
  induction m with
  | zero =>
    intro p x l6 h mc ms hk ho hr h1 h2 hS hI hB hm hs hQ
    have hn20 : n ≤ 20 := by rw [hn]; exact ho.wg.2.h20 (by have := ho.wg.2.1.1; omega)
    refine Ev.sg hX sL_state_74 (pc' := 78) (ls' := [some (.ref b), some (.int x), some (.int (nI t)), some (.ref r), some (.int (nI n)), some (.int (nI p)), l6]) (st' := [.int (nI n), .int (nI p)]) (h' := h) rfl ?_
    refine Ev.icmp_ge (tgt := 127) dL_state_78 (by decide) (fun b1 => ?_) (fun b1 => ?_)
    · obtain rfl : p = n := by omega
      exact hQ h l6 STEP.rf ho
    · exact absurd ((nI_leI (a := n) (b := p) (by omega) (by omega)).mpr (by omega)) b1
  | succ m ih =>
    intro p x l6 h mc ms hk ho hr h1 h2 hS hI hB hm hs hQ
    have hKs := ho.wg.1
    have hW := ho.wg.2
    have z8 := hW.1.1
    have hn20 : n ≤ 20 := by rw [hn]; exact hW.h20 (by omega)
    have hpn : p < s.1 (31 + t) := by omega
    refine Ev.sg hX sL_state_74 (pc' := 78) (ls' := [some (.ref b), some (.int x), some (.int (nI t)), some (.ref r), some (.int (nI n)), some (.int (nI p)), l6]) (st' := [.int (nI n), .int (nI p)]) (h' := h) rfl ?_
    refine Ev.icmp_ge (tgt := 127) dL_state_78 (by decide) (fun b1 => ?_) (fun b1 => ?_)
    · exact absurd ((nI_leI (a := n) (b := p) (by omega) (by omega)).mp b1) (by omega)
    · refine Ev.sg hX sL_state_81 (pc' := 84) (ls' := [some (.ref b), some (.int x), some (.int (nI t)), some (.ref r), some (.int (nI n)), some (.int (nI p)), l6]) (st' := [.int (nI p), .ref r]) (h' := h) rfl ?_
      refine Ev.ialdE hS rfl (by omega) (by omega) dL_state_84 ?_
      rw [hI p (by omega)]
      obtain ⟨c, hc⟩ : ∃ c, c = caV s.1 t p := ⟨_, rfl⟩
      rw [← hc]
      refine Ev.sg hX sL_state_85 (pc' := 100) (ls' := [some (.ref b), some (.int x), some (.int (nI t)), some (.ref r), some (.int (nI n)), some (.int (nI p)), some (.int c)]) (st' := [.int c, .ref b, .int (31 * (31 * x + c))]) (h' := h) rfl ?_
      refine Ev.ask (K' := K) (mc1 := 4) (ms1 := 24) (As := [.int c]) (rest := [.int (31 * (31 * x + c))]) (xs := [xNE]) (val := some (.int (stDe s.1 c))) (s' := s) hX hM hb ho (by omega) dvX6_destination mkL_108 rfl dL_state_100 (by decide) (by decide) ⟨by omega, by omega⟩ rfl (Nat.le_of_ble_eq_true rfl) nr_1 (fun _ => rfl) (by decide) (fun X' T I L D hX' c9 => by
        have q := q_destination (c := c) hX' c9 (by omega)
        rw [hc, sl_ok hKs hW ht hpn] at q
        rw [hc]
        exact q) (fun h1' st1 ob1 => ?_)
      have s1 := st1.2.1
      have s1' := st1.1
      show Ev _ _ _ _ _ _ 103 [some (.ref b), some (.int x), some (.int (nI t)), some (.ref r), some (.int (nI n)), some (.int (nI p)), some (.int c)] [.int (stDe s.1 c), .int (31 * (31 * x + c))] h1'
      refine Ev.sg hX sL_state_103 (pc' := 107) (ls' := [some (.ref b), some (.int x), some (.int (nI t)), some (.ref r), some (.int (nI n)), some (.int (nI p)), some (.int c)]) (st' := [.int c, .ref b, .int (31 * (31 * x + c) + stDe s.1 c)]) (h' := h1') rfl ?_
      refine Ev.ask (K' := K) (mc1 := 4) (ms1 := 24) (As := [.int c]) (rest := [.int (31 * (31 * x + c) + stDe s.1 c)]) (xs := [xNE]) (val := some (.int (stDf s.1 c))) (s' := s) hX hM hb ob1 (by omega) dvX6_isDefective mkL_111 rfl dL_state_107 (by decide) (by decide) ⟨by omega, by omega⟩ rfl (Nat.le_of_ble_eq_true rfl) nr_1 (fun _ => rfl) (by decide) (fun X' T I L D hX' c9 => by
        have q := q_isDefective (c := c) hX' c9 (by omega)
        have e9 : (bi ((slP (GJ s.1) (s.1 1) c (fun s_1 => GJ s.1 397 (119 + s_1))).1 = 1), (slP (GJ s.1) (s.1 1) c (fun s_1 => GJ s.1 397 (119 + s_1))).2).2 396 12 = 0 := by
          rw [hc]
          exact sl_ok hKs hW ht hpn _
        rw [e9] at q
        exact q) (fun h2' st2 ob2 => ?_)
      have s2 := st2.2.1
      have s2' := st2.1
      show Ev _ _ _ _ _ _ 110 [some (.ref b), some (.int x), some (.int (nI t)), some (.ref r), some (.int (nI n)), some (.int (nI p)), some (.int c)] [.int (stDf s.1 c), .int (31 * (31 * x + c) + stDe s.1 c)] h2'
      have r1 := st1.2.2 r hr (by omega)
      have r2 := st2.2.2 r (by omega) (by omega)
      have go : ∀ y, stCar s.1 t p x = y → Ev X (jm jdL_state) 15 (mc - 4 - 4) (ms - 24 - 24) Q 74 [some (.ref b), some (.int y), some (.int (nI t)), some (.ref r), some (.int (nI n)), some (.int (nI (p + 1))), some (.int c)] [] h2' := fun y hy => by
        subst hy
        refine ih (p + 1) (stCar s.1 t p x) _ h2' (mc - 4 - 4) (ms - 24 - 24) (by omega) ob2 (by omega) h1 h2 (r2.1.trans (r1.1.trans hS)) (fun j hj => by rw [r2.2.1 h2, r1.2.1 h2]; exact hI j hj) (by omega) (by omega) (by omega) (fun h3 l6' st3 ob3 => ?_)
        have q := hQ h3 l6' (((st1.tr st2).tr st3).le (by omega)) ob3
        rw [show mc - 8 * (m + 1) = mc - 4 - 4 - 8 * m by omega, show ms - 48 * (m + 1) = ms - 24 - 24 - 48 * m by omega] at q
        exact q
      refine Ev.if_eq (tgt := 118) dL_state_110 (by decide) (fun b2 => ?_) (fun b2 => ?_)
      · refine Ev.sg hX sL_state_118 (pc' := 119) (ls' := [some (.ref b), some (.int x), some (.int (nI t)), some (.ref r), some (.int (nI n)), some (.int (nI p)), some (.int c)]) (st' := [.int 0, .int (31 * (31 * x + c) + stDe s.1 c)]) (h' := h2') rfl ?_
        refine Ev.sg hX sL_state_119 (pc' := 74) (ls' := [some (.ref b), some (.int (31 * (31 * x + c) + stDe s.1 c + 0)), some (.int (nI t)), some (.ref r), some (.int (nI n)), some (.int (nI p + 1)), some (.int c)]) (st' := []) (h' := h2') rfl ?_
        rw [nI_1]
        exact go _ (by unfold stCar; rw [← hc, if_pos b2])
      · refine Ev.sg hX sL_state_113 (pc' := 119) (ls' := [some (.ref b), some (.int x), some (.int (nI t)), some (.ref r), some (.int (nI n)), some (.int (nI p)), some (.int c)]) (st' := [.int 10, .int (31 * (31 * x + c) + stDe s.1 c)]) (h' := h2') rfl ?_
        refine Ev.sg hX sL_state_119 (pc' := 74) (ls' := [some (.ref b), some (.int (31 * (31 * x + c) + stDe s.1 c + 10)), some (.int (nI t)), some (.ref r), some (.int (nI n)), some (.int (nI p + 1)), some (.int c)]) (st' := []) (h' := h2') rfl ?_
        rw [nI_1]
        exact go _ (by unfold stCar; rw [← hc, if_neg b2])
set_option maxRecDepth 8000 in
/-- a track's connections to those before it -/
theorem l_stL {l4 l5 l6 : Option Value} (hX : JXok X) (hM : jM X ≤ 396) (hb : b = 0 ∨ 396 ≤ b) (ht : t < s.1 0) : ∀ (m o : Nat) (x : Int32) (h : MH) (mc ms : Nat), o + m = t → OB K b v s h → zN h + 4 * m + 2 < BIG → 4 * m ≤ mc → 24 * m ≤ ms →
    (∀ h' l3, STEP b v (4 * m) h h' → OB K b v s h' → Ev X (jm jdL_state) 15 (mc - 4 * m) (ms - 24 * m) Q 33 [some (.ref b), some (.int (fo (stLk s.1 t) m o x)), some (.int (nI (t + 1))), l3, l4, l5, l6] [] h') →
    Ev X (jm jdL_state) 15 mc ms Q 129 [some (.ref b), some (.int x), some (.int (nI t)), some (.int (nI o)), l4, l5, l6] [] h := by
  intro m
  induction m with
  | zero =>
    intro o x h mc ms hk ho hB hm hs hQ
    have z8 := ho.wg.2.1.1
    refine Ev.sg hX sL_state_129 (pc' := 131) (ls' := [some (.ref b), some (.int x), some (.int (nI t)), some (.int (nI o)), l4, l5, l6]) (st' := [.int (nI t), .int (nI o)]) (h' := h) rfl ?_
    refine Ev.icmp_ge (tgt := 159) dL_state_131 (by decide) (fun b1 => ?_) (fun b1 => ?_)
    · refine Ev.sg hX sL_state_159 (pc' := 33) (ls' := [some (.ref b), some (.int x), some (.int (nI t + 1)), some (.int (nI o)), l4, l5, l6]) (st' := []) (h' := h) rfl ?_
      rw [nI_1]
      exact hQ h _ STEP.rf ho
    · exact absurd ((nI_leI (a := t) (b := o) (by omega) (by omega)).mpr (by omega)) b1
  | succ m ih =>
    intro o x h mc ms hk ho hB hm hs hQ
    have z8 := ho.wg.2.1.1
    refine Ev.sg hX sL_state_129 (pc' := 131) (ls' := [some (.ref b), some (.int x), some (.int (nI t)), some (.int (nI o)), l4, l5, l6]) (st' := [.int (nI t), .int (nI o)]) (h' := h) rfl ?_
    refine Ev.icmp_ge (tgt := 159) dL_state_131 (by decide) (fun b1 => ?_) (fun b1 => ?_)
    · exact absurd ((nI_leI (a := t) (b := o) (by omega) (by omega)).mp b1) (by omega)
    · refine Ev.sg hX sL_state_134 (pc' := 140) (ls' := [some (.ref b), some (.int x), some (.int (nI t)), some (.int (nI o)), l4, l5, l6]) (st' := [.int (nI o), .int (nI t), .ref b, .int (2 * x)]) (h' := h) rfl ?_
      refine Ev.ask (K' := K) (mc1 := 4) (ms1 := 24) (As := [.int (nI t), .int (nI o)]) (rest := [.int (2 * x)]) (xs := [xIO]) (val := some (.int (stCo s.1 t o))) (s' := s) hX hM hb ho (by omega) dvX6_areConnected mkL_115 rfl dL_state_140 (by decide) (by decide) ⟨by omega, by omega⟩ rfl (Nat.le_of_ble_eq_true rfl) nr_2 (fun _ => rfl) (by decide) (fun X' T I L D hX' c9 => by
        have q := q_areConnected (a := nI t) (b := nI o) hX' c9 (by omega)
        rw [ac_ok z8 ht (by omega)] at q
        exact q) (fun h1' st1 ob1 => ?_)
      have s1 := st1.2.1
      show Ev _ _ _ _ _ _ 143 [some (.ref b), some (.int x), some (.int (nI t)), some (.int (nI o)), l4, l5, l6] [.int (stCo s.1 t o), .int (2 * x)] h1'
      have go : ∀ y, stLk s.1 t o x = y → Ev X (jm jdL_state) 15 (mc - 4) (ms - 24) Q 129 [some (.ref b), some (.int y), some (.int (nI t)), some (.int (nI (o + 1))), l4, l5, l6] [] h1' := fun y hy => by
        subst hy
        refine ih (o + 1) (stLk s.1 t o x) h1' (mc - 4) (ms - 24) (by omega) ob1 (by omega) (by omega) (by omega) (fun h3 l3' st3 ob3 => ?_)
        have q := hQ h3 l3' ((st1.tr st3).le (by omega)) ob3
        rw [show mc - 4 * (m + 1) = mc - 4 - 4 * m by omega, show ms - 24 * (m + 1) = ms - 24 - 24 * m by omega] at q
        exact q
      refine Ev.if_eq (tgt := 150) dL_state_143 (by decide) (fun b2 => ?_) (fun b2 => ?_)
      · refine Ev.sg hX sL_state_150 (pc' := 151) (ls' := [some (.ref b), some (.int x), some (.int (nI t)), some (.int (nI o)), l4, l5, l6]) (st' := [.int 0, .int (2 * x)]) (h' := h1') rfl ?_
        refine Ev.sg hX sL_state_151 (pc' := 129) (ls' := [some (.ref b), some (.int (2 * x + 0)), some (.int (nI t)), some (.int (nI o + 1)), l4, l5, l6]) (st' := []) (h' := h1') rfl ?_
        rw [nI_1]
        exact go _ (by unfold stLk; rw [if_pos b2])
      · refine Ev.sg hX sL_state_146 (pc' := 151) (ls' := [some (.ref b), some (.int x), some (.int (nI t)), some (.int (nI o)), l4, l5, l6]) (st' := [.int 1, .int (2 * x)]) (h' := h1') rfl ?_
        refine Ev.sg hX sL_state_151 (pc' := 129) (ls' := [some (.ref b), some (.int (2 * x + 1)), some (.int (nI t)), some (.int (nI o + 1)), l4, l5, l6]) (st' := []) (h' := h1') rfl ?_
        rw [nI_1]
        exact go _ (by unfold stLk; rw [if_neg b2])
/-- track by track -/
theorem l_stT (hX : JXok X) (hM : jM X ≤ 396) (hb : b = 0 ∨ 396 ≤ b) : ∀ (m t : Nat) (x : Int32) (l3 l4 l5 l6 : Option Value) (h : MH) (mc ms : Nat), t + m = s.1 0 → OB K b v s h → zN h + 300 * m + 20 < BIG → 300 * m ≤ mc → 1800 * m ≤ ms →
    (∀ h', STEP b v (300 * m + 8) h h' → OB K b v s h' → Q (.inl (some (.int (31 * fo (stTr s.1) m t x + nI (s.1 0))), h'))) →
    Ev X (jm jdL_state) 15 mc ms Q 33 [some (.ref b), some (.int x), some (.int (nI t)), l3, l4, l5, l6] [] h := by
  intro m
  induction m with
  | zero =>
    intro t x l3 l4 l5 l6 h mc ms hk ho hB hm hs hQ
    have z8 := ho.wg.2.1.1
    refine Ev.sg hX sL_state_33 (pc' := 35) (ls' := [some (.ref b), some (.int x), some (.int (nI t)), l3, l4, l5, l6]) (st' := [.ref b, .int (nI t)]) (h' := h) rfl ?_
    refine Ev.ask (K' := K) (mc1 := 0) (ms1 := 0) (As := []) (rest := [.int (nI t)]) (xs := []) (val := some (.int (nI (s.1 0)))) (s' := s) hX hM hb ho (by omega) dvX6_trackCount mkL_34 rfl dL_state_35 (by decide) (by decide) ⟨Nat.zero_le _, Nat.zero_le _⟩ rfl (Nat.le_of_ble_eq_true rfl) nr_0 (fun _ => rfl) (by decide) (fun X' T I L D hX' c9 => q_trackCount hX' c9) (fun h1 st1 ob1 => ?_)
    have s1 := st1.2.1
    show Ev _ _ _ _ _ _ 38 [some (.ref b), some (.int x), some (.int (nI t)), l3, l4, l5, l6] [.int (nI (s.1 0)), .int (nI t)] h1
    refine Ev.icmp_ge (tgt := 165) dL_state_38 (by decide) (fun b1 => ?_) (fun b1 => ?_)
    · refine Ev.sg hX sL_state_165 (pc' := 170) (ls' := [some (.ref b), some (.int x), some (.int (nI t)), l3, l4, l5, l6]) (st' := [.ref b, .int (31 * x)]) (h' := h1) rfl ?_
      refine Ev.ask (K' := K) (mc1 := 0) (ms1 := 0) (As := []) (rest := [.int (31 * x)]) (xs := []) (val := some (.int (nI (s.1 0)))) (s' := s) hX hM hb ob1 (by omega) dvX6_trackCount mkL_34 rfl dL_state_170 (by decide) (by decide) ⟨Nat.zero_le _, Nat.zero_le _⟩ rfl (Nat.le_of_ble_eq_true rfl) nr_0 (fun _ => rfl) (by decide) (fun X' T I L D hX' c9 => q_trackCount hX' c9) (fun h2 st2 ob2 => ?_)
      show Ev _ _ _ _ _ _ 173 [some (.ref b), some (.int x), some (.int (nI t)), l3, l4, l5, l6] [.int (nI (s.1 0)), .int (31 * x)] h2
      refine Ev.sg hX sL_state_173 (pc' := 174) (ls' := [some (.ref b), some (.int x), some (.int (nI t)), l3, l4, l5, l6]) (st' := [.int (31 * x + nI (s.1 0))]) (h' := h2) rfl ?_
      refine Ev.iret dL_state_174 rfl ?_
      exact hQ h2 ((st1.tr st2).le (by omega)) ob2
    · exact absurd ((nI_leI (a := s.1 0) (b := t) (by omega) (by omega)).mpr (by omega)) b1
  | succ m ih =>
    intro t x l3 l4 l5 l6 h mc ms hk ho hB hm hs hQ
    have hW := ho.wg.2
    have z8 := hW.1.1
    have htz : t < s.1 0 := by omega
    have h20 := hW.h20 (t := t) (by omega)
    refine Ev.sg hX sL_state_33 (pc' := 35) (ls' := [some (.ref b), some (.int x), some (.int (nI t)), l3, l4, l5, l6]) (st' := [.ref b, .int (nI t)]) (h' := h) rfl ?_
    refine Ev.ask (K' := K) (mc1 := 0) (ms1 := 0) (As := []) (rest := [.int (nI t)]) (xs := []) (val := some (.int (nI (s.1 0)))) (s' := s) hX hM hb ho (by omega) dvX6_trackCount mkL_34 rfl dL_state_35 (by decide) (by decide) ⟨Nat.zero_le _, Nat.zero_le _⟩ rfl (Nat.le_of_ble_eq_true rfl) nr_0 (fun _ => rfl) (by decide) (fun X' T I L D hX' c9 => q_trackCount hX' c9) (fun h1 st1 ob1 => ?_)
    have s1 := st1.2.1
    show Ev _ _ _ _ _ _ 38 [some (.ref b), some (.int x), some (.int (nI t)), l3, l4, l5, l6] [.int (nI (s.1 0)), .int (nI t)] h1
    refine Ev.icmp_ge (tgt := 165) dL_state_38 (by decide) (fun b1 => ?_) (fun b1 => ?_)
    · exact absurd ((nI_leI (a := s.1 0) (b := t) (by omega) (by omega)).mp b1) (by omega)
    · refine Ev.sg hX sL_state_41 (pc' := 49) (ls' := [some (.ref b), some (.int x), some (.int (nI t)), l3, l4, l5, l6]) (st' := [.int (nI t), .ref b, .int (31 * x), .int 31]) (h' := h1) rfl ?_
      refine Ev.ask (K' := K) (mc1 := 4) (ms1 := 24) (As := [.int (nI t)]) (rest := [.int (31 * x), .int 31]) (xs := [xIO]) (val := some (.int (stFl s.1 t))) (s' := s) hX hM hb ob1 (by omega) dvX6_freeLength mkL_98 rfl dL_state_49 (by decide) (by decide) ⟨by omega, by omega⟩ rfl (Nat.le_of_ble_eq_true rfl) nr_1 (fun _ => rfl) (by decide) (fun X' T I L D hX' c9 => by
        have q := q_freeLength (t := nI t) hX' c9 (by omega)
        have e := dn_ok (c := roM (GJ s.1) (s.1 1) (nI t).toNatClampNeg) (e := 1) (J := GJ s.1) (tk_ok z8 htz)
        rw [e.1, e.2] at q
        exact q) (fun h2 st2 ob2 => ?_)
      have s2 := st2.2.1
      show Ev _ _ _ _ _ _ 52 [some (.ref b), some (.int x), some (.int (nI t)), l3, l4, l5, l6] [.int (stFl s.1 t), .int (31 * x), .int 31] h2
      refine Ev.sg hX sL_state_52 (pc' := 56) (ls' := [some (.ref b), some (.int x), some (.int (nI t)), l3, l4, l5, l6]) (st' := [.int (nI t), .ref b, .int (31 * (31 * x + stFl s.1 t))]) (h' := h2) rfl ?_
      refine Ev.ask (K' := K) (mc1 := 4) (ms1 := 24) (As := [.int (nI t)]) (rest := [.int (31 * (31 * x + stFl s.1 t))]) (xs := [xIO]) (val := some (.int (stWo s.1 t))) (s' := s) hX hM hb ob2 (by omega) dvX6_weightOn mkL_101 rfl dL_state_56 (by decide) (by decide) ⟨by omega, by omega⟩ rfl (Nat.le_of_ble_eq_true rfl) nr_1 (fun _ => rfl) (by decide) (fun X' T I L D hX' c9 => by
        have q := q_weightOn (t := nI t) hX' c9 (by omega)
        have e := dn_ok (c := smM (GJ s.1) (s.1 1) (nI t) 79) (e := 1) (J := GJ s.1) (tk_ok z8 htz)
        rw [e.1, e.2] at q
        exact q) (fun h3 st3 ob3 => ?_)
      have s3 := st3.2.1
      show Ev _ _ _ _ _ _ 59 [some (.ref b), some (.int x), some (.int (nI t)), l3, l4, l5, l6] [.int (stWo s.1 t), .int (31 * (31 * x + stFl s.1 t))] h3
      obtain ⟨y, hy⟩ : ∃ y, y = 31 * (31 * x + stFl s.1 t) + stWo s.1 t := ⟨_, rfl⟩
      refine Ev.sg hX sL_state_59 (pc' := 63) (ls' := [some (.ref b), some (.int (31 * (31 * x + stFl s.1 t) + stWo s.1 t)), some (.int (nI t)), l3, l4, l5, l6]) (st' := [.int (nI t), .ref b]) (h' := h3) rfl ?_
      rw [← hy]
      refine Ev.callS (As := [.ref b, .int (nI t)]) (rest := []) dsL_cars mkL_104 dL_state_63 (c_cars hX hM hb ob3 htz (by omega)) ⟨by decide, by show 4 + 19 + 40 * _ ≤ 40 * _; omega⟩ ⟨by omega, by omega⟩ rfl (Nat.le_of_ble_eq_true rfl) (fun v9 h9 e9 => ?_) (fun E9 h9 e9 => ?_)
      · obtain ⟨h8, r, st9, ob9, r1, r2, r3, r4, e⟩ := e9
        cases e
        have s9 := st9.2.1
        have own3 := ob3.own hb
        have n3 := ob3.1
        show Ev _ _ _ _ _ _ 66 [some (.ref b), some (.int y), some (.int (nI t)), l3, l4, l5, l6] [.ref r] h9
        refine Ev.sg hX (sL_state_66.sub 0 2) (pc' := 68) (ls' := [some (.ref b), some (.int y), some (.int (nI t)), some (.ref r), l4, l5, l6]) (st' := [.ref r]) (h' := h9) rfl ?_
        refine Ev.alenN r3 rfl (sL_state_66.dc 2 (q := (68, .arraylength, 0, 0)) rfl) ?_
        show Ev _ _ _ _ _ _ 69 [some (.ref b), some (.int y), some (.int (nI t)), some (.ref r), l4, l5, l6] [.int (nI (s.1 (31 + t)))] h9
        refine Ev.sg hX (sL_state_66.sub 3 3) (pc' := 74) (ls' := [some (.ref b), some (.int y), some (.int (nI t)), some (.ref r), some (.int (nI (s.1 (31 + t)))), some (.int 0), l6]) (st' := []) (h' := h9) rfl ?_
        refine l_stC (n := s.1 (31 + t)) hX hM hb htz rfl (s.1 (31 + t)) 0 y l6 h9 _ _ (by omega) ob9 r2 (by omega) (by omega) r3 r4 (by omega) (by omega) (by omega) (fun h5 l6' st5 ob5 => ?_)
        have s5 := st5.2.1
        obtain ⟨y2, hy2⟩ : ∃ y2, y2 = fo (stCar s.1 t) (s.1 (31 + t)) 0 y := ⟨_, rfl⟩
        rw [← hy2]
        refine Ev.sg hX sL_state_127 (pc' := 129) (ls' := [some (.ref b), some (.int y2), some (.int (nI t)), some (.int 0), some (.int (nI (s.1 (31 + t)))), some (.int (nI (s.1 (31 + t)))), l6']) (st' := []) (h' := h5) rfl ?_
        refine l_stL hX hM hb htz t 0 y2 h5 _ _ (by omega) ob5 (by omega) (by omega) (by omega) (fun h6 l3' st6 ob6 => ?_)
        have s6 := st6.2.1
        have ey : fo (stLk s.1 t) t 0 y2 = stTr s.1 t x := by rw [hy2, hy]; rfl
        rw [ey]
        refine ih (t + 1) (stTr s.1 t x) l3' _ _ _ h6 _ _ (by omega) ob6 (by omega) (by omega) (by omega) (fun h7 st7 ob7 => ?_)
        exact hQ h7 (((((((st1.tr st2).tr st3).tr st9).tr st5).tr st6).tr st7).le (by omega)) ob7
      · obtain ⟨h8, r, st9, ob9, r1, r2, r3, r4, e⟩ := e9
        cases e
/-- an object's state -/
theorem c_state (hX : JXok X) (hM : jM X ≤ 396) (hb : b = 0 ∨ 396 ≤ b) (ho : OB K b v s h) (hB : zN h + 2500 < BIG) : MT X 15 2420 14500 jdL_state [.ref b] h (fun R => ∃ h', STEP b v 2440 h h' ∧ OB K b v s h' ∧ R = .inl (some (.int (stGF s.1)), h')) := by
  have hW := ho.wg.2
  have z8 := hW.1.1
  refine MT.mk dsL_state.1 ?_
  refine Ev.sg hX sL_state_0 (pc' := 7) (ls' := [some (.ref b), none, none, none, none, none, none]) (st' := [.ref b, .int 31, .int 31, .int 31]) (h' := h) rfl ?_
  refine Ev.ask (K' := K) (mc1 := 0) (ms1 := 0) (As := []) (rest := [.int 31, .int 31, .int 31]) (xs := []) (val := some (.int (nI (s.1 3)))) (s' := s) hX hM hb ho (by omega) dvX6_moveCount mkL_85 rfl dL_state_7 (by decide) (by decide) ⟨Nat.zero_le _, Nat.zero_le _⟩ rfl (Nat.le_of_ble_eq_true rfl) nr_0 (fun _ => rfl) (by decide) (fun X' T I L D hX' c9 => q_moveCount hX' c9) (fun h1 st1 ob1 => ?_)
  have s1 := st1.2.1
  show Ev _ _ _ _ _ _ 10 [some (.ref b), none, none, none, none, none, none] [.int (nI (s.1 3)), .int 31, .int 31, .int 31] h1
  refine Ev.sg hX sL_state_10 (pc' := 12) (ls' := [some (.ref b), none, none, none, none, none, none]) (st' := [.ref b, .int (31 * nI (s.1 3)), .int 31, .int 31]) (h' := h1) rfl ?_
  refine Ev.ask (K' := K) (mc1 := 0) (ms1 := 0) (As := []) (rest := [.int (31 * nI (s.1 3)), .int 31, .int 31]) (xs := []) (val := some (.long (lN (s.1 5)))) (s' := s) hX hM hb ob1 (by omega) dvX6_time mkL_88 rfl dL_state_12 (by decide) (by decide) ⟨Nat.zero_le _, Nat.zero_le _⟩ rfl (Nat.le_of_ble_eq_true rfl) nr_0 (fun _ => rfl) (by decide) (fun X' T I L D hX' c9 => q_time hX' c9) (fun h2 st2 ob2 => ?_)
  have s2 := st2.2.1
  show Ev _ _ _ _ _ _ 15 [some (.ref b), none, none, none, none, none, none] [.long (lN (s.1 5)), .int (31 * nI (s.1 3)), .int 31, .int 31] h2
  refine Ev.l2i dL_state_15 ?_
  refine Ev.sg hX sL_state_16 (pc' := 19) (ls' := [some (.ref b), none, none, none, none, none, none]) (st' := [.ref b, .int (31 * (31 * nI (s.1 3) + (lN (s.1 5)).toInt32)), .int 31]) (h' := h2) rfl ?_
  refine Ev.ask (K' := K) (mc1 := 0) (ms1 := 0) (As := []) (rest := [.int (31 * (31 * nI (s.1 3) + (lN (s.1 5)).toInt32)), .int 31]) (xs := []) (val := some (.int (nI (s.1 4)))) (s' := s) hX hM hb ob2 (by omega) dvX6_departedCars mkL_92 rfl dL_state_19 (by decide) (by decide) ⟨Nat.zero_le _, Nat.zero_le _⟩ rfl (Nat.le_of_ble_eq_true rfl) nr_0 (fun _ => rfl) (by decide) (fun X' T I L D hX' c9 => q_departedCars hX' c9) (fun h3 st3 ob3 => ?_)
  have s3 := st3.2.1
  show Ev _ _ _ _ _ _ 22 [some (.ref b), none, none, none, none, none, none] [.int (nI (s.1 4)), .int (31 * (31 * nI (s.1 3) + (lN (s.1 5)).toInt32)), .int 31] h3
  refine Ev.sg hX sL_state_22 (pc' := 25) (ls' := [some (.ref b), none, none, none, none, none, none]) (st' := [.ref b, .int (31 * (31 * (31 * nI (s.1 3) + (lN (s.1 5)).toInt32) + nI (s.1 4)))]) (h' := h3) rfl ?_
  refine Ev.ask (K' := K) (mc1 := 0) (ms1 := 0) (As := []) (rest := [.int (31 * (31 * (31 * nI (s.1 3) + (lN (s.1 5)).toInt32) + nI (s.1 4)))]) (xs := []) (val := some (.long (lN (s.1 6)))) (s' := s) hX hM hb ob3 (by omega) dvX6_departedWeight mkL_95 rfl dL_state_25 (by decide) (by decide) ⟨Nat.zero_le _, Nat.zero_le _⟩ rfl (Nat.le_of_ble_eq_true rfl) nr_0 (fun _ => rfl) (by decide) (fun X' T I L D hX' c9 => q_departedWeight hX' c9) (fun h4 st4 ob4 => ?_)
  have s4 := st4.2.1
  show Ev _ _ _ _ _ _ 28 [some (.ref b), none, none, none, none, none, none] [.long (lN (s.1 6)), .int (31 * (31 * (31 * nI (s.1 3) + (lN (s.1 5)).toInt32) + nI (s.1 4)))] h4
  refine Ev.l2i dL_state_28 ?_
  refine Ev.sg hX sL_state_29 (pc' := 33) (ls' := [some (.ref b), some (.int (stH s.1)), some (.int 0), none, none, none, none]) (st' := []) (h' := h4) rfl ?_
  refine l_stT hX hM hb (s.1 0) 0 (stH s.1) none none none none h4 _ _ (by omega) ob4 (by omega) (by omega) (by omega) (fun h5 st5 ob5 => ?_)
  exact ⟨h5, (((((st1.tr st2).tr st3).tr st4).tr st5).le (by omega)), ob5, rfl⟩
end STA
