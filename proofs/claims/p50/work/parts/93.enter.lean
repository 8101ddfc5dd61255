/-! a new car: class and model -/
section YEN
variable {K : Nat} {I J : HI} {L : HL} {g g' σ : Nat → Nat} {x y s t i k u z le we de b : Nat}
def acG (g : Nat → Nat) (t le we de b : Nat) : Nat → Nat := un (un (un (un (un (un (un (un (un (un g (39 + g 1) (g 2)) (59 + g 1) le) (79 + g 1) we) (99 + g 1) de) (119 + g 1) b) (139 + g 1) t) (159 + g 1) (g (31 + t))) (31 + t) (g (31 + t) + 1)) 1 (g 1 + 1)) 2 (g 2 + 1)
theorem ac_1 : acG g t le we de b 1 = g 1 + 1 := by
  unfold acG
  rw [un_ne (by omega), un_eq]
theorem ac_2 : acG g t le we de b 2 = g 2 + 1 := un_eq
theorem ac_lo (hk : k < 31) (h1 : k ≠ 1) (h2 : k ≠ 2) : acG g t le we de b k = g k := by
  unfold acG
  rw [un_ne h2, un_ne h1, un_ne (by omega), un_ne (by omega), un_ne (by omega), un_ne (by omega), un_ne (by omega), un_ne (by omega), un_ne (by omega), un_ne (by omega)]
theorem ac_h (ht : t < 8) (hi : i < 8) : acG g t le we de b (31 + i) = if i = t then g (31 + t) + 1 else g (31 + i) := by
  unfold acG
  rw [un_ne (by omega), un_ne (by omega)]
  by_cases c : i = t
  · subst c
    rw [un_eq, if_pos rfl]
  · rw [un_ne (by omega), if_neg c, un_ne (by omega), un_ne (by omega), un_ne (by omega), un_ne (by omega), un_ne (by omega), un_ne (by omega), un_ne (by omega)]
theorem ac_39 (ht : t < 8) (hm : g 1 < 20) (hi : i < 20) : acG g t le we de b (39 + i) = if i = g 1 then g 2 else g (39 + i) := by
  unfold acG
  rw [un_ne (by omega), un_ne (by omega), un_ne (by omega), un_ne (by omega), un_ne (by omega), un_ne (by omega), un_ne (by omega), un_ne (by omega), un_ne (by omega)]
  by_cases c : i = g 1
  · rw [c, un_eq, if_pos rfl]
  · rw [un_ne (by omega), if_neg c]
theorem ac_59 (ht : t < 8) (hm : g 1 < 20) (hi : i < 20) : acG g t le we de b (59 + i) = if i = g 1 then le else g (59 + i) := by
  unfold acG
  rw [un_ne (by omega), un_ne (by omega), un_ne (by omega), un_ne (by omega), un_ne (by omega), un_ne (by omega), un_ne (by omega), un_ne (by omega)]
  by_cases c : i = g 1
  · rw [c, un_eq, if_pos rfl]
  · rw [un_ne (by omega), if_neg c, un_ne (by omega)]
theorem ac_79 (ht : t < 8) (hm : g 1 < 20) (hi : i < 20) : acG g t le we de b (79 + i) = if i = g 1 then we else g (79 + i) := by
  unfold acG
  rw [un_ne (by omega), un_ne (by omega), un_ne (by omega), un_ne (by omega), un_ne (by omega), un_ne (by omega), un_ne (by omega)]
  by_cases c : i = g 1
  · rw [c, un_eq, if_pos rfl]
  · rw [un_ne (by omega), if_neg c, un_ne (by omega), un_ne (by omega)]
theorem ac_99 (ht : t < 8) (hm : g 1 < 20) (hi : i < 20) : acG g t le we de b (99 + i) = if i = g 1 then de else g (99 + i) := by
  unfold acG
  rw [un_ne (by omega), un_ne (by omega), un_ne (by omega), un_ne (by omega), un_ne (by omega), un_ne (by omega)]
  by_cases c : i = g 1
  · rw [c, un_eq, if_pos rfl]
  · rw [un_ne (by omega), if_neg c, un_ne (by omega), un_ne (by omega), un_ne (by omega)]
theorem ac_119 (ht : t < 8) (hm : g 1 < 20) (hi : i < 20) : acG g t le we de b (119 + i) = if i = g 1 then b else g (119 + i) := by
  unfold acG
  rw [un_ne (by omega), un_ne (by omega), un_ne (by omega), un_ne (by omega), un_ne (by omega)]
  by_cases c : i = g 1
  · rw [c, un_eq, if_pos rfl]
  · rw [un_ne (by omega), if_neg c, un_ne (by omega), un_ne (by omega), un_ne (by omega), un_ne (by omega)]
theorem ac_139 (ht : t < 8) (hm : g 1 < 20) (hi : i < 20) : acG g t le we de b (139 + i) = if i = g 1 then t else g (139 + i) := by
  unfold acG
  rw [un_ne (by omega), un_ne (by omega), un_ne (by omega), un_ne (by omega)]
  by_cases c : i = g 1
  · rw [c, un_eq, if_pos rfl]
  · rw [un_ne (by omega), if_neg c, un_ne (by omega), un_ne (by omega), un_ne (by omega), un_ne (by omega), un_ne (by omega)]
theorem ac_159 (ht : t < 8) (hm : g 1 < 20) (hi : i < 20) : acG g t le we de b (159 + i) = if i = g 1 then g (31 + t) else g (159 + i) := by
  unfold acG
  rw [un_ne (by omega), un_ne (by omega), un_ne (by omega)]
  by_cases c : i = g 1
  · rw [c, un_eq, if_pos rfl]
  · rw [un_ne (by omega), if_neg c, un_ne (by omega), un_ne (by omega), un_ne (by omega), un_ne (by omega), un_ne (by omega), un_ne (by omega)]
theorem us_ac (ht : t < 8) (hm : g 1 < 20) : usN (acG g t le we de b) k = usN g k + (if t = k then le else 0) := by
  unfold usN
  rw [ac_1]
  show sN _ (g 1) + (if acG g t le we de b (139 + g 1) = k then acG g t le we de b (59 + g 1) else 0) = _
  rw [ac_139 ht hm hm, ac_59 ht hm hm, if_pos rfl, if_pos rfl]
  congr 1
  refine sN_congr (fun i hi => ?_)
  try simp only
  have ci : ¬ i = g 1 := by omega
  rw [ac_139 ht hm (by omega), ac_59 ht hm (by omega), if_neg ci, if_neg ci]
theorem WS.ac (hz : g 0 ≤ 8) (W : WS g) (hm : g 1 < 20) (ht : t < g 0) (n1 : 1 ≤ g 2) (hle : 5 ≤ le ∧ le ≤ 30) (hwe : 10 ≤ we ∧ we ≤ 90) (hde : de ≤ 9) (hb : b ≤ 1) (hroom : usN g t + le ≤ g (7 + t)) : WS (acG g t le we de b) := by
  obtain ⟨w1, w2, w3, w4, w5, w6, w7, w8⟩ := W
  have t8 : t < 8 := by omega
  have lo : ∀ {k}, k < 31 → k ≠ 1 → k ≠ 2 → acG g t le we de b k = g k := fun a b c => ac_lo a b c
  refine ⟨fun i hi => ?_, fun i hi => ?_, fun i hi => ?_, fun i j hi hj hl => ?_, ?_, fun i hi => ?_, fun i j hij hj => ?_, fun i p hi hp => ?_⟩
  · rw [lo (by omega) (by omega) (by omega), lo (by omega) (by omega) (by omega)]; exact w1 i hi
  · rw [lo (by omega) (by omega) (by omega)] at hi
    rw [lo (by omega) (by omega) (by omega), us_ac t8 hm]
    have := w2 i hi
    refine ⟨this.1, ?_⟩
    by_cases c : t = i
    · rw [if_pos c]
      subst c
      exact hroom
    · rw [if_neg c]; omega
  · rw [lo (by omega) (by omega) (by omega)]; exact w3 i hi
  · unfold lkN at hl ⊢
    rw [lo (by omega) (by omega) (by omega)] at hl ⊢
    rw [lo (by omega) (by omega) (by omega)]
    exact w4 i j hi hj hl
  · rw [ac_1, ← w5]
    have a := sN_upd (f := fun t => g (31 + t)) (u := t) (x := g (31 + t) + 1) (n := 8) t8
    have e : sN (fun i => acG g t le we de b (31 + i)) 8 = sN (un (fun t => g (31 + t)) t (g (31 + t) + 1)) 8 := sN_congr (fun i hi => by
      try simp only
      rw [ac_h t8 hi, un_v])
    rw [e]
    try simp only at a
    omega
  · rw [ac_1] at hi
    rw [ac_39 t8 hm (by omega), ac_59 t8 hm (by omega), ac_79 t8 hm (by omega), ac_99 t8 hm (by omega), ac_119 t8 hm (by omega), ac_139 t8 hm (by omega), ac_159 t8 hm (by omega), ac_2, lo (by omega) (by omega) (by omega)]
    by_cases c : i = g 1
    · rw [if_pos c, if_pos c, if_pos c, if_pos c, if_pos c, if_pos c, if_pos c, ac_h t8 t8, if_pos rfl]
      omega
    · rw [if_neg c, if_neg c, if_neg c, if_neg c, if_neg c, if_neg c, if_neg c]
      have a := w6 i (by omega)
      rw [ac_h t8 (by omega)]
      refine ⟨by omega, a.2.1, a.2.2.1, a.2.2.2.1, a.2.2.2.2.1, a.2.2.2.2.2.1, ?_⟩
      by_cases d : g (139 + i) = t
      · rw [if_pos d]
        have := a.2.2.2.2.2.2
        rw [d] at this
        omega
      · rw [if_neg d]
        exact a.2.2.2.2.2.2
  · rw [ac_1] at hj
    rw [ac_39 t8 hm (by omega), ac_39 t8 hm (by omega), ac_139 t8 hm (by omega), ac_139 t8 hm (by omega), ac_159 t8 hm (by omega), ac_159 t8 hm (by omega), if_neg (show ¬ i = g 1 by omega), if_neg (show ¬ i = g 1 by omega), if_neg (show ¬ i = g 1 by omega)]
    have a := w6 i (by omega)
    by_cases c : j = g 1
    · rw [if_pos c, if_pos c, if_pos c]
      refine ⟨by omega, fun e => ?_⟩
      have q := a.2.2.2.2.2.2
      rw [e.1] at q
      omega
    · rw [if_neg c, if_neg c, if_neg c]
      exact w7 i j hij (by omega)
  · rw [ac_h t8 hi] at hp
    by_cases c : i = t ∧ p = g (31 + t)
    · refine ⟨g 1, by rw [ac_1]; omega, ?_, ?_⟩
      · rw [ac_139 t8 hm hm, if_pos rfl, c.1]
      · rw [ac_159 t8 hm hm, if_pos rfl, c.2]
    · have hp2 : p < g (31 + i) := by
        by_cases d : i = t
        · rw [if_pos d] at hp
          rw [d]
          omega
        · rw [if_neg d] at hp
          exact hp
      obtain ⟨s', h1, h2, h3⟩ := w8 i p hi hp2
      refine ⟨s', by rw [ac_1]; omega, ?_, ?_⟩
      · rw [ac_139 t8 hm (by omega), if_neg (by omega), h2]
      · rw [ac_159 t8 hm (by omega), if_neg (by omega), h3]
/-- a free slot -/
theorem free_g (hK : K ≤ 5000) (W : WG K g) (C : CRc I g σ) (hm : g 1 < 20) : ∃ u, u < 20 ∧ freeSlot I = nI u ∧ ∀ s, s < g 1 → σ s ≠ u := by
  have hex : ∃ u, u < 20 ∧ ∀ s, s < g 1 → σ s ≠ u := by
    by_cases h : ∃ u, u < 20 ∧ ∀ s, s < g 1 → σ s ≠ u
    · exact h
    · exfalso
      have hc : ∀ u, ∃ s, u < 20 → s < g 1 ∧ σ s = u := fun u => by
        by_cases hu : u < 20
        · by_cases r : ∃ s, s < g 1 ∧ σ s = u
          · obtain ⟨s, hs⟩ := r
            exact ⟨s, fun _ => hs⟩
          · exact absurd ⟨u, hu, fun s hs e => r ⟨s, hs, e⟩⟩ h
        · exact ⟨0, fun e => absurd e hu⟩
      obtain ⟨i, j, hij, hj, he⟩ := php (g 1) (fun u => Classical.choose (hc u)) (fun i hi => (Classical.choose_spec (hc i) (by omega)).1)
      have a := (Classical.choose_spec (hc i) (by omega)).2
      have b := (Classical.choose_spec (hc j) (by omega)).2
      try simp only at he
      rw [he, b] at a
      omega
  obtain ⟨u, hu, hn⟩ := hex
  rcases fnd_or (p := fun s => I 17 s = 0) 20 0 with ⟨-, h2⟩ | ⟨j, -, h2, h3, h4, -⟩
  · exact absurd (C.2.2 u hu hn).1 (h2 u (Nat.zero_le _) (by omega))
  · refine ⟨j, by omega, h4, fun s hs e => ?_⟩
    have q := (C.1 s hs).2.1
    rw [e, h3] at q
    have b := W.car hK hs
    have := nI_inj (a := 0) (by omega) (by omega) q
    omega
theorem en_15 {c0 c1 c2 c3 : Int32} {j : Nat} : enterI I u t c0 c1 c2 c3 15 j = if j = 0 then I 15 0 + 1 else if j = 1 then I 15 1 + 1 else I 15 j := by
  simp [enterI, pushI, up2]
theorem en_17 {c0 c1 c2 c3 : Int32} {j : Nat} : enterI I u t c0 c1 c2 c3 17 j = if j = u then I 15 1 + 1 else I 17 j := by
  simp [enterI, pushI, up2]
theorem en_19 {c0 c1 c2 c3 : Int32} {j : Nat} : enterI I u t c0 c1 c2 c3 19 j = if j = u then c2 else I 19 j := by
  simp [enterI, pushI, up2]
theorem en_21 {c0 c1 c2 c3 : Int32} {j : Nat} : enterI I u t c0 c1 c2 c3 21 j = if j = u then c3 else I 21 j := by
  simp [enterI, pushI, up2]
theorem en_23 {c0 c1 c2 c3 : Int32} {j : Nat} : enterI I u t c0 c1 c2 c3 23 j = if j = u then nI t else I 23 j := by
  simp [enterI, pushI, up2]
theorem en_25 {c0 c1 c2 c3 : Int32} {j : Nat} : enterI I u t c0 c1 c2 c3 25 j = if j = u then I 31 t else I 25 j := by
  simp [enterI, pushI, up2]
theorem en_27 {c0 c1 c2 c3 : Int32} {j : Nat} : enterI I u t c0 c1 c2 c3 27 j = if j = u then c0 else I 27 j := by
  simp [enterI, pushI, up2]
theorem en_29 {c0 c1 c2 c3 : Int32} {j : Nat} : enterI I u t c0 c1 c2 c3 29 j = if j = u then c1 else I 29 j := by
  simp [enterI, pushI, up2]
theorem en_31 {c0 c1 c2 c3 : Int32} {j : Nat} : enterI I u t c0 c1 c2 c3 31 j = if j = t then I 31 t + 1 else I 31 j := by
  simp [enterI, pushI, up2]
theorem en_33 {c0 c1 c2 c3 : Int32} {j : Nat} : enterI I u t c0 c1 c2 c3 33 j = if j = t then I 33 t + c0 else I 33 j := by
  simp [enterI, pushI, up2]
theorem en_ne {c0 c1 c2 c3 : Int32} {a : Nat} (h1 : a ≠ 15) (h2 : a ≠ 17) (h3 : a ≠ 19) (h4 : a ≠ 21) (h5 : a ≠ 23) (h6 : a ≠ 25) (h7 : a ≠ 27) (h8 : a ≠ 29) (h9 : a ≠ 31) (h10 : a ≠ 33) : enterI I u t c0 c1 c2 c3 a = I a := by
  unfold enterI pushI
  rw [up2_ne h10, up2_ne h9, up2_ne h6, up2_ne h5, up2_ne h4, up2_ne h3, up2_ne h8, up2_ne h7, up2_ne h2, up2_ne h1, up2_ne h1]
theorem YR.ac (H : YR K I L (J 397) g σ) (hK1 : K + 1 ≤ 5000) (hm : g 1 < 20) (ht : t < g 0) (hle : 5 ≤ le ∧ le ≤ 30) (hwe : 10 ≤ we ∧ we ≤ 90) (hde : de ≤ 9) (hb : b ≤ 1) (hroom : usN g t + le ≤ g (7 + t)) (hu : u < 20) (hn : ∀ s, s < g 1 → σ s ≠ u) :
    YR (K + 1) (enterI I u t (nI le) (nI we) (nI de) (nI b)) L (accI J (g 1) t (nI le) (nI we) (nI de) (nI b) 397) (acG g t le we de b) (un σ (g 1) u) := by
  obtain ⟨hK, V, W, ⟨s1, s2, s3, s4, s5, s6, s7, s8⟩, T, Hj, C⟩ := H
  have hz := W.1.1
  have n1 := W.1.2.2.1.1
  have n2 := W.1.2.2.1.2
  have t8 : t < 8 := by omega
  have lo : ∀ {k}, k < 31 → k ≠ 1 → k ≠ 2 → acG g t le we de b k = g k := fun a b c => ac_lo a b c
  have num : I 15 1 + 1 = nI (g 2) := by
    rw [s3, nI_1]
    congr 1
    omega
  refine ⟨hK1, ?_, ⟨?_, WS.ac hz W.2 hm ht n1 hle hwe hde hb hroom⟩, ⟨?_, ?_, ?_, ?_, ?_, ?_, ?_, ?_⟩, fun i hi => ?_, fun i j hi hj => ?_, fun i hi => ?_, fun i j hij hj => ?_, fun w hw hwn => ?_⟩
  · unfold accI acG
    exact (((((((((V.up (V 2 (by decide))).up rfl).up rfl).up rfl).up rfl).up rfl).up (V _ (by omega))).up (by rw [V _ (by omega), nI_1])).up (nI_1 _)).up (by rw [V _ (by omega), nI_1])
  · rw [lo (by omega) (by omega) (by omega), ac_1, ac_2, lo (by omega) (by omega) (by omega), lo (by omega) (by omega) (by omega), lo (by omega) (by omega) (by omega), lo (by omega) (by omega) (by omega)]
    have := W.1
    omega
  · rw [en_ne (by decide) (by decide) (by decide) (by decide) (by decide) (by decide) (by decide) (by decide) (by decide) (by decide), lo (by omega) (by omega) (by omega)]; exact s1
  · rw [en_15, if_pos rfl, ac_1, s2, nI_1]
  · rw [en_15, if_neg (by decide), if_pos rfl, ac_2, num]
    congr 1
  · rw [en_ne (by decide) (by decide) (by decide) (by decide) (by decide) (by decide) (by decide) (by decide) (by decide) (by decide), lo (by omega) (by omega) (by omega)]; exact s4
  · rw [en_ne (by decide) (by decide) (by decide) (by decide) (by decide) (by decide) (by decide) (by decide) (by decide) (by decide), lo (by omega) (by omega) (by omega)]; exact s5
  · rw [lo (by omega) (by omega) (by omega)]; exact s6
  · rw [lo (by omega) (by omega) (by omega)]; exact s7
  · rw [en_ne (by decide) (by decide) (by decide) (by decide) (by decide) (by decide) (by decide) (by decide) (by decide) (by decide), lkc_lo (g := g) (lo (by omega) (by omega) (by omega)) (fun i hi => lo (by omega) (by omega) (by omega)) hz]; exact s8
  · obtain ⟨t1, t2, t3, t4⟩ := T i hi
    rw [en_ne (by decide) (by decide) (by decide) (by decide) (by decide) (by decide) (by decide) (by decide) (by decide) (by decide), en_ne (by decide) (by decide) (by decide) (by decide) (by decide) (by decide) (by decide) (by decide) (by decide) (by decide), en_31, en_33, lo (by omega) (by omega) (by omega), lo (by omega) (by omega) (by omega), ac_h t8 hi, us_ac t8 hm]
    refine ⟨t1, t2, ?_, ?_⟩
    · by_cases c : i = t
      · rw [if_pos c, if_pos c, (T t t8).2.2.1, nI_1]
      · rw [if_neg c, if_neg c]; exact t3
    · by_cases c : i = t
      · rw [if_pos c, if_pos c.symm, (T t t8).2.2.2, nI_add, c]
      · rw [if_neg c, if_neg (fun e => c e.symm)]; exact t4
  · rw [en_ne (by decide) (by decide) (by decide) (by decide) (by decide) (by decide) (by decide) (by decide) (by decide) (by decide), lo (by omega) (by omega) (by omega)]
    exact Hj i j hi hj
  · rw [ac_1] at hi
    rw [en_17, en_19, en_21, en_23, en_25, en_27, en_29, ac_39 t8 hm (by omega), ac_59 t8 hm (by omega), ac_79 t8 hm (by omega), ac_99 t8 hm (by omega), ac_119 t8 hm (by omega), ac_139 t8 hm (by omega), ac_159 t8 hm (by omega), un_v]
    by_cases c : i = g 1
    · simp only [if_pos c, if_true]
      exact ⟨hu, num, trivial, trivial, trivial, trivial, trivial, (T t t8).2.2.1⟩
    · have hne : σ i ≠ u := hn i (by omega)
      simp only [if_neg c, if_neg hne]
      exact C.1 i (by omega)
  · rw [ac_1] at hj
    rw [un_v, un_v, if_neg (by omega)]
    by_cases c : j = g 1
    · rw [if_pos c]
      exact hn i (by omega)
    · rw [if_neg c]
      exact C.2.1 i j hij (by omega)
  · rw [ac_1] at hwn
    have e1 : w ≠ u := fun e => by
      have := hwn (g 1) (by omega)
      rw [un_eq] at this
      exact this e.symm
    rw [en_17, en_23, if_neg e1, if_neg e1]
    exact C.2.2 w hw (fun s hs e => by
      have := hwn s (by omega)
      rw [un_ne (by omega)] at this
      exact this e)
theorem rngN {c : Int32} {lo hi : Nat} (hlo : lo < 2 ^ 31) (hhi : hi < 2 ^ 31) (h1 : nI lo ≤ c) (h2 : c ≤ nI hi) : ∃ q, c = nI q ∧ lo ≤ q ∧ q ≤ hi := by
  have a1 := Int32.le_iff_toInt_le.mp h1
  have a2 := Int32.le_iff_toInt_le.mp h2
  rw [nI_toInt hlo] at a1
  rw [nI_toInt hhi] at a2
  obtain ⟨j, hj, e⟩ := nI_of (x := c) (by rw [Int32.lt_iff_toInt_lt]; have : (0 : Int32).toInt = 0 := rfl; omega)
  subst e
  rw [nI_toInt hj] at a1 a2
  exact ⟨j, rfl, by omega, by omega⟩
/-- a car comes: the fault's number of the class, the exception's number of the model -/
theorem cmd_car {b : Int32} (H : YR K I L (J 397) g σ) (hK1 : K + 1 ≤ 5000) (hb : b = 0 ∨ b = 1) (t le we de : Int32) :
    (∃ r, (r = 1 ∨ r = 2 ∨ r = 3) ∧ carF I t le we de = r ∧ accM J (g 1) t le we de b = (0, up2 J 396 12 r)) ∨ (carF I t le we de = 5 ∧ accM J (g 1) t le we de b = (0, up2 J 396 12 4)) ∨
    (carF I t le we de = 0 ∧ hasT I t ∧ ∃ u, u < 20 ∧ freeSlot I = nI u ∧ accM J (g 1) t le we de b = (I 15 1 + 1, up2 (accI J (g 1) t.toNatClampNeg le we de b) 396 12 0) ∧ ∃ g' σ', YR (K + 1) (enterI I u t.toNatClampNeg le we de b) L (accI J (g 1) t.toNatClampNeg le we de b 397) g' σ') := by
  have H0 := H
  obtain ⟨hK, V, W, S, T, Hj, C⟩ := H
  have hz := W.1.1
  have hm := W.1.2.1
  by_cases h1 : hasT I t
  · obtain ⟨x, hx, ex⟩ := (hasT_g S hz t).mp h1
    have h1' : tkM J t := (tkM_g V hz t).mpr ⟨x, hx, ex⟩
    have n1 : ¬ ¬ hasT I t := fun e => e h1
    have n1' : ¬ ¬ tkM J t := fun e => e h1'
    subst ex
    by_cases h2 : (5 ≤ le ∧ le ≤ 30) ∧ (10 ≤ we ∧ we ≤ 90) ∧ (0 ≤ de ∧ de ≤ 9)
    · have n2 : ¬ (¬ (5 ≤ le ∧ le ≤ 30) ∨ ¬ (10 ≤ we ∧ we ≤ 90) ∨ ¬ (0 ≤ de ∧ de ≤ 9)) := fun e => by
        rcases e with e | e | e
        · exact e h2.1
        · exact e h2.2.1
        · exact e h2.2.2
      have n2' : ¬ ¬ ((5 ≤ le ∧ le ≤ 30) ∧ (10 ≤ we ∧ we ≤ 90) ∧ (0 ≤ de ∧ de ≤ 9)) := fun e => e h2
      obtain ⟨l', el, l1, l2⟩ := rngN (lo := 5) (hi := 30) (by omega) (by omega) h2.1.1 h2.1.2
      obtain ⟨w', ew, w1, w2⟩ := rngN (lo := 10) (hi := 90) (by omega) (by omega) h2.2.1.1 h2.2.1.2
      obtain ⟨d', ed, d1, d2⟩ := rngN (lo := 0) (hi := 9) (by omega) (by omega) h2.2.2.1 h2.2.2.2
      have e15 : I 15 0 < 20 ↔ g 1 < 20 := by
        rw [S.2.1]
        exact nI_ltI (b := 20) (by omega) (by omega)
      by_cases h3 : g 1 < 20
      · have n3 : ¬ ¬ I 15 0 < 20 := fun e => e (e15.mpr h3)
        have n3' : ¬ g 1 = 20 := by omega
        have us := (W.2.2.1 x hx).2
        have cb := (W.2.1 x (by omega)).1
        have r1 : I 3 x - I 33 x = nI (g (7 + x) - usN g x) := by rw [(T x (by omega)).1, (T x (by omega)).2.2.2, pk_sub us]
        have r2 : roM J (g 1) x = nI (g (7 + x) - usN g x) := by rw [roM_g hK W V (by omega), pk_sub us]
        by_cases h4 : g (7 + x) - usN g x < l'
        · have h5 : nI (g (7 + x) - usN g x) < le := by rw [el]; exact nI_lt h4 (by omega)
          exact Or.inr (Or.inl ⟨by unfold carF; rw [if_neg n1, if_neg n2, if_neg n3, nI_clamp (by omega), r1, if_pos h5], by unfold accM; rw [if_neg n1', if_neg n2', if_neg n3', nI_clamp (by omega), r2, if_pos h5]⟩)
        · have h5 : ¬ nI (g (7 + x) - usN g x) < le := by rw [el]; exact nI_nlt (by omega) (by omega)
          obtain ⟨u, hu, e2, hn⟩ := free_g hK W C h3
          have num : I 15 1 + 1 = J 397 2 := by
            have := W.1.2.2.1
            rw [S.2.2.1, nI_1, V 2 (by decide)]
            congr 1
            omega
          refine Or.inr (Or.inr ⟨by unfold carF; rw [if_neg n1, if_neg n2, if_neg n3, nI_clamp (by omega), r1, if_neg h5], h1, u, hu, e2, by unfold accM; rw [if_neg n1', if_neg n2', if_neg n3', nI_clamp (by omega), r2, if_neg h5, num], ?_⟩)
          rw [nI_clamp (by omega)]
          rcases hb with eb | eb
          · have R := H0.ac (b := 0) hK1 h3 hx ⟨l1, l2⟩ ⟨w1, w2⟩ d2 (by omega) (by omega) hu hn
            rw [eb, ew, ed, el]
            exact ⟨_, _, R⟩
          · have R := H0.ac (b := 1) hK1 h3 hx ⟨l1, l2⟩ ⟨w1, w2⟩ d2 (by omega) (by omega) hu hn
            rw [eb, ew, ed, el]
            exact ⟨_, _, R⟩
      · have n3 : ¬ I 15 0 < 20 := fun e => h3 (e15.mp e)
        have n3' : g 1 = 20 := by omega
        exact Or.inl ⟨3, by decide, by unfold carF; rw [if_neg n1, if_neg n2, if_pos n3], by unfold accM; rw [if_neg n1', if_neg n2', if_pos n3']⟩
    · have n2 : ¬ (5 ≤ le ∧ le ≤ 30) ∨ ¬ (10 ≤ we ∧ we ≤ 90) ∨ ¬ (0 ≤ de ∧ de ≤ 9) := by
        by_cases p1 : 5 ≤ le ∧ le ≤ 30
        · by_cases p2 : 10 ≤ we ∧ we ≤ 90
          · exact Or.inr (Or.inr (fun p3 => h2 ⟨p1, p2, p3⟩))
          · exact Or.inr (Or.inl p2)
        · exact Or.inl p1
      exact Or.inl ⟨2, by decide, by unfold carF; rw [if_neg n1, if_pos n2], by unfold accM; rw [if_neg n1', if_pos h2]⟩
  · have h1' : ¬ tkM J t := fun e => h1 ((hasT_g S hz t).mpr ((tkM_g V hz t).mp e))
    exact Or.inl ⟨1, by decide, by unfold carF; rw [if_pos h1], by unfold accM; rw [if_pos h1']⟩
/-- a new track -/
theorem cmd_track (H : YR K I L (J 397) g σ) (hK1 : K + 1 ≤ 5000) (c e : Int32) :
    (trackF I c e = 2 ∧ adtM J (g 0) c e = (0, up2 J 396 12 1)) ∨ (trackF I c e = 3 ∧ adtM J (g 0) c e = (0, up2 J 396 12 2)) ∨
    (trackF I c e = 0 ∧ g 0 < 8 ∧ adtM J (g 0) c e = (nI (g 0), up2 (up2 (up2 (up2 J 397 (7 + g 0) c) 397 (15 + g 0) e) 397 0 (nI (g 0) + 1)) 396 12 0) ∧ ∃ g', YR (K + 1) (buildI I (g 0) c e) L (up2 (up2 (up2 J 397 (7 + g 0) c) 397 (15 + g 0) e) 397 0 (nI (g 0) + 1) 397) g' σ) := by
  have H0 := H
  obtain ⟨hK, V, W, S, T, Hj, C⟩ := H
  have hz := W.1.1
  by_cases h1 : (10 ≤ c ∧ c ≤ 200) ∧ (0 ≤ e ∧ e ≤ 5)
  · have n1 : ¬ (¬ (10 ≤ c ∧ c ≤ 200) ∨ ¬ (0 ≤ e ∧ e ≤ 5)) := fun q => by
      rcases q with q | q
      · exact q h1.1
      · exact q h1.2
    have n1' : ¬ ¬ ((10 ≤ c ∧ c ≤ 200) ∧ (0 ≤ e ∧ e ≤ 5)) := fun q => q h1
    have e6 : I 6 0 < 8 ↔ g 0 < 8 := by
      rw [S.1]
      exact nI_ltI (b := 8) (by omega) (by omega)
    by_cases h2 : g 0 < 8
    · have n2 : ¬ g 0 = 8 := by omega
      obtain ⟨c', ec, c1, c2⟩ := rngN (lo := 10) (hi := 200) (by omega) (by omega) h1.1.1 h1.1.2
      obtain ⟨d', ed, d1, d2⟩ := rngN (lo := 0) (hi := 5) (by omega) (by omega) h1.2.1 h1.2.2
      refine Or.inr (Or.inr ⟨by unfold trackF; rw [if_neg n1, if_pos (e6.mpr h2)], h2, by unfold adtM; rw [if_neg n1', if_neg n2], ?_⟩)
      rw [ec, ed]
      exact ⟨_, cmd_build H0 hK1 h2 ⟨c1, c2⟩ d2⟩
    · have n2 : g 0 = 8 := by omega
      exact Or.inr (Or.inl ⟨by unfold trackF; rw [if_neg n1, if_neg (fun q => h2 (e6.mp q))], by unfold adtM; rw [if_neg n1', if_pos n2]⟩)
  · have n1 : ¬ (10 ≤ c ∧ c ≤ 200) ∨ ¬ (0 ≤ e ∧ e ≤ 5) := by
      by_cases p : 10 ≤ c ∧ c ≤ 200
      · exact Or.inr (fun q => h1 ⟨p, q⟩)
      · exact Or.inl p
    exact Or.inl ⟨by unfold trackF; rw [if_pos n1], by unfold adtM; rw [if_pos h1]⟩
end YEN
