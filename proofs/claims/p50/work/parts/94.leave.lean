/-! a car leaves: class and model -/
section YLV
variable {K : Nat} {I J : HI} {L : HL} {g g' σ : Nat → Nat} {x y s t i k u z : Nat}
def upE (s i : Nat) : Nat := if i < s then i else i + 1
def lv9 (g : Nat → Nat) (s : Nat) : Nat → Nat := un (un (un g 4 (g 4 + 1)) 6 (g 6 + g (79 + s))) (31 + g (139 + s)) (g (31 + g (139 + s)) - 1)
def lvG (g : Nat → Nat) (s : Nat) : Nat → Nat := fun k => if k < 39 then un (lv9 g s) 1 (g 1 - 1) k else if (k - 39) % 20 < s then g k else if (k - 39) % 20 < 19 then g (k + 1) else 0
theorem lv_1 : lvG g s 1 = g 1 - 1 := by
  unfold lvG
  rw [if_pos (by omega), un_eq]
theorem lv_4 : lvG g s 4 = g 4 + 1 := by
  unfold lvG lv9
  rw [if_pos (by omega), un_ne (by omega), un_ne (by omega), un_ne (by omega), un_eq]
theorem lv_6 : lvG g s 6 = g 6 + g (79 + s) := by
  unfold lvG lv9
  rw [if_pos (by omega), un_ne (by omega), un_ne (by omega), un_eq]
theorem lv_lo (h : k < 31) (h1 : k ≠ 1) (h4 : k ≠ 4) (h6 : k ≠ 6) : lvG g s k = g k := by
  unfold lvG lv9
  rw [if_pos (by omega), un_ne (by omega), un_ne (by omega), un_ne (by omega), un_ne (by omega)]
theorem lv_h (ht : t < 8) : lvG g s (31 + t) = if t = g (139 + s) then g (31 + t) - 1 else g (31 + t) := by
  unfold lvG lv9
  rw [if_pos (by omega), un_ne (by omega)]
  by_cases c : t = g (139 + s)
  · rw [if_pos c, c, un_eq]
  · rw [if_neg c, un_ne (by omega), un_ne (by omega), un_ne (by omega)]
theorem lv_r {off : Nat} (h : 39 ≤ off) (h2 : (off - 39) % 20 = 0) (hi : i < 19) : lvG g s (off + i) = g (off + upE s i) := by
  unfold lvG upE
  rw [if_neg (by omega)]
  have e : (off + i - 39) % 20 = i := by omega
  rw [e]
  by_cases c : i < s
  · rw [if_pos c, if_pos c]
  · rw [if_neg c, if_neg c, if_pos hi]
    rfl
theorem lvS_v {at9 : Nat} (hs : s < 20) (J : HI) : ∀ x, fo (lvS at9) (20 - s) s J 397 x = if at9 + s ≤ x ∧ x < at9 + 20 then (if x - at9 < 19 then J 397 (x + 1) else 0) else J 397 x := by
  have H := fo_at (e := 20) (P := fun k (J' : HI) => s ≤ k ∧ ∀ x, J' 397 x = if at9 + s ≤ x ∧ x < at9 + k then (if x - at9 < 19 then J 397 (x + 1) else 0) else J 397 x) (f := lvS at9) (fun k J' hk hJ => by
    refine ⟨by have := hJ.1; omega, fun x => ?_⟩
    have hsk := hJ.1
    unfold lvS
    rw [up2_v]
    by_cases c : x = at9 + k
    · have c2 : at9 + s ≤ x ∧ x < at9 + (k + 1) := by omega
      rw [if_pos c, if_pos c2]
      by_cases d : k < 19
      · have d2 : x - at9 < 19 := by omega
        rw [if_pos d, if_pos d2, hJ.2, if_neg (by omega), c]
      · have d2 : ¬ x - at9 < 19 := by omega
        rw [if_neg d, if_neg d2]
    · rw [if_neg c, hJ.2]
      by_cases d : at9 + s ≤ x ∧ x < at9 + k
      · have d2 : at9 + s ≤ x ∧ x < at9 + (k + 1) := by omega
        rw [if_pos d, if_pos d2]
      · have d2 : ¬ (at9 + s ≤ x ∧ x < at9 + (k + 1)) := by omega
        rw [if_neg d, if_neg d2]) (20 - s) s J (by omega) ⟨Nat.le_refl _, fun x => by rw [if_neg (by omega)]⟩
  exact H.2
theorem lvR_v (hs : s < 20) (J : HI) : ∀ x, x < 179 → fo (lvR s) 7 0 J 397 x = if x < 39 then J 397 x else if (x - 39) % 20 < s then J 397 x else if (x - 39) % 20 < 19 then J 397 (x + 1) else 0 := by
  have H := fo_at (e := 7) (P := fun j (J' : HI) => ∀ x, J' 397 x = if 39 ≤ x ∧ x < 39 + 20 * j then (if (x - 39) % 20 < s then J 397 x else if (x - 39) % 20 < 19 then J 397 (x + 1) else 0) else J 397 x) (f := lvR s) (fun j J' hj hJ => by
    intro x
    unfold lvR
    rw [lvS_v hs]
    by_cases c : 39 + 20 * j + s ≤ x ∧ x < 39 + 20 * j + 20
    · have e : (x - 39) % 20 = x - (39 + 20 * j) := by omega
      have c2 : 39 ≤ x ∧ x < 39 + 20 * (j + 1) := by omega
      have c3 : ¬ x - (39 + 20 * j) < s := by omega
      rw [if_pos c, if_pos c2, e, if_neg c3]
      by_cases d : x - (39 + 20 * j) < 19
      · rw [if_pos d, if_pos d, hJ, if_neg (by omega)]
      · rw [if_neg d, if_neg d]
    · rw [if_neg c, hJ]
      by_cases d : 39 ≤ x ∧ x < 39 + 20 * j
      · have d2 : 39 ≤ x ∧ x < 39 + 20 * (j + 1) := by omega
        rw [if_pos d, if_pos d2]
      · rw [if_neg d]
        by_cases e : 39 ≤ x ∧ x < 39 + 20 * (j + 1)
        · have e2 : (x - 39) % 20 < s := by omega
          rw [if_pos e, if_pos e2]
        · rw [if_neg e]) 7 0 J (by omega) (fun x => by rw [if_neg (by omega)])
  intro x hx
  rw [H x]
  by_cases c : x < 39
  · rw [if_pos c, if_neg (by omega)]
  · rw [if_neg c, if_pos (by omega)]
theorem lvM_g (V : GV (J 397) g) (hs : s < g 1) (hm : g 1 ≤ 20) (ht : g (139 + s) < 8) (hh : 1 ≤ g (31 + g (139 + s))) : GV (lvM J (g 1) s 397) (lvG g s) := by
  have e9 : GV (lv0 J s 397) (lv9 g s) := by
    unfold lv0 lv9
    rw [V (139 + s) (by omega), nI_clamp (by omega)]
    refine ((V.up ?_).up ?_).up ?_
    · rw [V 4 (by decide), nI_1]
    · rw [V 6 (by decide), V (79 + s) (by omega), nI_add]
    · rw [V _ (by omega), show (1 : Int32) = nI 1 from rfl, pk_sub hh]
  intro k hk
  unfold lvM
  rw [up2_v]
  by_cases c : k = 1
  · rw [if_pos c, c, lv_1, show (1 : Int32) = nI 1 from rfl, pk_sub (by omega)]
  · rw [if_neg c, lvR_v (by omega) _ k hk]
    unfold lvG
    have e10 : ∀ k, 39 ≤ k → lv9 g s k = g k := fun k hk => by
      unfold lv9
      rw [un_ne (by omega), un_ne (by omega), un_ne (by omega)]
    by_cases d : k < 39
    · rw [if_pos d, if_pos d, e9 k hk, un_ne c]
    · rw [if_neg d, if_neg d]
      by_cases e : (k - 39) % 20 < s
      · rw [if_pos e, if_pos e, e9 k hk, e10 k (by omega)]
      · rw [if_neg e, if_neg e]
        by_cases f : (k - 39) % 20 < 19
        · rw [if_pos f, if_pos f, e9 (k + 1) (by omega), e10 _ (by omega)]
        · rw [if_neg f, if_neg f]; rfl
theorem upE_ne (s i : Nat) : upE s i ≠ s := by
  unfold upE
  split <;> omega
theorem upE_lt {m : Nat} (hs : s < m) (hi : i < m - 1) : upE s i < m := by
  unfold upE
  split <;> omega
theorem upE_inj {j : Nat} (h : upE s i = upE s j) : i = j := by
  unfold upE at h
  split at h <;> split at h <;> omega
theorem upE_sur {m : Nat} (hu : u < m) (hne : u ≠ s) (hs : s < m) : ∃ i, i < m - 1 ∧ upE s i = u := by
  by_cases c : u < s
  · exact ⟨u, by omega, if_pos c⟩
  · exact ⟨u - 1, by omega, by unfold upE; rw [if_neg (by omega)]; omega⟩
theorem upE_mono {j : Nat} (h : i < j) : upE s i < upE s j := by
  unfold upE
  split <;> split <;> omega
theorem sN_del {f : Nat → Nat} {m : Nat} (hs : s < m) : sN (fun i => f (upE s i)) (m - 1) + f s = sN f m := by
  have a := sN_upd (f := f) (u := s) (x := 0) (n := m) hs
  have b := sN_re (σ := upE s) (f := fun i => f (upE s i)) (n := m) (m := m - 1) (un f s 0) (fun i hi => ⟨upE_lt hs hi, un_ne (upE_ne s i)⟩) (fun i j hij hj e => by have := upE_inj e; omega) (fun u hu hn => by
    by_cases c : u = s
    · rw [c, un_eq]
    · obtain ⟨i, hi, e⟩ := upE_sur hu c hs
      exact absurd e (hn i hi))
  omega
theorem us_lv (hm : g 1 ≤ 20) (hs : s < g 1) : usN (lvG g s) t + (if g (139 + s) = t then g (59 + s) else 0) = usN g t := by
  have a := sN_del (f := fun i => if g (139 + i) = t then g (59 + i) else 0) hs
  have b : usN (lvG g s) t = sN (fun i => if g (139 + upE s i) = t then g (59 + upE s i) else 0) (g 1 - 1) := by
    unfold usN
    rw [lv_1]
    refine sN_congr (fun i hi => ?_)
    try simp only
    rw [lv_r (by omega) (by omega) (by omega), lv_r (by omega) (by omega) (by omega)]
  rw [b]
  exact a
theorem WS.lv (hz : g 0 ≤ 8) (hm : g 1 ≤ 20) (W : WS g) (hs : s < g 1) (hsp : g (159 + s) + 1 = g (31 + g (139 + s))) : WS (lvG g s) := by
  obtain ⟨w1, w2, w3, w4, w5, w6, w7, w8⟩ := W
  have t8 : g (139 + s) < 8 := by have := (w6 s hs).2.2.2.2.2.1; omega
  have lo : ∀ {k}, k < 31 → k ≠ 1 → k ≠ 4 → k ≠ 6 → lvG g s k = g k := fun a b c d => lv_lo a b c d
  have pd : ∀ s', s' < g 1 → s' ≠ s → g (139 + s') = g (139 + s) → g (159 + s') + 1 < g (31 + g (139 + s)) := fun s' hs' hne ht => by
    have a := (w6 s' hs').2.2.2.2.2.2
    rw [ht] at a
    have b : g (159 + s') ≠ g (159 + s) := fun e => by
      rcases Nat.lt_trichotomy s' s with c | c | c
      · exact (w7 s' s c hs).2 ⟨ht, e⟩
      · exact hne c
      · exact (w7 s s' c hs').2 ⟨ht.symm, e.symm⟩
    omega
  refine ⟨fun t ht => ?_, fun t ht => ?_, fun i hi => ?_, fun i j hi hj hl => ?_, ?_, fun i hi => ?_, fun i j hij hj => ?_, fun t p ht hp => ?_⟩
  · rw [lo (by omega) (by omega) (by omega) (by omega), lo (by omega) (by omega) (by omega) (by omega)]; exact w1 t ht
  · rw [lo (by omega) (by omega) (by omega) (by omega)] at ht
    rw [lo (by omega) (by omega) (by omega) (by omega)]
    have a := us_lv (t := t) hm hs
    have b := w2 t ht
    exact ⟨b.1, by omega⟩
  · rw [lo (by omega) (by omega) (by omega) (by omega)]; exact w3 i hi
  · unfold lkN at hl ⊢
    rw [lo (by omega) (by omega) (by omega) (by omega)] at hl ⊢
    rw [lo (by omega) (by omega) (by omega) (by omega)]
    exact w4 i j hi hj hl
  · have a := sN_upd (f := fun t => g (31 + t)) (u := g (139 + s)) (x := g (31 + g (139 + s)) - 1) (n := 8) t8
    have e : sN (fun i => lvG g s (31 + i)) 8 = sN (un (fun t => g (31 + t)) (g (139 + s)) (g (31 + g (139 + s)) - 1)) 8 := sN_congr (fun i hi => by
      try simp only
      rw [lv_h hi, un_v]
      by_cases c : i = g (139 + s)
      · rw [if_pos c, if_pos c, c]
      · rw [if_neg c, if_neg c])
    rw [e, lv_1]
    try simp only at a
    omega
  · rw [lv_1] at hi
    have hu := upE_lt hs hi
    have a := w6 _ hu
    rw [lv_r (by omega) (by omega) (by omega), lv_r (by omega) (by omega) (by omega), lv_r (by omega) (by omega) (by omega), lv_r (by omega) (by omega) (by omega), lv_r (by omega) (by omega) (by omega), lv_r (by omega) (by omega) (by omega), lv_r (by omega) (by omega) (by omega), lo (by omega) (by omega) (by omega) (by omega), lo (by omega) (by omega) (by omega) (by omega), lv_h (by omega)]
    refine ⟨a.1, a.2.1, a.2.2.1, a.2.2.2.1, a.2.2.2.2.1, a.2.2.2.2.2.1, ?_⟩
    by_cases c : g (139 + upE s i) = g (139 + s)
    · rw [if_pos c]
      have := pd _ hu (upE_ne s i) c
      rw [c]
      omega
    · rw [if_neg c]
      exact a.2.2.2.2.2.2
  · rw [lv_1] at hj
    have hu := upE_lt hs hj
    have hu2 := upE_mono (s := s) hij
    rw [lv_r (by omega) (by omega) (by omega), lv_r (by omega) (by omega) (by omega), lv_r (by omega) (by omega) (by omega), lv_r (by omega) (by omega) (by omega), lv_r (by omega) (by omega) (by omega), lv_r (by omega) (by omega) (by omega)]
    exact w7 _ _ hu2 hu
  · rw [lv_h ht] at hp
    have hp2 : p < g (31 + t) ∧ (t = g (139 + s) → p + 1 < g (31 + g (139 + s))) := by
      by_cases d : t = g (139 + s)
      · rw [if_pos d] at hp
        exact ⟨by omega, fun _ => by rw [d] at hp; omega⟩
      · rw [if_neg d] at hp
        exact ⟨hp, fun e => absurd e d⟩
    obtain ⟨s', h1, h2, h3⟩ := w8 t p ht hp2.1
    have hne : s' ≠ s := fun e => by
      subst e
      have := hp2.2 h2.symm
      omega
    obtain ⟨i, hi, e⟩ := upE_sur h1 hne hs
    refine ⟨i, by rw [lv_1]; exact hi, ?_, ?_⟩
    · rw [lv_r (by omega) (by omega) (by omega), e, h2]
    · rw [lv_r (by omega) (by omega) (by omega), e, h3]
theorem le_ne {a : Nat} (h1 : a ≠ 31) (h2 : a ≠ 33) (h3 : a ≠ 17) (h4 : a ≠ 23) (h5 : a ≠ 15) : leaveI I u x a = I a := by
  unfold leaveI popI
  rw [up2_ne h5, up2_ne h4, up2_ne h3, up2_ne h2, up2_ne h1]
theorem le_15 {j : Nat} : leaveI I u x 15 j = if j = 0 then I 15 0 - 1 else I 15 j := by
  simp [leaveI, popI, up2]
theorem le_17 {j : Nat} : leaveI I u x 17 j = if j = u then 0 else I 17 j := by
  simp [leaveI, popI, up2]
theorem le_23 {j : Nat} : leaveI I u x 23 j = if j = u then -1 else I 23 j := by
  simp [leaveI, popI, up2]
theorem le_31 {j : Nat} : leaveI I u x 31 j = if j = x then I 31 x + -1 else I 31 j := by
  simp [leaveI, popI, up2]
theorem le_33 {j : Nat} : leaveI I u x 33 j = if j = x then I 33 x + -I 27 u else I 33 j := by
  simp [leaveI, popI, up2]
/-- the state while a train leaves: the class's totals of what is gone aside -/
def LV (K : Nat) (I J : HI) (g σ : Nat → Nat) : Prop := K ≤ 5000 ∧ GV (J 397) g ∧ WG K g ∧ (g 4 + g 1 ≤ 20 * K ∧ g 6 + 90 * g 1 ≤ 1800 * K) ∧ (I 6 0 = nI (g 0) ∧ I 15 0 = nI (g 1) ∧ I 15 1 = nI (g 2 - 1) ∧ I 1 5 = nI (g 3) ∧ I 6 1 = nI (lkc g)) ∧ CRt I g ∧ CRj I g ∧ CRc I g σ
theorem LV.st (H : LV K I J g σ) (hs : s < g 1) (hst : g (139 + s) = x) (hsp : g (159 + s) + 1 = g (31 + x)) : LV K (leaveI I (σ s) x) (lvM J (g 1) s) (lvG g s) (fun i => σ (upE s i)) := by
  obtain ⟨hK, V, W, ⟨l1, l2⟩, ⟨s1, s2, s3, s4, s8⟩, T, Hj, C⟩ := H
  have hz := W.1.1
  have hm := W.1.2.1
  have cb := W.car hK hs
  subst hst
  have x8 : g (139 + s) < 8 := by omega
  have lo : ∀ {k}, k < 31 → k ≠ 1 → k ≠ 4 → k ≠ 6 → lvG g s k = g k := fun a b c d => lv_lo a b c d
  have cs := (C.1 s hs).2.2.1
  refine ⟨hK, lvM_g V hs hm x8 (by omega), ⟨?_, WS.lv hz hm W.2 hs hsp⟩, ?_, ⟨?_, ?_, ?_, ?_, ?_⟩, fun t ht => ?_, fun i j hi hj => ?_, fun i hi => ?_, fun i j hij hj => ?_, fun u hu hn => ?_⟩
  · rw [lo (by omega) (by omega) (by omega) (by omega), lv_1, lo (by omega) (by omega) (by omega) (by omega), lo (by omega) (by omega) (by omega) (by omega), lv_4, lo (by omega) (by omega) (by omega) (by omega), lv_6]
    have := W.1
    omega
  · rw [lv_4, lv_1, lv_6]
    omega
  · rw [le_ne (by decide) (by decide) (by decide) (by decide) (by decide), lo (by omega) (by omega) (by omega) (by omega)]; exact s1
  · rw [le_15, if_pos rfl, lv_1, s2, show (1 : Int32) = nI 1 from rfl, pk_sub (by omega)]
  · rw [le_15, if_neg (by decide), lo (by omega) (by omega) (by omega) (by omega)]; exact s3
  · rw [le_ne (by decide) (by decide) (by decide) (by decide) (by decide), lo (by omega) (by omega) (by omega) (by omega)]; exact s4
  · rw [le_ne (by decide) (by decide) (by decide) (by decide) (by decide), lkc_lo (g := g) (lo (by omega) (by omega) (by omega) (by omega)) (fun i hi => lo (by omega) (by omega) (by omega) (by omega)) hz]; exact s8
  · obtain ⟨t1, t2, t3, t4⟩ := T t ht
    have a := us_lv (t := t) hm hs
    rw [le_ne (by decide) (by decide) (by decide) (by decide) (by decide), le_ne (by decide) (by decide) (by decide) (by decide) (by decide), le_31, le_33, lo (by omega) (by omega) (by omega) (by omega), lo (by omega) (by omega) (by omega) (by omega), lv_h ht, cs]
    refine ⟨t1, t2, ?_, ?_⟩
    · by_cases c : t = g (139 + s)
      · rw [if_pos c, if_pos c, ← c, t3, show (-1 : Int32) = -nI 1 from rfl, nI_addneg (by rw [c]; omega)]
      · rw [if_neg c, if_neg c]; exact t3
    · by_cases c : t = g (139 + s)
      · rw [if_pos c.symm] at a
        rw [if_pos c, ← c, t4, nI_addneg (by omega)]
        congr 1
        omega
      · rw [if_neg (fun e => c e.symm)] at a
        rw [if_neg c, t4]
        congr 1
        omega
  · rw [le_ne (by decide) (by decide) (by decide) (by decide) (by decide), lo (by omega) (by omega) (by omega) (by omega)]
    exact Hj i j hi hj
  · rw [lv_1] at hi
    have hu := upE_lt hs hi
    have hne : σ (upE s i) ≠ σ s := fun e => upE_ne s i (C.eqσ hu hs e)
    rw [le_17, le_23, le_ne (by decide) (by decide) (by decide) (by decide) (by decide), le_ne (by decide) (by decide) (by decide) (by decide) (by decide), le_ne (by decide) (by decide) (by decide) (by decide) (by decide), le_ne (by decide) (by decide) (by decide) (by decide) (by decide), le_ne (by decide) (by decide) (by decide) (by decide) (by decide), if_neg hne, if_neg hne, lv_r (by omega) (by omega) (by omega), lv_r (by omega) (by omega) (by omega), lv_r (by omega) (by omega) (by omega), lv_r (by omega) (by omega) (by omega), lv_r (by omega) (by omega) (by omega), lv_r (by omega) (by omega) (by omega), lv_r (by omega) (by omega) (by omega)]
    exact C.1 _ hu
  · rw [lv_1] at hj
    exact C.2.1 _ _ (upE_mono hij) (upE_lt hs hj)
  · rw [lv_1] at hn
    rw [le_17, le_23]
    by_cases c : u = σ s
    · rw [if_pos c, if_pos c]; exact ⟨rfl, rfl⟩
    · rw [if_neg c, if_neg c]
      exact C.2.2 u hu (fun s' hs' e => by
        by_cases d : s' = s
        · exact c (by rw [← e, d])
        · obtain ⟨i, hi, e2⟩ := upE_sur hs' d hs
          exact hn i hi (by show σ (upE s i) = u; rw [e2]; exact e))
end YLV
