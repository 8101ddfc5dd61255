/-! shunting: class and model -/
section YSU
variable {K : Nat} {I J : HI} {L : HL} {g g' σ : Nat → Nat} {x y s t i k u : Nat}
theorem nI_addneg {a b : Nat} (h : b ≤ a) : nI a + -nI b = nI (a - b) := by rw [← Int32.sub_eq_add_neg, pk_sub h]
theorem popS_g (hK : K ≤ 5000) (W : WG K g) (T : CRt I g) (H : CRc I g σ) (hx : x < 8) (hh : 1 ≤ g (31 + x)) : slotAt I (nI x) (I 31 x - 1) = nI (σ (atS g x (g (31 + x) - 1))) ∧ popS I x = σ (atS g x (g (31 + x) - 1)) ∧ popOK I x := by
  have a := atS_spec W hx (p := g (31 + x) - 1) (by omega)
  have b := (H.1 _ a.1).1
  have e : slotAt I (nI x) (I 31 x - 1) = nI (σ (atS g x (g (31 + x) - 1))) := by
    rw [(T x hx).2.2.1, show (1 : Int32) = nI 1 from rfl, pk_sub hh]
    exact slotAt_s hK W H hx (by omega)
  have e2 : popS I x = σ (atS g x (g (31 + x) - 1)) := by
    unfold popS
    rw [e, nI_clamp (by omega)]
  refine ⟨e, e2, ?_⟩
  unfold popOK
  rw [e2]
  exact ⟨b, e⟩
def mvC (I : HI) (x y u : Nat) : HI := pushI (popI I u x) u y
theorem mvC_ne {a : Nat} (h1 : a ≠ 23) (h2 : a ≠ 25) (h3 : a ≠ 31) (h4 : a ≠ 33) : mvC I x y u a = I a := by
  unfold mvC pushI popI
  rw [up2_ne h4, up2_ne h3, up2_ne h2, up2_ne h1, up2_ne h4, up2_ne h3]
theorem mvC_23 {j : Nat} : mvC I x y u 23 j = if j = u then nI y else I 23 j := by
  simp [mvC, pushI, popI, up2]
theorem mvC_25 {j : Nat} (h : x ≠ y) : mvC I x y u 25 j = if j = u then I 31 y else I 25 j := by
  have h' : ¬ y = x := fun e => h e.symm
  simp [mvC, pushI, popI, up2, h']
theorem mvC_31 {j : Nat} (h : x ≠ y) : mvC I x y u 31 j = if j = y then I 31 y + 1 else if j = x then I 31 x + -1 else I 31 j := by
  have h' : ¬ y = x := fun e => h e.symm
  simp [mvC, pushI, popI, up2, h']
theorem mvC_33 {j : Nat} (h : x ≠ y) : mvC I x y u 33 j = if j = y then I 33 y + I 27 u else if j = x then I 33 x + -I 27 u else I 33 j := by
  have h' : ¬ y = x := fun e => h e.symm
  simp [mvC, pushI, popI, up2, h']
theorem lkc_lo (h0 : g' 0 = g 0) (h : ∀ i, i < 8 → g' (23 + i) = g (23 + i)) (hz : g 0 ≤ 8) : lkc g' = lkc g := by
  unfold lkc
  rw [h0]
  refine sN_congr (fun i hi => ?_)
  try simp only
  rw [h i (by omega)]
theorem YR.mv (H : YR K I L (J 397) g σ) (hx : x < g 0) (hy : y < g 0) (hxy : x ≠ y) (hs : s < g 1) (hst : g (139 + s) = x) (hsp : g (159 + s) + 1 = g (31 + x)) (hroom : usN g y + g (59 + s) ≤ g (7 + y)) : YR K (mvC I x y (σ s)) L (mvM J x y s 397) (mvG g x y s) σ := by
  obtain ⟨hK, V, W, S, T, Hj, C⟩ := H
  have hz := W.1.1
  have hm := W.1.2.1
  have x8 : x < 8 := by omega
  have y8 : y < 8 := by omega
  have s20 : s < 20 := by omega
  refine ⟨hK, ?_, ⟨?_, W.2.mv hz hm hx hy hxy hs hst hsp hroom⟩, ?_, fun t ht => ?_, fun i j hi hj => ?_, fun i hi => ?_, fun i j hij hj => ?_, fun u hu hn => ?_⟩
  · refine (((V.up (k := 139 + s) (v := y) rfl).up (k := 159 + s) (v := g (31 + y)) (V _ (by omega))).up (k := 31 + x) (v := g (31 + x) - 1) ?_).up (k := 31 + y) (v := g (31 + y) + 1) ?_
    · rw [V _ (by omega), show (1 : Int32) = nI 1 from rfl, pk_sub (by omega)]
    · rw [V _ (by omega), nI_1]
  · rw [mv_lo (by omega), mv_lo (by omega), mv_lo (by omega), mv_lo (by omega), mv_lo (by omega), mv_lo (by omega), mv_lo (by omega)]
    exact W.1
  · unfold CRs
    rw [mvC_ne (by decide) (by decide) (by decide) (by decide), mvC_ne (by decide) (by decide) (by decide) (by decide), mvC_ne (by decide) (by decide) (by decide) (by decide), lkc_lo (g := g) (mv_lo (by omega)) (fun i hi => mv_lo (by omega)) hz, mv_lo (by omega), mv_lo (by omega), mv_lo (by omega), mv_lo (by omega), mv_lo (by omega), mv_lo (by omega), mv_lo (by omega)]
    exact S
  · obtain ⟨t1, t2, t3, t4⟩ := T t ht
    have a := us_mv (t := t) hm x8 y8 hs
    have cs := (C.1 s hs).2.2.1
    refine ⟨?_, ?_, ?_, ?_⟩
    · rw [mvC_ne (by decide) (by decide) (by decide) (by decide), mv_lo (by omega)]; exact t1
    · rw [mvC_ne (by decide) (by decide) (by decide) (by decide), mv_lo (by omega)]; exact t2
    · rw [mvC_31 hxy, mv_h x8 y8 ht]
      by_cases c : t = y
      · rw [if_pos c, if_pos c, (T y y8).2.2.1, nI_1]
      · rw [if_neg c, if_neg c]
        by_cases d : t = x
        · rw [if_pos d, if_pos d, (T x x8).2.2.1, show (-1 : Int32) = -nI 1 from rfl, nI_addneg (by omega)]
        · rw [if_neg d, if_neg d]; exact t3
    · rw [mvC_33 hxy, cs]
      by_cases c : t = y
      · subst c
        rw [if_neg (by omega), if_pos rfl] at a
        rw [if_pos rfl, t4, nI_add]
        congr 1
        omega
      · rw [if_neg c]
        have yt : ¬ y = t := fun e => c e.symm
        rw [if_neg yt] at a
        by_cases d : t = x
        · subst d
          rw [if_pos hst] at a
          rw [if_pos rfl, t4, nI_addneg (by omega)]
          congr 1
          omega
        · rw [if_neg d]
          rw [if_neg (by omega)] at a
          rw [t4]
          congr 1
          omega
  · rw [mvC_ne (by decide) (by decide) (by decide) (by decide), mv_lo (by omega)]
    exact Hj i j hi hj
  · rw [mv_lo (by omega)] at hi
    obtain ⟨c0, c1, c2, c3, c4, c5, c6, c7⟩ := C.1 i hi
    rw [mvC_ne (by decide) (by decide) (by decide) (by decide), mvC_ne (by decide) (by decide) (by decide) (by decide), mvC_ne (by decide) (by decide) (by decide) (by decide), mvC_ne (by decide) (by decide) (by decide) (by decide), mvC_ne (by decide) (by decide) (by decide) (by decide), mvC_23, mvC_25 hxy, mv_mi x8 y8 (by omega) (by omega), mv_mi x8 y8 (by omega) (by omega), mv_mi x8 y8 (by omega) (by omega), mv_mi x8 y8 (by omega) (by omega), mv_mi x8 y8 (by omega) (by omega), mv_t x8 y8 (by omega), mv_p x8 y8 s20]
    refine ⟨c0, c1, c2, c3, c4, c5, ?_, ?_⟩
    · by_cases c : i = s
      · rw [if_pos (by rw [c]), if_pos c]
      · rw [if_neg (fun e => c (C.eqσ hi hs e)), if_neg c]; exact c6
    · by_cases c : i = s
      · rw [if_pos (by rw [c]), if_pos c]; exact (T y y8).2.2.1
      · rw [if_neg (fun e => c (C.eqσ hi hs e)), if_neg c]; exact c7
  · rw [mv_lo (by omega)] at hj
    exact C.2.1 i j hij hj
  · rw [mv_lo (by omega)] at hn
    rw [mvC_ne (by decide) (by decide) (by decide) (by decide), mvC_23, if_neg (fun e => hn s hs e.symm)]
    exact C.2.2 u hu hn
theorem last_succ {x q off : Nat} : lastN g x (q + 1) off = g (off + atS g x (g (31 + x) - 1)) + sN (fun k => g (off + atS g x (g (31 + x) - 1 - (k + 1)))) q := by
  unfold lastN
  have e : ∀ n (f : Nat → Nat), sN f (n + 1) = f 0 + sN (fun k => f (k + 1)) n := by
    intro n
    induction n with
    | zero => intro f; show 0 + f 0 = f 0 + 0; omega
    | succ n ih =>
      intro f
      show sN f (n + 1) + f (n + 1) = f 0 + (sN (fun k => f (k + 1)) n + f (n + 1))
      rw [ih f]
      omega
  rw [e]
  rfl
theorem at_mv (W : WG K g) (W' : WG K (mvG g x y s)) (hx : x < 8) (hy : y < 8) (hs : s < g 1) (hsp : g (159 + s) + 1 = g (31 + x)) {p : Nat} (hp : p + 1 < g (31 + x)) : atS (mvG g x y s) x p = atS g x p := by
  have hm := W.1.2.1
  have a := atS_spec W hx (p := p) (by omega)
  have hne : atS g x p ≠ s := fun e => by rw [e] at a; omega
  have b := atS_eq W' (s := atS g x p) (by rw [mv_lo (by omega)]; exact a.1)
  rw [mv_t hx hy (by omega), if_neg hne, mv_p hx hy (by omega), if_neg hne, a.2.1, a.2.2] at b
  exact b
theorem mv_loop : ∀ n k I J g, YR K I L (J 397) g σ → x < g 0 → y < g 0 → x ≠ y → n ≤ g (31 + x) → usN g y + lastN g x n 59 ≤ g (7 + y) → mvOK x y n I ∧ okMv (g 1) x y n J ∧ ∃ g', YR K (fo (fun _ J => moveL x y J) n k I) L (fo (mvS (g 1) x y) n k J 397) g' σ ∧ ∀ j, j < 7 → g' j = g j
  | 0, k, I, J, g, H, hx, hy, hxy, hn, hr => ⟨trivial, trivial, g, H, fun j hj => rfl⟩
  | n + 1, k, I, J, g, H, hx, hy, hxy, hn, hr => by
    have hK := H.1
    have V := H.2.1
    have W := H.2.2.1
    have T := H.2.2.2.2.1
    have C := H.2.2.2.2.2.2
    have hz := W.1.1
    have x8 : x < 8 := by omega
    have y8 : y < 8 := by omega
    have a := atS_spec W x8 (p := g (31 + x) - 1) (by omega)
    have pp := popS_g hK W T C x8 (by omega)
    rw [last_succ] at hr
    have H1 := H.mv hx hy hxy a.1 a.2.1 (by omega) (by omega)
    have fe : feM J (g 1) x 0 = nI (atS g x (g (31 + x) - 1)) := feM_at hK W V (k := 0) x8 (by omega)
    have hm := W.1.2.1
    have e1 : moveL x y I = mvC I x y (σ (atS g x (g (31 + x) - 1))) := by
      unfold moveL
      rw [pp.2.1]
      rfl
    have e2 : ∀ k, mvS (g 1) x y k J = mvM J x y (atS g x (g (31 + x) - 1)) := fun k => by
      unfold mvS
      rw [fe, nI_clamp (by omega)]
    have W1 := H1.2.2.1
    have us := us_mv (t := y) hm x8 y8 a.1
    rw [if_neg (by rw [a.2.1]; exact hxy), if_pos rfl] at us
    have ls : lastN (mvG g x y (atS g x (g (31 + x) - 1))) x n 59 = sN (fun k => g (59 + atS g x (g (31 + x) - 1 - (k + 1)))) n := by
      unfold lastN
      refine sN_congr (fun k hk => ?_)
      try simp only
      rw [mv_h x8 y8 x8, if_neg hxy, if_pos rfl, show g (31 + x) - 1 - 1 - k = g (31 + x) - 1 - (k + 1) by omega, at_mv W W1 x8 y8 a.1 (by omega) (by omega)]
      have b := (atS_spec W x8 (p := g (31 + x) - 1 - (k + 1)) (by omega)).1
      rw [mv_mi x8 y8 (by omega) (by omega)]
    have R := mv_loop n (k + 1) (moveL x y I) (mvS (g 1) x y k J) (mvG g x y (atS g x (g (31 + x) - 1))) (by rw [e1, e2]; exact H1) (by rw [mv_lo (by omega)]; exact hx) (by rw [mv_lo (by omega)]; exact hy) hxy (by rw [mv_h x8 y8 x8, if_neg hxy, if_pos rfl]; omega) (by rw [ls, mv_lo (by omega)]; omega)
    rw [mv_lo (by omega)] at R
    obtain ⟨r1, r2, g', r3, r4⟩ := R
    refine ⟨⟨pp.2.2, r1⟩, ⟨⟨_, a.1, fe⟩, by rw [e2] at r2 ⊢; exact r2⟩, g', r3, fun j hj => by rw [r4 j hj, mv_lo (by omega)]⟩
end YSU
