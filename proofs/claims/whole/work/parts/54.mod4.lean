/-! the model: shunting, repairs, trains -/
abbrev PLM (I : HI) (m : Nat) : Prop := ∀ t, t < 8 → ∃ c0, c0 ≤ 20 ∧ I 397 (31 + t) = nI c0 ∧ ∀ p, p < c0 → ∃ s, s < m ∧ slAM I m (nI t) (nI p) = nI s
theorem slAM_congr {I J : HI} {m : Nat} {t p : Int32} (h : J 397 = I 397) : slAM J m t p = slAM I m t p := by unfold slAM; rw [h]
theorem feM_congr {I J : HI} {m t : Nat} {k : Int32} (h : J 397 = I 397) : feM J m t k = feM I m t k := by rw [feM, feM, slAM_congr h, h]
theorem smM_congr {I J : HI} {m a : Nat} {t : Int32} (h : J 397 = I 397) : smM J m t a = smM I m t a := by unfold smM smS; rw [h]
theorem roM_congr {I J : HI} {m t : Nat} (h : J 397 = I 397) : roM J m t = roM I m t := by rw [roM, roM, smM_congr h, h]
theorem PLM_congr {I J : HI} {m : Nat} (h : J 397 = I 397) (g : PLM I m) : PLM J m := by
  intro t ht
  obtain ⟨c0, h1, h2, h3⟩ := g t ht
  exact ⟨c0, h1, by rw [h]; exact h2, fun p hp => by
    obtain ⟨s, q1, q2⟩ := h3 p hp
    exact ⟨s, q1, by rw [slAM_congr h]; exact q2⟩⟩
theorem feM_s {I : HI} {m t c0 k : Nat} (h : I 397 (31 + t) = nI c0) (hp : ∀ p, p < c0 → ∃ s, s < m ∧ slAM I m (nI t) (nI p) = nI s) (hk : k < c0) : ∃ s, s < m ∧ feM I m t (nI k) = nI s := by
  obtain ⟨s, h1, h2⟩ := hp (c0 - 1 - k) (by omega)
  refine ⟨s, h1, ?_⟩
  rw [feM, h, show (1 : Int32) = nI 1 from rfl, nI_subN (by omega), nI_subN (by omega)]
  exact h2
def lnS (I : HI) (m x : Nat) : Nat → Int32 → Int32 := fun k acc => acc + I 397 (59 + (feM I m x (nI k)).toNatClampNeg)
def lnM (I : HI) (m x q : Nat) : Int32 := fo (lnS I m x) q 0 0
def whM (I : HI) (m z : Nat) (a b c : Int32) : Int32 × HI := if ¬ (tkM I a ∧ tkM I b) then (1, I) else if a = b ∨ ¬ (1 ≤ c ∧ c ≤ 9) then (2, I) else if I 397 (31 + a.toNatClampNeg) < c then (3, I)
  else if exM I z b.toNatClampNeg 403 a.toNatClampNeg = 100 then (4, exM I z b.toNatClampNeg) else (if roM (exM I z b.toNatClampNeg) m b.toNatClampNeg < lnM (exM I z b.toNatClampNeg) m a.toNatClampNeg c.toNatClampNeg then 5 else 0, exM I z b.toNatClampNeg)
theorem whM_ne {I : HI} {m z r : Nat} {a b c : Int32} (h : r ≠ 403) : (whM I m z a b c).2 r = I r := by
  unfold whM
  split
  · rfl
  · split
    · rfl
    · split
      · rfl
      · split <;> exact exM_ne h
def miS (I : HI) (m x y : Nat) : Nat → Int32 → Int32 := fun k acc => acc + I 397 (15 + y) * I 397 (119 + (feM I m x (nI k)).toNatClampNeg)
def miM (I : HI) (m z x y q : Nat) : Int32 := fo (miS (exM I z y) m x y) q 0 (2 + exM I z y 403 x)
def mvM (J : HI) (x y s : Nat) : HI := up2 (up2 (up2 (up2 J 397 (139 + s) (nI y)) 397 (159 + s) (J 397 (31 + y))) 397 (31 + x) (J 397 (31 + x) - 1)) 397 (31 + y) (J 397 (31 + y) + 1)
def mvS (m x y : Nat) : Nat → HI → HI := fun _ J => mvM J x y (feM J m x 0).toNatClampNeg
theorem mvS_ne {m x y k r : Nat} {J : HI} (h : r ≠ 397) : mvS m x y k J r = J r := by rw [mvS, mvM, up2_ne h, up2_ne h, up2_ne h, up2_ne h]
theorem mvS_1 {m x y k j : Nat} {J : HI} (h : j < 31) : mvS m x y k J 397 j = J 397 j := by rw [mvS, mvM, up2_i (by omega), up2_i (by omega), up2_i (by omega), up2_i (by omega)]
def okMv (m x y : Nat) : Nat → HI → Prop
  | 0, _ => True
  | n + 1, J => (∃ s, s < m ∧ feM J m x 0 = nI s) ∧ okMv m x y n (mvS m x y 0 J)
def shK (I : HI) (m z x y q : Nat) : HI := fo (mvS m x y) q 0 (exM (exM I z y) z y)
def shuM (I : HI) (m z : Nat) (a b c : Int32) : Int32 × HI := if 0 < (whM I m z a b c).1 then (0, up2 (whM I m z a b c).2 396 12 (whM I m z a b c).1)
  else (miM (exM I z b.toNatClampNeg) m z a.toNatClampNeg b.toNatClampNeg c.toNatClampNeg, up2 (up2 (up2 (shK I m z a.toNatClampNeg b.toNatClampNeg c.toNatClampNeg) 397 5 (shK I m z a.toNatClampNeg b.toNatClampNeg c.toNatClampNeg 397 5 + miM (exM I z b.toNatClampNeg) m z a.toNatClampNeg b.toNatClampNeg c.toNatClampNeg)) 397 3 (shK I m z a.toNatClampNeg b.toNatClampNeg c.toNatClampNeg 397 3 + 1)) 396 12 0)
theorem whM_ok {I : HI} {m z : Nat} {a b c : Int32} (hz8 : z ≤ 8) (hz : I 397 0 = nI z) (hPL : PLM I m) (h : ¬ 0 < (whM I m z a b c).1) : ∃ x y q c0, a = nI x ∧ b = nI y ∧ c = nI q ∧ x < z ∧ y < z ∧ x ≠ y ∧ q ≤ 9 ∧ q ≤ c0 ∧ c0 ≤ 20 ∧ I 397 (31 + x) = nI c0 ∧ (∀ p, p < c0 → ∃ s, s < m ∧ slAM I m (nI x) (nI p) = nI s) ∧ (whM I m z a b c).2 = exM I z y := by
  unfold whM at *
  by_cases h1 : tkM I a ∧ tkM I b
  · rw [if_neg (fun w => w h1)] at *
    by_cases h2 : a = b ∨ ¬ (1 ≤ c ∧ c ≤ 9)
    · rw [if_pos h2] at h
      exact absurd (show (0 : Int32) < 2 by decide) h
    · rw [if_neg h2] at *
      by_cases h3 : I 397 (31 + a.toNatClampNeg) < c
      · rw [if_pos h3] at h
        exact absurd (show (0 : Int32) < 3 by decide) h
      · rw [if_neg h3] at *
        obtain ⟨x, hx, rfl⟩ := tkM_nI hz8 hz h1.1
        obtain ⟨y, hy, rfl⟩ := tkM_nI hz8 hz h1.2
        have hc := Classical.not_not.mp (fun w => h2 (Or.inr w))
        obtain ⟨q, hq, rfl⟩ := nI_le_of (n := 9) (Int32.le_trans (show (0 : Int32) ≤ 1 by decide) hc.1) hc.2 (by decide)
        obtain ⟨c0, g1, g2, g3⟩ := hPL x (by omega)
        have hcx : (nI x).toNatClampNeg = x := nI_clamp (by omega)
        have hcy : (nI y).toNatClampNeg = y := nI_clamp (by omega)
        rw [hcx, g2] at h3
        refine ⟨x, y, q, c0, rfl, rfl, rfl, hx, hy, fun e => h2 (Or.inl (by rw [e])), hq, ?_, g1, g2, g3, ?_⟩
        · have := mt (nI_ltI (a := c0) (b := q) (by omega) (by omega)).mpr h3
          omega
        · rw [hcx, hcy]
          split <;> rfl
  · rw [if_pos h1] at h
    exact absurd (show (0 : Int32) < 1 by decide) h
section MOD4
variable {X : JX} {d N v : Nat} {T : Nat → Option JS} {I : Nat → Nat → Int32} {L : Nat → Nat → Int64} {Dd : Nat → Nat → UInt64} {a b c e i0 t dd : Int32} {m z x y q c0 : Nat}
theorem l_why {Q : JR → Prop} (hX : JXok X) (hd : 3 ≤ d) (hm20 : m ≤ 20) (hm : I 397 1 = nI m) (hx : x < 8) (hc0 : c0 ≤ 20) (hg : I 397 (31 + x) = nI c0) (hp : ∀ p, p < c0 → ∃ s, s < m ∧ slAM I m (nI x) (nI p) = nI s) (hq : q ≤ c0) : ∀ (n k : Nat) (acc : Int32), k + n = q → Ev X (jm jdX7_whyNot) d 0 0 Q 94 [some (.ref 396), some (.int (nI x)), some (.int (nI y)), some (.int (nI q)), some (.int (fo (lnS I m x) n k acc)), some (.int (nI q))] [] (N, SH v T, I, L, Dd) → Ev X (jm jdX7_whyNot) d 0 0 Q 62 [some (.ref 396), some (.int (nI x)), some (.int (nI y)), some (.int (nI q)), some (.int acc), some (.int (nI k))] [] (N, SH v T, I, L, Dd) := by
  intro n
  induction n with
  | zero =>
    intro k acc hk hQ
    refine Ev.sg hX (sX7_whyNot_62.sub 0 2) (pc' := 65) (ls' := [some (.ref 396), some (.int (nI x)), some (.int (nI y)), some (.int (nI q)), some (.int acc), some (.int (nI k))]) (st' := [.int (nI q), .int (nI k)]) (h' := (N, SH v T, I, L, Dd)) rfl ?_
    refine Ev.icmp_ge (tgt := 94) dX7_whyNot_65 (by decide) (fun b1 => ?_) (fun b1 => ?_)
    · rw [show k = q by omega]
      exact hQ
    · exact absurd ((nI_leI (a := q) (b := k) (by omega) (by omega)).mpr (by omega)) b1
  | succ n ih =>
    intro k acc hk hQ
    refine Ev.sg hX (sX7_whyNot_62.sub 0 2) (pc' := 65) (ls' := [some (.ref 396), some (.int (nI x)), some (.int (nI y)), some (.int (nI q)), some (.int acc), some (.int (nI k))]) (st' := [.int (nI q), .int (nI k)]) (h' := (N, SH v T, I, L, Dd)) rfl ?_
    refine Ev.icmp_ge (tgt := 94) dX7_whyNot_65 (by decide) (fun b1 => ?_) (fun b1 => ?_)
    · exact absurd ((nI_leI (a := q) (b := k) (by omega) (by omega)).mp b1) (by omega)
    · obtain ⟨s, hs, hfe⟩ := feM_s hg hp (k := k) (by omega)
      refine Ev.sg hX (sX7_whyNot_68.sub 0 2) (pc' := 71) (ls' := [some (.ref 396), some (.int (nI x)), some (.int (nI y)), some (.int (nI q)), some (.int acc), some (.int (nI k))]) (st' := [.ref 396, .int acc]) (h' := (N, SH v T, I, L, Dd)) rfl ?_
      refine Ev.getf (sX7_whyNot_68.lk 2 (q := (71, .getfield 7, 7, 0)) rfl) rfl rfl (sX7_whyNot_68.dc 2 (q := (71, .getfield 7, 7, 0)) rfl) ?_
      show Ev _ _ _ _ _ _ 74 [some (.ref 396), some (.int (nI x)), some (.int (nI y)), some (.int (nI q)), some (.int acc), some (.int (nI k))] [.ref 397, .int acc] (N, SH v T, I, L, Dd)
      refine Ev.sg hX (sX7_whyNot_68.sub 3 4) (pc' := 80) (ls' := [some (.ref 396), some (.int (nI x)), some (.int (nI y)), some (.int (nI q)), some (.int acc), some (.int (nI k))]) (st' := [.int (nI k), .int (nI x), .ref 396, .int 59, .ref 397, .int acc]) (h' := (N, SH v T, I, L, Dd)) rfl ?_
      refine Ev.callV (As := [.int (nI x), .int (nI k)]) (rest := [.int 59, .ref 397, .int acc]) dvX7_fromEnd mkX7_117 rfl rfl dX7_whyNot_80 (m_fromEnd (d := d - 1) (I := I) (t := x) hX (by omega) hm20 hm (by omega)) ⟨by omega, by show 3 + 19 + 40 * _ ≤ 40 * _; omega⟩ ⟨Nat.zero_le _, Nat.zero_le _⟩ rfl (Nat.le_of_ble_eq_true rfl) (fun v9 h9 e9 => ?_) (fun E9 h9 e9 => nomatch e9)
      cases e9
      show Ev _ _ _ _ _ _ 83 [some (.ref 396), some (.int (nI x)), some (.int (nI y)), some (.int (nI q)), some (.int acc), some (.int (nI k))] [.int (feM I m x (nI k)), .int 59, .ref 397, .int acc] (N, SH v T, I, L, Dd)
      refine Ev.eqst (st' := [.int (nI s), .int 59, .ref 397, .int acc]) (by rw [hfe]) ?_
      show Ev _ _ _ _ _ _ 83 [some (.ref 396), some (.int (nI x)), some (.int (nI y)), some (.int (nI q)), some (.int acc), some (.int (nI k))] [.int (nI s), .int 59, .ref 397, .int acc] (N, SH v T, I, L, Dd)
      refine Ev.sg hX (sX7_whyNot_83.sub 0 1) (pc' := 84) (ls' := [some (.ref 396), some (.int (nI x)), some (.int (nI y)), some (.int (nI q)), some (.int acc), some (.int (nI k))]) (st' := [.int (59 + (nI s)), .ref 397, .int acc]) (h' := (N, SH v T, I, L, Dd)) rfl ?_
      refine Ev.ialdE (n := (59 + s)) (N := 179) rfl (naI rfl rfl) (by omega) (by decide) dX7_whyNot_84 ?_
      show Ev _ _ _ _ _ _ 85 [some (.ref 396), some (.int (nI x)), some (.int (nI y)), some (.int (nI q)), some (.int acc), some (.int (nI k))] [.int (I 397 (59 + s)), .int acc] (N, SH v T, I, L, Dd)
      refine Ev.sg hX (sX7_whyNot_85.sub 0 4) (pc' := 62) (ls' := [some (.ref 396), some (.int (nI x)), some (.int (nI y)), some (.int (nI q)), some (.int (acc + (I 397 (59 + s)))), some (.int ((nI k) + 1))]) (st' := []) (h' := (N, SH v T, I, L, Dd)) rfl ?_
      have e1 : acc + I 397 (59 + s) = lnS I m x k acc := by rw [lnS, hfe, show (nI s).toNatClampNeg = s from nI_clamp (by omega)]
      rw [nI_1, e1]
      exact ih (k + 1) (lnS I m x k acc) (by omega) hQ
theorem m_whyNot (hX : JXok X) (hd : 4 ≤ d) (hm20 : m ≤ 20) (hm : I 397 1 = nI m) (hz8 : z ≤ 8) (hz : I 397 0 = nI z) (hPL : PLM I m) : MT X d 0 0 jdX7_whyNot [.ref 396, .int a, .int b, .int c] (N, SH v T, I, L, Dd) (fun R => R = .inl (some (.int (whM I m z a b c).1), (N, SH v T, (whM I m z a b c).2, L, Dd))) := by
  refine MT.mk dvX7_whyNot.1 ?_
  refine Ev.sg hX (sX7_whyNot_0.sub 0 3) (pc' := 3) (ls' := [some (.ref 396), some (.int a), some (.int b), some (.int c), none, none]) (st' := [.int b, .int a, .ref 396]) (h' := (N, SH v T, I, L, Dd)) rfl ?_
  refine Ev.callV (As := [.int a, .int b]) (rest := []) dvX7_areTracks mkX7_95 rfl rfl dX7_whyNot_3 (m_areTracks (d := d - 1) (I := I) hX (by omega)) ⟨by omega, by show 3 + 19 + 40 * _ ≤ 40 * _; omega⟩ ⟨Nat.zero_le _, Nat.zero_le _⟩ rfl (Nat.le_of_ble_eq_true rfl) (fun v9 h9 e9 => ?_) (fun E9 h9 e9 => nomatch e9)
  cases e9
  show Ev _ _ _ _ _ _ 6 [some (.ref 396), some (.int a), some (.int b), some (.int c), none, none] [.int (bi (tkM I a ∧ tkM I b))] (N, SH v T, I, L, Dd)
  refine Ev.if_ne (tgt := 11) dX7_whyNot_6 (by decide) (fun b1 => ?_) (fun b1 => ?_)
  · have htt := bi_1.mp b1
    obtain ⟨x, hx, rfl⟩ := tkM_nI hz8 hz htt.1
    obtain ⟨y, hy, rfl⟩ := tkM_nI hz8 hz htt.2
    have hcx : (nI x).toNatClampNeg = x := nI_clamp (by omega)
    have hcy : (nI y).toNatClampNeg = y := nI_clamp (by omega)
    refine Ev.sg hX (sX7_whyNot_11.sub 0 2) (pc' := 13) (ls' := [some (.ref 396), some (.int (nI x)), some (.int (nI y)), some (.int c), none, none]) (st' := [.int (nI y), .int (nI x)]) (h' := (N, SH v T, I, L, Dd)) rfl ?_
    refine Ev.icmp_eq (tgt := 26) dX7_whyNot_13 (by decide) (fun b2 => ?_) (fun b2 => ?_)
    · refine Ev.sg hX (sX7_whyNot_26.sub 0 1) (pc' := 27) (ls' := [some (.ref 396), some (.int (nI x)), some (.int (nI y)), some (.int c), none, none]) (st' := [.int 2]) (h' := (N, SH v T, I, L, Dd)) rfl ?_
      refine Ev.iret dX7_whyNot_27 rfl ?_
      rw [whM, if_neg (fun w => w htt), if_pos (Or.inl b2)]
    · refine Ev.sg hX (sX7_whyNot_16.sub 0 3) (pc' := 20) (ls' := [some (.ref 396), some (.int (nI x)), some (.int (nI y)), some (.int c), none, none]) (st' := [.int 9, .int 1, .int c]) (h' := (N, SH v T, I, L, Dd)) rfl ?_
      refine Ev.callS (As := [.int c, .int 1, .int 9]) (rest := []) dsX7_in mkX7_52 dX7_whyNot_20 (m_in (d := d - 1) hX (by omega)) ⟨by omega, by show 3 + 19 + 40 * _ ≤ 40 * _; omega⟩ ⟨Nat.zero_le _, Nat.zero_le _⟩ rfl (Nat.le_of_ble_eq_true rfl) (fun v9 h9 e9 => ?_) (fun E9 h9 e9 => nomatch e9)
      cases e9
      show Ev _ _ _ _ _ _ 23 [some (.ref 396), some (.int (nI x)), some (.int (nI y)), some (.int c), none, none] [.int (bi (1 ≤ c ∧ c ≤ 9))] (N, SH v T, I, L, Dd)
      refine Ev.if_ne (tgt := 28) dX7_whyNot_23 (by decide) (fun b3 => ?_) (fun b3 => ?_)
      · have hcc := bi_1.mp b3
        obtain ⟨q, hq, rfl⟩ := nI_le_of (n := 9) (Int32.le_trans (show (0 : Int32) ≤ 1 by decide) hcc.1) hcc.2 (by decide)
        have hcq : (nI q).toNatClampNeg = q := nI_clamp (by omega)
        obtain ⟨c0, hc0, hg, hp⟩ := hPL x (by omega)
        refine Ev.sg hX (sX7_whyNot_28.sub 0 1) (pc' := 29) (ls' := [some (.ref 396), some (.int (nI x)), some (.int (nI y)), some (.int (nI q)), none, none]) (st' := [.ref 396]) (h' := (N, SH v T, I, L, Dd)) rfl ?_
        refine Ev.getf (sX7_whyNot_28.lk 1 (q := (29, .getfield 7, 7, 0)) rfl) rfl rfl (sX7_whyNot_28.dc 1 (q := (29, .getfield 7, 7, 0)) rfl) ?_
        show Ev _ _ _ _ _ _ 32 [some (.ref 396), some (.int (nI x)), some (.int (nI y)), some (.int (nI q)), none, none] [.ref 397] (N, SH v T, I, L, Dd)
        refine Ev.sg hX (sX7_whyNot_28.sub 2 3) (pc' := 36) (ls' := [some (.ref 396), some (.int (nI x)), some (.int (nI y)), some (.int (nI q)), none, none]) (st' := [.int (31 + (nI x)), .ref 397]) (h' := (N, SH v T, I, L, Dd)) rfl ?_
        refine Ev.ialdE (n := (31 + x)) (N := 179) rfl (naI rfl rfl) (by omega) (by decide) dX7_whyNot_36 ?_
        show Ev _ _ _ _ _ _ 37 [some (.ref 396), some (.int (nI x)), some (.int (nI y)), some (.int (nI q)), none, none] [.int (I 397 (31 + x))] (N, SH v T, I, L, Dd)
        refine Ev.sg hX (sX7_whyNot_37.sub 0 1) (pc' := 38) (ls' := [some (.ref 396), some (.int (nI x)), some (.int (nI y)), some (.int (nI q)), none, none]) (st' := [.int (nI q), .int (I 397 (31 + x))]) (h' := (N, SH v T, I, L, Dd)) rfl ?_
        refine Ev.icmp_ge (tgt := 43) dX7_whyNot_38 (by decide) (fun b4 => ?_) (fun b4 => ?_)
        · refine Ev.sg hX (sX7_whyNot_43.sub 0 3) (pc' := 46) (ls' := [some (.ref 396), some (.int (nI x)), some (.int (nI y)), some (.int (nI q)), none, none]) (st' := [.int (nI y), .int (nI x), .ref 396]) (h' := (N, SH v T, I, L, Dd)) rfl ?_
          refine Ev.callV (As := [.int (nI x), .int (nI y)]) (rest := []) dvX7_lengthOf mkX7_114 rfl rfl dX7_whyNot_46 (m_lengthOf (d := d - 1) (I := I) (a := x) (u := y) hX (by omega) hz8 hz (by omega) (by omega)) ⟨by omega, by show 3 + 19 + 40 * _ ≤ 40 * _; omega⟩ ⟨Nat.zero_le _, Nat.zero_le _⟩ rfl (Nat.le_of_ble_eq_true rfl) (fun v9 h9 e9 => ?_) (fun E9 h9 e9 => nomatch e9)
          cases e9
          show Ev _ _ _ _ _ _ 49 [some (.ref 396), some (.int (nI x)), some (.int (nI y)), some (.int (nI q)), none, none] [.int (exM I z y 403 x)] (N, SH v T, exM I z y, L, Dd)
          refine Ev.sg hX (sX7_whyNot_49.sub 0 1) (pc' := 51) (ls' := [some (.ref 396), some (.int (nI x)), some (.int (nI y)), some (.int (nI q)), none, none]) (st' := [.int 100, .int (exM I z y 403 x)]) (h' := (N, SH v T, exM I z y, L, Dd)) rfl ?_
          refine Ev.icmp_ne (tgt := 56) dX7_whyNot_51 (by decide) (fun b5 => ?_) (fun b5 => ?_)
          · refine Ev.sg hX (sX7_whyNot_56.sub 0 4) (pc' := 62) (ls' := [some (.ref 396), some (.int (nI x)), some (.int (nI y)), some (.int (nI q)), some (.int 0), some (.int 0)]) (st' := []) (h' := (N, SH v T, exM I z y, L, Dd)) rfl ?_
            have hq2 : q ≤ c0 := by have := b4; rw [hg] at this; exact (nI_leI (a := q) (b := c0) (by omega) (by omega)).mp this
            refine l_why (I := exM I z y) hX (by omega) hm20 ((congrFun (exM_ne (by decide)) 1).trans hm) (x := x) (by omega) hc0 ((congrFun (exM_ne (by decide)) (31 + x)).trans hg) (fun p hp9 => by obtain ⟨s, h1, h2⟩ := hp p hp9; exact ⟨s, h1, by rw [slAM_congr (exM_ne (by decide))]; exact h2⟩) hq2 q 0 0 (Nat.zero_add q) ?_
            show Ev _ _ _ _ _ _ 94 [some (.ref 396), some (.int (nI x)), some (.int (nI y)), some (.int (nI q)), some (.int (lnM (exM I z y) m x q)), some (.int (nI q))] [] (N, SH v T, exM I z y, L, Dd)
            refine Ev.sg hX (sX7_whyNot_94.sub 0 2) (pc' := 96) (ls' := [some (.ref 396), some (.int (nI x)), some (.int (nI y)), some (.int (nI q)), some (.int (lnM (exM I z y) m x q)), some (.int (nI q))]) (st' := [.int (nI y), .ref 396]) (h' := (N, SH v T, exM I z y, L, Dd)) rfl ?_
            refine Ev.callV (As := [.int (nI y)]) (rest := []) dvX7_room mkX7_107 rfl rfl dX7_whyNot_96 (m_room (d := d - 1) (I := (exM I z y)) (t := y) hX (by omega) hm20 ((congrFun ((exM_ne (by decide)).trans rfl) 1).trans hm) (by omega)) ⟨by omega, by show 2 + 19 + 40 * _ ≤ 40 * _; omega⟩ ⟨Nat.zero_le _, Nat.zero_le _⟩ rfl (Nat.le_of_ble_eq_true rfl) (fun v9 h9 e9 => ?_) (fun E9 h9 e9 => nomatch e9)
            cases e9
            show Ev _ _ _ _ _ _ 99 [some (.ref 396), some (.int (nI x)), some (.int (nI y)), some (.int (nI q)), some (.int (lnM (exM I z y) m x q)), some (.int (nI q))] [.int (roM (exM I z y) m y)] (N, SH v T, exM I z y, L, Dd)
            refine Ev.sg hX (sX7_whyNot_99.sub 0 1) (pc' := 101) (ls' := [some (.ref 396), some (.int (nI x)), some (.int (nI y)), some (.int (nI q)), some (.int (lnM (exM I z y) m x q)), some (.int (nI q))]) (st' := [.int (lnM (exM I z y) m x q), .int (roM (exM I z y) m y)]) (h' := (N, SH v T, exM I z y, L, Dd)) rfl ?_
            refine Ev.icmp_ge (tgt := 108) dX7_whyNot_101 (by decide) (fun b6 => ?_) (fun b6 => ?_)
            · refine Ev.sg hX (sX7_whyNot_108.sub 0 1) (pc' := 109) (ls' := [some (.ref 396), some (.int (nI x)), some (.int (nI y)), some (.int (nI q)), some (.int (lnM (exM I z y) m x q)), some (.int (nI q))]) (st' := [.int 0]) (h' := (N, SH v T, exM I z y, L, Dd)) rfl ?_
              refine Ev.iret dX7_whyNot_109 rfl ?_
              rw [whM, if_neg (fun w => w htt), if_neg (fun w => w.elim b2 (fun w2 => w2 hcc)), hcx, if_neg (Int32.not_lt.mpr b4), hcy, if_neg b5, hcq, if_neg (Int32.not_lt.mpr b6)]
            · refine Ev.sg hX (sX7_whyNot_104.sub 0 2) (pc' := 109) (ls' := [some (.ref 396), some (.int (nI x)), some (.int (nI y)), some (.int (nI q)), some (.int (lnM (exM I z y) m x q)), some (.int (nI q))]) (st' := [.int 5]) (h' := (N, SH v T, exM I z y, L, Dd)) rfl ?_
              refine Ev.iret dX7_whyNot_109 rfl ?_
              rw [whM, if_neg (fun w => w htt), if_neg (fun w => w.elim b2 (fun w2 => w2 hcc)), hcx, if_neg (Int32.not_lt.mpr b4), hcy, if_neg b5, hcq, if_pos (Int32.not_le.mp b6)]
          · refine Ev.sg hX (sX7_whyNot_54.sub 0 1) (pc' := 55) (ls' := [some (.ref 396), some (.int (nI x)), some (.int (nI y)), some (.int (nI q)), none, none]) (st' := [.int 4]) (h' := (N, SH v T, exM I z y, L, Dd)) rfl ?_
            refine Ev.iret dX7_whyNot_55 rfl ?_
            rw [whM, if_neg (fun w => w htt), if_neg (fun w => w.elim b2 (fun w2 => w2 hcc)), hcx, if_neg (Int32.not_lt.mpr b4), hcy, if_pos b5]
        · refine Ev.sg hX (sX7_whyNot_41.sub 0 1) (pc' := 42) (ls' := [some (.ref 396), some (.int (nI x)), some (.int (nI y)), some (.int (nI q)), none, none]) (st' := [.int 3]) (h' := (N, SH v T, I, L, Dd)) rfl ?_
          refine Ev.iret dX7_whyNot_42 rfl ?_
          rw [whM, if_neg (fun w => w htt), if_neg (fun w => w.elim b2 (fun w2 => w2 hcc)), hcx, if_pos (Int32.not_le.mp b4)]
      · refine Ev.sg hX (sX7_whyNot_26.sub 0 1) (pc' := 27) (ls' := [some (.ref 396), some (.int (nI x)), some (.int (nI y)), some (.int c), none, none]) (st' := [.int 2]) (h' := (N, SH v T, I, L, Dd)) rfl ?_
        refine Ev.iret dX7_whyNot_27 rfl ?_
        rw [whM, if_neg (fun w => w htt), if_pos (Or.inr (bi_0.mp b3))]
  · refine Ev.sg hX (sX7_whyNot_9.sub 0 1) (pc' := 10) (ls' := [some (.ref 396), some (.int a), some (.int b), some (.int c), none, none]) (st' := [.int 1]) (h' := (N, SH v T, I, L, Dd)) rfl ?_
    refine Ev.iret dX7_whyNot_10 rfl ?_
    rw [whM, if_pos (bi_0.mp b1)]
theorem l_min {Q : JR → Prop} (hX : JXok X) (hd : 3 ≤ d) (hm20 : m ≤ 20) (hm : I 397 1 = nI m) (hx : x < 8) (hc0 : c0 ≤ 20) (hg : I 397 (31 + x) = nI c0) (hp : ∀ p, p < c0 → ∃ s, s < m ∧ slAM I m (nI x) (nI p) = nI s) (hy : y < 8) (hq : q ≤ c0) : ∀ (n k : Nat) (acc : Int32), k + n = q → Ev X (jm jdX7_minutesFor) d 0 0 Q 55 [some (.ref 396), some (.int (nI x)), some (.int (nI y)), some (.int (nI q)), some (.int (fo (miS I m x y) n k acc)), some (.int (nI q))] [] (N, SH v T, I, L, Dd) → Ev X (jm jdX7_minutesFor) d 0 0 Q 13 [some (.ref 396), some (.int (nI x)), some (.int (nI y)), some (.int (nI q)), some (.int acc), some (.int (nI k))] [] (N, SH v T, I, L, Dd) := by
  intro n
  induction n with
  | zero =>
    intro k acc hk hQ
    refine Ev.sg hX (sX7_minutesFor_13.sub 0 2) (pc' := 16) (ls' := [some (.ref 396), some (.int (nI x)), some (.int (nI y)), some (.int (nI q)), some (.int acc), some (.int (nI k))]) (st' := [.int (nI q), .int (nI k)]) (h' := (N, SH v T, I, L, Dd)) rfl ?_
    refine Ev.icmp_ge (tgt := 55) dX7_minutesFor_16 (by decide) (fun b1 => ?_) (fun b1 => ?_)
    · rw [show k = q by omega]
      exact hQ
    · exact absurd ((nI_leI (a := q) (b := k) (by omega) (by omega)).mpr (by omega)) b1
  | succ n ih =>
    intro k acc hk hQ
    refine Ev.sg hX (sX7_minutesFor_13.sub 0 2) (pc' := 16) (ls' := [some (.ref 396), some (.int (nI x)), some (.int (nI y)), some (.int (nI q)), some (.int acc), some (.int (nI k))]) (st' := [.int (nI q), .int (nI k)]) (h' := (N, SH v T, I, L, Dd)) rfl ?_
    refine Ev.icmp_ge (tgt := 55) dX7_minutesFor_16 (by decide) (fun b1 => ?_) (fun b1 => ?_)
    · exact absurd ((nI_leI (a := q) (b := k) (by omega) (by omega)).mp b1) (by omega)
    · obtain ⟨s, hs, hfe⟩ := feM_s hg hp (k := k) (by omega)
      refine Ev.sg hX (sX7_minutesFor_19.sub 0 2) (pc' := 22) (ls' := [some (.ref 396), some (.int (nI x)), some (.int (nI y)), some (.int (nI q)), some (.int acc), some (.int (nI k))]) (st' := [.ref 396, .int acc]) (h' := (N, SH v T, I, L, Dd)) rfl ?_
      refine Ev.getf (sX7_minutesFor_19.lk 2 (q := (22, .getfield 7, 7, 0)) rfl) rfl rfl (sX7_minutesFor_19.dc 2 (q := (22, .getfield 7, 7, 0)) rfl) ?_
      show Ev _ _ _ _ _ _ 25 [some (.ref 396), some (.int (nI x)), some (.int (nI y)), some (.int (nI q)), some (.int acc), some (.int (nI k))] [.ref 397, .int acc] (N, SH v T, I, L, Dd)
      refine Ev.sg hX (sX7_minutesFor_19.sub 3 3) (pc' := 29) (ls' := [some (.ref 396), some (.int (nI x)), some (.int (nI y)), some (.int (nI q)), some (.int acc), some (.int (nI k))]) (st' := [.int (15 + (nI y)), .ref 397, .int acc]) (h' := (N, SH v T, I, L, Dd)) rfl ?_
      refine Ev.ialdE (n := (15 + y)) (N := 179) rfl (naI rfl rfl) (by omega) (by decide) dX7_minutesFor_29 ?_
      show Ev _ _ _ _ _ _ 30 [some (.ref 396), some (.int (nI x)), some (.int (nI y)), some (.int (nI q)), some (.int acc), some (.int (nI k))] [.int (I 397 (15 + y)), .int acc] (N, SH v T, I, L, Dd)
      refine Ev.sg hX (sX7_minutesFor_30.sub 0 1) (pc' := 31) (ls' := [some (.ref 396), some (.int (nI x)), some (.int (nI y)), some (.int (nI q)), some (.int acc), some (.int (nI k))]) (st' := [.ref 396, .int (I 397 (15 + y)), .int acc]) (h' := (N, SH v T, I, L, Dd)) rfl ?_
      refine Ev.getf (sX7_minutesFor_30.lk 1 (q := (31, .getfield 7, 7, 0)) rfl) rfl rfl (sX7_minutesFor_30.dc 1 (q := (31, .getfield 7, 7, 0)) rfl) ?_
      show Ev _ _ _ _ _ _ 34 [some (.ref 396), some (.int (nI x)), some (.int (nI y)), some (.int (nI q)), some (.int acc), some (.int (nI k))] [.ref 397, .int (I 397 (15 + y)), .int acc] (N, SH v T, I, L, Dd)
      refine Ev.sg hX (sX7_minutesFor_30.sub 2 4) (pc' := 40) (ls' := [some (.ref 396), some (.int (nI x)), some (.int (nI y)), some (.int (nI q)), some (.int acc), some (.int (nI k))]) (st' := [.int (nI k), .int (nI x), .ref 396, .int 119, .ref 397, .int (I 397 (15 + y)), .int acc]) (h' := (N, SH v T, I, L, Dd)) rfl ?_
      refine Ev.callV (As := [.int (nI x), .int (nI k)]) (rest := [.int 119, .ref 397, .int (I 397 (15 + y)), .int acc]) dvX7_fromEnd mkX7_117 rfl rfl dX7_minutesFor_40 (m_fromEnd (d := d - 1) (I := I) (t := x) hX (by omega) hm20 hm (by omega)) ⟨by omega, by show 3 + 19 + 40 * _ ≤ 40 * _; omega⟩ ⟨Nat.zero_le _, Nat.zero_le _⟩ rfl (Nat.le_of_ble_eq_true rfl) (fun v9 h9 e9 => ?_) (fun E9 h9 e9 => nomatch e9)
      cases e9
      show Ev _ _ _ _ _ _ 43 [some (.ref 396), some (.int (nI x)), some (.int (nI y)), some (.int (nI q)), some (.int acc), some (.int (nI k))] [.int (feM I m x (nI k)), .int 119, .ref 397, .int (I 397 (15 + y)), .int acc] (N, SH v T, I, L, Dd)
      refine Ev.eqst (st' := [.int (nI s), .int 119, .ref 397, .int (I 397 (15 + y)), .int acc]) (by rw [hfe]) ?_
      show Ev _ _ _ _ _ _ 43 [some (.ref 396), some (.int (nI x)), some (.int (nI y)), some (.int (nI q)), some (.int acc), some (.int (nI k))] [.int (nI s), .int 119, .ref 397, .int (I 397 (15 + y)), .int acc] (N, SH v T, I, L, Dd)
      refine Ev.sg hX (sX7_minutesFor_43.sub 0 1) (pc' := 44) (ls' := [some (.ref 396), some (.int (nI x)), some (.int (nI y)), some (.int (nI q)), some (.int acc), some (.int (nI k))]) (st' := [.int (119 + (nI s)), .ref 397, .int (I 397 (15 + y)), .int acc]) (h' := (N, SH v T, I, L, Dd)) rfl ?_
      refine Ev.ialdE (n := (119 + s)) (N := 179) rfl (naI rfl rfl) (by omega) (by decide) dX7_minutesFor_44 ?_
      show Ev _ _ _ _ _ _ 45 [some (.ref 396), some (.int (nI x)), some (.int (nI y)), some (.int (nI q)), some (.int acc), some (.int (nI k))] [.int (I 397 (119 + s)), .int (I 397 (15 + y)), .int acc] (N, SH v T, I, L, Dd)
      refine Ev.sg hX (sX7_minutesFor_45.sub 0 5) (pc' := 13) (ls' := [some (.ref 396), some (.int (nI x)), some (.int (nI y)), some (.int (nI q)), some (.int (acc + ((I 397 (15 + y)) * (I 397 (119 + s))))), some (.int ((nI k) + 1))]) (st' := []) (h' := (N, SH v T, I, L, Dd)) rfl ?_
      have e1 : acc + I 397 (15 + y) * I 397 (119 + s) = miS I m x y k acc := by rw [miS, hfe, show (nI s).toNatClampNeg = s from nI_clamp (by omega)]
      rw [nI_1, e1]
      exact ih (k + 1) (miS I m x y k acc) (by omega) hQ
theorem m_minutesFor (hX : JXok X) (hd : 4 ≤ d) (hm20 : m ≤ 20) (hm : I 397 1 = nI m) (hz8 : z ≤ 8) (hz : I 397 0 = nI z) (hx : x < 8) (hy : y < 8) (hpl : ∃ c0, c0 ≤ 20 ∧ q ≤ c0 ∧ I 397 (31 + x) = nI c0 ∧ ∀ p, p < c0 → ∃ s, s < m ∧ slAM I m (nI x) (nI p) = nI s) : MT X d 0 0 jdX7_minutesFor [.ref 396, .int (nI x), .int (nI y), .int (nI q)] (N, SH v T, I, L, Dd) (fun R => R = .inl (some (.int (miM I m z x y q)), (N, SH v T, exM I z y, L, Dd))) := by
  refine MT.mk dvX7_minutesFor.1 ?_
  obtain ⟨c0, hc0, hq, hg, hp⟩ := hpl
  refine Ev.sg hX (sX7_minutesFor_0.sub 0 4) (pc' := 4) (ls' := [some (.ref 396), some (.int (nI x)), some (.int (nI y)), some (.int (nI q)), none, none]) (st' := [.int (nI y), .int (nI x), .ref 396, .int 2]) (h' := (N, SH v T, I, L, Dd)) rfl ?_
  refine Ev.callV (As := [.int (nI x), .int (nI y)]) (rest := [.int 2]) dvX7_lengthOf mkX7_114 rfl rfl dX7_minutesFor_4 (m_lengthOf (d := d - 1) (I := I) (a := x) (u := y) hX (by omega) hz8 hz (by omega) (by omega)) ⟨by omega, by show 3 + 19 + 40 * _ ≤ 40 * _; omega⟩ ⟨Nat.zero_le _, Nat.zero_le _⟩ rfl (Nat.le_of_ble_eq_true rfl) (fun v9 h9 e9 => ?_) (fun E9 h9 e9 => nomatch e9)
  cases e9
  show Ev _ _ _ _ _ _ 7 [some (.ref 396), some (.int (nI x)), some (.int (nI y)), some (.int (nI q)), none, none] [.int (exM I z y 403 x), .int 2] (N, SH v T, exM I z y, L, Dd)
  refine Ev.sg hX (sX7_minutesFor_7.sub 0 4) (pc' := 13) (ls' := [some (.ref 396), some (.int (nI x)), some (.int (nI y)), some (.int (nI q)), some (.int (2 + (exM I z y 403 x))), some (.int 0)]) (st' := []) (h' := (N, SH v T, exM I z y, L, Dd)) rfl ?_
  refine l_min (I := exM I z y) hX (by omega) hm20 ((congrFun (exM_ne (by decide)) 1).trans hm) (x := x) (by omega) hc0 ((congrFun (exM_ne (by decide)) (31 + x)).trans hg) (fun p hp9 => by obtain ⟨s, h1, h2⟩ := hp p hp9; exact ⟨s, h1, by rw [slAM_congr (exM_ne (by decide))]; exact h2⟩) hy hq q 0 _ (Nat.zero_add q) ?_
  show Ev _ _ _ _ _ _ 55 [some (.ref 396), some (.int (nI x)), some (.int (nI y)), some (.int (nI q)), some (.int (miM I m z x y q)), some (.int (nI q))] [] (N, SH v T, exM I z y, L, Dd)
  refine Ev.sg hX (sX7_minutesFor_55.sub 0 1) (pc' := 57) (ls' := [some (.ref 396), some (.int (nI x)), some (.int (nI y)), some (.int (nI q)), some (.int (miM I m z x y q)), some (.int (nI q))]) (st' := [.int (miM I m z x y q)]) (h' := (N, SH v T, exM I z y, L, Dd)) rfl ?_
  refine Ev.iret dX7_minutesFor_57 rfl ?_
  rfl
theorem l_shu {Q : JR → Prop} (hX : JXok X) (hd : 3 ≤ d) (hm20 : m ≤ 20) (hx : x < 8) (hy : y < 8) (hxy : x ≠ y) (hq9 : q ≤ 9) : ∀ (n k : Nat) (J : HI) (l7 : Option Value), k + n = q → J 397 1 = nI m → okMv m x y n J → (∀ l7, Ev X (jm jdX7_shunts) d 0 0 Q 111 [some (.ref 396), some (.int (nI x)), some (.int (nI y)), some (.int (nI q)), some (.int c), some (.int e), some (.int (nI q)), l7] [] (N, SH v T, fo (mvS m x y) n k J, L, Dd)) → Ev X (jm jdX7_shunts) d 0 0 Q 33 [some (.ref 396), some (.int (nI x)), some (.int (nI y)), some (.int (nI q)), some (.int c), some (.int e), some (.int (nI k)), l7] [] (N, SH v T, J, L, Dd) := by
  intro n
  induction n with
  | zero =>
    intro k J l7 hk hmJ hok hQ
    refine Ev.sg hX (sX7_shunts_33.sub 0 2) (pc' := 36) (ls' := [some (.ref 396), some (.int (nI x)), some (.int (nI y)), some (.int (nI q)), some (.int c), some (.int e), some (.int (nI k)), l7]) (st' := [.int (nI q), .int (nI k)]) (h' := (N, SH v T, J, L, Dd)) rfl ?_
    refine Ev.icmp_ge (tgt := 111) dX7_shunts_36 (by decide) (fun b1 => ?_) (fun b1 => ?_)
    · rw [show k = q by omega]
      exact hQ l7
    · exact absurd ((nI_leI (a := q) (b := k) (by omega) (by omega)).mpr (by omega)) b1
  | succ n ih =>
    intro k J l7 hk hmJ hok hQ
    refine Ev.sg hX (sX7_shunts_33.sub 0 2) (pc' := 36) (ls' := [some (.ref 396), some (.int (nI x)), some (.int (nI y)), some (.int (nI q)), some (.int c), some (.int e), some (.int (nI k)), l7]) (st' := [.int (nI q), .int (nI k)]) (h' := (N, SH v T, J, L, Dd)) rfl ?_
    refine Ev.icmp_ge (tgt := 111) dX7_shunts_36 (by decide) (fun b1 => ?_) (fun b1 => ?_)
    · exact absurd ((nI_leI (a := q) (b := k) (by omega) (by omega)).mp b1) (by omega)
    · obtain ⟨⟨s, hs, hfe⟩, hok⟩ := hok
      have e0 : mvS m x y k J = mvM J x y s := by rw [mvS, hfe, show (nI s).toNatClampNeg = s from nI_clamp (by omega)]
      refine Ev.sg hX (sX7_shunts_39.sub 0 3) (pc' := 42) (ls' := [some (.ref 396), some (.int (nI x)), some (.int (nI y)), some (.int (nI q)), some (.int c), some (.int e), some (.int (nI k)), l7]) (st' := [.int 0, .int (nI x), .ref 396]) (h' := (N, SH v T, J, L, Dd)) rfl ?_
      refine Ev.callV (As := [.int (nI x), .int 0]) (rest := []) dvX7_fromEnd mkX7_117 rfl rfl dX7_shunts_42 (m_fromEnd (d := d - 1) (I := J) (t := x) hX (by omega) hm20 hmJ (by omega)) ⟨by omega, by show 3 + 19 + 40 * _ ≤ 40 * _; omega⟩ ⟨Nat.zero_le _, Nat.zero_le _⟩ rfl (Nat.le_of_ble_eq_true rfl) (fun v9 h9 e9 => ?_) (fun E9 h9 e9 => nomatch e9)
      cases e9
      show Ev _ _ _ _ _ _ 45 [some (.ref 396), some (.int (nI x)), some (.int (nI y)), some (.int (nI q)), some (.int c), some (.int e), some (.int (nI k)), l7] [.int (feM J m x 0)] (N, SH v T, J, L, Dd)
      refine Ev.eqst (st' := [.int (nI s)]) (by rw [hfe]) ?_
      show Ev _ _ _ _ _ _ 45 [some (.ref 396), some (.int (nI x)), some (.int (nI y)), some (.int (nI q)), some (.int c), some (.int e), some (.int (nI k)), l7] [.int (nI s)] (N, SH v T, J, L, Dd)
      refine Ev.sg hX (sX7_shunts_45.sub 0 2) (pc' := 48) (ls' := [some (.ref 396), some (.int (nI x)), some (.int (nI y)), some (.int (nI q)), some (.int c), some (.int e), some (.int (nI k)), some (.int (nI s))]) (st' := [.ref 396]) (h' := (N, SH v T, J, L, Dd)) rfl ?_
      refine Ev.getf (sX7_shunts_45.lk 2 (q := (48, .getfield 7, 7, 0)) rfl) rfl rfl (sX7_shunts_45.dc 2 (q := (48, .getfield 7, 7, 0)) rfl) ?_
      show Ev _ _ _ _ _ _ 51 [some (.ref 396), some (.int (nI x)), some (.int (nI y)), some (.int (nI q)), some (.int c), some (.int e), some (.int (nI k)), some (.int (nI s))] [.ref 397] (N, SH v T, J, L, Dd)
      refine Ev.sg hX (sX7_shunts_45.sub 3 4) (pc' := 58) (ls' := [some (.ref 396), some (.int (nI x)), some (.int (nI y)), some (.int (nI q)), some (.int c), some (.int e), some (.int (nI k)), some (.int (nI s))]) (st' := [.int (nI y), .int (139 + (nI s)), .ref 397]) (h' := (N, SH v T, J, L, Dd)) rfl ?_
      refine Ev.iastE (n := (139 + s)) (N := 179) hX rfl (naI rfl rfl) (by omega) (by decide) dX7_shunts_58 ?_
      show Ev _ _ _ _ _ _ 59 [some (.ref 396), some (.int (nI x)), some (.int (nI y)), some (.int (nI q)), some (.int c), some (.int e), some (.int (nI k)), some (.int (nI s))] [] (N, SH v T, up2 J 397 (139 + s) (nI y), L, Dd)
      refine Ev.sg hX (sX7_shunts_59.sub 0 1) (pc' := 60) (ls' := [some (.ref 396), some (.int (nI x)), some (.int (nI y)), some (.int (nI q)), some (.int c), some (.int e), some (.int (nI k)), some (.int (nI s))]) (st' := [.ref 396]) (h' := (N, SH v T, up2 J 397 (139 + s) (nI y), L, Dd)) rfl ?_
      refine Ev.getf (sX7_shunts_59.lk 1 (q := (60, .getfield 7, 7, 0)) rfl) rfl rfl (sX7_shunts_59.dc 1 (q := (60, .getfield 7, 7, 0)) rfl) ?_
      show Ev _ _ _ _ _ _ 63 [some (.ref 396), some (.int (nI x)), some (.int (nI y)), some (.int (nI q)), some (.int c), some (.int e), some (.int (nI k)), some (.int (nI s))] [.ref 397] (N, SH v T, up2 J 397 (139 + s) (nI y), L, Dd)
      refine Ev.sg hX (sX7_shunts_59.sub 2 4) (pc' := 70) (ls' := [some (.ref 396), some (.int (nI x)), some (.int (nI y)), some (.int (nI q)), some (.int c), some (.int e), some (.int (nI k)), some (.int (nI s))]) (st' := [.ref 396, .int (159 + (nI s)), .ref 397]) (h' := (N, SH v T, up2 J 397 (139 + s) (nI y), L, Dd)) rfl ?_
      refine Ev.getf (sX7_shunts_59.lk 6 (q := (70, .getfield 7, 7, 0)) rfl) rfl rfl (sX7_shunts_59.dc 6 (q := (70, .getfield 7, 7, 0)) rfl) ?_
      show Ev _ _ _ _ _ _ 73 [some (.ref 396), some (.int (nI x)), some (.int (nI y)), some (.int (nI q)), some (.int c), some (.int e), some (.int (nI k)), some (.int (nI s))] [.ref 397, .int (159 + (nI s)), .ref 397] (N, SH v T, up2 J 397 (139 + s) (nI y), L, Dd)
      refine Ev.sg hX (sX7_shunts_59.sub 7 3) (pc' := 77) (ls' := [some (.ref 396), some (.int (nI x)), some (.int (nI y)), some (.int (nI q)), some (.int c), some (.int e), some (.int (nI k)), some (.int (nI s))]) (st' := [.int (31 + (nI y)), .ref 397, .int (159 + (nI s)), .ref 397]) (h' := (N, SH v T, up2 J 397 (139 + s) (nI y), L, Dd)) rfl ?_
      refine Ev.ialdE (n := (31 + y)) (N := 179) rfl (naI rfl rfl) (by omega) (by decide) dX7_shunts_77 ?_
      show Ev _ _ _ _ _ _ 78 [some (.ref 396), some (.int (nI x)), some (.int (nI y)), some (.int (nI q)), some (.int c), some (.int e), some (.int (nI k)), some (.int (nI s))] [.int ((up2 J 397 (139 + s) (nI y)) 397 (31 + y)), .int (159 + (nI s)), .ref 397] (N, SH v T, up2 J 397 (139 + s) (nI y), L, Dd)
      refine Ev.eqst (st' := [.int (J 397 (31 + y)), .int (159 + (nI s)), .ref 397]) (by rw [show (up2 J 397 (139 + s) (nI y)) 397 (31 + y) = J 397 (31 + y) from ((up2_i (by omega)))]) ?_
      refine Ev.iastE (n := (159 + s)) (N := 179) hX rfl (naI rfl rfl) (by omega) (by decide) dX7_shunts_78 ?_
      show Ev _ _ _ _ _ _ 79 [some (.ref 396), some (.int (nI x)), some (.int (nI y)), some (.int (nI q)), some (.int c), some (.int e), some (.int (nI k)), some (.int (nI s))] [] (N, SH v T, up2 (up2 J 397 (139 + s) (nI y)) 397 (159 + s) (J 397 (31 + y)), L, Dd)
      refine Ev.sg hX (sX7_shunts_79.sub 0 1) (pc' := 80) (ls' := [some (.ref 396), some (.int (nI x)), some (.int (nI y)), some (.int (nI q)), some (.int c), some (.int e), some (.int (nI k)), some (.int (nI s))]) (st' := [.ref 396]) (h' := (N, SH v T, up2 (up2 J 397 (139 + s) (nI y)) 397 (159 + s) (J 397 (31 + y)), L, Dd)) rfl ?_
      refine Ev.getf (sX7_shunts_79.lk 1 (q := (80, .getfield 7, 7, 0)) rfl) rfl rfl (sX7_shunts_79.dc 1 (q := (80, .getfield 7, 7, 0)) rfl) ?_
      show Ev _ _ _ _ _ _ 83 [some (.ref 396), some (.int (nI x)), some (.int (nI y)), some (.int (nI q)), some (.int c), some (.int e), some (.int (nI k)), some (.int (nI s))] [.ref 397] (N, SH v T, up2 (up2 J 397 (139 + s) (nI y)) 397 (159 + s) (J 397 (31 + y)), L, Dd)
      refine Ev.sg hX (sX7_shunts_79.sub 2 4) (pc' := 88) (ls' := [some (.ref 396), some (.int (nI x)), some (.int (nI y)), some (.int (nI q)), some (.int c), some (.int e), some (.int (nI k)), some (.int (nI s))]) (st' := [.int (31 + (nI x)), .ref 397, .int (31 + (nI x)), .ref 397]) (h' := (N, SH v T, up2 (up2 J 397 (139 + s) (nI y)) 397 (159 + s) (J 397 (31 + y)), L, Dd)) rfl ?_
      refine Ev.ialdE (n := (31 + x)) (N := 179) rfl (naI rfl rfl) (by omega) (by decide) dX7_shunts_88 ?_
      show Ev _ _ _ _ _ _ 89 [some (.ref 396), some (.int (nI x)), some (.int (nI y)), some (.int (nI q)), some (.int c), some (.int e), some (.int (nI k)), some (.int (nI s))] [.int ((up2 (up2 J 397 (139 + s) (nI y)) 397 (159 + s) (J 397 (31 + y))) 397 (31 + x)), .int (31 + (nI x)), .ref 397] (N, SH v T, up2 (up2 J 397 (139 + s) (nI y)) 397 (159 + s) (J 397 (31 + y)), L, Dd)
      refine Ev.eqst (st' := [.int (J 397 (31 + x)), .int (31 + (nI x)), .ref 397]) (by rw [show (up2 (up2 J 397 (139 + s) (nI y)) 397 (159 + s) (J 397 (31 + y))) 397 (31 + x) = J 397 (31 + x) from (((up2_i (by omega)).trans (up2_i (by omega))))]) ?_
      refine Ev.sg hX (sX7_shunts_89.sub 0 2) (pc' := 91) (ls' := [some (.ref 396), some (.int (nI x)), some (.int (nI y)), some (.int (nI q)), some (.int c), some (.int e), some (.int (nI k)), some (.int (nI s))]) (st' := [.int ((J 397 (31 + x)) - 1), .int (31 + (nI x)), .ref 397]) (h' := (N, SH v T, up2 (up2 J 397 (139 + s) (nI y)) 397 (159 + s) (J 397 (31 + y)), L, Dd)) rfl ?_
      refine Ev.iastE (n := (31 + x)) (N := 179) hX rfl (naI rfl rfl) (by omega) (by decide) dX7_shunts_91 ?_
      show Ev _ _ _ _ _ _ 92 [some (.ref 396), some (.int (nI x)), some (.int (nI y)), some (.int (nI q)), some (.int c), some (.int e), some (.int (nI k)), some (.int (nI s))] [] (N, SH v T, up2 (up2 (up2 J 397 (139 + s) (nI y)) 397 (159 + s) (J 397 (31 + y))) 397 (31 + x) ((J 397 (31 + x)) - 1), L, Dd)
      refine Ev.sg hX (sX7_shunts_92.sub 0 1) (pc' := 93) (ls' := [some (.ref 396), some (.int (nI x)), some (.int (nI y)), some (.int (nI q)), some (.int c), some (.int e), some (.int (nI k)), some (.int (nI s))]) (st' := [.ref 396]) (h' := (N, SH v T, up2 (up2 (up2 J 397 (139 + s) (nI y)) 397 (159 + s) (J 397 (31 + y))) 397 (31 + x) ((J 397 (31 + x)) - 1), L, Dd)) rfl ?_
      refine Ev.getf (sX7_shunts_92.lk 1 (q := (93, .getfield 7, 7, 0)) rfl) rfl rfl (sX7_shunts_92.dc 1 (q := (93, .getfield 7, 7, 0)) rfl) ?_
      show Ev _ _ _ _ _ _ 96 [some (.ref 396), some (.int (nI x)), some (.int (nI y)), some (.int (nI q)), some (.int c), some (.int e), some (.int (nI k)), some (.int (nI s))] [.ref 397] (N, SH v T, up2 (up2 (up2 J 397 (139 + s) (nI y)) 397 (159 + s) (J 397 (31 + y))) 397 (31 + x) ((J 397 (31 + x)) - 1), L, Dd)
      refine Ev.sg hX (sX7_shunts_92.sub 2 4) (pc' := 101) (ls' := [some (.ref 396), some (.int (nI x)), some (.int (nI y)), some (.int (nI q)), some (.int c), some (.int e), some (.int (nI k)), some (.int (nI s))]) (st' := [.int (31 + (nI y)), .ref 397, .int (31 + (nI y)), .ref 397]) (h' := (N, SH v T, up2 (up2 (up2 J 397 (139 + s) (nI y)) 397 (159 + s) (J 397 (31 + y))) 397 (31 + x) ((J 397 (31 + x)) - 1), L, Dd)) rfl ?_
      refine Ev.ialdE (n := (31 + y)) (N := 179) rfl (naI rfl rfl) (by omega) (by decide) dX7_shunts_101 ?_
      show Ev _ _ _ _ _ _ 102 [some (.ref 396), some (.int (nI x)), some (.int (nI y)), some (.int (nI q)), some (.int c), some (.int e), some (.int (nI k)), some (.int (nI s))] [.int ((up2 (up2 (up2 J 397 (139 + s) (nI y)) 397 (159 + s) (J 397 (31 + y))) 397 (31 + x) ((J 397 (31 + x)) - 1)) 397 (31 + y)), .int (31 + (nI y)), .ref 397] (N, SH v T, up2 (up2 (up2 J 397 (139 + s) (nI y)) 397 (159 + s) (J 397 (31 + y))) 397 (31 + x) ((J 397 (31 + x)) - 1), L, Dd)
      refine Ev.eqst (st' := [.int (J 397 (31 + y)), .int (31 + (nI y)), .ref 397]) (by rw [show (up2 (up2 (up2 J 397 (139 + s) (nI y)) 397 (159 + s) (J 397 (31 + y))) 397 (31 + x) ((J 397 (31 + x)) - 1)) 397 (31 + y) = J 397 (31 + y) from (((up2_i (by omega)).trans ((up2_i (by omega)).trans (up2_i (by omega)))))]) ?_
      refine Ev.sg hX (sX7_shunts_102.sub 0 2) (pc' := 104) (ls' := [some (.ref 396), some (.int (nI x)), some (.int (nI y)), some (.int (nI q)), some (.int c), some (.int e), some (.int (nI k)), some (.int (nI s))]) (st' := [.int ((J 397 (31 + y)) + 1), .int (31 + (nI y)), .ref 397]) (h' := (N, SH v T, up2 (up2 (up2 J 397 (139 + s) (nI y)) 397 (159 + s) (J 397 (31 + y))) 397 (31 + x) ((J 397 (31 + x)) - 1), L, Dd)) rfl ?_
      refine Ev.iastE (n := (31 + y)) (N := 179) hX rfl (naI rfl rfl) (by omega) (by decide) dX7_shunts_104 ?_
      show Ev _ _ _ _ _ _ 105 [some (.ref 396), some (.int (nI x)), some (.int (nI y)), some (.int (nI q)), some (.int c), some (.int e), some (.int (nI k)), some (.int (nI s))] [] (N, SH v T, up2 (up2 (up2 (up2 J 397 (139 + s) (nI y)) 397 (159 + s) (J 397 (31 + y))) 397 (31 + x) ((J 397 (31 + x)) - 1)) 397 (31 + y) ((J 397 (31 + y)) + 1), L, Dd)
      refine Ev.sg hX (sX7_shunts_105.sub 0 2) (pc' := 33) (ls' := [some (.ref 396), some (.int (nI x)), some (.int (nI y)), some (.int (nI q)), some (.int c), some (.int e), some (.int ((nI k) + 1)), some (.int (nI s))]) (st' := []) (h' := (N, SH v T, up2 (up2 (up2 (up2 J 397 (139 + s) (nI y)) 397 (159 + s) (J 397 (31 + y))) 397 (31 + x) ((J 397 (31 + x)) - 1)) 397 (31 + y) ((J 397 (31 + y)) + 1), L, Dd)) rfl ?_
      rw [nI_1]
      refine ih (k + 1) (mvM J x y s) (some (.int (nI s))) (by omega) (by rw [← e0, mvS_1 (by decide)]; exact hmJ) (by rw [← e0]; exact hok) (fun l7 => ?_)
      rw [← e0]
      exact hQ l7
theorem m_shunts (hX : JXok X) (hd : 5 ≤ d) (hm20 : m ≤ 20) (hm : I 397 1 = nI m) (hz8 : z ≤ 8) (hz : I 397 0 = nI z) (hPL : PLM I m) (hok : ¬ 0 < (whM I m z a b c).1 → okMv m a.toNatClampNeg b.toNatClampNeg c.toNatClampNeg (exM (exM I z b.toNatClampNeg) z b.toNatClampNeg)) : MT X d 0 0 jdX7_shunts [.ref 396, .int a, .int b, .int c] (N, SH v T, I, L, Dd) (fun R => R = .inl (some (.int (shuM I m z a b c).1), (N, SH v T, (shuM I m z a b c).2, L, Dd))) := by
  refine MT.mk dvX7_shunts.1 ?_
  refine Ev.sg hX (sX7_shunts_0.sub 0 4) (pc' := 4) (ls' := [some (.ref 396), some (.int a), some (.int b), some (.int c), none, none, none, none]) (st' := [.int c, .int b, .int a, .ref 396]) (h' := (N, SH v T, I, L, Dd)) rfl ?_
  refine Ev.callV (As := [.int a, .int b, .int c]) (rest := []) dvX7_whyNot mkX7_120 rfl rfl dX7_shunts_4 (m_whyNot (d := d - 1) (I := I) hX (by omega) hm20 hm hz8 hz hPL) ⟨by omega, by show 6 + 19 + 40 * _ ≤ 40 * _; omega⟩ ⟨Nat.zero_le _, Nat.zero_le _⟩ rfl (Nat.le_of_ble_eq_true rfl) (fun v9 h9 e9 => ?_) (fun E9 h9 e9 => nomatch e9)
  cases e9
  show Ev _ _ _ _ _ _ 7 [some (.ref 396), some (.int a), some (.int b), some (.int c), none, none, none, none] [.int ((whM I m z a b c).1)] (N, SH v T, (whM I m z a b c).2, L, Dd)
  refine Ev.sg hX (sX7_shunts_7.sub 0 2) (pc' := 11) (ls' := [some (.ref 396), some (.int a), some (.int b), some (.int c), some (.int ((whM I m z a b c).1)), none, none, none]) (st' := [.int ((whM I m z a b c).1)]) (h' := (N, SH v T, (whM I m z a b c).2, L, Dd)) rfl ?_
  refine Ev.if_le (tgt := 21) dX7_shunts_11 (by decide) (fun b1 => ?_) (fun b1 => ?_)
  · have hw0 : ¬ 0 < (whM I m z a b c).1 := Int32.not_lt.mpr b1
    have hw1 := hw0
    obtain ⟨x, y, q, c0, rfl, rfl, rfl, hx, hy, hxy, hq9, hq, hc0, hg, hp, hw2⟩ := whM_ok hz8 hz hPL hw0
    refine Ev.eqh (h' := (N, SH v T, exM I z y, L, Dd)) (congrArg (fun z => (N, SH v T, z, L, Dd)) hw2) ?_
    generalize (whM I m z (nI x) (nI y) (nI q)).1 = w0
    have hcx : (nI x).toNatClampNeg = x := nI_clamp (by omega)
    have hcy : (nI y).toNatClampNeg = y := nI_clamp (by omega)
    have hcq : (nI q).toNatClampNeg = q := nI_clamp (by omega)
    rw [hcx, hcy, hcq] at hok
    refine Ev.sg hX (sX7_shunts_21.sub 0 4) (pc' := 25) (ls' := [some (.ref 396), some (.int (nI x)), some (.int (nI y)), some (.int (nI q)), some (.int w0), none, none, none]) (st' := [.int (nI q), .int (nI y), .int (nI x), .ref 396]) (h' := (N, SH v T, exM I z y, L, Dd)) rfl ?_
    refine Ev.callV (As := [.int (nI x), .int (nI y), .int (nI q)]) (rest := []) dvX7_minutesFor mkX7_124 rfl rfl dX7_shunts_25 (m_minutesFor (d := d - 1) (I := (exM I z y)) (x := x) (y := y) (q := q) hX (by omega) hm20 ((congrFun ((exM_ne (by decide)).trans rfl) 1).trans hm) hz8 ((congrFun ((exM_ne (by decide)).trans rfl) 0).trans hz) (by omega) (by omega) ⟨c0, hc0, hq, (congrFun (exM_ne (by decide)) (31 + x)).trans hg, fun p hp9 => by obtain ⟨s, h1, h2⟩ := hp p hp9; exact ⟨s, h1, by rw [slAM_congr (exM_ne (by decide))]; exact h2⟩⟩) ⟨by omega, by show 6 + 19 + 40 * _ ≤ 40 * _; omega⟩ ⟨Nat.zero_le _, Nat.zero_le _⟩ rfl (Nat.le_of_ble_eq_true rfl) (fun v9 h9 e9 => ?_) (fun E9 h9 e9 => nomatch e9)
    cases e9
    show Ev _ _ _ _ _ _ 28 [some (.ref 396), some (.int (nI x)), some (.int (nI y)), some (.int (nI q)), some (.int w0), none, none, none] [.int (miM (exM I z y) m z x y q)] (N, SH v T, exM (exM I z y) z y, L, Dd)
    refine Ev.sg hX (sX7_shunts_28.sub 0 3) (pc' := 33) (ls' := [some (.ref 396), some (.int (nI x)), some (.int (nI y)), some (.int (nI q)), some (.int w0), some (.int (miM (exM I z y) m z x y q)), some (.int 0), none]) (st' := []) (h' := (N, SH v T, exM (exM I z y) z y, L, Dd)) rfl ?_
    refine l_shu hX (by omega) hm20 (by omega) (by omega) hxy hq9 q 0 (exM (exM I z y) z y) none (Nat.zero_add q) ((congrFun (exM_ne (by decide)) 1).trans ((congrFun (exM_ne (by decide)) 1).trans hm)) (hok hw1) (fun l7 => ?_)
    show Ev _ _ _ _ _ _ 111 [some (.ref 396), some (.int (nI x)), some (.int (nI y)), some (.int (nI q)), some (.int w0), some (.int (miM (exM I z y) m z x y q)), some (.int (nI q)), l7] [] (N, SH v T, shK I m z x y q, L, Dd)
    refine Ev.sg hX (sX7_shunts_111.sub 0 1) (pc' := 112) (ls' := [some (.ref 396), some (.int (nI x)), some (.int (nI y)), some (.int (nI q)), some (.int w0), some (.int (miM (exM I z y) m z x y q)), some (.int (nI q)), l7]) (st' := [.ref 396]) (h' := (N, SH v T, shK I m z x y q, L, Dd)) rfl ?_
    refine Ev.getf (sX7_shunts_111.lk 1 (q := (112, .getfield 7, 7, 0)) rfl) rfl rfl (sX7_shunts_111.dc 1 (q := (112, .getfield 7, 7, 0)) rfl) ?_
    show Ev _ _ _ _ _ _ 115 [some (.ref 396), some (.int (nI x)), some (.int (nI y)), some (.int (nI q)), some (.int w0), some (.int (miM (exM I z y) m z x y q)), some (.int (nI q)), l7] [.ref 397] (N, SH v T, shK I m z x y q, L, Dd)
    refine Ev.sg hX (sX7_shunts_111.sub 2 2) (pc' := 117) (ls' := [some (.ref 396), some (.int (nI x)), some (.int (nI y)), some (.int (nI q)), some (.int w0), some (.int (miM (exM I z y) m z x y q)), some (.int (nI q)), l7]) (st' := [.int 5, .ref 397, .int 5, .ref 397]) (h' := (N, SH v T, shK I m z x y q, L, Dd)) rfl ?_
    refine Ev.ialdE (n := 5) (N := 179) rfl rfl (by omega) (by decide) dX7_shunts_117 ?_
    show Ev _ _ _ _ _ _ 118 [some (.ref 396), some (.int (nI x)), some (.int (nI y)), some (.int (nI q)), some (.int w0), some (.int (miM (exM I z y) m z x y q)), some (.int (nI q)), l7] [.int ((shK I m z x y q) 397 5), .int 5, .ref 397] (N, SH v T, shK I m z x y q, L, Dd)
    refine Ev.sg hX (sX7_shunts_118.sub 0 2) (pc' := 121) (ls' := [some (.ref 396), some (.int (nI x)), some (.int (nI y)), some (.int (nI q)), some (.int w0), some (.int (miM (exM I z y) m z x y q)), some (.int (nI q)), l7]) (st' := [.int (((shK I m z x y q) 397 5) + (miM (exM I z y) m z x y q)), .int 5, .ref 397]) (h' := (N, SH v T, shK I m z x y q, L, Dd)) rfl ?_
    refine Ev.iastE (n := 5) (N := 179) hX rfl rfl (by omega) (by decide) dX7_shunts_121 ?_
    show Ev _ _ _ _ _ _ 122 [some (.ref 396), some (.int (nI x)), some (.int (nI y)), some (.int (nI q)), some (.int w0), some (.int (miM (exM I z y) m z x y q)), some (.int (nI q)), l7] [] (N, SH v T, up2 (shK I m z x y q) 397 5 (((shK I m z x y q) 397 5) + (miM (exM I z y) m z x y q)), L, Dd)
    refine Ev.sg hX (sX7_shunts_122.sub 0 1) (pc' := 123) (ls' := [some (.ref 396), some (.int (nI x)), some (.int (nI y)), some (.int (nI q)), some (.int w0), some (.int (miM (exM I z y) m z x y q)), some (.int (nI q)), l7]) (st' := [.ref 396]) (h' := (N, SH v T, up2 (shK I m z x y q) 397 5 (((shK I m z x y q) 397 5) + (miM (exM I z y) m z x y q)), L, Dd)) rfl ?_
    refine Ev.getf (sX7_shunts_122.lk 1 (q := (123, .getfield 7, 7, 0)) rfl) rfl rfl (sX7_shunts_122.dc 1 (q := (123, .getfield 7, 7, 0)) rfl) ?_
    show Ev _ _ _ _ _ _ 126 [some (.ref 396), some (.int (nI x)), some (.int (nI y)), some (.int (nI q)), some (.int w0), some (.int (miM (exM I z y) m z x y q)), some (.int (nI q)), l7] [.ref 397] (N, SH v T, up2 (shK I m z x y q) 397 5 (((shK I m z x y q) 397 5) + (miM (exM I z y) m z x y q)), L, Dd)
    refine Ev.sg hX (sX7_shunts_122.sub 2 2) (pc' := 128) (ls' := [some (.ref 396), some (.int (nI x)), some (.int (nI y)), some (.int (nI q)), some (.int w0), some (.int (miM (exM I z y) m z x y q)), some (.int (nI q)), l7]) (st' := [.int 3, .ref 397, .int 3, .ref 397]) (h' := (N, SH v T, up2 (shK I m z x y q) 397 5 (((shK I m z x y q) 397 5) + (miM (exM I z y) m z x y q)), L, Dd)) rfl ?_
    refine Ev.ialdE (n := 3) (N := 179) rfl rfl (by omega) (by decide) dX7_shunts_128 ?_
    show Ev _ _ _ _ _ _ 129 [some (.ref 396), some (.int (nI x)), some (.int (nI y)), some (.int (nI q)), some (.int w0), some (.int (miM (exM I z y) m z x y q)), some (.int (nI q)), l7] [.int ((up2 (shK I m z x y q) 397 5 (((shK I m z x y q) 397 5) + (miM (exM I z y) m z x y q))) 397 3), .int 3, .ref 397] (N, SH v T, up2 (shK I m z x y q) 397 5 (((shK I m z x y q) 397 5) + (miM (exM I z y) m z x y q)), L, Dd)
    refine Ev.eqst (st' := [.int ((shK I m z x y q) 397 3), .int 3, .ref 397]) (by rw [show (up2 (shK I m z x y q) 397 5 (((shK I m z x y q) 397 5) + (miM (exM I z y) m z x y q))) 397 3 = (shK I m z x y q) 397 3 from ((up2_i (by omega)))]) ?_
    refine Ev.sg hX (sX7_shunts_129.sub 0 2) (pc' := 131) (ls' := [some (.ref 396), some (.int (nI x)), some (.int (nI y)), some (.int (nI q)), some (.int w0), some (.int (miM (exM I z y) m z x y q)), some (.int (nI q)), l7]) (st' := [.int (((shK I m z x y q) 397 3) + 1), .int 3, .ref 397]) (h' := (N, SH v T, up2 (shK I m z x y q) 397 5 (((shK I m z x y q) 397 5) + (miM (exM I z y) m z x y q)), L, Dd)) rfl ?_
    refine Ev.iastE (n := 3) (N := 179) hX rfl rfl (by omega) (by decide) dX7_shunts_131 ?_
    show Ev _ _ _ _ _ _ 132 [some (.ref 396), some (.int (nI x)), some (.int (nI y)), some (.int (nI q)), some (.int w0), some (.int (miM (exM I z y) m z x y q)), some (.int (nI q)), l7] [] (N, SH v T, up2 (up2 (shK I m z x y q) 397 5 (((shK I m z x y q) 397 5) + (miM (exM I z y) m z x y q))) 397 3 (((shK I m z x y q) 397 3) + 1), L, Dd)
    refine Ev.sg hX (sX7_shunts_132.sub 0 2) (pc' := 135) (ls' := [some (.ref 396), some (.int (nI x)), some (.int (nI y)), some (.int (nI q)), some (.int w0), some (.int (miM (exM I z y) m z x y q)), some (.int (nI q)), l7]) (st' := [.int (miM (exM I z y) m z x y q), .ref 396]) (h' := (N, SH v T, up2 (up2 (shK I m z x y q) 397 5 (((shK I m z x y q) 397 5) + (miM (exM I z y) m z x y q))) 397 3 (((shK I m z x y q) 397 3) + 1), L, Dd)) rfl ?_
    refine Ev.callV (As := [.int (miM (exM I z y) m z x y q)]) (rest := []) dvX7_done mkX7_79 rfl rfl dX7_shunts_135 (m_done (d := d - 1) (I := (up2 (up2 (shK I m z x y q) 397 5 (((shK I m z x y q) 397 5) + (miM (exM I z y) m z x y q))) 397 3 (((shK I m z x y q) 397 3) + 1))) hX (by omega)) ⟨by omega, by show 2 + 19 + 40 * _ ≤ 40 * _; omega⟩ ⟨Nat.zero_le _, Nat.zero_le _⟩ rfl (Nat.le_of_ble_eq_true rfl) (fun v9 h9 e9 => ?_) (fun E9 h9 e9 => nomatch e9)
    cases e9
    show Ev _ _ _ _ _ _ 138 [some (.ref 396), some (.int (nI x)), some (.int (nI y)), some (.int (nI q)), some (.int w0), some (.int (miM (exM I z y) m z x y q)), some (.int (nI q)), l7] [.int (miM (exM I z y) m z x y q)] (N, SH v T, up2 (up2 (up2 (shK I m z x y q) 397 5 (((shK I m z x y q) 397 5) + (miM (exM I z y) m z x y q))) 397 3 (((shK I m z x y q) 397 3) + 1)) 396 12 0, L, Dd)
    refine Ev.iret dX7_shunts_138 rfl ?_
    rw [shuM, if_neg hw1, hcx, hcy, hcq]
  · refine Ev.sg hX (sX7_shunts_14.sub 0 2) (pc' := 17) (ls' := [some (.ref 396), some (.int a), some (.int b), some (.int c), some (.int ((whM I m z a b c).1)), none, none, none]) (st' := [.int ((whM I m z a b c).1), .ref 396]) (h' := (N, SH v T, (whM I m z a b c).2, L, Dd)) rfl ?_
    refine Ev.callV (As := [.int ((whM I m z a b c).1)]) (rest := []) dvX7_fails mkX7_75 rfl rfl dX7_shunts_17 (m_fails (d := d - 1) (I := ((whM I m z a b c).2)) hX (by omega)) ⟨by omega, by show 2 + 19 + 40 * _ ≤ 40 * _; omega⟩ ⟨Nat.zero_le _, Nat.zero_le _⟩ rfl (Nat.le_of_ble_eq_true rfl) (fun v9 h9 e9 => ?_) (fun E9 h9 e9 => nomatch e9)
    cases e9
    show Ev _ _ _ _ _ _ 20 [some (.ref 396), some (.int a), some (.int b), some (.int c), some (.int ((whM I m z a b c).1)), none, none, none] [.int 0] (N, SH v T, up2 ((whM I m z a b c).2) 396 12 ((whM I m z a b c).1), L, Dd)
    refine Ev.iret dX7_shunts_20 rfl ?_
    rw [shuM, if_pos (Int32.not_le.mp b1)]
end MOD4
