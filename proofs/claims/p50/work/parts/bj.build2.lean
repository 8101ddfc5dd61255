/-! more of the build: the numbers that cars get, the canonical rows -/
section BB2
variable {I J : HI} {m z s x k : Nat} {a b c e f : Int32}
theorem f2_396 {j : Nat} {y : Int32} : up2 J 396 j y 397 2 = J 397 2 := congrFun (up2_ne (by decide)) 2
theorem f2_exM {u : Nat} : exM I z u 397 2 = I 397 2 := congrFun (exM_ne (by decide)) 2
theorem f2_lvM : lvM I m s 397 2 = I 397 2 := by
  rw [lvM, up2_i (by decide), lvF_i (by decide), lv0, up2_i (by omega), up2_i (by decide), up2_i (by decide)]
theorem f2_whM : (whM I m z a b c).2 397 2 = I 397 2 := congrFun (whM_ne (by decide)) 2
theorem f2_shK {y q : Nat} : shK I m z x y q 397 2 = I 397 2 := by
  unfold shK
  refine (fo_inv (P := fun (Z : HI) => Z 397 2 = I 397 2) (fun i Z e => (mvS_1 (by decide)).trans e) _ _ _ ?_)
  rw [f2_exM, f2_exM]
theorem f2_tl {a b : Nat} : tlM I a b 397 2 = I 397 2 := tlM_i (by omega) (by omega)
theorem f2_dp {n : Nat} : fo (dpS m x) n 0 I 397 2 = I 397 2 := fo_inv (P := fun (Z : HI) => Z 397 2 = I 397 2) (fun i Z e => f2_lvM.trans e) _ _ _ rfl
/-- a command that is no new car leaves the next number -/
theorem f2_mK {kk : Nat} (hk : kk < 7) (h3 : kk ≠ 3) (hz : z ≤ 8) : (mK J z m a b c e f kk).2 397 2 = J 397 2 := by
  rcases kk with _ | _ | _ | _ | _ | _ | _ | kk
  · show (adtM J z a b).2 397 2 = _
    unfold adtM
    split
    · dsimp only
      exact f2_396
    · split
      · dsimp only
        exact f2_396
      · dsimp only
        refine f2_396.trans ?_
        rw [up2_i (by omega), up2_i (by omega), up2_i (by omega)]
  · show (cnM J z a b).2 397 2 = _
    unfold cnM
    (repeat' split) <;> dsimp only <;> first | exact f2_396 | exact f2_396.trans f2_tl
  · show (dcM J z a b).2 397 2 = _
    unfold dcM
    (repeat' split) <;> dsimp only <;> first | exact f2_396 | exact f2_396.trans f2_tl
  · exact absurd rfl h3
  · show (shuM J m z a b c).2 397 2 = _
    unfold shuM
    split
    · dsimp only
      exact f2_396.trans f2_whM
    · dsimp only
      refine f2_396.trans ?_
      rw [up2_i (by decide), up2_i (by decide)]
      exact f2_shK
  · show (repM J m a).2 397 2 = _
    unfold repM
    (repeat' split) <;> dsimp only <;> first | exact f2_396 | exact f2_396.trans (up2_i (by omega))
  · show (depM J m a b).2 397 2 = _
    unfold depM
    (repeat' split) <;> dsimp only <;> first | exact f2_396 | exact f2_396.trans f2_dp
  · omega
theorem f2_3 : (accM J m a b c e f).2 397 2 = J 397 2 ∨ (accM J m a b c e f).2 397 2 = J 397 2 + 1 := by
  unfold accM
  (repeat' split) <;> dsimp only <;> first | exact Or.inl f2_396 | exact Or.inr (f2_396.trans (by unfold accI; rw [up2_hit]))
/-- how high the next number may be, and the numbers' form -/
def up8 (q : Nat) (s s' : GS) : Prop := (s.1 0 ≤ 8 ∧ s.1 2 ≤ 1000 ∧ cano s.1) → s'.1 0 ≤ 8 ∧ s'.1 2 ≤ s.1 2 + q ∧ cano s'.1
theorem up8.tr {q r : Nat} {s s' s2 : GS} (h1 : up8 q s s') (h2 : up8 r s' s2) (hq : ∀ h : s.1 0 ≤ 8 ∧ s.1 2 ≤ 1000 ∧ cano s.1, s.1 2 + q ≤ 1000) : up8 (q + r) s s2 := fun h => by
  obtain ⟨a1, a2, a3⟩ := h1 h
  obtain ⟨b1, b2, b3⟩ := h2 ⟨a1, by have := hq h; omega, a3⟩
  exact ⟨b1, by omega, b3⟩
theorem cm_up {s : GS} {kk : Nat} (hk : kk < 7) : up8 (if kk = 3 then 1 else 0) s (cmG s a b c e f kk) := fun h => by
  obtain ⟨h8, h2, hc⟩ := h
  refine ⟨(fs_cm8 h8 hk).2, ?_, ?_⟩
  · unfold cmG cmS
    split
    · show canonG ((mK (GJ s.1) (s.1 0) (s.1 1) a b c e f kk).2 397) 2 ≤ _
      unfold canonG
      rw [if_pos (by decide)]
      by_cases c3 : kk = 3
      · subst c3
        rw [if_pos rfl]
        have q := f2_3 (J := GJ s.1) (m := s.1 1) (a := a) (b := b) (c := c) (e := e) (f := f)
        rcases q with q | q
        · have q9 : (mK (GJ s.1) (s.1 0) (s.1 1) a b c e f 3).2 397 2 = nI (s.1 2) := q
          rw [q9, nI_clamp (by omega)]
          omega
        · have q9 : (mK (GJ s.1) (s.1 0) (s.1 1) a b c e f 3).2 397 2 = nI (s.1 2) + 1 := q
          rw [q9, nI_1, nI_clamp (by omega)]
          omega
      · rw [if_neg c3]
        have q : (mK (GJ s.1) (s.1 0) (s.1 1) a b c e f kk).2 397 2 = nI (s.1 2) := f2_mK hk c3 h8
        rw [q, nI_clamp (by omega)]
        omega
    · omega
  · unfold cmG cmS
    split
    · exact cano_G
    · exact hc
theorem cm_up0 {s : GS} {kk : Nat} (hk : kk < 7) (h3 : kk ≠ 3) : up8 0 s (cmG s a b c e f kk) := by
  have q := cm_up (s := s) (a := a) (b := b) (c := c) (e := e) (f := f) hk
  rw [if_neg h3] at q
  exact q
theorem cm_up1 {s : GS} : up8 1 s (cmG s a b c e f 3) := cm_up (kk := 3) (by decide)
theorem up8.rf {s : GS} : up8 0 s s := fun h => ⟨h.1, by omega, h.2.2⟩
theorem up8.if0 {p : Prop} [Decidable p] {s s' : GS} (h : up8 0 s s') : up8 0 s (if p then s' else s) := by
  by_cases c : p
  · rw [if_pos c]; exact h
  · rw [if_neg c]; exact up8.rf
theorem up8.t0 {q : Nat} {s s' s2 : GS} (h1 : up8 q s s') (h2 : up8 0 s' s2) (hq : s.1 2 + q ≤ 1000) : up8 q s s2 := h1.tr h2 (fun _ => hq)
/-- a step of the second loop: at most two cars -/
theorem F2_up {c : Int32} {s : GS} (h : s.1 2 + 2 ≤ 1000) : up8 2 s (bF2 c s) := by
  unfold bF2
  obtain ⟨n, hn⟩ : ∃ n, n = nI (s.1 0) := ⟨_, rfl⟩
  rw [← hn]
  obtain ⟨t, ht⟩ : ∃ t, t = rmI (c &&& 7) n := ⟨_, rfl⟩
  rw [← ht]
  have a2 : up8 2 s (bC2 c t n (bC1 c t s)) := (cm_up1 : up8 1 s (bC1 c t s)).tr (cm_up1 : up8 1 _ (bC2 c t n _)) (fun _ => by omega)
  exact (((((a2.t0 (up8.if0 (cm_up0 (by decide) (by decide)) : up8 0 _ (bC3 c t n _)) h).t0 (up8.if0 (cm_up0 (by decide) (by decide)) : up8 0 _ (bC4 c t n _)) h).t0 (up8.if0 (cm_up0 (by decide) (by decide)) : up8 0 _ (bC5 c t n _)) h).t0 (up8.if0 (cm_up0 (by decide) (by decide)) : up8 0 _ (bC6 c t n _)) h).t0 (up8.if0 (cm_up0 (by decide) (by decide)) : up8 0 _ (bC7 c t n _)) h).t0 (up8.if0 (cm_up0 (by decide) (by decide)) : up8 0 _ (bC8 c t n _)) h
theorem F1_up {z : Int32} {k : Nat} {s : GS} (h : s.1 2 ≤ 1000) : up8 0 s (bF1 z k s) := by
  unfold bF1
  by_cases c : nI k ≤ 0
  · rw [if_pos c]
    exact cm_up0 (by decide) (by decide)
  · rw [if_neg c]
    exact (cm_up0 (by decide) (by decide)).t0 (cm_up0 (by decide) (by decide)) (by omega)
theorem st_up : st_s.1 0 ≤ 8 ∧ st_s.1 2 = 1 ∧ cano st_s.1 := by
  refine ⟨by show (if (0 : Nat) = 2 then 1 else 0) ≤ 8; decide, rfl, fun k => ⟨?_, fun h => ?_⟩⟩
  · show (if k = 2 then 1 else 0) < _
    split <;> decide
  · show (if k = 2 then 1 else 0) = 0
    rw [if_neg (by omega)]
theorem fold_1 {z : Int32} : ∀ (n k : Nat) (s : GS), s.1 0 ≤ 8 → s.1 2 ≤ 1000 → cano s.1 → (fo (fun k s => bF1 z k s) n k s).1 0 ≤ 8 ∧ (fo (fun k s => bF1 z k s) n k s).1 2 ≤ s.1 2 ∧ cano (fo (fun k s => bF1 z k s) n k s).1
  | 0, _, _, h1, _, h3 => ⟨h1, Nat.le_refl _, h3⟩
  | n + 1, k, s, h1, h2, h3 => by
    obtain ⟨a1, a2, a3⟩ := F1_up (z := z) (k := k) h2 ⟨h1, h2, h3⟩
    obtain ⟨b1, b2, b3⟩ := fold_1 n (k + 1) (bF1 z k s) a1 (by omega) a3
    exact ⟨b1, Nat.le_trans b2 (by omega), b3⟩
theorem fold_2 {A : Nat → Int32} : ∀ (n k : Nat) (s : GS), s.1 0 ≤ 8 → s.1 2 + 2 * n ≤ 1000 → cano s.1 → (fo (fun k s => bF2 (A k) s) n k s).1 0 ≤ 8 ∧ (fo (fun k s => bF2 (A k) s) n k s).1 2 ≤ s.1 2 + 2 * n ∧ cano (fo (fun k s => bF2 (A k) s) n k s).1
  | 0, _, _, h1, _, h3 => ⟨h1, Nat.le_refl _, h3⟩
  | n + 1, k, s, h1, h2, h3 => by
    obtain ⟨a1, a2, a3⟩ := F2_up (c := A k) (s := s) (by omega) ⟨h1, by omega, h3⟩
    obtain ⟨b1, b2, b3⟩ := fold_2 n (k + 1) (bF2 (A k) s) a1 (by omega) a3
    exact ⟨b1, Nat.le_trans b2 (by omega), b3⟩
/-- the yard of the script: at most 24 cars were made -/
theorem bG_up (A : Nat → Int32) : (bG A).1 0 ≤ 8 ∧ (bG A).1 2 ≤ 25 ∧ cano (bG A).1 := by
  obtain ⟨s1, s2, s3⟩ := st_up
  obtain ⟨a1, a2, a3⟩ := fold_1 (z := A 0) (3 + (A 0 &&& 3).toNatClampNeg) 0 st_s s1 (by omega) s3
  obtain ⟨b1, b2, b3⟩ := fold_2 (A := A) 12 1 (bG1 A) a1 (by unfold bG1; omega) a3
  exact ⟨b1, Nat.le_trans b2 (by unfold bG1; omega), b3⟩
/-- the rest of what the built object tells: no text -/
theorem cm_qq {s : GS} {kk : Nat} : (cmG s a b c e f kk).2.2.2 = s.2.2.2 := by
  unfold cmG cmS
  split <;> rfl
end BB2
/-! what is kept, taken back -/
section POP
variable {gs : Nat → Nat → Nat} {g g1 g2 : Nat → Nat} {d : Nat}
theorem pop_1 (hd : d ≤ 8) : pushG gs d g (min 8 (d + 1) - 1) = g := by
  unfold pushG
  by_cases h : d < 8
  · rw [if_pos h]
    show (if min 8 (d + 1) - 1 = d then g else _) = g
    rw [if_pos (by omega)]
  · rw [if_neg h]
    show (if min 8 (d + 1) - 1 = 7 then g else _) = g
    rw [if_pos (by omega)]
theorem pop_3 (hd : d ≤ 8) : pushG (pushG (pushG gs d g) (min 8 (d + 1)) g1) (min 8 (min 8 (d + 1) + 1)) g2 (min 8 (min 8 (min 8 (d + 1) + 1) + 1) - 1 - 1 - 1) = g := by
  have c : d ≤ 5 ∨ d = 6 ∨ d = 7 ∨ d = 8 := by omega
  rcases c with h | rfl | rfl | rfl
  · have e1 : min 8 (d + 1) = d + 1 := by omega
    have e2 : min 8 (d + 1 + 1) = d + 2 := by omega
    have e3 : min 8 (d + 2 + 1) = d + 3 := by omega
    rw [e1, e2, e3]
    have p0 : d < 8 := by omega
    have p1 : d + 1 < 8 := by omega
    have p2 : d + 2 < 8 := by omega
    have i1 : ¬ d + 3 - 1 - 1 - 1 = d + 2 := by omega
    have i2 : ¬ d + 3 - 1 - 1 - 1 = d + 1 := by omega
    have i3 : d + 3 - 1 - 1 - 1 = d := by omega
    unfold pushG
    rw [if_pos p0, if_pos p1, if_pos p2]
    show (if d + 3 - 1 - 1 - 1 = d + 2 then g2 else if d + 3 - 1 - 1 - 1 = d + 1 then g1 else if d + 3 - 1 - 1 - 1 = d then g else _) = g
    rw [if_neg i1, if_neg i2, if_pos i3]
  · rfl
  · rfl
  · rfl
end POP
