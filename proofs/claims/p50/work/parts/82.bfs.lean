/-! the class's search -/
section BFQ
variable {I : HI} {ad : Nat → Nat → Prop} {z s : Nat}
def bqJ (I : HI) (ad : Nat → Nat → Prop) (z s h k : Nat) (u : HI × Int32) (D Q : Nat → Nat) (q : Nat) : Prop :=
  (∀ a, a ≠ 10 → a ≠ 12 → u.1 a = I a) ∧ (u.2 = nI q ∧ 1 ≤ q ∧ q ≤ 8) ∧ (∀ p, p < q → Q p < z ∧ u.1 12 p = nI (Q p)) ∧
  (∀ j, j < 8 → u.1 10 j = nI (D j) ∧ (D j < 8 ∨ D j = 1000)) ∧ (∀ p, p < q → D (Q p) ≤ p) ∧ (∀ j, j < 8 → D j ≠ 1000 → ∃ p, p < q ∧ Q p = j) ∧
  (∀ p p', p < p' → p' < q → Q p ≠ Q p') ∧ (∀ j, j < 8 → D j ≠ 1000 → wk ad s (D j) j) ∧ (∀ p p', p ≤ p' → p' < q → D (Q p) ≤ D (Q p')) ∧
  (∀ p, p < h → ∀ n, n < z → ad (Q p) n → D n ≤ D (Q p) + 1) ∧ (h < q → ∀ p, p < q → D (Q p) ≤ D (Q h) + 1) ∧
  (h < q → ∀ n, n < k → ad (Q h) n → D n ≤ D (Q h) + 1) ∧ D s = 0
theorem bq_full {Q : Nat → Nat} {z q k : Nat} (hz8 : z ≤ 8) (hk : k < z) (hQ : ∀ p, p < q → Q p < z) (hi : ∀ p p', p < p' → p' < q → Q p ≠ Q p') (hn : ∀ p, p < q → Q p ≠ k) (hq : q ≤ 8) : q < 8 := by
  by_cases h : q < 8
  · exact h
  · exfalso
    have e : q = 8 := by omega
    subst e
    obtain ⟨i, j, hij, hj, he⟩ := php 8 (fun p => if p < 8 then Q p else k) (fun i hi2 => by
      show (if i < 8 then Q i else k) < 8
      split
      · have := hQ i (by omega); omega
      · omega)
    try simp only at he
    rw [if_pos (by omega : i < 8)] at he
    by_cases c : j < 8
    · rw [if_pos c] at he
      exact hi i j hij c he
    · rw [if_neg c] at he
      exact hn i (by omega) he
theorem bq_st (hl : ∀ i k, i < z → k < z → (I 8 (i * 8 + k) = 1 ↔ ad i k)) (hs : ∀ i j, ad i j → ad j i) (hz8 : z ≤ 8) {h k q : Nat} {u : HI × Int32} {D Q : Nat → Nat} (hk : k < z) (hq : h < q) (H : bqJ I ad z s h k u D Q q) : ∃ D' Q' q', bqJ I ad z s h (k + 1) (stN (nI (Q h)) k u) D' Q' q' ∧ Q' h = Q h ∧ h < q' := by
  obtain ⟨h1, ⟨h2, h2a, h2b⟩, h3, h4, h5, h6, h7, h8, h9, h10, h11, h12, h13⟩ := H
  have hw := (h3 h hq).1
  have hDw := h5 h hq
  have hcond : rg 64 (u.1 8) (nI (Q h) * 8 + nI k) = 1 ↔ ad (Q h) k := by
    rw [cix, rg_nI (by omega) (by decide), h1 8 (by decide) (by decide)]
    exact hl _ _ hw hk
  have hDk : u.1 10 k = 1000 ↔ D k = 1000 := by
    rw [(h4 k (by omega)).1, show (1000 : Int32) = nI 1000 from rfl]
    rcases (h4 k (by omega)).2 with c | c
    · exact nI_eq (by omega) (by omega)
    · exact nI_eq (by omega) (by omega)
  by_cases hc : ad (Q h) k ∧ D k = 1000
  · have hst : stN (nI (Q h)) k u = (upr (up2 u.1 10 k (rg 8 (u.1 10) (nI (Q h)) + 1)) 12 8 u.2 (nI k), u.2 + 1) := by
      unfold stN
      rw [if_pos ⟨hcond.mpr hc.1, hDk.mpr hc.2⟩]
    have hnk : ∀ p, p < q → Q p ≠ k := fun p hp e => by
      have a := h5 p hp
      rw [e, hc.2] at a
      omega
    have hq8 : q < 8 := bq_full hz8 hk (fun p hp => (h3 p hp).1) h7 hnk h2b
    have hv : rg 8 (u.1 10) (nI (Q h)) + 1 = nI (D (Q h) + 1) := by
      rw [rg_nI (by omega) (by decide), (h4 _ (by omega)).1, nI_1]
    have hu : (stN (nI (Q h)) k u) = (up2 (up2 u.1 10 k (nI (D (Q h) + 1))) 12 q (nI k), nI (q + 1)) := by
      rw [hst, hv, h2, nI_1]
      unfold upr
      rw [if_pos (by rw [nI_toInt (by omega)]; omega), nI_clamp (by omega)]
    have wD : ∀ j, j ≠ k → (if j = k then D (Q h) + 1 else D j) = D j := fun j hj => if_neg hj
    have wQ : ∀ p, p < q → (if p = q then k else Q p) = Q p := fun p hp => if_neg (by omega)
    have hwk : Q h ≠ k := hnk h hq
    refine ⟨fun j => if j = k then D (Q h) + 1 else D j, fun p => if p = q then k else Q p, q + 1, ?_, wQ h hq, by omega⟩
    rw [hu]
    refine ⟨fun a ha ha2 => by show up2 (up2 u.1 10 k _) 12 q _ a = _; rw [up2_ne ha2, up2_ne ha]; exact h1 a ha ha2, ⟨rfl, by omega, by omega⟩, fun p hp => ?_, fun j hj => ?_, fun p hp => ?_, fun j hj hd => ?_, fun p p' hpp hp' => ?_, fun j hj hd => ?_, fun p p' hpp hp' => ?_, fun p hp n hn ha => ?_, fun hh p hp => ?_, fun hh n hn ha => ?_, ?_⟩
    · show (if p = q then k else Q p) < z ∧ up2 (up2 u.1 10 k _) 12 q (nI k) 12 p = nI (if p = q then k else Q p)
      rw [up2_v]
      by_cases c : p = q
      · rw [if_pos c, if_pos c]; exact ⟨hk, rfl⟩
      · rw [if_neg c, if_neg c, up2_ne (by decide)]; exact h3 p (by omega)
    · show up2 (up2 u.1 10 k _) 12 q (nI k) 10 j = nI (if j = k then D (Q h) + 1 else D j) ∧ ((if j = k then D (Q h) + 1 else D j) < 8 ∨ (if j = k then D (Q h) + 1 else D j) = 1000)
      rw [up2_ne (by decide), up2_v]
      by_cases c : j = k
      · rw [if_pos c, if_pos c]; exact ⟨rfl, Or.inl (by omega)⟩
      · rw [if_neg c, if_neg c]; exact h4 j hj
    · show (if (if p = q then k else Q p) = k then D (Q h) + 1 else D (if p = q then k else Q p)) ≤ p
      by_cases c : p = q
      · rw [if_pos c, if_pos rfl]; omega
      · rw [if_neg c, if_neg (hnk p (by omega))]; exact h5 p (by omega)
    · have hd2 : (if j = k then D (Q h) + 1 else D j) ≠ 1000 := hd
      by_cases c : j = k
      · exact ⟨q, by omega, by show (if q = q then k else Q q) = j; rw [if_pos rfl, c]⟩
      · rw [if_neg c] at hd2
        obtain ⟨p, hp, e⟩ := h6 j hj hd2
        exact ⟨p, by omega, by show (if p = q then k else Q p) = j; rw [wQ p hp, e]⟩
    · show (if p = q then k else Q p) ≠ (if p' = q then k else Q p')
      rw [wQ p (by omega)]
      by_cases c : p' = q
      · rw [if_pos c]; exact hnk p (by omega)
      · rw [if_neg c]; exact h7 p p' hpp (by omega)
    · have hd2 : (if j = k then D (Q h) + 1 else D j) ≠ 1000 := hd
      show wk ad s (if j = k then D (Q h) + 1 else D j) j
      by_cases c : j = k
      · rw [if_pos c, c]
        exact ⟨Q h, hs _ _ hc.1, h8 (Q h) (by omega) (by omega)⟩
      · rw [if_neg c] at hd2 ⊢
        exact h8 j hj hd2
    · show (if (if p = q then k else Q p) = k then D (Q h) + 1 else D (if p = q then k else Q p)) ≤ (if (if p' = q then k else Q p') = k then D (Q h) + 1 else D (if p' = q then k else Q p'))
      by_cases c' : p' = q
      · rw [if_pos c', if_pos rfl]
        by_cases c : p = q
        · rw [if_pos c, if_pos rfl]; exact Nat.le_refl _
        · rw [if_neg c, if_neg (hnk p (by omega))]; exact h11 hq p (by omega)
      · rw [if_neg c', if_neg (hnk p' (by omega)), wQ p (by omega), if_neg (hnk p (by omega))]
        exact h9 p p' hpp (by omega)
    · have hq2 : p < q := by omega
      show (if n = k then D (Q h) + 1 else D n) ≤ (if (if p = q then k else Q p) = k then D (Q h) + 1 else D (if p = q then k else Q p)) + 1
      have ha2 : ad (Q p) n := by
        have ha3 : ad (if p = q then k else Q p) n := ha
        rw [wQ p hq2] at ha3
        exact ha3
      rw [wQ p hq2, if_neg (hnk p hq2)]
      have a := h10 p hp n hn ha2
      by_cases c : n = k
      · rw [c, hc.2] at a
        have := h5 p hq2
        omega
      · rw [if_neg c]; exact a
    · show (if (if p = q then k else Q p) = k then D (Q h) + 1 else D (if p = q then k else Q p)) ≤ (if (if h = q then k else Q h) = k then D (Q h) + 1 else D (if h = q then k else Q h)) + 1
      rw [wQ h hq, if_neg hwk]
      by_cases c : p = q
      · rw [if_pos c, if_pos rfl]; exact Nat.le_refl _
      · rw [if_neg c, if_neg (hnk p (by omega))]; exact h11 hq p (by omega)
    · show (if n = k then D (Q h) + 1 else D n) ≤ (if (if h = q then k else Q h) = k then D (Q h) + 1 else D (if h = q then k else Q h)) + 1
      have ha2 : ad (Q h) n := by
        have ha3 : ad (if h = q then k else Q h) n := ha
        rw [wQ h hq] at ha3
        exact ha3
      rw [wQ h hq, if_neg hwk]
      by_cases c : n = k
      · rw [if_pos c]; exact Nat.le_refl _
      · rw [if_neg c]; exact h12 hq n (by omega) ha2
    · show (if s = k then D (Q h) + 1 else D s) = 0
      rw [if_neg (fun e => by rw [← e, h13] at hc; omega)]
      exact h13
  · have hst : stN (nI (Q h)) k u = u := by
      unfold stN
      rw [if_neg (fun c => hc ⟨hcond.mp c.1, hDk.mp c.2⟩)]
    rw [hst]
    refine ⟨D, Q, q, ⟨h1, ⟨h2, h2a, h2b⟩, h3, h4, h5, h6, h7, h8, h9, h10, h11, fun hh n hn ha => ?_, h13⟩, rfl, hq⟩
    by_cases c : n = k
    · subst c
      have hd : D n ≠ 1000 := fun e => hc ⟨ha, e⟩
      obtain ⟨p, hp, e⟩ := h6 n (by omega) hd
      have := h11 hq p hp
      rw [e] at this
      exact this
    · exact h12 hh n (by omega) ha
theorem bq_sc (hl : ∀ i k, i < z → k < z → (I 8 (i * 8 + k) = 1 ↔ ad i k)) (hs : ∀ i j, ad i j → ad j i) (hz8 : z ≤ 8) {h w : Nat} : ∀ n k u D Q q, n + k = z → h < q → Q h = w → bqJ I ad z s h k u D Q q → ∃ D' Q' q', bqJ I ad z s h z (fo (stN (nI w)) n k u) D' Q' q' ∧ h < q'
  | 0, k, u, D, Q, q, he, hq, hw, H => by
    have e : k = z := by omega
    subst e
    exact ⟨D, Q, q, H, hq⟩
  | n + 1, k, u, D, Q, q, he, hq, hw, H => by
    obtain ⟨D1, Q1, q1, H1, e1, hq1⟩ := bq_st hl hs hz8 (by omega : k < z) hq H
    rw [hw] at H1
    exact bq_sc hl hs hz8 n (k + 1) _ D1 Q1 q1 (by omega) hq1 (e1.trans hw) H1
theorem bq_lo (hl : ∀ i k, i < z → k < z → (I 8 (i * 8 + k) = 1 ↔ ad i k)) (hs : ∀ i j, ad i j → ad j i) (hz8 : z ≤ 8) : ∀ n h u D Q q, n + h = 8 → bqJ I ad z s h 0 u D Q q → ∃ D' Q' q' h', q' ≤ h' ∧ bqJ I ad z s h' 0 (bfs z n h u) D' Q' q'
  | 0, h, u, D, Q, q, he, H => ⟨D, Q, q, h, by have := H.2.1.2.2; omega, H⟩
  | n + 1, h, u, D, Q, q, he, H => by
    show ∃ D' Q' q' h', q' ≤ h' ∧ bqJ I ad z s h' 0 (if nI h < u.2 then bfs z n (h + 1) (fo (stN (u.1 12 h)) z 0 u) else u) D' Q' q'
    have hq8 := H.2.1.2.2
    have hlt : nI h < u.2 ↔ h < q := by rw [H.2.1.1]; exact nI_ltI (by omega) (by omega)
    by_cases c : h < q
    · rw [if_pos (hlt.mpr c), (H.2.2.1 h c).2]
      obtain ⟨D1, Q1, q1, ⟨h1, h2, h3, h4, h5, h6, h7, h8, h9, h10, h11, h12, h13⟩, hq1⟩ := bq_sc hl hs hz8 z 0 u D Q q (by omega) c rfl H
      refine bq_lo hl hs hz8 n (h + 1) _ D1 Q1 q1 (by omega) ⟨h1, h2, h3, h4, h5, h6, h7, h8, h9, fun p hp m hm ha => ?_, fun hh p hp => ?_, fun hh m hm ha => by omega, h13⟩
      · by_cases e : p = h
        · subst e; exact h12 hq1 m hm ha
        · exact h10 p (by omega) m hm ha
      · have := h11 hq1 p hp
        have := h9 h (h + 1) (by omega) hh
        omega
    · rw [if_neg (fun e => c (hlt.mp e))]
      exact ⟨D, Q, q, h, by omega, H⟩
theorem fo_fill {a : Nat} {x : Int32} : ∀ n k (J : HI) j, (k ≤ j ∧ j < k + n → fo (fun i (J : HI) => up2 J a i x) n k J a j = x) ∧ (j < k → fo (fun i (J : HI) => up2 J a i x) n k J a j = J a j)
  | 0, k, J, j => ⟨fun h => by omega, fun _ => rfl⟩
  | n + 1, k, J, j => by
    have ih := fo_fill (a := a) (x := x) n (k + 1) (up2 J a k x) j
    refine ⟨fun h => ?_, fun h => ?_⟩
    · by_cases c : j = k
      · refine (ih.2 (by omega)).trans ?_
        rw [up2_v, if_pos c]
      · exact ih.1 (by omega)
    · refine (ih.2 (by omega)).trans ?_
      rw [up2_v, if_neg (by omega)]
theorem fillI_v {a n j : Nat} {x : Int32} (hj : j < n) : fillI I a n x a j = x := (fo_fill n 0 I j).1 ⟨Nat.zero_le _, by omega⟩
/-- what the class's search finds -/
theorem bfs_spec (hl : ∀ i k, i < z → k < z → (I 8 (i * 8 + k) = 1 ↔ ad i k)) (hs : ∀ i j, ad i j → ad j i) (hz : ∀ i j, ad i j → i < z ∧ j < z) (hz8 : z ≤ 8) (ht : s < z) : (∀ a, a ≠ 10 → a ≠ 12 → bfsI I z s a = I a) ∧ ∀ i, i < z → ∃ x, bfsI I z s 10 i = nI x ∧ isD ad 1000 s i x := by
  have h0 : bqJ I ad z s 0 0 (up2 (up2 (fillI I 10 8 1000) 10 s 0) 12 0 (nI s), 1) (fun j => if j = s then 0 else 1000) (fun _ => s) 1 := by
    refine ⟨fun a ha ha2 => ?_, ⟨rfl, by omega, by omega⟩, fun p hp => ?_, fun j hj => ?_, fun p hp => ?_, fun j hj hd => ?_, fun p p' h1 h2 => by omega, fun j hj hd => ?_, fun p p' h1 h2 => Nat.le_refl _, fun p hp => by omega, fun hh p hp => Nat.le_succ _, fun hh n hn => by omega, if_pos rfl⟩
    · show up2 (up2 (fillI I 10 8 1000) 10 s 0) 12 0 (nI s) a = I a
      rw [up2_ne ha2, up2_ne ha, fillI_ne ha]
    · refine ⟨ht, ?_⟩
      show up2 (up2 (fillI I 10 8 1000) 10 s 0) 12 0 (nI s) 12 p = nI s
      rw [up2_v, if_pos (by omega)]
    · show up2 (up2 (fillI I 10 8 1000) 10 s 0) 12 0 (nI s) 10 j = nI (if j = s then 0 else 1000) ∧ ((if j = s then 0 else 1000) < 8 ∨ (if j = s then 0 else 1000) = 1000)
      rw [up2_ne (by decide), up2_v]
      by_cases c : j = s
      · rw [if_pos c, if_pos c]; exact ⟨rfl, Or.inl (by omega)⟩
      · rw [if_neg c, if_neg c, fillI_v hj]; exact ⟨rfl, Or.inr rfl⟩
    · show (if s = s then 0 else 1000) ≤ p
      rw [if_pos rfl]; exact Nat.zero_le _
    · refine ⟨0, by omega, ?_⟩
      by_cases c : j = s
      · exact c.symm
      · exact absurd (if_neg c) hd
    · show wk ad s (if j = s then 0 else 1000) j
      by_cases c : j = s
      · rw [if_pos c]; exact c
      · exact absurd (if_neg c) hd
  obtain ⟨D, Q, q, h', hqh, ⟨h1, h2, h3, h4, h5, h6, h7, h8, h9, h10, h11, h12, h13⟩⟩ := bq_lo hl hs hz8 8 0 _ _ _ _ (by omega) h0
  refine ⟨h1, fun i hi => ⟨D i, (h4 i (by omega)).1, ?_⟩⟩
  have hA : ∀ k, k < 8 → ∀ i, i < z → wk ad s k i → D i ≤ k := by
    intro k
    induction k with
    | zero =>
      intro _ i hi hw
      have e : i = s := hw
      rw [e, h13]
      exact Nat.le_refl _
    | succ k ih =>
      intro hk i hi hw
      obtain ⟨n, hn, hw2⟩ := hw
      have hn2 := (hz i n hn).2
      have a := ih (by omega) n hn2 hw2
      obtain ⟨p, hp, e⟩ := h6 n (by omega) (by omega)
      have b := h10 p (by omega) i hi (by rw [e]; exact hs _ _ hn)
      rw [e] at b
      omega
  have hb := (h4 i (by omega)).2
  exact isD_of hz hz8 hi (by decide) (by omega) (fun k hk hw => hA k hk i hi hw) (fun hd => h8 i (by omega) (by omega))
end BFQ
