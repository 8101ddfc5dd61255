/-! appending -/
def chOK (c : Int32) : Prop := fits .byte (.int c) = true ∧ c.toInt8.toInt32 = c ∧ ¬ 255 < c ∧ vp_nar .byte c = c
def dgL (k : Nat) : List Int32 := if k < 10 then [nI (48 + k)] else if k < 100 then [nI (48 + k / 10), nI (48 + k % 10)] else if k < 1000 then [nI (48 + k / 100), nI (48 + k % 100 / 10), nI (48 + k % 10)] else [nI (48 + k / 1000), nI (48 + k / 100 % 10), nI (48 + k % 100 / 10), nI (48 + k % 10)]
theorem dgL_len (k : Nat) (h : k < 10000) : (dgL k).length = sb_dg k := by
  unfold dgL sb_dg
  (repeat' split) <;> first | rfl | omega
theorem dg_ok : ∀ j, j < 10 → fits .byte (.int (nI (48 + j))) = true ∧ vp_nar .byte (nI (48 + j)) = nI (48 + j) := by decide +kernel
theorem dgL_fit (k : Nat) (h : k < 10000) : ∀ x ∈ dgL k, fits .byte (.int x) = true := by
  intro x hx
  unfold dgL at hx
  (repeat' split at hx) <;> simp only [List.mem_cons, List.not_mem_nil, or_false] at hx <;> (rcases hx with rfl | rfl | rfl | rfl) <;> exact (dg_ok _ (by omega)).1
def gcI (I : HI) (v p k : Nat) : HI := if k < 10 then up2 I v p (nI (48 + k)) else if k < 100 then up2 (up2 I v (p + 1) (nI (48 + k % 10))) v p (nI (48 + k / 10))
  else if k < 1000 then up2 (up2 (up2 I v (p + 2) (nI (48 + k % 10))) v (p + 1) (nI (48 + k % 100 / 10))) v p (nI (48 + k / 100))
  else up2 (up2 (up2 (up2 I v (p + 3) (nI (48 + k % 10))) v (p + 2) (nI (48 + k % 100 / 10))) v (p + 1) (nI (48 + k / 100 % 10))) v p (nI (48 + k / 1000))
theorem up2_at {I : HI} {a p j : Nat} {x : Int32} : up2 I a p x a j = if j = p then x else I a j := by rw [up2_eq]
theorem gcI_v {I : HI} {v p k : Nat} (h : k < 10000) (j : Nat) : gcI I v p k v j = if p ≤ j ∧ j < p + (dgL k).length then (dgL k).getD (j - p) 0 else I v j := by
  unfold gcI dgL
  by_cases h1 : k < 10
  · simp only [if_pos h1, up2_at, List.length_cons, List.length_nil]
    by_cases e : j = p
    · subst e
      simp
    · rw [if_neg e, if_neg (by omega)]
  · by_cases h2 : k < 100
    · simp only [if_neg h1, if_pos h2, up2_at, List.length_cons, List.length_nil]
      by_cases e : j = p
      · subst e
        simp
      · by_cases e2 : j = p + 1
        · subst e2
          simp
        · rw [if_neg e, if_neg e2, if_neg (by omega)]
    · by_cases h3 : k < 1000
      · simp only [if_neg h1, if_neg h2, if_pos h3, up2_at, List.length_cons, List.length_nil]
        by_cases e : j = p
        · subst e
          simp
        · by_cases e2 : j = p + 1
          · subst e2
            simp
          · by_cases e3 : j = p + 2
            · subst e3
              simp
            · rw [if_neg e, if_neg e2, if_neg e3, if_neg (by omega)]
      · simp only [if_neg h1, if_neg h2, if_neg h3, up2_at, List.length_cons, List.length_nil]
        by_cases e : j = p
        · subst e
          simp
        · by_cases e2 : j = p + 1
          · subst e2
            simp
          · by_cases e3 : j = p + 2
            · subst e3
              simp
            · by_cases e4 : j = p + 3
              · subst e4
                simp
              · rw [if_neg e, if_neg e2, if_neg e3, if_neg e4, if_neg (by omega)]
theorem gcI_ne {I : HI} {v p k a : Nat} (h : a ≠ v) : gcI I v p k a = I a := by
  unfold gcI
  split
  · rw [up2_ne h]
  · split
    · rw [up2_ne h, up2_ne h]
    · split
      · rw [up2_ne h, up2_ne h, up2_ne h]
      · rw [up2_ne h, up2_ne h, up2_ne h, up2_ne h]
section SBA
variable {X : JX} {d N v cap n q k : Nat} {T : Nat → Option JS} {I : HI} {L : HL} {Dd : HD} {c : Int32} {w : List Int32} {P : PF}
theorem c_canEnc {h : MH} (hX : JXok X) (hd : 0 ≤ d) (hc : ¬ 255 < c) : MT X d 0 0 jdJ1_canEncode_fc78d [.int c] h (fun R => R = .inl (some (.int 1), h)) := by
  refine MT.mk dsJ1_canEncode_fc78d.1 ?_
  refine Ev.sg hX sJ1_canEncode_fc78d_0 (pc' := 4) (ls' := [some (.int c)]) (st' := [.int 255, .int c]) (h' := h) rfl ?_
  refine Ev.icmp_gt (tgt := 11) dJ1_canEncode_fc78d_4 (by decide) (fun b1 => ?_) (fun b1 => ?_)
  · exact absurd b1 hc
  · refine Ev.sg hX sJ1_canEncode_fc78d_7 (pc' := 12) (ls' := [some (.int c)]) (st' := [.int 1]) (h' := h) rfl ?_
    refine Ev.zret dJ1_canEncode_fc78d_12 rfl ?_ ?_
    · rfl
    rfl
theorem l_app10 {mc ms : Nat} {Q : JR → Prop} (hX : JXok X) (hd : 1 ≤ d) (hv : SH v T v = some (.inl (.byte, cap))) (hc0 : I 394 1 = 0) (hn3 : I 394 3 = nI n) (hn : n < cap) (hcap : cap ≤ 700) (hc : chOK c) (hQ : Q (.inl (some (.ref 394), (N, SH v T, up2 (up2 I 394 3 (nI (n + 1))) v n c, L, Dd)))) : Ev X (jm jdJ5_append_3fe6f) d mc ms Q 10 [some (.ref 394), some (.int c)] [] (N, SH v T, I, L, Dd) := by
  refine Ev.sg hX (sJ5_append_3fe6f_10.sub 0 1) (pc' := 11) (ls' := [some (.ref 394), some (.int c)]) (st' := [.ref 394]) (h' := (N, SH v T, I, L, Dd)) rfl ?_
  refine Ev.callVU (As := []) (rest := []) dbJ5_isLatin1_aae02 dnJ5_isLatin1_aae02 dlJ5_isLatin1_aae02 mkJ5_83 rfl rfl dJ5_append_3fe6f_11 (c_isL1 (d := d - 1) (I := I) hX (by omega) hc0) ⟨by omega, by show 1 + 19 + 40 * _ ≤ 40 * _; omega⟩ ⟨Nat.zero_le _, Nat.zero_le _⟩ rfl (Nat.le_of_ble_eq_true rfl) (fun v9 h9 e9 => ?_) (fun E9 h9 e9 => nomatch e9)
  cases e9
  show Ev _ _ _ _ _ _ 14 [some (.ref 394), some (.int c)] [.int 1] (N, SH v T, I, L, Dd)
  refine Ev.if_eq (tgt := 45) dJ5_append_3fe6f_14 (by decide) (fun b1 => ?_) (fun b1 => ?_)
  · exact absurd b1 (by decide)
  · refine Ev.sg hX (sJ5_append_3fe6f_17.sub 0 1) (pc' := 18) (ls' := [some (.ref 394), some (.int c)]) (st' := [.int c]) (h' := (N, SH v T, I, L, Dd)) rfl ?_
    refine Ev.callS (As := [.int c]) (rest := []) dsJ1_canEncode_fc78d mkJ5_191 dJ5_append_3fe6f_18 (c_canEnc (d := d - 1) hX (by omega) hc.2.2.1) ⟨by omega, by show 1 + 19 + 40 * _ ≤ 40 * _; omega⟩ ⟨Nat.zero_le _, Nat.zero_le _⟩ rfl (Nat.le_of_ble_eq_true rfl) (fun v9 h9 e9 => ?_) (fun E9 h9 e9 => nomatch e9)
    cases e9
    show Ev _ _ _ _ _ _ 21 [some (.ref 394), some (.int c)] [.int 1] (N, SH v T, I, L, Dd)
    refine Ev.if_eq (tgt := 45) dJ5_append_3fe6f_21 (by decide) (fun b2 => ?_) (fun b2 => ?_)
    · exact absurd b2 (by decide)
    · refine Ev.sg hX (sJ5_append_3fe6f_24.sub 0 1) (pc' := 25) (ls' := [some (.ref 394), some (.int c)]) (st' := [.ref 394]) (h' := (N, SH v T, I, L, Dd)) rfl ?_
      refine Ev.getf (sJ5_append_3fe6f_24.lk 1 (q := (25, .getfield 15, 8, 0)) rfl) rfl rfl (sJ5_append_3fe6f_24.dc 1 (q := (25, .getfield 15, 8, 0)) rfl) ?_
      show Ev _ _ _ _ _ _ 28 [some (.ref 394), some (.int c)] [.ref v] (N, SH v T, I, L, Dd)
      refine Ev.sg hX (sJ5_append_3fe6f_24.sub 2 2) (pc' := 30) (ls' := [some (.ref 394), some (.int c)]) (st' := [.ref 394, .ref 394, .ref v]) (h' := (N, SH v T, I, L, Dd)) rfl ?_
      refine Ev.getf (sJ5_append_3fe6f_24.lk 4 (q := (30, .getfield 79, 8, 3)) rfl) rfl rfl (sJ5_append_3fe6f_24.dc 4 (q := (30, .getfield 79, 8, 3)) rfl) ?_
      show Ev _ _ _ _ _ _ 33 [some (.ref 394), some (.int c)] [.int (I 394 3), .ref 394, .ref v] (N, SH v T, I, L, Dd)
      rw [hn3]
      refine Ev.dupx1 rfl rfl dJ5_append_3fe6f_33 ?_
      refine Ev.sg hX (sJ5_append_3fe6f_34.sub 0 2) (pc' := 36) (ls' := [some (.ref 394), some (.int c)]) (st' := [.int ((nI n) + 1), .ref 394, .int (nI n), .ref v]) (h' := (N, SH v T, I, L, Dd)) rfl ?_
      refine Ev.putf hX (sJ5_append_3fe6f_34.lk 2 (q := (36, .putfield 79, 8, 3)) rfl) rfl rfl (sJ5_append_3fe6f_34.dc 2 (q := (36, .putfield 79, 8, 3)) rfl) ?_
      show Ev _ _ _ _ _ _ 39 [some (.ref 394), some (.int c)] [.int (nI n), .ref v] (N, SH v T, up2 I 394 3 ((nI n) + 1), L, Dd)
      refine Ev.sg hX (sJ5_append_3fe6f_34.sub 3 2) (pc' := 41) (ls' := [some (.ref 394), some (.int c)]) (st' := [.int c.toInt8.toInt32, .int (nI n), .ref v]) (h' := (N, SH v T, up2 I 394 3 ((nI n) + 1), L, Dd)) rfl ?_
      rw [hc.2.1, nI_1]
      refine Ev.bastE (n := n) (y := c) hc.2.2.2 hX hv rfl (by omega) (by omega) dJ5_append_3fe6f_41 ?_
      show Ev _ _ _ _ _ _ 42 [some (.ref 394), some (.int c)] [] (N, SH v T, up2 (up2 I 394 3 (nI (n + 1))) v n c, L, Dd)
      refine Ev.sg hX (sJ5_append_3fe6f_42.sub 0 1) (pc' := 75) (ls' := [some (.ref 394), some (.int c)]) (st' := []) (h' := (N, SH v T, up2 (up2 I 394 3 (nI (n + 1))) v n c, L, Dd)) rfl ?_
      refine Ev.sg hX (sJ5_append_3fe6f_75.sub 0 1) (pc' := 76) (ls' := [some (.ref 394), some (.int c)]) (st' := [.ref 394]) (h' := (N, SH v T, up2 (up2 I 394 3 (nI (n + 1))) v n c, L, Dd)) rfl ?_
      refine Ev.aret dJ5_append_3fe6f_76 rfl (Or.inl ⟨_, rfl⟩) ?_
      exact hQ
theorem gr_le (cap q : Nat) (h : q ≤ 2 * cap + 2) : q ≤ gr cap q := by
  unfold gr
  split <;> omega
theorem gr_700 (cap q : Nat) (h : cap ≤ 700) (h2 : q ≤ cap ∨ 2 * cap + 2 ≤ 700) : gr cap q ≤ 700 := by
  unfold gr
  split <;> omega
theorem Ln.v394 (h : Ln P w cap N v T I L Dd) : v ≠ 394 := by have := h.2.1; have := h.2.2.1; omega
theorem c_appC5 (hX : JXok X) (hd : 5 ≤ d) (h : Ln P w cap N v T I L Dd) (hq2 : w.length + 1 ≤ 2 * cap + 2) (h700 : w.length + 1 ≤ cap ∨ 2 * cap + 2 ≤ 700) (hNB : N + 1 < BIG) (hc : chOK c) : MT X d (gc cap (w.length + 1)) (gs cap (w.length + 1)) jdJ5_append_3fe6f [.ref 394, .int c] (N, SH v T, I, L, Dd) (fun R => ∃ N' v' T' I', R = .inl (some (.ref 394), (N', SH v' T', I', L, Dd)) ∧ Ln P (w ++ [c]) (gr cap (w.length + 1)) N' v' T' I' L Dd ∧ Fr I I' ∧ N' = N + gc cap (w.length + 1)) := by
  refine MT.mk dbJ5_append_3fe6f ?_
  obtain ⟨hv, h3, h4, h5, hn3, hc0, h8, h9, h10, h11⟩ := id h
  refine Ev.sg hX (sJ5_append_3fe6f_0.sub 0 2) (pc' := 2) (ls' := [some (.ref 394), some (.int c)]) (st' := [.ref 394, .ref 394]) (h' := (N, SH v T, I, L, Dd)) rfl ?_
  refine Ev.getf (sJ5_append_3fe6f_0.lk 2 (q := (2, .getfield 79, 8, 3)) rfl) rfl rfl (sJ5_append_3fe6f_0.dc 2 (q := (2, .getfield 79, 8, 3)) rfl) ?_
  show Ev _ _ _ _ _ _ 5 [some (.ref 394), some (.int c)] [.int (I 394 3), .ref 394] (N, SH v T, I, L, Dd)
  rw [hn3]
  refine Ev.sg hX (sJ5_append_3fe6f_0.sub 3 2) (pc' := 7) (ls' := [some (.ref 394), some (.int c)]) (st' := [.int ((nI w.length) + 1), .ref 394]) (h' := (N, SH v T, I, L, Dd)) rfl ?_
  rw [nI_1]
  refine Ev.callVU (As := [.int (nI (w.length + 1))]) (rest := []) dbJ5_ensureCapacityInternal_d00df dnJ5_ensureCapacityInternal_d00df dlJ5_ensureCapacityInternal_d00df mkJ5_100 rfl rfl dJ5_append_3fe6f_7 (c_ens (d := d - 1) hX (by omega) h hq2 h700 hNB) ⟨by omega, by show 3 + 19 + 40 * _ ≤ 40 * _; omega⟩ ⟨Nat.le_refl _, Nat.le_refl _⟩ rfl (Nat.le_of_ble_eq_true rfl) (fun v9 h9 e9 => ?_) (fun E9 h9 e9 => nomatch e9)
  obtain ⟨N1, v1, T1, I1, e9, g0, gF, gN⟩ := e9
  cases e9
  have g := g0
  obtain ⟨hv1, g3, g4, g5, gn3, gc0, g8, g9, g10, g11⟩ := g0
  show Ev _ _ _ _ _ _ 10 [some (.ref 394), some (.int c)] [] (N1, SH v1 T1, I1, L, Dd)
  refine l_app10 hX (by omega) hv1 gc0 gn3 (by have := gr_le cap (w.length + 1) hq2; omega) (gr_700 _ _ h8.2.2 h700) hc ?_
  refine ⟨N1, v1, T1, _, rfl, g.put (ds := [c]) (gr_le _ _ hq2) ?_ ?_ (fun j => ?_) (fun x hx => ?_) (fun a h1 h2 => ?_), gF.tr (fun a ha => ?_), gN⟩
  · rw [up2_ne (Ne.symm g.v394), up2_at, if_pos rfl]; rfl
  · rw [up2_ne (Ne.symm g.v394), up2_at, if_neg (by decide)]; exact gc0
  · rw [up2_at, up2_ne g.v394]
    by_cases e : j = w.length
    · subst e; simp
    · rw [if_neg e, if_neg (by simp only [List.length_cons, List.length_nil]; omega)]
  · rw [List.mem_singleton.mp hx]; exact hc.1
  · rw [up2_ne h2, up2_ne h1]
  · rw [up2_ne (by omega), up2_ne (by omega)]
theorem c_appC (hX : JXok X) (hd : 6 ≤ d) (h : Ln P w cap N v T I L Dd) (hq2 : w.length + 1 ≤ 2 * cap + 2) (h700 : w.length + 1 ≤ cap ∨ 2 * cap + 2 ≤ 700) (hNB : N + 1 < BIG) (hc : chOK c) : MT X d (gc cap (w.length + 1)) (gs cap (w.length + 1)) jdJ4_append_cf468 [.ref 394, .int c] (N, SH v T, I, L, Dd) (fun R => ∃ N' v' T' I', R = .inl (some (.ref 394), (N', SH v' T', I', L, Dd)) ∧ Ln P (w ++ [c]) (gr cap (w.length + 1)) N' v' T' I' L Dd ∧ Fr I I' ∧ N' = N + gc cap (w.length + 1)) := by
  refine MT.mk dvJ4_append_cf468.1 ?_
  refine Ev.sg hX sJ4_append_cf468_0 (pc' := 2) (ls' := [some (.ref 394), some (.int c)]) (st' := [.int c, .ref 394]) (h' := (N, SH v T, I, L, Dd)) rfl ?_
  refine Ev.callSU (As := [.int c]) (rest := []) dbJ5_append_3fe6f dnJ5_append_3fe6f dmJ5_append_3fe6f dJ45 (by decide) mkJ4_50 rfl rfl dJ4_append_cf468_2 (c_appC5 (d := d - 1) hX (by omega) h hq2 h700 hNB hc) ⟨by omega, by show 2 + 19 + 40 * _ ≤ 40 * _; omega⟩ ⟨Nat.le_refl _, Nat.le_refl _⟩ rfl (Nat.le_of_ble_eq_true rfl) (fun v9 h9 e9 => ?_) (fun E9 h9 e9 => nomatch e9)
  obtain ⟨N1, v1, T1, I1, e9, gr9⟩ := e9
  cases e9
  show Ev _ _ _ _ _ _ 5 [some (.ref 394), some (.int c)] [.ref 394] (N1, SH v1 T1, I1, L, Dd)
  refine Ev.sg hX sJ4_append_cf468_5 (pc' := 7) (ls' := [some (.ref 394), some (.int c)]) (st' := [.ref 394]) (h' := (N1, SH v1 T1, I1, L, Dd)) rfl ?_
  refine Ev.aret dJ4_append_cf468_7 rfl (Or.inl ⟨_, rfl⟩) ?_
  exact ⟨N1, v1, T1, I1, rfl, gr9⟩
theorem c_strSize {h : MH} (hX : JXok X) (hd : 0 ≤ d) (hk : k < 10000) : MT X d 0 0 jdJ6_stringSize_0f7a4 [.int (nI k)] h (fun R => R = .inl (some (.int (nI (sb_dg k))), h)) := by
  refine MT.mk dsJ6_stringSize_0f7a4.1 ?_
  refine Ev.sg hX sJ6_stringSize_0f7a4_0 (pc' := 3) (ls' := [some (.int (nI k)), some (.int 1), none, none]) (st' := [.int (nI k)]) (h' := h) rfl ?_
  refine Ev.if_lt (tgt := 11) dJ6_stringSize_0f7a4_3 (by decide) (fun b1 => ?_) (fun b1 => ?_)
  · exact absurd b1 (nI_pos (by omega))
  · refine Ev.sg hX sJ6_stringSize_0f7a4_6 (pc' := 11) (ls' := [some (.int (-(nI k))), some (.int 0), none, none]) (st' := []) (h' := h) rfl ?_
    refine Ev.sg hX sJ6_stringSize_0f7a4_11 (pc' := 16) (ls' := [some (.int (-(nI k))), some (.int 0), some (.int (-10)), some (.int 1)]) (st' := []) (h' := h) rfl ?_
    refine Ev.sg hX sJ6_stringSize_0f7a4_16 (pc' := 19) (ls' := [some (.int (-(nI k))), some (.int 0), some (.int (-10)), some (.int 1)]) (st' := [.int 10, .int 1]) (h' := h) rfl ?_
    refine Ev.icmp_ge (tgt := 42) dJ6_stringSize_0f7a4_19 (by decide) (fun b2 => ?_) (fun b2 => ?_)
    · exact absurd b2 (by decide)
    · refine Ev.sg hX sJ6_stringSize_0f7a4_22 (pc' := 24) (ls' := [some (.int (-(nI k))), some (.int 0), some (.int (-10)), some (.int 1)]) (st' := [.int (-10), .int (-(nI k))]) (h' := h) rfl ?_
      refine Ev.icmp_le (tgt := 31) dJ6_stringSize_0f7a4_24 (by decide) (fun b3 => ?_) (fun b3 => ?_)
      · have hk1 : 10 ≤ k := (sb_nle (a := k) (b := 10) (by omega) (by decide)).mp b3
        refine Ev.sg hX sJ6_stringSize_0f7a4_31 (pc' := 16) (ls' := [some (.int (-(nI k))), some (.int 0), some (.int (10 * (-10))), some (.int (1 + 1))]) (st' := []) (h' := h) rfl ?_
        rw [show (10 : Int32) * (-10) = (-100) by decide, show (1 : Int32) + 1 = 2 by decide]
        refine Ev.sg hX sJ6_stringSize_0f7a4_16 (pc' := 19) (ls' := [some (.int (-(nI k))), some (.int 0), some (.int (-100)), some (.int 2)]) (st' := [.int 10, .int 2]) (h' := h) rfl ?_
        refine Ev.icmp_ge (tgt := 42) dJ6_stringSize_0f7a4_19 (by decide) (fun b4 => ?_) (fun b4 => ?_)
        · exact absurd b4 (by decide)
        · refine Ev.sg hX sJ6_stringSize_0f7a4_22 (pc' := 24) (ls' := [some (.int (-(nI k))), some (.int 0), some (.int (-100)), some (.int 2)]) (st' := [.int (-100), .int (-(nI k))]) (h' := h) rfl ?_
          refine Ev.icmp_le (tgt := 31) dJ6_stringSize_0f7a4_24 (by decide) (fun b5 => ?_) (fun b5 => ?_)
          · have hk2 : 100 ≤ k := (sb_nle (a := k) (b := 100) (by omega) (by decide)).mp b5
            refine Ev.sg hX sJ6_stringSize_0f7a4_31 (pc' := 16) (ls' := [some (.int (-(nI k))), some (.int 0), some (.int (10 * (-100))), some (.int (2 + 1))]) (st' := []) (h' := h) rfl ?_
            rw [show (10 : Int32) * (-100) = (-1000) by decide, show (2 : Int32) + 1 = 3 by decide]
            refine Ev.sg hX sJ6_stringSize_0f7a4_16 (pc' := 19) (ls' := [some (.int (-(nI k))), some (.int 0), some (.int (-1000)), some (.int 3)]) (st' := [.int 10, .int 3]) (h' := h) rfl ?_
            refine Ev.icmp_ge (tgt := 42) dJ6_stringSize_0f7a4_19 (by decide) (fun b6 => ?_) (fun b6 => ?_)
            · exact absurd b6 (by decide)
            · refine Ev.sg hX sJ6_stringSize_0f7a4_22 (pc' := 24) (ls' := [some (.int (-(nI k))), some (.int 0), some (.int (-1000)), some (.int 3)]) (st' := [.int (-1000), .int (-(nI k))]) (h' := h) rfl ?_
              refine Ev.icmp_le (tgt := 31) dJ6_stringSize_0f7a4_24 (by decide) (fun b7 => ?_) (fun b7 => ?_)
              · have hk3 : 1000 ≤ k := (sb_nle (a := k) (b := 1000) (by omega) (by decide)).mp b7
                refine Ev.sg hX sJ6_stringSize_0f7a4_31 (pc' := 16) (ls' := [some (.int (-(nI k))), some (.int 0), some (.int (10 * (-1000))), some (.int (3 + 1))]) (st' := []) (h' := h) rfl ?_
                rw [show (10 : Int32) * (-1000) = (-10000) by decide, show (3 : Int32) + 1 = 4 by decide]
                refine Ev.sg hX sJ6_stringSize_0f7a4_16 (pc' := 19) (ls' := [some (.int (-(nI k))), some (.int 0), some (.int (-10000)), some (.int 4)]) (st' := [.int 10, .int 4]) (h' := h) rfl ?_
                refine Ev.icmp_ge (tgt := 42) dJ6_stringSize_0f7a4_19 (by decide) (fun b8 => ?_) (fun b8 => ?_)
                · exact absurd b8 (by decide)
                · refine Ev.sg hX sJ6_stringSize_0f7a4_22 (pc' := 24) (ls' := [some (.int (-(nI k))), some (.int 0), some (.int (-10000)), some (.int 4)]) (st' := [.int (-10000), .int (-(nI k))]) (h' := h) rfl ?_
                  refine Ev.icmp_le (tgt := 31) dJ6_stringSize_0f7a4_24 (by decide) (fun b9 => ?_) (fun b9 => ?_)
                  · have hk4 : 10000 ≤ k := (sb_nle (a := k) (b := 10000) (by omega) (by decide)).mp b9
                    omega
                  · refine Ev.sg hX sJ6_stringSize_0f7a4_27 (pc' := 30) (ls' := [some (.int (-(nI k))), some (.int 0), some (.int (-10000)), some (.int 4)]) (st' := [.int (4 + 0)]) (h' := h) rfl ?_
                    refine Ev.iret dJ6_stringSize_0f7a4_30 rfl ?_
                    have hk9 : k < 10000 := by have := mt (sb_nle (a := k) (b := 10000) (by omega) (by decide)).mpr b9; omega
                    exact congrArg (fun z => Sum.inl (some (Value.int z), h)) (by rw [show sb_dg k = 4 from by unfold sb_dg; (repeat' split) <;> omega]; rfl)
              · refine Ev.sg hX sJ6_stringSize_0f7a4_27 (pc' := 30) (ls' := [some (.int (-(nI k))), some (.int 0), some (.int (-1000)), some (.int 3)]) (st' := [.int (3 + 0)]) (h' := h) rfl ?_
                refine Ev.iret dJ6_stringSize_0f7a4_30 rfl ?_
                have hk9 : k < 1000 := by have := mt (sb_nle (a := k) (b := 1000) (by omega) (by decide)).mpr b7; omega
                exact congrArg (fun z => Sum.inl (some (Value.int z), h)) (by rw [show sb_dg k = 3 from by unfold sb_dg; (repeat' split) <;> omega]; rfl)
          · refine Ev.sg hX sJ6_stringSize_0f7a4_27 (pc' := 30) (ls' := [some (.int (-(nI k))), some (.int 0), some (.int (-100)), some (.int 2)]) (st' := [.int (2 + 0)]) (h' := h) rfl ?_
            refine Ev.iret dJ6_stringSize_0f7a4_30 rfl ?_
            have hk9 : k < 100 := by have := mt (sb_nle (a := k) (b := 100) (by omega) (by decide)).mpr b5; omega
            exact congrArg (fun z => Sum.inl (some (Value.int z), h)) (by rw [show sb_dg k = 2 from by unfold sb_dg; (repeat' split) <;> omega]; rfl)
      · refine Ev.sg hX sJ6_stringSize_0f7a4_27 (pc' := 30) (ls' := [some (.int (-(nI k))), some (.int 0), some (.int (-10)), some (.int 1)]) (st' := [.int (1 + 0)]) (h' := h) rfl ?_
        refine Ev.iret dJ6_stringSize_0f7a4_30 rfl ?_
        have hk9 : k < 10 := by have := mt (sb_nle (a := k) (b := 10) (by omega) (by decide)).mpr b3; omega
        exact congrArg (fun z => Sum.inl (some (Value.int z), h)) (by rw [show sb_dg k = 1 from by unfold sb_dg; (repeat' split) <;> omega]; rfl)
end SBA
