/-! the builder's other methods -/
def chW (x : Int32) : Prop := ((x &&& 255).toUInt32 % 65536).toInt32 = x ∧ narrow .char (.int x) = .int x
theorem chW_dg : ∀ j, j < 10 → chW (nI (48 + j)) := by
  unfold chW
  decide +kernel
theorem dgL_chW (k : Nat) (h : k < 10000) : ∀ x ∈ dgL k, chW x := by
  intro x hx
  unfold dgL at hx
  (repeat' split at hx) <;> simp only [List.mem_cons, List.not_mem_nil, or_false] at hx <;> (rcases hx with rfl | rfl | rfl | rfl) <;> exact chW_dg _ (by omega)
theorem Ln.le {P : PF} {w : List Int32} {cap N v : Nat} {T : Nat → Option JS} {I : HI} {L : HL} {Dd : HD} (h : Ln P w cap N v T I L Dd) : w.length ≤ cap ∧ 16 ≤ cap ∧ cap ≤ 700 := h.2.2.2.2.2.2.1
theorem Ln.cut {P : PF} {w : List Int32} {cap N v : Nat} {T : Nat → Option JS} {I J : HI} {L : HL} {Dd : HD} (h : Ln P w cap N v T I L Dd) (e3 : J 394 3 = 0) (e1 : J 394 1 = 0) (ho : ∀ a, a ≠ 394 → J a = I a) : Ln P [] cap N v T J L Dd ∧ Fr I J := by
  have hn4 := h.v394
  obtain ⟨hv, h3, h4, h5, hn3, hc0, h8, h9, h10, h11⟩ := h
  refine ⟨⟨hv, h3, h4, h5, e3, e1, ⟨Nat.zero_le _, h8.2⟩, fun i hi => absurd hi (Nat.not_lt_zero i), fun j hj => ?_, fun a ha j => ?_, fun a ha1 ha2 => ⟨(h11.2 a ha1 ha2).1, (ho a (by omega)).trans (h11.2 a ha1 ha2).2⟩⟩, fun a ha => ho a (by omega)⟩
  · rw [ho v hn4]
    exact h10 j hj
  · rw [ho a (by omega)]
    exact h11.1 a ha j
section SBO
variable {X : JX} {d N v cap n q k s mc ms : Nat} {T : Nat → Option JS} {I : HI} {L : HL} {Dd : HD} {c i0 : Int32} {w : List Int32} {Q : JR → Prop} {P : PF}
theorem l_int17 (hX : JXok X) (hd : 1 ≤ d) (hv : SH v T v = some (.inl (.byte, cap))) (hc0 : I 394 1 = 0) (hn : n + sb_dg k ≤ cap) (hcap : cap ≤ 700) (hk : k < 10000) (hQ : Q (.inl (some (.ref 394), (N, SH v T, up2 (gcI I v n k) 394 3 (nI (n + sb_dg k)), L, Dd)))) : Ev X (jm jdJ5_append_c97b9) d mc ms Q 17 [some (.ref 394), some (.int (nI k)), some (.int (nI n)), some (.int (nI (n + sb_dg k)))] [] (N, SH v T, I, L, Dd) := by
  refine Ev.sg hX (sJ5_append_c97b9_17.sub 0 1) (pc' := 18) (ls' := [some (.ref 394), some (.int (nI k)), some (.int (nI n)), some (.int (nI (n + sb_dg k)))]) (st' := [.ref 394]) (h' := (N, SH v T, I, L, Dd)) rfl ?_
  refine Ev.callVU (As := []) (rest := []) dbJ5_isLatin1_aae02 dnJ5_isLatin1_aae02 dlJ5_isLatin1_aae02 mkJ5_83 rfl rfl dJ5_append_c97b9_18 (c_isL1 (d := d - 1) (I := I) hX (by omega) hc0) ⟨by omega, by show 1 + 19 + 40 * _ ≤ 40 * _; omega⟩ ⟨Nat.zero_le _, Nat.zero_le _⟩ rfl (Nat.le_of_ble_eq_true rfl) (fun v9 h9 e9 => ?_) (fun E9 h9 e9 => nomatch e9)
  cases e9
  show Ev _ _ _ _ _ _ 21 [some (.ref 394), some (.int (nI k)), some (.int (nI n)), some (.int (nI (n + sb_dg k)))] [.int 1] (N, SH v T, I, L, Dd)
  refine Ev.if_eq (tgt := 37) dJ5_append_c97b9_21 (by decide) (fun b1 => ?_) (fun b1 => ?_)
  · exact absurd b1 (by decide)
  · refine Ev.sg hX (sJ5_append_c97b9_24.sub 0 3) (pc' := 27) (ls' := [some (.ref 394), some (.int (nI k)), some (.int (nI n)), some (.int (nI (n + sb_dg k)))]) (st' := [.ref 394, .int (nI (n + sb_dg k)), .int (nI k)]) (h' := (N, SH v T, I, L, Dd)) rfl ?_
    refine Ev.getf (sJ5_append_c97b9_24.lk 3 (q := (27, .getfield 15, 8, 0)) rfl) rfl rfl (sJ5_append_c97b9_24.dc 3 (q := (27, .getfield 15, 8, 0)) rfl) ?_
    show Ev _ _ _ _ _ _ 30 [some (.ref 394), some (.int (nI k)), some (.int (nI n)), some (.int (nI (n + sb_dg k)))] [.ref v, .int (nI (n + sb_dg k)), .int (nI k)] (N, SH v T, I, L, Dd)
    refine Ev.callS (As := [.int (nI k), .int (nI (n + sb_dg k)), .ref v]) (rest := []) dsJ6_getChars_ba4f3 mkJ5_248 dJ5_append_c97b9_30 (c_getCh (d := d - 1) (s := n) (cap := cap) hX (by omega) hv hk (by omega) hcap) ⟨by omega, by show 7 + 19 + 40 * _ ≤ 40 * _; omega⟩ ⟨Nat.zero_le _, Nat.zero_le _⟩ rfl (Nat.le_of_ble_eq_true rfl) (fun v9 h9 e9 => ?_) (fun E9 h9 e9 => nomatch e9)
    cases e9
    show Ev _ _ _ _ _ _ 33 [some (.ref 394), some (.int (nI k)), some (.int (nI n)), some (.int (nI (n + sb_dg k)))] [.int (nI n)] (N, SH v T, gcI I v n k, L, Dd)
    refine Ev.sg hX (sJ5_append_c97b9_33.sub 0 2) (pc' := 48) (ls' := [some (.ref 394), some (.int (nI k)), some (.int (nI n)), some (.int (nI (n + sb_dg k)))]) (st' := []) (h' := (N, SH v T, gcI I v n k, L, Dd)) rfl ?_
    refine Ev.sg hX (sJ5_append_c97b9_48.sub 0 2) (pc' := 50) (ls' := [some (.ref 394), some (.int (nI k)), some (.int (nI n)), some (.int (nI (n + sb_dg k)))]) (st' := [.int (nI (n + sb_dg k)), .ref 394]) (h' := (N, SH v T, gcI I v n k, L, Dd)) rfl ?_
    refine Ev.putf hX (sJ5_append_c97b9_48.lk 2 (q := (50, .putfield 79, 8, 3)) rfl) rfl rfl (sJ5_append_c97b9_48.dc 2 (q := (50, .putfield 79, 8, 3)) rfl) ?_
    show Ev _ _ _ _ _ _ 53 [some (.ref 394), some (.int (nI k)), some (.int (nI n)), some (.int (nI (n + sb_dg k)))] [] (N, SH v T, up2 (gcI I v n k) 394 3 (nI (n + sb_dg k)), L, Dd)
    refine Ev.sg hX (sJ5_append_c97b9_48.sub 3 1) (pc' := 54) (ls' := [some (.ref 394), some (.int (nI k)), some (.int (nI n)), some (.int (nI (n + sb_dg k)))]) (st' := [.ref 394]) (h' := (N, SH v T, up2 (gcI I v n k) 394 3 (nI (n + sb_dg k)), L, Dd)) rfl ?_
    refine Ev.aret dJ5_append_c97b9_54 rfl (Or.inl ⟨_, rfl⟩) ?_
    exact hQ
theorem c_appI5 (hX : JXok X) (hd : 5 ≤ d) (h : Ln P w cap N v T I L Dd) (hq2 : (w.length + sb_dg k) ≤ 2 * cap + 2) (h700 : (w.length + sb_dg k) ≤ cap ∨ 2 * cap + 2 ≤ 700) (hNB : N + 1 < BIG) (hk : k < 10000) : MT X d (gc cap (w.length + sb_dg k)) (gs cap (w.length + sb_dg k)) jdJ5_append_c97b9 [.ref 394, .int (nI k)] (N, SH v T, I, L, Dd) (fun R => ∃ N' v' T' I', R = .inl (some (.ref 394), (N', SH v' T', I', L, Dd)) ∧ Ln P (w ++ dgL k) (gr cap (w.length + sb_dg k)) N' v' T' I' L Dd ∧ Fr I I' ∧ N' = N + gc cap (w.length + sb_dg k)) := by
  refine MT.mk dbJ5_append_c97b9 ?_
  obtain ⟨hv, h3, h4, h5, hn3, hc0, h8, h9, h10, h11⟩ := id h
  refine Ev.sg hX (sJ5_append_c97b9_0.sub 0 1) (pc' := 1) (ls' := [some (.ref 394), some (.int (nI k)), none, none]) (st' := [.ref 394]) (h' := (N, SH v T, I, L, Dd)) rfl ?_
  refine Ev.getf (sJ5_append_c97b9_0.lk 1 (q := (1, .getfield 79, 8, 3)) rfl) rfl rfl (sJ5_append_c97b9_0.dc 1 (q := (1, .getfield 79, 8, 3)) rfl) ?_
  show Ev _ _ _ _ _ _ 4 [some (.ref 394), some (.int (nI k)), none, none] [.int (I 394 3)] (N, SH v T, I, L, Dd)
  rw [hn3]
  refine Ev.sg hX (sJ5_append_c97b9_0.sub 2 3) (pc' := 7) (ls' := [some (.ref 394), some (.int (nI k)), some (.int (nI w.length)), none]) (st' := [.int (nI k), .int (nI w.length)]) (h' := (N, SH v T, I, L, Dd)) rfl ?_
  refine Ev.callS (As := [.int (nI k)]) (rest := [.int (nI w.length)]) dsJ6_stringSize_0f7a4 mkJ5_245 dJ5_append_c97b9_7 (c_strSize (d := d - 1) hX (by omega) hk) ⟨by omega, by show 4 + 19 + 40 * _ ≤ 40 * _; omega⟩ ⟨Nat.zero_le _, Nat.zero_le _⟩ rfl (Nat.le_of_ble_eq_true rfl) (fun v9 h9 e9 => ?_) (fun E9 h9 e9 => nomatch e9)
  cases e9
  show Ev _ _ _ _ _ _ 10 [some (.ref 394), some (.int (nI k)), some (.int (nI w.length)), none] [.int (nI (sb_dg k)), .int (nI w.length)] (N, SH v T, I, L, Dd)
  refine Ev.sg hX (sJ5_append_c97b9_10.sub 0 4) (pc' := 14) (ls' := [some (.ref 394), some (.int (nI k)), some (.int (nI w.length)), some (.int ((nI w.length) + (nI (sb_dg k))))]) (st' := [.int ((nI w.length) + (nI (sb_dg k))), .ref 394]) (h' := (N, SH v T, I, L, Dd)) rfl ?_
  rw [nI_add]
  refine Ev.callVU (As := [.int (nI (w.length + sb_dg k))]) (rest := []) dbJ5_ensureCapacityInternal_d00df dnJ5_ensureCapacityInternal_d00df dlJ5_ensureCapacityInternal_d00df mkJ5_100 rfl rfl dJ5_append_c97b9_14 (c_ens (d := d - 1) hX (by omega) h hq2 h700 hNB) ⟨by omega, by show 3 + 19 + 40 * _ ≤ 40 * _; omega⟩ ⟨Nat.le_refl _, Nat.le_refl _⟩ rfl (Nat.le_of_ble_eq_true rfl) (fun v9 h9 e9 => ?_) (fun E9 h9 e9 => nomatch e9)
  obtain ⟨N1, v1, T1, I1, e9, g0, gF, gN⟩ := e9
  cases e9
  have g := g0
  obtain ⟨hv1, g3, g4, g5, gn3, gc0, g8, g9, g10, g11⟩ := g0
  show Ev _ _ _ _ _ _ 17 [some (.ref 394), some (.int (nI k)), some (.int (nI w.length)), some (.int (nI (w.length + sb_dg k)))] [] (N1, SH v1 T1, I1, L, Dd)
  refine l_int17 hX (by omega) hv1 gc0 (gr_le cap (w.length + sb_dg k) hq2) (gr_700 _ _ h8.2.2 h700) hk ?_
  refine ⟨N1, v1, T1, _, rfl, g.put (ds := dgL k) (by rw [dgL_len k hk]; exact gr_le _ _ hq2) ?_ ?_ (fun j => ?_) (dgL_fit k hk) (fun a h1 h2 => ?_), gF.tr (fun a ha => ?_), gN⟩
  · rw [up2_at, if_pos rfl, dgL_len k hk]
  · rw [up2_at, if_neg (by decide), gcI_ne (Ne.symm g.v394)]; exact gc0
  · rw [up2_ne g.v394, gcI_v hk]
  · rw [up2_ne h1, gcI_ne h2]
  · rw [up2_ne (by omega), gcI_ne (by omega)]
theorem c_appI (hX : JXok X) (hd : 6 ≤ d) (h : Ln P w cap N v T I L Dd) (hq2 : (w.length + sb_dg k) ≤ 2 * cap + 2) (h700 : (w.length + sb_dg k) ≤ cap ∨ 2 * cap + 2 ≤ 700) (hNB : N + 1 < BIG) (hk : k < 10000) : MT X d (gc cap (w.length + sb_dg k)) (gs cap (w.length + sb_dg k)) jdJ4_append_bf812 [.ref 394, .int (nI k)] (N, SH v T, I, L, Dd) (fun R => ∃ N' v' T' I', R = .inl (some (.ref 394), (N', SH v' T', I', L, Dd)) ∧ Ln P (w ++ dgL k) (gr cap (w.length + sb_dg k)) N' v' T' I' L Dd ∧ Fr I I' ∧ N' = N + gc cap (w.length + sb_dg k)) := by
  refine MT.mk dvJ4_append_bf812.1 ?_
  refine Ev.sg hX sJ4_append_bf812_0 (pc' := 2) (ls' := [some (.ref 394), some (.int (nI k))]) (st' := [.int (nI k), .ref 394]) (h' := (N, SH v T, I, L, Dd)) rfl ?_
  refine Ev.callSU (As := [.int (nI k)]) (rest := []) dbJ5_append_c97b9 dnJ5_append_c97b9 dmJ5_append_c97b9 dJ45 (by decide) mkJ4_53 rfl rfl dJ4_append_bf812_2 (c_appI5 (d := d - 1) hX (by omega) h hq2 h700 hNB hk) ⟨by omega, by show 4 + 19 + 40 * _ ≤ 40 * _; omega⟩ ⟨Nat.le_refl _, Nat.le_refl _⟩ rfl (Nat.le_of_ble_eq_true rfl) (fun v9 h9 e9 => ?_) (fun E9 h9 e9 => nomatch e9)
  obtain ⟨N1, v1, T1, I1, e9, gr9⟩ := e9
  cases e9
  show Ev _ _ _ _ _ _ 5 [some (.ref 394), some (.int (nI k))] [.ref 394] (N1, SH v1 T1, I1, L, Dd)
  refine Ev.sg hX sJ4_append_bf812_5 (pc' := 7) (ls' := [some (.ref 394), some (.int (nI k))]) (st' := [.ref 394]) (h' := (N1, SH v1 T1, I1, L, Dd)) rfl ?_
  refine Ev.aret dJ4_append_bf812_7 rfl (Or.inl ⟨_, rfl⟩) ?_
  exact ⟨N1, v1, T1, I1, rfl, gr9⟩
theorem c_setL5 (hX : JXok X) (hd : 4 ≤ d) (h : Ln P w cap N v T I L Dd) : MT X d 0 0 jdJ5_setLength_d00df [.ref 394, .int 0] (N, SH v T, I, L, Dd) (fun R => ∃ I', R = .inl (none, (N, SH v T, I', L, Dd)) ∧ Ln P [] cap N v T I' L Dd ∧ Fr I I') := by
  refine MT.mk dbJ5_setLength_d00df ?_
  obtain ⟨hv, h3, h4, h5, hn3, hc0, h8, h9, h10, h11⟩ := id h
  have hn4 : v ≠ 394 := h.v394
  refine Ev.sg hX (sJ5_setLength_d00df_0.sub 0 1) (pc' := 1) (ls' := [some (.ref 394), some (.int 0)]) (st' := [.int 0]) (h' := (N, SH v T, I, L, Dd)) rfl ?_
  refine Ev.if_ge (tgt := 13) dJ5_setLength_d00df_1 (by decide) (fun b1 => ?_) (fun b1 => ?_)
  · refine Ev.sg hX (sJ5_setLength_d00df_13.sub 0 2) (pc' := 15) (ls' := [some (.ref 394), some (.int 0)]) (st' := [.int 0, .ref 394]) (h' := (N, SH v T, I, L, Dd)) rfl ?_
    refine Ev.callVU (As := [.int 0]) (rest := []) dbJ5_ensureCapacityInternal_d00df dnJ5_ensureCapacityInternal_d00df dlJ5_ensureCapacityInternal_d00df mkJ5_100 rfl rfl dJ5_setLength_d00df_15 (c_ens0 (d := d - 1) (q := 0) hX (by omega) hv hc0 (Nat.zero_le _) h8.2.2) ⟨by omega, by show 3 + 19 + 40 * _ ≤ 40 * _; omega⟩ ⟨Nat.zero_le _, Nat.zero_le _⟩ rfl (Nat.le_of_ble_eq_true rfl) (fun v9 h9 e9 => ?_) (fun E9 h9 e9 => nomatch e9)
    cases e9
    show Ev _ _ _ _ _ _ 18 [some (.ref 394), some (.int 0)] [] (N, SH v T, I, L, Dd)
    refine Ev.sg hX (sJ5_setLength_d00df_18.sub 0 1) (pc' := 19) (ls' := [some (.ref 394), some (.int 0)]) (st' := [.ref 394]) (h' := (N, SH v T, I, L, Dd)) rfl ?_
    refine Ev.getf (sJ5_setLength_d00df_18.lk 1 (q := (19, .getfield 79, 8, 3)) rfl) rfl rfl (sJ5_setLength_d00df_18.dc 1 (q := (19, .getfield 79, 8, 3)) rfl) ?_
    show Ev _ _ _ _ _ _ 22 [some (.ref 394), some (.int 0)] [.int (I 394 3)] (N, SH v T, I, L, Dd)
    rw [hn3]
    refine Ev.sg hX (sJ5_setLength_d00df_18.sub 2 1) (pc' := 23) (ls' := [some (.ref 394), some (.int 0)]) (st' := [.int 0, .int (nI w.length)]) (h' := (N, SH v T, I, L, Dd)) rfl ?_
    refine Ev.icmp_ge (tgt := 63) dJ5_setLength_d00df_23 (by decide) (fun b2 => ?_) (fun b2 => ?_)
    · refine Ev.sg hX (sJ5_setLength_d00df_63.sub 0 1) (pc' := 64) (ls' := [some (.ref 394), some (.int 0)]) (st' := [.ref 394]) (h' := (N, SH v T, I, L, Dd)) rfl ?_
      refine Ev.getf (sJ5_setLength_d00df_63.lk 1 (q := (64, .getfield 79, 8, 3)) rfl) rfl rfl (sJ5_setLength_d00df_63.dc 1 (q := (64, .getfield 79, 8, 3)) rfl) ?_
      show Ev _ _ _ _ _ _ 67 [some (.ref 394), some (.int 0)] [.int (I 394 3)] (N, SH v T, I, L, Dd)
      rw [hn3]
      refine Ev.sg hX (sJ5_setLength_d00df_63.sub 2 1) (pc' := 68) (ls' := [some (.ref 394), some (.int 0)]) (st' := [.int 0, .int (nI w.length)]) (h' := (N, SH v T, I, L, Dd)) rfl ?_
      refine Ev.icmp_le (tgt := 76) dJ5_setLength_d00df_68 (by decide) (fun b3 => ?_) (fun b3 => ?_)
      · refine Ev.sg hX (sJ5_setLength_d00df_76.sub 0 2) (pc' := 78) (ls' := [some (.ref 394), some (.int 0)]) (st' := [.int 0, .ref 394]) (h' := (N, SH v T, I, L, Dd)) rfl ?_
        refine Ev.putf hX (sJ5_setLength_d00df_76.lk 2 (q := (78, .putfield 79, 8, 3)) rfl) rfl rfl (sJ5_setLength_d00df_76.dc 2 (q := (78, .putfield 79, 8, 3)) rfl) ?_
        show Ev _ _ _ _ _ _ 81 [some (.ref 394), some (.int 0)] [] (N, SH v T, up2 I 394 3 0, L, Dd)
        refine Ev.vret dJ5_setLength_d00df_81 rfl ?_
        exact ⟨_, rfl, h.cut (by rw [up2_at, if_pos rfl]) (by rw [up2_at, if_neg (by decide)]; exact hc0) (fun a ha => by rw [up2_ne ha])⟩
      · refine Ev.sg hX (sJ5_setLength_d00df_71.sub 0 2) (pc' := 73) (ls' := [some (.ref 394), some (.int 0)]) (st' := [.int 1, .ref 394]) (h' := (N, SH v T, I, L, Dd)) rfl ?_
        refine Ev.putI (j := 2) hX ci_J4 (by decide) (bw_of 260 (by decide +kernel) (by decide +kernel)) (Or.inl rfl) rfl rfl rfl rfl dJ5_setLength_d00df_73 ?_
        show Ev _ _ _ _ _ _ 76 [some (.ref 394), some (.int 0)] [] (N, SH v T, up2 I 394 2 1, L, Dd)
        refine Ev.sg hX (sJ5_setLength_d00df_76.sub 0 2) (pc' := 78) (ls' := [some (.ref 394), some (.int 0)]) (st' := [.int 0, .ref 394]) (h' := (N, SH v T, up2 I 394 2 1, L, Dd)) rfl ?_
        refine Ev.putf hX (sJ5_setLength_d00df_76.lk 2 (q := (78, .putfield 79, 8, 3)) rfl) rfl rfl (sJ5_setLength_d00df_76.dc 2 (q := (78, .putfield 79, 8, 3)) rfl) ?_
        show Ev _ _ _ _ _ _ 81 [some (.ref 394), some (.int 0)] [] (N, SH v T, up2 (up2 I 394 2 1) 394 3 0, L, Dd)
        refine Ev.vret dJ5_setLength_d00df_81 rfl ?_
        exact ⟨_, rfl, h.cut (by rw [up2_at, if_pos rfl]) (by rw [up2_at, if_neg (by decide), up2_at, if_neg (by decide)]; exact hc0) (fun a ha => by rw [up2_ne ha, up2_ne ha])⟩
    · exact absurd (show (0 : Int32) ≤ nI w.length from (nI_leI (a := 0) (by decide) (by omega)).mpr (Nat.zero_le _)) b2
  · exact absurd (by decide) b1
theorem c_setL (hX : JXok X) (hd : 5 ≤ d) (h : Ln P w cap N v T I L Dd) : MT X d 0 0 jdJ4_setLength_d00df [.ref 394, .int 0] (N, SH v T, I, L, Dd) (fun R => ∃ I', R = .inl (none, (N, SH v T, I', L, Dd)) ∧ Ln P [] cap N v T I' L Dd ∧ Fr I I') := by
  refine MT.mk dvJ4_setLength_d00df.1 ?_
  refine Ev.sg hX sJ4_setLength_d00df_0 (pc' := 2) (ls' := [some (.ref 394), some (.int 0)]) (st' := [.int 0, .ref 394]) (h' := (N, SH v T, I, L, Dd)) rfl ?_
  refine Ev.callSU (As := [.int 0]) (rest := []) dbJ5_setLength_d00df dnJ5_setLength_d00df dmJ5_setLength_d00df dJ45 (by decide) mkJ4_333 rfl rfl dJ4_setLength_d00df_2 (c_setL5 (d := d - 1) hX (by omega) h) ⟨by omega, by show 2 + 19 + 40 * _ ≤ 40 * _; omega⟩ ⟨Nat.zero_le _, Nat.zero_le _⟩ rfl (Nat.le_of_ble_eq_true rfl) (fun v9 h9 e9 => ?_) (fun E9 h9 e9 => nomatch e9)
  obtain ⟨I1, e9, gr9⟩ := e9
  cases e9
  show Ev _ _ _ _ _ _ 5 [some (.ref 394), some (.int 0)] [] (N, SH v T, I1, L, Dd)
  refine Ev.vret dJ4_setLength_d00df_5 rfl ?_
  exact ⟨I1, rfl, gr9⟩
theorem c_len5 (hX : JXok X) (hd : 0 ≤ d) (hn3 : I 394 3 = nI w.length) : MT X d 0 0 jdJ5_length_8abf5 [.ref 394] (N, SH v T, I, L, Dd) (fun R => R = .inl (some (.int (nI w.length)), (N, SH v T, I, L, Dd))) := by
  refine MT.mk dbJ5_length_8abf5 ?_
  refine Ev.sg hX (sJ5_length_8abf5_0.sub 0 1) (pc' := 1) (ls' := [some (.ref 394)]) (st' := [.ref 394]) (h' := (N, SH v T, I, L, Dd)) rfl ?_
  refine Ev.getf (sJ5_length_8abf5_0.lk 1 (q := (1, .getfield 79, 8, 3)) rfl) rfl rfl (sJ5_length_8abf5_0.dc 1 (q := (1, .getfield 79, 8, 3)) rfl) ?_
  show Ev _ _ _ _ _ _ 4 [some (.ref 394)] [.int (I 394 3)] (N, SH v T, I, L, Dd)
  rw [hn3]
  refine Ev.iret dJ5_length_8abf5_4 rfl ?_
  rfl
theorem c_len (hX : JXok X) (hd : 1 ≤ d) (hn3 : I 394 3 = nI w.length) : MT X d 0 0 jdJ4_length_8abf5 [.ref 394] (N, SH v T, I, L, Dd) (fun R => R = .inl (some (.int (nI w.length)), (N, SH v T, I, L, Dd))) := by
  refine MT.mk dvJ4_length_8abf5.1 ?_
  refine Ev.sg hX sJ4_length_8abf5_0 (pc' := 1) (ls' := [some (.ref 394)]) (st' := [.ref 394]) (h' := (N, SH v T, I, L, Dd)) rfl ?_
  refine Ev.callSU (As := []) (rest := []) dbJ5_length_8abf5 dnJ5_length_8abf5 dmJ5_length_8abf5 dJ45 (by decide) mkJ4_343 rfl rfl dJ4_length_8abf5_1 (c_len5 (d := d - 1) (w := w) hX (by omega) hn3) ⟨by omega, by show 1 + 19 + 40 * _ ≤ 40 * _; omega⟩ ⟨Nat.zero_le _, Nat.zero_le _⟩ rfl (Nat.le_of_ble_eq_true rfl) (fun v9 h9 e9 => ?_) (fun E9 h9 e9 => nomatch e9)
  cases e9
  show Ev _ _ _ _ _ _ 4 [some (.ref 394)] [.int (nI w.length)] (N, SH v T, I, L, Dd)
  refine Ev.iret dJ4_length_8abf5_4 rfl ?_
  rfl
theorem c_chAt5 (hX : JXok X) (hd : 2 ≤ d) (h : Ln P w cap N v T I L Dd) (hk : k < w.length) (hch : chW (w.getD k 0)) : MT X d 0 0 jdJ5_charAt_5068e [.ref 394, .int (nI k)] (N, SH v T, I, L, Dd) (fun R => R = .inl (some (.int (w.getD k 0)), (N, SH v T, I, L, Dd))) := by
  refine MT.mk dbJ5_charAt_5068e ?_
  obtain ⟨hv, h3, h4, h5, hn3, hc0, h8, h9, h10, h11⟩ := id h
  refine Ev.sg hX (sJ5_charAt_5068e_0.sub 0 1) (pc' := 1) (ls' := [some (.ref 394), some (.int (nI k)), none, none, none]) (st' := [.ref 394]) (h' := (N, SH v T, I, L, Dd)) rfl ?_
  refine Ev.getf (sJ5_charAt_5068e_0.lk 1 (q := (1, .getfield 22, 8, 1)) rfl) rfl rfl (sJ5_charAt_5068e_0.dc 1 (q := (1, .getfield 22, 8, 1)) rfl) ?_
  show Ev _ _ _ _ _ _ 4 [some (.ref 394), some (.int (nI k)), none, none, none] [.int (I 394 1)] (N, SH v T, I, L, Dd)
  rw [hc0]
  refine Ev.sg hX (sJ5_charAt_5068e_0.sub 2 2) (pc' := 6) (ls' := [some (.ref 394), some (.int (nI k)), some (.int 0), none, none]) (st' := [.ref 394]) (h' := (N, SH v T, I, L, Dd)) rfl ?_
  refine Ev.getf (sJ5_charAt_5068e_0.lk 4 (q := (6, .getfield 15, 8, 0)) rfl) rfl rfl (sJ5_charAt_5068e_0.dc 4 (q := (6, .getfield 15, 8, 0)) rfl) ?_
  show Ev _ _ _ _ _ _ 9 [some (.ref 394), some (.int (nI k)), some (.int 0), none, none] [.ref v] (N, SH v T, I, L, Dd)
  refine Ev.sg hX (sJ5_charAt_5068e_0.sub 5 2) (pc' := 11) (ls' := [some (.ref 394), some (.int (nI k)), some (.int 0), some (.ref v), none]) (st' := [.ref 394]) (h' := (N, SH v T, I, L, Dd)) rfl ?_
  refine Ev.getf (sJ5_charAt_5068e_0.lk 7 (q := (11, .getfield 79, 8, 3)) rfl) rfl rfl (sJ5_charAt_5068e_0.dc 7 (q := (11, .getfield 79, 8, 3)) rfl) ?_
  show Ev _ _ _ _ _ _ 14 [some (.ref 394), some (.int (nI k)), some (.int 0), some (.ref v), none] [.int (I 394 3)] (N, SH v T, I, L, Dd)
  rw [hn3]
  refine Ev.sg hX (sJ5_charAt_5068e_0.sub 8 1) (pc' := 15) (ls' := [some (.ref 394), some (.int (nI k)), some (.int 0), some (.ref v), none]) (st' := [.ref v, .int (nI w.length)]) (h' := (N, SH v T, I, L, Dd)) rfl ?_
  refine Ev.alenN hv rfl (sJ5_charAt_5068e_0.dc 9 (q := (15, .arraylength, 0, 0)) rfl) ?_
  show Ev _ _ _ _ _ _ 16 [some (.ref 394), some (.int (nI k)), some (.int 0), some (.ref v), none] [.int (Int32.ofNat cap), .int (nI w.length)] (N, SH v T, I, L, Dd)
  refine Ev.sg hX (sJ5_charAt_5068e_0.sub 10 1) (pc' := 17) (ls' := [some (.ref 394), some (.int (nI k)), some (.int 0), some (.ref v), none]) (st' := [.int 0, .int (Int32.ofNat cap), .int (nI w.length)]) (h' := (N, SH v T, I, L, Dd)) rfl ?_
  refine Ev.sg hX (sJ5_charAt_5068e_0.sub 11 1) (pc' := 18) (ls' := [some (.ref 394), some (.int (nI k)), some (.int 0), some (.ref v), none]) (st' := [.int ((Int32.ofNat cap) >>> (0 &&& 31)), .int (nI w.length)]) (h' := (N, SH v T, I, L, Dd)) rfl ?_
  rw [shr0]
  refine Ev.mmin (by decide +kernel) (by omega) (Nat.le_of_ble_eq_true rfl) dJ5_charAt_5068e_18 ?_
  rw [show (if (Int32.ofNat cap : Int32) < nI w.length then Int32.ofNat cap else nI w.length) = nI w.length from if_neg (nI_nlt (a := cap) (by omega) (by omega))]
  refine Ev.sg hX (sJ5_charAt_5068e_21.sub 0 3) (pc' := 26) (ls' := [some (.ref 394), some (.int (nI k)), some (.int 0), some (.ref v), some (.int (nI w.length))]) (st' := [.int (nI w.length), .int (nI k)]) (h' := (N, SH v T, I, L, Dd)) rfl ?_
  refine Ev.callS (As := [.int (nI k), .int (nI w.length)]) (rest := []) dsJ0_checkIndex_df160 mkJ5_144 dJ5_charAt_5068e_26 (c_scheck (d := d - 1) (k := k) (n := w.length) hX (by omega) hk (by omega)) ⟨by omega, by show 2 + 19 + 40 * _ ≤ 40 * _; omega⟩ ⟨Nat.zero_le _, Nat.zero_le _⟩ rfl (Nat.le_of_ble_eq_true rfl) (fun v9 h9 e9 => ?_) (fun E9 h9 e9 => nomatch e9)
  cases e9
  show Ev _ _ _ _ _ _ 29 [some (.ref 394), some (.int (nI k)), some (.int 0), some (.ref v), some (.int (nI w.length))] [] (N, SH v T, I, L, Dd)
  refine Ev.sg hX (sJ5_charAt_5068e_29.sub 0 1) (pc' := 30) (ls' := [some (.ref 394), some (.int (nI k)), some (.int 0), some (.ref v), some (.int (nI w.length))]) (st' := [.int 0]) (h' := (N, SH v T, I, L, Dd)) rfl ?_
  refine Ev.if_ne (tgt := 42) dJ5_charAt_5068e_30 (by decide) (fun b1 => ?_) (fun b1 => ?_)
  · exact absurd rfl b1
  · refine Ev.sg hX (sJ5_charAt_5068e_33.sub 0 2) (pc' := 35) (ls' := [some (.ref 394), some (.int (nI k)), some (.int 0), some (.ref v), some (.int (nI w.length))]) (st' := [.int (nI k), .ref v]) (h' := (N, SH v T, I, L, Dd)) rfl ?_
    refine Ev.baldE (n := k) hv rfl (by omega) (by omega) dJ5_charAt_5068e_35 ?_
    show Ev _ _ _ _ _ _ 36 [some (.ref 394), some (.int (nI k)), some (.int 0), some (.ref v), some (.int (nI w.length))] [.int (I v k)] (N, SH v T, I, L, Dd)
    rw [h9 k hk]
    refine Ev.sg hX (sJ5_charAt_5068e_36.sub 0 3) (pc' := 41) (ls' := [some (.ref 394), some (.int (nI k)), some (.int 0), some (.ref v), some (.int (nI w.length))]) (st' := [.int ((((w.getD k 0) &&& 255).toUInt32 % 65536).toInt32)]) (h' := (N, SH v T, I, L, Dd)) rfl ?_
    rw [hch.1]
    refine Ev.zret dJ5_charAt_5068e_41 rfl ?_ ?_
    · exact hch.2
    rfl
theorem c_chAt (hX : JXok X) (hd : 3 ≤ d) (h : Ln P w cap N v T I L Dd) (hk : k < w.length) (hch : chW (w.getD k 0)) : MT X d 0 0 jdJ4_charAt_5068e [.ref 394, .int (nI k)] (N, SH v T, I, L, Dd) (fun R => R = .inl (some (.int (w.getD k 0)), (N, SH v T, I, L, Dd))) := by
  refine MT.mk dvJ4_charAt_5068e.1 ?_
  refine Ev.sg hX sJ4_charAt_5068e_0 (pc' := 2) (ls' := [some (.ref 394), some (.int (nI k))]) (st' := [.int (nI k), .ref 394]) (h' := (N, SH v T, I, L, Dd)) rfl ?_
  refine Ev.callSU (As := [.int (nI k)]) (rest := []) dbJ5_charAt_5068e dnJ5_charAt_5068e dmJ5_charAt_5068e dJ45 (by decide) mkJ4_329 rfl rfl dJ4_charAt_5068e_2 (c_chAt5 (d := d - 1) hX (by omega) h hk hch) ⟨by omega, by show 5 + 19 + 40 * _ ≤ 40 * _; omega⟩ ⟨Nat.zero_le _, Nat.zero_le _⟩ rfl (Nat.le_of_ble_eq_true rfl) (fun v9 h9 e9 => ?_) (fun E9 h9 e9 => nomatch e9)
  cases e9
  show Ev _ _ _ _ _ _ 5 [some (.ref 394), some (.int (nI k))] [.int (w.getD k 0)] (N, SH v T, I, L, Dd)
  refine Ev.zret dJ4_charAt_5068e_5 rfl ?_ ?_
  · exact hch.2
  rfl
end SBO
