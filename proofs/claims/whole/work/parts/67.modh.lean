/-! the model: letters -/
def LW (I : HI) (W : List Int32) : HI := fun a j => if a = 396 ∧ j = 11 then nI W.length else if a = 402 ∧ j < W.length then W.getD j 0 else I a j
def cOKM (c : Int32) : Prop := (c.toUInt32 % 65536).toInt32 = c ∧ vp_nar .char c = c
theorem cOK_dg : ∀ j, j < 10 → cOKM (nI (48 + j)) := by
  unfold cOKM
  decide +kernel
theorem LW_0 {I : HI} : up2 I 396 11 0 = LW I [] := by
  funext a j
  unfold up2 LW
  by_cases ha : a = 396
  · by_cases hj : j = 11
    · simp [ha, hj]
      rfl
    · simp [ha, hj]
  · simp [ha]
theorem LW_s {I : HI} {W : List Int32} {c : Int32} : up2 (up2 (LW I W) 402 W.length c) 396 11 (nI (W.length + 1)) = LW I (W ++ [c]) := by
  funext a j
  unfold up2 LW
  by_cases ha : a = 396
  · by_cases hj : j = 11
    · simp [ha, hj]
    · simp [ha, hj]
  · by_cases h4 : a = 402
    · subst h4
      by_cases hj : j = W.length
      · subst hj
        simp
      · by_cases hl : j < W.length
        · simp [hj, hl, Nat.lt_succ_of_lt hl, List.getElem?_append_left hl]
        · have : ¬ j < W.length + 1 := by omega
          simp [hj, hl, this]
    · simp [ha, h4]
theorem LW_397 {I : HI} {W : List Int32} {a : Nat} (h : a ≠ 396) (h2 : a ≠ 402) : LW I W a = I a := by
  funext j
  rw [LW, if_neg (fun z => h z.1), if_neg (fun z => h2 z.1)]
def carTM (I : HI) (s : Nat) : List Int32 := carT (I 397 (39 + s)).toNatClampNeg (I 397 (99 + s)).toNatClampNeg (I 397 (119 + s))
def carsTM (I : HI) (m x : Nat) : Nat → Nat → List Int32
  | 0, _ => []
  | n + 1, p => carTM I (slAM I m (nI x) (nI p)).toNatClampNeg ++ carsTM I m x n (p + 1)
def trkTM (I : HI) (m x c0 : Nat) : List Int32 := dgL x ++ [47] ++ dgL (I 397 (15 + x)).toNatClampNeg ++ [91] ++ dgL (smM I m (nI x) 59).toNatClampNeg ++ [47] ++ dgL (I 397 (7 + x)).toNatClampNeg ++ [93] ++ carsTM I m x c0 0
section MODL
variable {X : JX} {d N v : Nat} {T : Nat → Option JS} {I : Nat → Nat → Int32} {L : Nat → Nat → Int64} {Dd : Nat → Nat → UInt64} {c e i0 : Int32} {m z x q c0 s k : Nat} {W : List Int32}
def apdM (I : HI) (q : Nat) (c : Int32) : Int32 × HI := if q = 60 then (0, up2 I 396 12 1) else (nI (q + 1), up2 (up2 (up2 I 401 q c) 396 7 (nI (q + 1))) 396 12 0)
theorem m_append (hX : JXok X) (hd : 1 ≤ d) (hq : q ≤ 60) (hty : I 396 7 = nI q) (hc : vp_nar .char c = c) : MT X d 0 0 jdX7_append [.ref 396, .int c] (N, SH v T, I, L, Dd) (fun R => R = .inl (some (.int (apdM I q c).1), (N, SH v T, (apdM I q c).2, L, Dd))) := by
  refine MT.mk dvX7_append.1 ?_
  refine Ev.sg hX (sX7_append_0.sub 0 1) (pc' := 1) (ls' := [some (.ref 396), some (.int c)]) (st' := [.ref 396]) (h' := (N, SH v T, I, L, Dd)) rfl ?_
  refine Ev.getf (sX7_append_0.lk 1 (q := (1, .getfield 172, 7, 7)) rfl) rfl rfl (sX7_append_0.dc 1 (q := (1, .getfield 172, 7, 7)) rfl) ?_
  show Ev _ _ _ _ _ _ 4 [some (.ref 396), some (.int c)] [.int (I 396 7)] (N, SH v T, I, L, Dd)
  refine Ev.eqst (st' := [.int (nI q)]) (by rw [show I 396 7 = nI q from (hty)]) ?_
  refine Ev.sg hX (sX7_append_0.sub 2 1) (pc' := 6) (ls' := [some (.ref 396), some (.int c)]) (st' := [.int 60, .int (nI q)]) (h' := (N, SH v T, I, L, Dd)) rfl ?_
  refine Ev.icmp_ne (tgt := 15) dX7_append_6 (by decide) (fun b1 => ?_) (fun b1 => ?_)
  · have hq6 : q < 60 := by have : ¬ q = 60 := fun w => b1 (by rw [w]; rfl); omega
    refine Ev.sg hX (sX7_append_15.sub 0 1) (pc' := 16) (ls' := [some (.ref 396), some (.int c)]) (st' := [.ref 396]) (h' := (N, SH v T, I, L, Dd)) rfl ?_
    refine Ev.getf (sX7_append_15.lk 1 (q := (16, .getfield 22, 7, 6)) rfl) rfl rfl (sX7_append_15.dc 1 (q := (16, .getfield 22, 7, 6)) rfl) ?_
    show Ev _ _ _ _ _ _ 19 [some (.ref 396), some (.int c)] [.ref 401] (N, SH v T, I, L, Dd)
    refine Ev.sg hX (sX7_append_15.sub 2 1) (pc' := 20) (ls' := [some (.ref 396), some (.int c)]) (st' := [.ref 396, .ref 401]) (h' := (N, SH v T, I, L, Dd)) rfl ?_
    refine Ev.getf (sX7_append_15.lk 3 (q := (20, .getfield 172, 7, 7)) rfl) rfl rfl (sX7_append_15.dc 3 (q := (20, .getfield 172, 7, 7)) rfl) ?_
    show Ev _ _ _ _ _ _ 23 [some (.ref 396), some (.int c)] [.int (I 396 7), .ref 401] (N, SH v T, I, L, Dd)
    refine Ev.eqst (st' := [.int (nI q), .ref 401]) (by rw [show I 396 7 = nI q from (hty)]) ?_
    refine Ev.sg hX (sX7_append_15.sub 4 1) (pc' := 24) (ls' := [some (.ref 396), some (.int c)]) (st' := [.int c, .int (nI q), .ref 401]) (h' := (N, SH v T, I, L, Dd)) rfl ?_
    refine Ev.castE (n := q) (N := 60) (y := c) hc hX rfl rfl (by omega) (by decide) dX7_append_24 ?_
    show Ev _ _ _ _ _ _ 25 [some (.ref 396), some (.int c)] [] (N, SH v T, up2 I 401 q c, L, Dd)
    refine Ev.sg hX (sX7_append_25.sub 0 2) (pc' := 27) (ls' := [some (.ref 396), some (.int c)]) (st' := [.ref 396, .ref 396]) (h' := (N, SH v T, up2 I 401 q c, L, Dd)) rfl ?_
    refine Ev.getf (sX7_append_25.lk 2 (q := (27, .getfield 172, 7, 7)) rfl) rfl rfl (sX7_append_25.dc 2 (q := (27, .getfield 172, 7, 7)) rfl) ?_
    show Ev _ _ _ _ _ _ 30 [some (.ref 396), some (.int c)] [.int ((up2 I 401 q c) 396 7), .ref 396] (N, SH v T, up2 I 401 q c, L, Dd)
    refine Ev.eqst (st' := [.int (nI q), .ref 396]) (by rw [show (up2 I 401 q c) 396 7 = nI q from ((congrFun (up2_ne (by decide)) 7).trans hty)]) ?_
    refine Ev.sg hX (sX7_append_25.sub 3 2) (pc' := 32) (ls' := [some (.ref 396), some (.int c)]) (st' := [.int ((nI q) + 1), .ref 396]) (h' := (N, SH v T, up2 I 401 q c, L, Dd)) rfl ?_
    refine Ev.putf hX (sX7_append_25.lk 5 (q := (32, .putfield 172, 7, 7)) rfl) rfl rfl (sX7_append_25.dc 5 (q := (32, .putfield 172, 7, 7)) rfl) ?_
    show Ev _ _ _ _ _ _ 35 [some (.ref 396), some (.int c)] [] (N, SH v T, up2 (up2 I 401 q c) 396 7 ((nI q) + 1), L, Dd)
    refine Ev.sg hX (sX7_append_25.sub 6 2) (pc' := 37) (ls' := [some (.ref 396), some (.int c)]) (st' := [.ref 396, .ref 396]) (h' := (N, SH v T, up2 (up2 I 401 q c) 396 7 ((nI q) + 1), L, Dd)) rfl ?_
    refine Ev.getf (sX7_append_25.lk 8 (q := (37, .getfield 172, 7, 7)) rfl) rfl rfl (sX7_append_25.dc 8 (q := (37, .getfield 172, 7, 7)) rfl) ?_
    show Ev _ _ _ _ _ _ 40 [some (.ref 396), some (.int c)] [.int ((up2 (up2 I 401 q c) 396 7 ((nI q) + 1)) 396 7), .ref 396] (N, SH v T, up2 (up2 I 401 q c) 396 7 ((nI q) + 1), L, Dd)
    refine Ev.eqst (st' := [.int ((nI q) + 1), .ref 396]) (by rw [show (up2 (up2 I 401 q c) 396 7 ((nI q) + 1)) 396 7 = (nI q) + 1 from (up2_hit)]) ?_
    refine Ev.callV (As := [.int ((nI q) + 1)]) (rest := []) dvX7_done mkX7_79 rfl rfl dX7_append_40 (m_done (d := d - 1) (I := (up2 (up2 I 401 q c) 396 7 ((nI q) + 1))) hX (by omega)) ⟨by omega, by show 2 + 19 + 40 * _ ≤ 40 * _; omega⟩ ⟨Nat.zero_le _, Nat.zero_le _⟩ rfl (Nat.le_of_ble_eq_true rfl) (fun v9 h9 e9 => ?_) (fun E9 h9 e9 => nomatch e9)
    cases e9
    show Ev _ _ _ _ _ _ 43 [some (.ref 396), some (.int c)] [.int ((nI q) + 1)] (N, SH v T, up2 (up2 (up2 I 401 q c) 396 7 ((nI q) + 1)) 396 12 0, L, Dd)
    refine Ev.iret dX7_append_43 rfl ?_
    rw [apdM, if_neg (by omega), nI_1]
  · refine Ev.sg hX (sX7_append_9.sub 0 2) (pc' := 11) (ls' := [some (.ref 396), some (.int c)]) (st' := [.int 1, .ref 396]) (h' := (N, SH v T, I, L, Dd)) rfl ?_
    refine Ev.callV (As := [.int 1]) (rest := []) dvX7_fails mkX7_75 rfl rfl dX7_append_11 (m_fails (d := d - 1) (I := I) hX (by omega)) ⟨by omega, by show 2 + 19 + 40 * _ ≤ 40 * _; omega⟩ ⟨Nat.zero_le _, Nat.zero_le _⟩ rfl (Nat.le_of_ble_eq_true rfl) (fun v9 h9 e9 => ?_) (fun E9 h9 e9 => nomatch e9)
    cases e9
    show Ev _ _ _ _ _ _ 14 [some (.ref 396), some (.int c)] [.int 0] (N, SH v T, up2 I 396 12 1, L, Dd)
    refine Ev.iret dX7_append_14 rfl ?_
    rw [apdM, if_pos ((nI_eq (a := q) (b := 60) (by omega) (by decide)).mp b1)]
def outM (I : HI) (q : Nat) (c : Int32) : Int32 × HI := if 0 ≤ c ∧ c ≤ nI q - 1 then (I 402 c.toNatClampNeg, up2 I 396 12 0) else (0, up2 I 396 12 1)
theorem m_outputAt (hX : JXok X) (hd : 1 ≤ d) (hq : q ≤ 300) (hll : I 396 11 = nI q) (hnr : ∀ j, j < q → narrow .char (.int (I 402 j)) = .int (I 402 j)) : MT X d 0 0 jdX7_outputAt [.ref 396, .int i0] (N, SH v T, I, L, Dd) (fun R => R = .inl (some (.int (outM I q i0).1), (N, SH v T, (outM I q i0).2, L, Dd))) := by
  refine MT.mk dvX7_outputAt.1 ?_
  refine Ev.sg hX (sX7_outputAt_0.sub 0 4) (pc' := 4) (ls' := [some (.ref 396), some (.int i0)]) (st' := [.ref 396, .int 0, .int i0, .ref 396]) (h' := (N, SH v T, I, L, Dd)) rfl ?_
  refine Ev.getf (sX7_outputAt_0.lk 4 (q := (4, .getfield 213, 7, 11)) rfl) rfl rfl (sX7_outputAt_0.dc 4 (q := (4, .getfield 213, 7, 11)) rfl) ?_
  show Ev _ _ _ _ _ _ 7 [some (.ref 396), some (.int i0)] [.int (I 396 11), .int 0, .int i0, .ref 396] (N, SH v T, I, L, Dd)
  refine Ev.eqst (st' := [.int (nI q), .int 0, .int i0, .ref 396]) (by rw [show I 396 11 = nI q from (hll)]) ?_
  refine Ev.sg hX (sX7_outputAt_0.sub 5 2) (pc' := 9) (ls' := [some (.ref 396), some (.int i0)]) (st' := [.int ((nI q) - 1), .int 0, .int i0, .ref 396]) (h' := (N, SH v T, I, L, Dd)) rfl ?_
  refine Ev.callS (As := [.int i0, .int 0, .int ((nI q) - 1)]) (rest := [.ref 396]) dsX7_in mkX7_52 dX7_outputAt_9 (m_in (d := d - 1) hX (by omega)) ⟨by omega, by show 3 + 19 + 40 * _ ≤ 40 * _; omega⟩ ⟨Nat.zero_le _, Nat.zero_le _⟩ rfl (Nat.le_of_ble_eq_true rfl) (fun v9 h9 e9 => ?_) (fun E9 h9 e9 => nomatch e9)
  cases e9
  show Ev _ _ _ _ _ _ 12 [some (.ref 396), some (.int i0)] [.int (bi (0 ≤ i0 ∧ i0 ≤ ((nI q) - 1))), .ref 396] (N, SH v T, I, L, Dd)
  refine Ev.if_eq (tgt := 19) dX7_outputAt_12 (by decide) (fun b1 => ?_) (fun b1 => ?_)
  · refine Ev.sg hX (sX7_outputAt_19.sub 0 1) (pc' := 20) (ls' := [some (.ref 396), some (.int i0)]) (st' := [.int 1, .ref 396]) (h' := (N, SH v T, I, L, Dd)) rfl ?_
    refine Ev.putf hX (sX7_outputAt_20.lk 0 (q := (20, .putfield 42, 7, 12)) rfl) rfl rfl (sX7_outputAt_20.dc 0 (q := (20, .putfield 42, 7, 12)) rfl) ?_
    show Ev _ _ _ _ _ _ 23 [some (.ref 396), some (.int i0)] [] (N, SH v T, up2 I 396 12 1, L, Dd)
    refine Ev.sg hX (sX7_outputAt_20.sub 1 1) (pc' := 24) (ls' := [some (.ref 396), some (.int i0)]) (st' := [.ref 396]) (h' := (N, SH v T, up2 I 396 12 1, L, Dd)) rfl ?_
    refine Ev.getf (sX7_outputAt_20.lk 2 (q := (24, .getfield 42, 7, 12)) rfl) rfl rfl (sX7_outputAt_20.dc 2 (q := (24, .getfield 42, 7, 12)) rfl) ?_
    show Ev _ _ _ _ _ _ 27 [some (.ref 396), some (.int i0)] [.int ((up2 I 396 12 1) 396 12)] (N, SH v T, up2 I 396 12 1, L, Dd)
    refine Ev.eqst (st' := [.int 1]) (by rw [show (up2 I 396 12 1) 396 12 = 1 from (up2_hit)]) ?_
    refine Ev.if_ne (tgt := 39) dX7_outputAt_27 (by decide) (fun b2 => ?_) (fun b2 => ?_)
    · refine Ev.sg hX (sX7_outputAt_39.sub 0 1) (pc' := 40) (ls' := [some (.ref 396), some (.int i0)]) (st' := [.int 0]) (h' := (N, SH v T, up2 I 396 12 1, L, Dd)) rfl ?_
      refine Ev.zret dX7_outputAt_40 rfl ?_ ?_
      · rfl
      rw [outM, if_neg (bi_0.mp b1)]
    · exact absurd b2 (by decide)
  · refine Ev.sg hX (sX7_outputAt_15.sub 0 2) (pc' := 20) (ls' := [some (.ref 396), some (.int i0)]) (st' := [.int 0, .ref 396]) (h' := (N, SH v T, I, L, Dd)) rfl ?_
    refine Ev.putf hX (sX7_outputAt_20.lk 0 (q := (20, .putfield 42, 7, 12)) rfl) rfl rfl (sX7_outputAt_20.dc 0 (q := (20, .putfield 42, 7, 12)) rfl) ?_
    show Ev _ _ _ _ _ _ 23 [some (.ref 396), some (.int i0)] [] (N, SH v T, up2 I 396 12 0, L, Dd)
    refine Ev.sg hX (sX7_outputAt_20.sub 1 1) (pc' := 24) (ls' := [some (.ref 396), some (.int i0)]) (st' := [.ref 396]) (h' := (N, SH v T, up2 I 396 12 0, L, Dd)) rfl ?_
    refine Ev.getf (sX7_outputAt_20.lk 2 (q := (24, .getfield 42, 7, 12)) rfl) rfl rfl (sX7_outputAt_20.dc 2 (q := (24, .getfield 42, 7, 12)) rfl) ?_
    show Ev _ _ _ _ _ _ 27 [some (.ref 396), some (.int i0)] [.int ((up2 I 396 12 0) 396 12)] (N, SH v T, up2 I 396 12 0, L, Dd)
    refine Ev.eqst (st' := [.int 0]) (by rw [show (up2 I 396 12 0) 396 12 = 0 from (up2_hit)]) ?_
    refine Ev.if_ne (tgt := 39) dX7_outputAt_27 (by decide) (fun b3 => ?_) (fun b3 => ?_)
    · exact absurd rfl b3
    · have hin := bi_1.mp b1
      obtain ⟨k, hk, rfl⟩ : ∃ k, k < q ∧ i0 = nI k := by
        rcases Nat.eq_zero_or_pos q with e | e
        · subst e; exact absurd (Int32.le_trans hin.1 hin.2) (by decide)
        · have h2 := hin; rw [show (1 : Int32) = nI 1 from rfl, nI_subN e] at h2; obtain ⟨k, hk, rfl⟩ := nI_le_of h2.1 h2.2 (by omega); exact ⟨k, by omega, rfl⟩
      refine Ev.sg hX (sX7_outputAt_30.sub 0 1) (pc' := 31) (ls' := [some (.ref 396), some (.int (nI k))]) (st' := [.ref 396]) (h' := (N, SH v T, up2 I 396 12 0, L, Dd)) rfl ?_
      refine Ev.getf (sX7_outputAt_30.lk 1 (q := (31, .getfield 33, 7, 10)) rfl) rfl rfl (sX7_outputAt_30.dc 1 (q := (31, .getfield 33, 7, 10)) rfl) ?_
      show Ev _ _ _ _ _ _ 34 [some (.ref 396), some (.int (nI k))] [.ref 402] (N, SH v T, up2 I 396 12 0, L, Dd)
      refine Ev.sg hX (sX7_outputAt_30.sub 2 1) (pc' := 35) (ls' := [some (.ref 396), some (.int (nI k))]) (st' := [.int (nI k), .ref 402]) (h' := (N, SH v T, up2 I 396 12 0, L, Dd)) rfl ?_
      refine Ev.caldE (n := k) (N := 300) rfl rfl (by omega) (by decide) dX7_outputAt_35 ?_
      show Ev _ _ _ _ _ _ 36 [some (.ref 396), some (.int (nI k))] [.int ((up2 I 396 12 0) 402 k)] (N, SH v T, up2 I 396 12 0, L, Dd)
      refine Ev.sg hX (sX7_outputAt_36.sub 0 1) (pc' := 40) (ls' := [some (.ref 396), some (.int (nI k))]) (st' := [.int ((up2 I 396 12 0) 402 k)]) (h' := (N, SH v T, up2 I 396 12 0, L, Dd)) rfl ?_
      refine Ev.zret dX7_outputAt_40 rfl ?_ ?_
      · exact hnr k hk
      (rw [outM, if_pos hin, show (nI k).toNatClampNeg = k from nI_clamp (by omega)]; rfl)
theorem m_writes (hX : JXok X) (hd : 0 ≤ d) (hc : cOKM c) (hW : W.length < 300) : MT X d 0 0 jdX7_writes [.ref 396, .int c] (N, SH v T, LW I W, L, Dd) (fun R => R = .inl (none, (N, SH v T, LW I (W ++ [c]), L, Dd))) := by
  refine MT.mk dvX7_writes.1 ?_
  refine Ev.sg hX (sX7_writes_0.sub 0 1) (pc' := 1) (ls' := [some (.ref 396), some (.int c)]) (st' := [.ref 396]) (h' := (N, SH v T, LW I W, L, Dd)) rfl ?_
  refine Ev.getf (sX7_writes_0.lk 1 (q := (1, .getfield 33, 7, 10)) rfl) rfl rfl (sX7_writes_0.dc 1 (q := (1, .getfield 33, 7, 10)) rfl) ?_
  show Ev _ _ _ _ _ _ 4 [some (.ref 396), some (.int c)] [.ref 402] (N, SH v T, LW I W, L, Dd)
  refine Ev.sg hX (sX7_writes_0.sub 2 1) (pc' := 5) (ls' := [some (.ref 396), some (.int c)]) (st' := [.ref 396, .ref 402]) (h' := (N, SH v T, LW I W, L, Dd)) rfl ?_
  refine Ev.getf (sX7_writes_0.lk 3 (q := (5, .getfield 213, 7, 11)) rfl) rfl rfl (sX7_writes_0.dc 3 (q := (5, .getfield 213, 7, 11)) rfl) ?_
  show Ev _ _ _ _ _ _ 8 [some (.ref 396), some (.int c)] [.int (nI W.length), .ref 402] (N, SH v T, LW I W, L, Dd)
  refine Ev.sg hX (sX7_writes_0.sub 4 2) (pc' := 10) (ls' := [some (.ref 396), some (.int c)]) (st' := [.int ((c.toUInt32 % 65536).toInt32), .int (nI W.length), .ref 402]) (h' := (N, SH v T, LW I W, L, Dd)) rfl ?_
  rw [hc.1]
  refine Ev.castE (n := W.length) (N := 300) (y := c) hc.2 hX rfl rfl hW (by decide) dX7_writes_10 ?_
  show Ev _ _ _ _ _ _ 11 [some (.ref 396), some (.int c)] [] (N, SH v T, up2 (LW I W) 402 W.length c, L, Dd)
  refine Ev.sg hX (sX7_writes_11.sub 0 2) (pc' := 13) (ls' := [some (.ref 396), some (.int c)]) (st' := [.ref 396, .ref 396]) (h' := (N, SH v T, up2 (LW I W) 402 W.length c, L, Dd)) rfl ?_
  refine Ev.getf (sX7_writes_11.lk 2 (q := (13, .getfield 213, 7, 11)) rfl) rfl rfl (sX7_writes_11.dc 2 (q := (13, .getfield 213, 7, 11)) rfl) ?_
  show Ev _ _ _ _ _ _ 16 [some (.ref 396), some (.int c)] [.int ((up2 (LW I W) 402 W.length c) 396 11), .ref 396] (N, SH v T, up2 (LW I W) 402 W.length c, L, Dd)
  refine Ev.sg hX (sX7_writes_11.sub 3 2) (pc' := 18) (ls' := [some (.ref 396), some (.int c)]) (st' := [.int (((up2 (LW I W) 402 W.length c) 396 11) + 1), .ref 396]) (h' := (N, SH v T, up2 (LW I W) 402 W.length c, L, Dd)) rfl ?_
  refine Ev.putf hX (sX7_writes_11.lk 5 (q := (18, .putfield 213, 7, 11)) rfl) rfl rfl (sX7_writes_11.dc 5 (q := (18, .putfield 213, 7, 11)) rfl) ?_
  show Ev _ _ _ _ _ _ 21 [some (.ref 396), some (.int c)] [] (N, SH v T, up2 (up2 (LW I W) 402 W.length c) 396 11 (((up2 (LW I W) 402 W.length c) 396 11) + 1), L, Dd)
  refine Ev.eqh (h' := (N, SH v T, LW I (W ++ [c]), L, Dd)) (congrArg (fun z => (N, SH v T, z, L, Dd)) ((congrArg (up2 (up2 (LW I W) 402 W.length c) 396 11) (show (up2 (LW I W) 402 W.length c) 396 11 + 1 = nI (W.length + 1) from nI_1 _)).trans LW_s)) ?_
  refine Ev.vret dX7_writes_21 rfl ?_
  rfl
theorem l_wn1 (hX : JXok X) (hd : 1 ≤ d) (hk : 0 ≤ k ∧ k < 10) (hW : W.length + 1 ≤ 300) : MT X d 0 0 jdX7_writesNumber [.ref 396, .int (nI k)] (N, SH v T, LW I W, L, Dd) (fun R => R = .inl (none, (N, SH v T, LW I (W ++ dgL k), L, Dd))) := by
  refine MT.mk dvX7_writesNumber.1 ?_
  have e9 : dgL k = [nI (48 + k / 1 % 10)] := by rw [dgL, if_pos (show k < 10 by omega), show k / 1 % 10 = k by omega]
  refine Ev.sg hX (sX7_writesNumber_0.sub 0 2) (pc' := 4) (ls' := [some (.ref 396), some (.int (nI k)), some (.int 1000)]) (st' := []) (h' := (N, SH v T, LW I W, L, Dd)) rfl ?_
  refine Ev.sg hX (sX7_writesNumber_4.sub 0 2) (pc' := 6) (ls' := [some (.ref 396), some (.int (nI k)), some (.int 1000)]) (st' := [.int 1, .int 1000]) (h' := (N, SH v T, LW I W, L, Dd)) rfl ?_
  refine Ev.icmp_le (tgt := 22) dX7_writesNumber_6 (by decide) (fun b1 => ?_) (fun b1 => ?_)
  · exact absurd b1 (by decide)
  · refine Ev.sg hX (sX7_writesNumber_9.sub 0 2) (pc' := 11) (ls' := [some (.ref 396), some (.int (nI k)), some (.int 1000)]) (st' := [.int 1000, .int (nI k)]) (h' := (N, SH v T, LW I W, L, Dd)) rfl ?_
    refine Ev.icmp_ge (tgt := 22) dX7_writesNumber_11 (by decide) (fun b2 => ?_) (fun b2 => ?_)
    · exact absurd ((nI_leI (a := 1000) (b := k) (by decide) (by omega)).mp b2) (by omega)
    · refine Ev.sg hX (sX7_writesNumber_14.sub 0 2) (pc' := 17) (ls' := [some (.ref 396), some (.int (nI k)), some (.int 1000)]) (st' := [.int 10, .int 1000]) (h' := (N, SH v T, LW I W, L, Dd)) rfl ?_
      refine Ev.idiv dX7_writesNumber_17 (by decide) ?_
      refine Ev.eqst (st' := [.int 100]) (by rw [show (1000 : Int32) / 10 = 100 by decide]) ?_
      refine Ev.sg hX (sX7_writesNumber_18.sub 0 2) (pc' := 4) (ls' := [some (.ref 396), some (.int (nI k)), some (.int 100)]) (st' := []) (h' := (N, SH v T, LW I W, L, Dd)) rfl ?_
      refine Ev.sg hX (sX7_writesNumber_4.sub 0 2) (pc' := 6) (ls' := [some (.ref 396), some (.int (nI k)), some (.int 100)]) (st' := [.int 1, .int 100]) (h' := (N, SH v T, LW I W, L, Dd)) rfl ?_
      refine Ev.icmp_le (tgt := 22) dX7_writesNumber_6 (by decide) (fun b3 => ?_) (fun b3 => ?_)
      · exact absurd b3 (by decide)
      · refine Ev.sg hX (sX7_writesNumber_9.sub 0 2) (pc' := 11) (ls' := [some (.ref 396), some (.int (nI k)), some (.int 100)]) (st' := [.int 100, .int (nI k)]) (h' := (N, SH v T, LW I W, L, Dd)) rfl ?_
        refine Ev.icmp_ge (tgt := 22) dX7_writesNumber_11 (by decide) (fun b4 => ?_) (fun b4 => ?_)
        · exact absurd ((nI_leI (a := 100) (b := k) (by decide) (by omega)).mp b4) (by omega)
        · refine Ev.sg hX (sX7_writesNumber_14.sub 0 2) (pc' := 17) (ls' := [some (.ref 396), some (.int (nI k)), some (.int 100)]) (st' := [.int 10, .int 100]) (h' := (N, SH v T, LW I W, L, Dd)) rfl ?_
          refine Ev.idiv dX7_writesNumber_17 (by decide) ?_
          refine Ev.eqst (st' := [.int 10]) (by rw [show (100 : Int32) / 10 = 10 by decide]) ?_
          refine Ev.sg hX (sX7_writesNumber_18.sub 0 2) (pc' := 4) (ls' := [some (.ref 396), some (.int (nI k)), some (.int 10)]) (st' := []) (h' := (N, SH v T, LW I W, L, Dd)) rfl ?_
          refine Ev.sg hX (sX7_writesNumber_4.sub 0 2) (pc' := 6) (ls' := [some (.ref 396), some (.int (nI k)), some (.int 10)]) (st' := [.int 1, .int 10]) (h' := (N, SH v T, LW I W, L, Dd)) rfl ?_
          refine Ev.icmp_le (tgt := 22) dX7_writesNumber_6 (by decide) (fun b5 => ?_) (fun b5 => ?_)
          · exact absurd b5 (by decide)
          · refine Ev.sg hX (sX7_writesNumber_9.sub 0 2) (pc' := 11) (ls' := [some (.ref 396), some (.int (nI k)), some (.int 10)]) (st' := [.int 10, .int (nI k)]) (h' := (N, SH v T, LW I W, L, Dd)) rfl ?_
            refine Ev.icmp_ge (tgt := 22) dX7_writesNumber_11 (by decide) (fun b6 => ?_) (fun b6 => ?_)
            · exact absurd ((nI_leI (a := 10) (b := k) (by decide) (by omega)).mp b6) (by omega)
            · refine Ev.sg hX (sX7_writesNumber_14.sub 0 2) (pc' := 17) (ls' := [some (.ref 396), some (.int (nI k)), some (.int 10)]) (st' := [.int 10, .int 10]) (h' := (N, SH v T, LW I W, L, Dd)) rfl ?_
              refine Ev.idiv dX7_writesNumber_17 (by decide) ?_
              refine Ev.eqst (st' := [.int 1]) (by rw [show (10 : Int32) / 10 = 1 by decide]) ?_
              refine Ev.sg hX (sX7_writesNumber_18.sub 0 2) (pc' := 4) (ls' := [some (.ref 396), some (.int (nI k)), some (.int 1)]) (st' := []) (h' := (N, SH v T, LW I W, L, Dd)) rfl ?_
              refine Ev.sg hX (sX7_writesNumber_4.sub 0 2) (pc' := 6) (ls' := [some (.ref 396), some (.int (nI k)), some (.int 1)]) (st' := [.int 1, .int 1]) (h' := (N, SH v T, LW I W, L, Dd)) rfl ?_
              refine Ev.icmp_le (tgt := 22) dX7_writesNumber_6 (by decide) (fun b7 => ?_) (fun b7 => ?_)
              · refine Ev.sg hX (sX7_writesNumber_22.sub 0 1) (pc' := 23) (ls' := [some (.ref 396), some (.int (nI k)), some (.int 1)]) (st' := [.int 1]) (h' := (N, SH v T, LW I W, L, Dd)) rfl ?_
                refine Ev.if_le (tgt := 47) dX7_writesNumber_23 (by decide) (fun b8 => ?_) (fun b8 => ?_)
                · exact absurd b8 (by decide)
                · refine Ev.sg hX (sX7_writesNumber_26.sub 0 4) (pc' := 31) (ls' := [some (.ref 396), some (.int (nI k)), some (.int 1)]) (st' := [.int 1, .int (nI k), .int 48, .ref 396]) (h' := (N, SH v T, LW I W, L, Dd)) rfl ?_
                  refine Ev.idiv dX7_writesNumber_31 (by decide) ?_
                  refine Ev.eqst (st' := [.int (nI (k / 1)), .int 48, .ref 396]) (by rw [show nI k / 1 = nI (k / 1) from pk_div (by omega) (by decide) (by decide)]) ?_
                  refine Ev.sg hX (sX7_writesNumber_32.sub 0 1) (pc' := 34) (ls' := [some (.ref 396), some (.int (nI k)), some (.int 1)]) (st' := [.int 10, .int (nI (k / 1)), .int 48, .ref 396]) (h' := (N, SH v T, LW I W, L, Dd)) rfl ?_
                  refine Ev.irem dX7_writesNumber_34 (by decide) ?_
                  refine Ev.eqst (st' := [.int (nI (k / 1 % 10)), .int 48, .ref 396]) (by rw [show nI (k / 1) - nI (k / 1) / 10 * 10 = nI (k / 1 % 10) from pk_rem (by omega) (by decide) (by decide)]) ?_
                  refine Ev.sg hX (sX7_writesNumber_35.sub 0 1) (pc' := 36) (ls' := [some (.ref 396), some (.int (nI k)), some (.int 1)]) (st' := [.int (48 + (nI (k / 1 % 10))), .ref 396]) (h' := (N, SH v T, LW I W, L, Dd)) rfl ?_
                  refine Ev.eqst (st' := [.int (nI (48 + k / 1 % 10)), .ref 396]) (by rw [show 48 + nI (k / 1 % 10) = nI (48 + k / 1 % 10) from nI_add 48 _]) ?_
                  refine Ev.callV (As := [.int (nI (48 + k / 1 % 10))]) (rest := []) dvX7_writes mkX7_216 rfl rfl dX7_writesNumber_36 (m_writes (d := d - 1) (I := I) (W := W) (c := nI (48 + k / 1 % 10)) hX (by omega) (cOK_dg _ (by omega)) (by (try simp only [List.length_append, List.length_cons, List.length_nil]) <;> omega)) ⟨by omega, by show 2 + 19 + 40 * _ ≤ 40 * _; omega⟩ ⟨Nat.zero_le _, Nat.zero_le _⟩ rfl (Nat.le_of_ble_eq_true rfl) (fun v9 h9 e9 => ?_) (fun E9 h9 e9 => nomatch e9)
                  cases e9
                  show Ev _ _ _ _ _ _ 39 [some (.ref 396), some (.int (nI k)), some (.int 1)] [] (N, SH v T, LW I (W ++ [nI (48 + k / 1 % 10)]), L, Dd)
                  refine Ev.sg hX (sX7_writesNumber_39.sub 0 2) (pc' := 42) (ls' := [some (.ref 396), some (.int (nI k)), some (.int 1)]) (st' := [.int 10, .int 1]) (h' := (N, SH v T, LW I (W ++ [nI (48 + k / 1 % 10)]), L, Dd)) rfl ?_
                  refine Ev.idiv dX7_writesNumber_42 (by decide) ?_
                  refine Ev.eqst (st' := [.int 0]) (by rw [show (1 : Int32) / 10 = 0 by decide]) ?_
                  refine Ev.sg hX (sX7_writesNumber_43.sub 0 2) (pc' := 22) (ls' := [some (.ref 396), some (.int (nI k)), some (.int 0)]) (st' := []) (h' := (N, SH v T, LW I (W ++ [nI (48 + k / 1 % 10)]), L, Dd)) rfl ?_
                  refine Ev.sg hX (sX7_writesNumber_22.sub 0 1) (pc' := 23) (ls' := [some (.ref 396), some (.int (nI k)), some (.int 0)]) (st' := [.int 0]) (h' := (N, SH v T, LW I (W ++ [nI (48 + k / 1 % 10)]), L, Dd)) rfl ?_
                  refine Ev.if_le (tgt := 47) dX7_writesNumber_23 (by decide) (fun b9 => ?_) (fun b9 => ?_)
                  · refine Ev.vret dX7_writesNumber_47 rfl ?_
                    exact congrArg (fun z => Sum.inl (none, (N, SH v T, LW I z, L, Dd))) (by rw [e9] <;> simp)
                  · exact absurd (show (0 : Int32) ≤ 0 by decide) b9
              · exact absurd (show (1 : Int32) ≤ 1 by decide) b7
theorem l_wn2 (hX : JXok X) (hd : 1 ≤ d) (hk : 10 ≤ k ∧ k < 100) (hW : W.length + 2 ≤ 300) : MT X d 0 0 jdX7_writesNumber [.ref 396, .int (nI k)] (N, SH v T, LW I W, L, Dd) (fun R => R = .inl (none, (N, SH v T, LW I (W ++ dgL k), L, Dd))) := by
  refine MT.mk dvX7_writesNumber.1 ?_
  have e9 : dgL k = [nI (48 + k / 10 % 10), nI (48 + k / 1 % 10)] := by rw [dgL, if_neg (show ¬ k < 10 by omega), if_pos (show k < 100 by omega), show k / 10 % 10 = k / 10 by omega, show k / 1 % 10 = k % 10 by omega]
  refine Ev.sg hX (sX7_writesNumber_0.sub 0 2) (pc' := 4) (ls' := [some (.ref 396), some (.int (nI k)), some (.int 1000)]) (st' := []) (h' := (N, SH v T, LW I W, L, Dd)) rfl ?_
  refine Ev.sg hX (sX7_writesNumber_4.sub 0 2) (pc' := 6) (ls' := [some (.ref 396), some (.int (nI k)), some (.int 1000)]) (st' := [.int 1, .int 1000]) (h' := (N, SH v T, LW I W, L, Dd)) rfl ?_
  refine Ev.icmp_le (tgt := 22) dX7_writesNumber_6 (by decide) (fun b1 => ?_) (fun b1 => ?_)
  · exact absurd b1 (by decide)
  · refine Ev.sg hX (sX7_writesNumber_9.sub 0 2) (pc' := 11) (ls' := [some (.ref 396), some (.int (nI k)), some (.int 1000)]) (st' := [.int 1000, .int (nI k)]) (h' := (N, SH v T, LW I W, L, Dd)) rfl ?_
    refine Ev.icmp_ge (tgt := 22) dX7_writesNumber_11 (by decide) (fun b2 => ?_) (fun b2 => ?_)
    · exact absurd ((nI_leI (a := 1000) (b := k) (by decide) (by omega)).mp b2) (by omega)
    · refine Ev.sg hX (sX7_writesNumber_14.sub 0 2) (pc' := 17) (ls' := [some (.ref 396), some (.int (nI k)), some (.int 1000)]) (st' := [.int 10, .int 1000]) (h' := (N, SH v T, LW I W, L, Dd)) rfl ?_
      refine Ev.idiv dX7_writesNumber_17 (by decide) ?_
      refine Ev.eqst (st' := [.int 100]) (by rw [show (1000 : Int32) / 10 = 100 by decide]) ?_
      refine Ev.sg hX (sX7_writesNumber_18.sub 0 2) (pc' := 4) (ls' := [some (.ref 396), some (.int (nI k)), some (.int 100)]) (st' := []) (h' := (N, SH v T, LW I W, L, Dd)) rfl ?_
      refine Ev.sg hX (sX7_writesNumber_4.sub 0 2) (pc' := 6) (ls' := [some (.ref 396), some (.int (nI k)), some (.int 100)]) (st' := [.int 1, .int 100]) (h' := (N, SH v T, LW I W, L, Dd)) rfl ?_
      refine Ev.icmp_le (tgt := 22) dX7_writesNumber_6 (by decide) (fun b3 => ?_) (fun b3 => ?_)
      · exact absurd b3 (by decide)
      · refine Ev.sg hX (sX7_writesNumber_9.sub 0 2) (pc' := 11) (ls' := [some (.ref 396), some (.int (nI k)), some (.int 100)]) (st' := [.int 100, .int (nI k)]) (h' := (N, SH v T, LW I W, L, Dd)) rfl ?_
        refine Ev.icmp_ge (tgt := 22) dX7_writesNumber_11 (by decide) (fun b4 => ?_) (fun b4 => ?_)
        · exact absurd ((nI_leI (a := 100) (b := k) (by decide) (by omega)).mp b4) (by omega)
        · refine Ev.sg hX (sX7_writesNumber_14.sub 0 2) (pc' := 17) (ls' := [some (.ref 396), some (.int (nI k)), some (.int 100)]) (st' := [.int 10, .int 100]) (h' := (N, SH v T, LW I W, L, Dd)) rfl ?_
          refine Ev.idiv dX7_writesNumber_17 (by decide) ?_
          refine Ev.eqst (st' := [.int 10]) (by rw [show (100 : Int32) / 10 = 10 by decide]) ?_
          refine Ev.sg hX (sX7_writesNumber_18.sub 0 2) (pc' := 4) (ls' := [some (.ref 396), some (.int (nI k)), some (.int 10)]) (st' := []) (h' := (N, SH v T, LW I W, L, Dd)) rfl ?_
          refine Ev.sg hX (sX7_writesNumber_4.sub 0 2) (pc' := 6) (ls' := [some (.ref 396), some (.int (nI k)), some (.int 10)]) (st' := [.int 1, .int 10]) (h' := (N, SH v T, LW I W, L, Dd)) rfl ?_
          refine Ev.icmp_le (tgt := 22) dX7_writesNumber_6 (by decide) (fun b5 => ?_) (fun b5 => ?_)
          · exact absurd b5 (by decide)
          · refine Ev.sg hX (sX7_writesNumber_9.sub 0 2) (pc' := 11) (ls' := [some (.ref 396), some (.int (nI k)), some (.int 10)]) (st' := [.int 10, .int (nI k)]) (h' := (N, SH v T, LW I W, L, Dd)) rfl ?_
            refine Ev.icmp_ge (tgt := 22) dX7_writesNumber_11 (by decide) (fun b6 => ?_) (fun b6 => ?_)
            · refine Ev.sg hX (sX7_writesNumber_22.sub 0 1) (pc' := 23) (ls' := [some (.ref 396), some (.int (nI k)), some (.int 10)]) (st' := [.int 10]) (h' := (N, SH v T, LW I W, L, Dd)) rfl ?_
              refine Ev.if_le (tgt := 47) dX7_writesNumber_23 (by decide) (fun b7 => ?_) (fun b7 => ?_)
              · exact absurd b7 (by decide)
              · refine Ev.sg hX (sX7_writesNumber_26.sub 0 4) (pc' := 31) (ls' := [some (.ref 396), some (.int (nI k)), some (.int 10)]) (st' := [.int 10, .int (nI k), .int 48, .ref 396]) (h' := (N, SH v T, LW I W, L, Dd)) rfl ?_
                refine Ev.idiv dX7_writesNumber_31 (by decide) ?_
                refine Ev.eqst (st' := [.int (nI (k / 10)), .int 48, .ref 396]) (by rw [show nI k / 10 = nI (k / 10) from pk_div (by omega) (by decide) (by decide)]) ?_
                refine Ev.sg hX (sX7_writesNumber_32.sub 0 1) (pc' := 34) (ls' := [some (.ref 396), some (.int (nI k)), some (.int 10)]) (st' := [.int 10, .int (nI (k / 10)), .int 48, .ref 396]) (h' := (N, SH v T, LW I W, L, Dd)) rfl ?_
                refine Ev.irem dX7_writesNumber_34 (by decide) ?_
                refine Ev.eqst (st' := [.int (nI (k / 10 % 10)), .int 48, .ref 396]) (by rw [show nI (k / 10) - nI (k / 10) / 10 * 10 = nI (k / 10 % 10) from pk_rem (by omega) (by decide) (by decide)]) ?_
                refine Ev.sg hX (sX7_writesNumber_35.sub 0 1) (pc' := 36) (ls' := [some (.ref 396), some (.int (nI k)), some (.int 10)]) (st' := [.int (48 + (nI (k / 10 % 10))), .ref 396]) (h' := (N, SH v T, LW I W, L, Dd)) rfl ?_
                refine Ev.eqst (st' := [.int (nI (48 + k / 10 % 10)), .ref 396]) (by rw [show 48 + nI (k / 10 % 10) = nI (48 + k / 10 % 10) from nI_add 48 _]) ?_
                refine Ev.callV (As := [.int (nI (48 + k / 10 % 10))]) (rest := []) dvX7_writes mkX7_216 rfl rfl dX7_writesNumber_36 (m_writes (d := d - 1) (I := I) (W := W) (c := nI (48 + k / 10 % 10)) hX (by omega) (cOK_dg _ (by omega)) (by (try simp only [List.length_append, List.length_cons, List.length_nil]) <;> omega)) ⟨by omega, by show 2 + 19 + 40 * _ ≤ 40 * _; omega⟩ ⟨Nat.zero_le _, Nat.zero_le _⟩ rfl (Nat.le_of_ble_eq_true rfl) (fun v9 h9 e9 => ?_) (fun E9 h9 e9 => nomatch e9)
                cases e9
                show Ev _ _ _ _ _ _ 39 [some (.ref 396), some (.int (nI k)), some (.int 10)] [] (N, SH v T, LW I (W ++ [nI (48 + k / 10 % 10)]), L, Dd)
                refine Ev.sg hX (sX7_writesNumber_39.sub 0 2) (pc' := 42) (ls' := [some (.ref 396), some (.int (nI k)), some (.int 10)]) (st' := [.int 10, .int 10]) (h' := (N, SH v T, LW I (W ++ [nI (48 + k / 10 % 10)]), L, Dd)) rfl ?_
                refine Ev.idiv dX7_writesNumber_42 (by decide) ?_
                refine Ev.eqst (st' := [.int 1]) (by rw [show (10 : Int32) / 10 = 1 by decide]) ?_
                refine Ev.sg hX (sX7_writesNumber_43.sub 0 2) (pc' := 22) (ls' := [some (.ref 396), some (.int (nI k)), some (.int 1)]) (st' := []) (h' := (N, SH v T, LW I (W ++ [nI (48 + k / 10 % 10)]), L, Dd)) rfl ?_
                refine Ev.sg hX (sX7_writesNumber_22.sub 0 1) (pc' := 23) (ls' := [some (.ref 396), some (.int (nI k)), some (.int 1)]) (st' := [.int 1]) (h' := (N, SH v T, LW I (W ++ [nI (48 + k / 10 % 10)]), L, Dd)) rfl ?_
                refine Ev.if_le (tgt := 47) dX7_writesNumber_23 (by decide) (fun b8 => ?_) (fun b8 => ?_)
                · exact absurd b8 (by decide)
                · refine Ev.sg hX (sX7_writesNumber_26.sub 0 4) (pc' := 31) (ls' := [some (.ref 396), some (.int (nI k)), some (.int 1)]) (st' := [.int 1, .int (nI k), .int 48, .ref 396]) (h' := (N, SH v T, LW I (W ++ [nI (48 + k / 10 % 10)]), L, Dd)) rfl ?_
                  refine Ev.idiv dX7_writesNumber_31 (by decide) ?_
                  refine Ev.eqst (st' := [.int (nI (k / 1)), .int 48, .ref 396]) (by rw [show nI k / 1 = nI (k / 1) from pk_div (by omega) (by decide) (by decide)]) ?_
                  refine Ev.sg hX (sX7_writesNumber_32.sub 0 1) (pc' := 34) (ls' := [some (.ref 396), some (.int (nI k)), some (.int 1)]) (st' := [.int 10, .int (nI (k / 1)), .int 48, .ref 396]) (h' := (N, SH v T, LW I (W ++ [nI (48 + k / 10 % 10)]), L, Dd)) rfl ?_
                  refine Ev.irem dX7_writesNumber_34 (by decide) ?_
                  refine Ev.eqst (st' := [.int (nI (k / 1 % 10)), .int 48, .ref 396]) (by rw [show nI (k / 1) - nI (k / 1) / 10 * 10 = nI (k / 1 % 10) from pk_rem (by omega) (by decide) (by decide)]) ?_
                  refine Ev.sg hX (sX7_writesNumber_35.sub 0 1) (pc' := 36) (ls' := [some (.ref 396), some (.int (nI k)), some (.int 1)]) (st' := [.int (48 + (nI (k / 1 % 10))), .ref 396]) (h' := (N, SH v T, LW I (W ++ [nI (48 + k / 10 % 10)]), L, Dd)) rfl ?_
                  refine Ev.eqst (st' := [.int (nI (48 + k / 1 % 10)), .ref 396]) (by rw [show 48 + nI (k / 1 % 10) = nI (48 + k / 1 % 10) from nI_add 48 _]) ?_
                  refine Ev.callV (As := [.int (nI (48 + k / 1 % 10))]) (rest := []) dvX7_writes mkX7_216 rfl rfl dX7_writesNumber_36 (m_writes (d := d - 1) (I := I) (W := W ++ [nI (48 + k / 10 % 10)]) (c := nI (48 + k / 1 % 10)) hX (by omega) (cOK_dg _ (by omega)) (by (try simp only [List.length_append, List.length_cons, List.length_nil]) <;> omega)) ⟨by omega, by show 2 + 19 + 40 * _ ≤ 40 * _; omega⟩ ⟨Nat.zero_le _, Nat.zero_le _⟩ rfl (Nat.le_of_ble_eq_true rfl) (fun v9 h9 e9 => ?_) (fun E9 h9 e9 => nomatch e9)
                  cases e9
                  show Ev _ _ _ _ _ _ 39 [some (.ref 396), some (.int (nI k)), some (.int 1)] [] (N, SH v T, LW I (W ++ [nI (48 + k / 10 % 10)] ++ [nI (48 + k / 1 % 10)]), L, Dd)
                  refine Ev.sg hX (sX7_writesNumber_39.sub 0 2) (pc' := 42) (ls' := [some (.ref 396), some (.int (nI k)), some (.int 1)]) (st' := [.int 10, .int 1]) (h' := (N, SH v T, LW I (W ++ [nI (48 + k / 10 % 10)] ++ [nI (48 + k / 1 % 10)]), L, Dd)) rfl ?_
                  refine Ev.idiv dX7_writesNumber_42 (by decide) ?_
                  refine Ev.eqst (st' := [.int 0]) (by rw [show (1 : Int32) / 10 = 0 by decide]) ?_
                  refine Ev.sg hX (sX7_writesNumber_43.sub 0 2) (pc' := 22) (ls' := [some (.ref 396), some (.int (nI k)), some (.int 0)]) (st' := []) (h' := (N, SH v T, LW I (W ++ [nI (48 + k / 10 % 10)] ++ [nI (48 + k / 1 % 10)]), L, Dd)) rfl ?_
                  refine Ev.sg hX (sX7_writesNumber_22.sub 0 1) (pc' := 23) (ls' := [some (.ref 396), some (.int (nI k)), some (.int 0)]) (st' := [.int 0]) (h' := (N, SH v T, LW I (W ++ [nI (48 + k / 10 % 10)] ++ [nI (48 + k / 1 % 10)]), L, Dd)) rfl ?_
                  refine Ev.if_le (tgt := 47) dX7_writesNumber_23 (by decide) (fun b9 => ?_) (fun b9 => ?_)
                  · refine Ev.vret dX7_writesNumber_47 rfl ?_
                    exact congrArg (fun z => Sum.inl (none, (N, SH v T, LW I z, L, Dd))) (by rw [e9] <;> simp)
                  · exact absurd (show (0 : Int32) ≤ 0 by decide) b9
            · exact absurd ((nI_leI (a := 10) (b := k) (by decide) (by omega)).mpr (by omega)) b6
theorem l_wn3 (hX : JXok X) (hd : 1 ≤ d) (hk : 100 ≤ k ∧ k < 1000) (hW : W.length + 3 ≤ 300) : MT X d 0 0 jdX7_writesNumber [.ref 396, .int (nI k)] (N, SH v T, LW I W, L, Dd) (fun R => R = .inl (none, (N, SH v T, LW I (W ++ dgL k), L, Dd))) := by
  refine MT.mk dvX7_writesNumber.1 ?_
  have e9 : dgL k = [nI (48 + k / 100 % 10), nI (48 + k / 10 % 10), nI (48 + k / 1 % 10)] := by rw [dgL, if_neg (show ¬ k < 10 by omega), if_neg (show ¬ k < 100 by omega), if_pos (show k < 1000 by omega), show k / 100 % 10 = k / 100 by omega, show k / 10 % 10 = k % 100 / 10 by omega, show k / 1 % 10 = k % 10 by omega]
  refine Ev.sg hX (sX7_writesNumber_0.sub 0 2) (pc' := 4) (ls' := [some (.ref 396), some (.int (nI k)), some (.int 1000)]) (st' := []) (h' := (N, SH v T, LW I W, L, Dd)) rfl ?_
  refine Ev.sg hX (sX7_writesNumber_4.sub 0 2) (pc' := 6) (ls' := [some (.ref 396), some (.int (nI k)), some (.int 1000)]) (st' := [.int 1, .int 1000]) (h' := (N, SH v T, LW I W, L, Dd)) rfl ?_
  refine Ev.icmp_le (tgt := 22) dX7_writesNumber_6 (by decide) (fun b1 => ?_) (fun b1 => ?_)
  · exact absurd b1 (by decide)
  · refine Ev.sg hX (sX7_writesNumber_9.sub 0 2) (pc' := 11) (ls' := [some (.ref 396), some (.int (nI k)), some (.int 1000)]) (st' := [.int 1000, .int (nI k)]) (h' := (N, SH v T, LW I W, L, Dd)) rfl ?_
    refine Ev.icmp_ge (tgt := 22) dX7_writesNumber_11 (by decide) (fun b2 => ?_) (fun b2 => ?_)
    · exact absurd ((nI_leI (a := 1000) (b := k) (by decide) (by omega)).mp b2) (by omega)
    · refine Ev.sg hX (sX7_writesNumber_14.sub 0 2) (pc' := 17) (ls' := [some (.ref 396), some (.int (nI k)), some (.int 1000)]) (st' := [.int 10, .int 1000]) (h' := (N, SH v T, LW I W, L, Dd)) rfl ?_
      refine Ev.idiv dX7_writesNumber_17 (by decide) ?_
      refine Ev.eqst (st' := [.int 100]) (by rw [show (1000 : Int32) / 10 = 100 by decide]) ?_
      refine Ev.sg hX (sX7_writesNumber_18.sub 0 2) (pc' := 4) (ls' := [some (.ref 396), some (.int (nI k)), some (.int 100)]) (st' := []) (h' := (N, SH v T, LW I W, L, Dd)) rfl ?_
      refine Ev.sg hX (sX7_writesNumber_4.sub 0 2) (pc' := 6) (ls' := [some (.ref 396), some (.int (nI k)), some (.int 100)]) (st' := [.int 1, .int 100]) (h' := (N, SH v T, LW I W, L, Dd)) rfl ?_
      refine Ev.icmp_le (tgt := 22) dX7_writesNumber_6 (by decide) (fun b3 => ?_) (fun b3 => ?_)
      · exact absurd b3 (by decide)
      · refine Ev.sg hX (sX7_writesNumber_9.sub 0 2) (pc' := 11) (ls' := [some (.ref 396), some (.int (nI k)), some (.int 100)]) (st' := [.int 100, .int (nI k)]) (h' := (N, SH v T, LW I W, L, Dd)) rfl ?_
        refine Ev.icmp_ge (tgt := 22) dX7_writesNumber_11 (by decide) (fun b4 => ?_) (fun b4 => ?_)
        · refine Ev.sg hX (sX7_writesNumber_22.sub 0 1) (pc' := 23) (ls' := [some (.ref 396), some (.int (nI k)), some (.int 100)]) (st' := [.int 100]) (h' := (N, SH v T, LW I W, L, Dd)) rfl ?_
          refine Ev.if_le (tgt := 47) dX7_writesNumber_23 (by decide) (fun b5 => ?_) (fun b5 => ?_)
          · exact absurd b5 (by decide)
          · refine Ev.sg hX (sX7_writesNumber_26.sub 0 4) (pc' := 31) (ls' := [some (.ref 396), some (.int (nI k)), some (.int 100)]) (st' := [.int 100, .int (nI k), .int 48, .ref 396]) (h' := (N, SH v T, LW I W, L, Dd)) rfl ?_
            refine Ev.idiv dX7_writesNumber_31 (by decide) ?_
            refine Ev.eqst (st' := [.int (nI (k / 100)), .int 48, .ref 396]) (by rw [show nI k / 100 = nI (k / 100) from pk_div (by omega) (by decide) (by decide)]) ?_
            refine Ev.sg hX (sX7_writesNumber_32.sub 0 1) (pc' := 34) (ls' := [some (.ref 396), some (.int (nI k)), some (.int 100)]) (st' := [.int 10, .int (nI (k / 100)), .int 48, .ref 396]) (h' := (N, SH v T, LW I W, L, Dd)) rfl ?_
            refine Ev.irem dX7_writesNumber_34 (by decide) ?_
            refine Ev.eqst (st' := [.int (nI (k / 100 % 10)), .int 48, .ref 396]) (by rw [show nI (k / 100) - nI (k / 100) / 10 * 10 = nI (k / 100 % 10) from pk_rem (by omega) (by decide) (by decide)]) ?_
            refine Ev.sg hX (sX7_writesNumber_35.sub 0 1) (pc' := 36) (ls' := [some (.ref 396), some (.int (nI k)), some (.int 100)]) (st' := [.int (48 + (nI (k / 100 % 10))), .ref 396]) (h' := (N, SH v T, LW I W, L, Dd)) rfl ?_
            refine Ev.eqst (st' := [.int (nI (48 + k / 100 % 10)), .ref 396]) (by rw [show 48 + nI (k / 100 % 10) = nI (48 + k / 100 % 10) from nI_add 48 _]) ?_
            refine Ev.callV (As := [.int (nI (48 + k / 100 % 10))]) (rest := []) dvX7_writes mkX7_216 rfl rfl dX7_writesNumber_36 (m_writes (d := d - 1) (I := I) (W := W) (c := nI (48 + k / 100 % 10)) hX (by omega) (cOK_dg _ (by omega)) (by (try simp only [List.length_append, List.length_cons, List.length_nil]) <;> omega)) ⟨by omega, by show 2 + 19 + 40 * _ ≤ 40 * _; omega⟩ ⟨Nat.zero_le _, Nat.zero_le _⟩ rfl (Nat.le_of_ble_eq_true rfl) (fun v9 h9 e9 => ?_) (fun E9 h9 e9 => nomatch e9)
            cases e9
            show Ev _ _ _ _ _ _ 39 [some (.ref 396), some (.int (nI k)), some (.int 100)] [] (N, SH v T, LW I (W ++ [nI (48 + k / 100 % 10)]), L, Dd)
            refine Ev.sg hX (sX7_writesNumber_39.sub 0 2) (pc' := 42) (ls' := [some (.ref 396), some (.int (nI k)), some (.int 100)]) (st' := [.int 10, .int 100]) (h' := (N, SH v T, LW I (W ++ [nI (48 + k / 100 % 10)]), L, Dd)) rfl ?_
            refine Ev.idiv dX7_writesNumber_42 (by decide) ?_
            refine Ev.eqst (st' := [.int 10]) (by rw [show (100 : Int32) / 10 = 10 by decide]) ?_
            refine Ev.sg hX (sX7_writesNumber_43.sub 0 2) (pc' := 22) (ls' := [some (.ref 396), some (.int (nI k)), some (.int 10)]) (st' := []) (h' := (N, SH v T, LW I (W ++ [nI (48 + k / 100 % 10)]), L, Dd)) rfl ?_
            refine Ev.sg hX (sX7_writesNumber_22.sub 0 1) (pc' := 23) (ls' := [some (.ref 396), some (.int (nI k)), some (.int 10)]) (st' := [.int 10]) (h' := (N, SH v T, LW I (W ++ [nI (48 + k / 100 % 10)]), L, Dd)) rfl ?_
            refine Ev.if_le (tgt := 47) dX7_writesNumber_23 (by decide) (fun b6 => ?_) (fun b6 => ?_)
            · exact absurd b6 (by decide)
            · refine Ev.sg hX (sX7_writesNumber_26.sub 0 4) (pc' := 31) (ls' := [some (.ref 396), some (.int (nI k)), some (.int 10)]) (st' := [.int 10, .int (nI k), .int 48, .ref 396]) (h' := (N, SH v T, LW I (W ++ [nI (48 + k / 100 % 10)]), L, Dd)) rfl ?_
              refine Ev.idiv dX7_writesNumber_31 (by decide) ?_
              refine Ev.eqst (st' := [.int (nI (k / 10)), .int 48, .ref 396]) (by rw [show nI k / 10 = nI (k / 10) from pk_div (by omega) (by decide) (by decide)]) ?_
              refine Ev.sg hX (sX7_writesNumber_32.sub 0 1) (pc' := 34) (ls' := [some (.ref 396), some (.int (nI k)), some (.int 10)]) (st' := [.int 10, .int (nI (k / 10)), .int 48, .ref 396]) (h' := (N, SH v T, LW I (W ++ [nI (48 + k / 100 % 10)]), L, Dd)) rfl ?_
              refine Ev.irem dX7_writesNumber_34 (by decide) ?_
              refine Ev.eqst (st' := [.int (nI (k / 10 % 10)), .int 48, .ref 396]) (by rw [show nI (k / 10) - nI (k / 10) / 10 * 10 = nI (k / 10 % 10) from pk_rem (by omega) (by decide) (by decide)]) ?_
              refine Ev.sg hX (sX7_writesNumber_35.sub 0 1) (pc' := 36) (ls' := [some (.ref 396), some (.int (nI k)), some (.int 10)]) (st' := [.int (48 + (nI (k / 10 % 10))), .ref 396]) (h' := (N, SH v T, LW I (W ++ [nI (48 + k / 100 % 10)]), L, Dd)) rfl ?_
              refine Ev.eqst (st' := [.int (nI (48 + k / 10 % 10)), .ref 396]) (by rw [show 48 + nI (k / 10 % 10) = nI (48 + k / 10 % 10) from nI_add 48 _]) ?_
              refine Ev.callV (As := [.int (nI (48 + k / 10 % 10))]) (rest := []) dvX7_writes mkX7_216 rfl rfl dX7_writesNumber_36 (m_writes (d := d - 1) (I := I) (W := W ++ [nI (48 + k / 100 % 10)]) (c := nI (48 + k / 10 % 10)) hX (by omega) (cOK_dg _ (by omega)) (by (try simp only [List.length_append, List.length_cons, List.length_nil]) <;> omega)) ⟨by omega, by show 2 + 19 + 40 * _ ≤ 40 * _; omega⟩ ⟨Nat.zero_le _, Nat.zero_le _⟩ rfl (Nat.le_of_ble_eq_true rfl) (fun v9 h9 e9 => ?_) (fun E9 h9 e9 => nomatch e9)
              cases e9
              show Ev _ _ _ _ _ _ 39 [some (.ref 396), some (.int (nI k)), some (.int 10)] [] (N, SH v T, LW I (W ++ [nI (48 + k / 100 % 10)] ++ [nI (48 + k / 10 % 10)]), L, Dd)
              refine Ev.sg hX (sX7_writesNumber_39.sub 0 2) (pc' := 42) (ls' := [some (.ref 396), some (.int (nI k)), some (.int 10)]) (st' := [.int 10, .int 10]) (h' := (N, SH v T, LW I (W ++ [nI (48 + k / 100 % 10)] ++ [nI (48 + k / 10 % 10)]), L, Dd)) rfl ?_
              refine Ev.idiv dX7_writesNumber_42 (by decide) ?_
              refine Ev.eqst (st' := [.int 1]) (by rw [show (10 : Int32) / 10 = 1 by decide]) ?_
              refine Ev.sg hX (sX7_writesNumber_43.sub 0 2) (pc' := 22) (ls' := [some (.ref 396), some (.int (nI k)), some (.int 1)]) (st' := []) (h' := (N, SH v T, LW I (W ++ [nI (48 + k / 100 % 10)] ++ [nI (48 + k / 10 % 10)]), L, Dd)) rfl ?_
              refine Ev.sg hX (sX7_writesNumber_22.sub 0 1) (pc' := 23) (ls' := [some (.ref 396), some (.int (nI k)), some (.int 1)]) (st' := [.int 1]) (h' := (N, SH v T, LW I (W ++ [nI (48 + k / 100 % 10)] ++ [nI (48 + k / 10 % 10)]), L, Dd)) rfl ?_
              refine Ev.if_le (tgt := 47) dX7_writesNumber_23 (by decide) (fun b7 => ?_) (fun b7 => ?_)
              · exact absurd b7 (by decide)
              · refine Ev.sg hX (sX7_writesNumber_26.sub 0 4) (pc' := 31) (ls' := [some (.ref 396), some (.int (nI k)), some (.int 1)]) (st' := [.int 1, .int (nI k), .int 48, .ref 396]) (h' := (N, SH v T, LW I (W ++ [nI (48 + k / 100 % 10)] ++ [nI (48 + k / 10 % 10)]), L, Dd)) rfl ?_
                refine Ev.idiv dX7_writesNumber_31 (by decide) ?_
                refine Ev.eqst (st' := [.int (nI (k / 1)), .int 48, .ref 396]) (by rw [show nI k / 1 = nI (k / 1) from pk_div (by omega) (by decide) (by decide)]) ?_
                refine Ev.sg hX (sX7_writesNumber_32.sub 0 1) (pc' := 34) (ls' := [some (.ref 396), some (.int (nI k)), some (.int 1)]) (st' := [.int 10, .int (nI (k / 1)), .int 48, .ref 396]) (h' := (N, SH v T, LW I (W ++ [nI (48 + k / 100 % 10)] ++ [nI (48 + k / 10 % 10)]), L, Dd)) rfl ?_
                refine Ev.irem dX7_writesNumber_34 (by decide) ?_
                refine Ev.eqst (st' := [.int (nI (k / 1 % 10)), .int 48, .ref 396]) (by rw [show nI (k / 1) - nI (k / 1) / 10 * 10 = nI (k / 1 % 10) from pk_rem (by omega) (by decide) (by decide)]) ?_
                refine Ev.sg hX (sX7_writesNumber_35.sub 0 1) (pc' := 36) (ls' := [some (.ref 396), some (.int (nI k)), some (.int 1)]) (st' := [.int (48 + (nI (k / 1 % 10))), .ref 396]) (h' := (N, SH v T, LW I (W ++ [nI (48 + k / 100 % 10)] ++ [nI (48 + k / 10 % 10)]), L, Dd)) rfl ?_
                refine Ev.eqst (st' := [.int (nI (48 + k / 1 % 10)), .ref 396]) (by rw [show 48 + nI (k / 1 % 10) = nI (48 + k / 1 % 10) from nI_add 48 _]) ?_
                refine Ev.callV (As := [.int (nI (48 + k / 1 % 10))]) (rest := []) dvX7_writes mkX7_216 rfl rfl dX7_writesNumber_36 (m_writes (d := d - 1) (I := I) (W := W ++ [nI (48 + k / 100 % 10)] ++ [nI (48 + k / 10 % 10)]) (c := nI (48 + k / 1 % 10)) hX (by omega) (cOK_dg _ (by omega)) (by (try simp only [List.length_append, List.length_cons, List.length_nil]) <;> omega)) ⟨by omega, by show 2 + 19 + 40 * _ ≤ 40 * _; omega⟩ ⟨Nat.zero_le _, Nat.zero_le _⟩ rfl (Nat.le_of_ble_eq_true rfl) (fun v9 h9 e9 => ?_) (fun E9 h9 e9 => nomatch e9)
                cases e9
                show Ev _ _ _ _ _ _ 39 [some (.ref 396), some (.int (nI k)), some (.int 1)] [] (N, SH v T, LW I (W ++ [nI (48 + k / 100 % 10)] ++ [nI (48 + k / 10 % 10)] ++ [nI (48 + k / 1 % 10)]), L, Dd)
                refine Ev.sg hX (sX7_writesNumber_39.sub 0 2) (pc' := 42) (ls' := [some (.ref 396), some (.int (nI k)), some (.int 1)]) (st' := [.int 10, .int 1]) (h' := (N, SH v T, LW I (W ++ [nI (48 + k / 100 % 10)] ++ [nI (48 + k / 10 % 10)] ++ [nI (48 + k / 1 % 10)]), L, Dd)) rfl ?_
                refine Ev.idiv dX7_writesNumber_42 (by decide) ?_
                refine Ev.eqst (st' := [.int 0]) (by rw [show (1 : Int32) / 10 = 0 by decide]) ?_
                refine Ev.sg hX (sX7_writesNumber_43.sub 0 2) (pc' := 22) (ls' := [some (.ref 396), some (.int (nI k)), some (.int 0)]) (st' := []) (h' := (N, SH v T, LW I (W ++ [nI (48 + k / 100 % 10)] ++ [nI (48 + k / 10 % 10)] ++ [nI (48 + k / 1 % 10)]), L, Dd)) rfl ?_
                refine Ev.sg hX (sX7_writesNumber_22.sub 0 1) (pc' := 23) (ls' := [some (.ref 396), some (.int (nI k)), some (.int 0)]) (st' := [.int 0]) (h' := (N, SH v T, LW I (W ++ [nI (48 + k / 100 % 10)] ++ [nI (48 + k / 10 % 10)] ++ [nI (48 + k / 1 % 10)]), L, Dd)) rfl ?_
                refine Ev.if_le (tgt := 47) dX7_writesNumber_23 (by decide) (fun b8 => ?_) (fun b8 => ?_)
                · refine Ev.vret dX7_writesNumber_47 rfl ?_
                  exact congrArg (fun z => Sum.inl (none, (N, SH v T, LW I z, L, Dd))) (by rw [e9] <;> simp)
                · exact absurd (show (0 : Int32) ≤ 0 by decide) b8
        · exact absurd ((nI_leI (a := 100) (b := k) (by decide) (by omega)).mpr (by omega)) b4
theorem l_wn4 (hX : JXok X) (hd : 1 ≤ d) (hk : 1000 ≤ k ∧ k < 10000) (hW : W.length + 4 ≤ 300) : MT X d 0 0 jdX7_writesNumber [.ref 396, .int (nI k)] (N, SH v T, LW I W, L, Dd) (fun R => R = .inl (none, (N, SH v T, LW I (W ++ dgL k), L, Dd))) := by
  refine MT.mk dvX7_writesNumber.1 ?_
  have e9 : dgL k = [nI (48 + k / 1000 % 10), nI (48 + k / 100 % 10), nI (48 + k / 10 % 10), nI (48 + k / 1 % 10)] := by rw [dgL, if_neg (show ¬ k < 10 by omega), if_neg (show ¬ k < 100 by omega), if_neg (show ¬ k < 1000 by omega), show k / 1000 % 10 = k / 1000 by omega, show k / 100 % 10 = k / 100 % 10 by omega, show k / 10 % 10 = k % 100 / 10 by omega, show k / 1 % 10 = k % 10 by omega]
  refine Ev.sg hX (sX7_writesNumber_0.sub 0 2) (pc' := 4) (ls' := [some (.ref 396), some (.int (nI k)), some (.int 1000)]) (st' := []) (h' := (N, SH v T, LW I W, L, Dd)) rfl ?_
  refine Ev.sg hX (sX7_writesNumber_4.sub 0 2) (pc' := 6) (ls' := [some (.ref 396), some (.int (nI k)), some (.int 1000)]) (st' := [.int 1, .int 1000]) (h' := (N, SH v T, LW I W, L, Dd)) rfl ?_
  refine Ev.icmp_le (tgt := 22) dX7_writesNumber_6 (by decide) (fun b1 => ?_) (fun b1 => ?_)
  · exact absurd b1 (by decide)
  · refine Ev.sg hX (sX7_writesNumber_9.sub 0 2) (pc' := 11) (ls' := [some (.ref 396), some (.int (nI k)), some (.int 1000)]) (st' := [.int 1000, .int (nI k)]) (h' := (N, SH v T, LW I W, L, Dd)) rfl ?_
    refine Ev.icmp_ge (tgt := 22) dX7_writesNumber_11 (by decide) (fun b2 => ?_) (fun b2 => ?_)
    · refine Ev.sg hX (sX7_writesNumber_22.sub 0 1) (pc' := 23) (ls' := [some (.ref 396), some (.int (nI k)), some (.int 1000)]) (st' := [.int 1000]) (h' := (N, SH v T, LW I W, L, Dd)) rfl ?_
      refine Ev.if_le (tgt := 47) dX7_writesNumber_23 (by decide) (fun b3 => ?_) (fun b3 => ?_)
      · exact absurd b3 (by decide)
      · refine Ev.sg hX (sX7_writesNumber_26.sub 0 4) (pc' := 31) (ls' := [some (.ref 396), some (.int (nI k)), some (.int 1000)]) (st' := [.int 1000, .int (nI k), .int 48, .ref 396]) (h' := (N, SH v T, LW I W, L, Dd)) rfl ?_
        refine Ev.idiv dX7_writesNumber_31 (by decide) ?_
        refine Ev.eqst (st' := [.int (nI (k / 1000)), .int 48, .ref 396]) (by rw [show nI k / 1000 = nI (k / 1000) from pk_div (by omega) (by decide) (by decide)]) ?_
        refine Ev.sg hX (sX7_writesNumber_32.sub 0 1) (pc' := 34) (ls' := [some (.ref 396), some (.int (nI k)), some (.int 1000)]) (st' := [.int 10, .int (nI (k / 1000)), .int 48, .ref 396]) (h' := (N, SH v T, LW I W, L, Dd)) rfl ?_
        refine Ev.irem dX7_writesNumber_34 (by decide) ?_
        refine Ev.eqst (st' := [.int (nI (k / 1000 % 10)), .int 48, .ref 396]) (by rw [show nI (k / 1000) - nI (k / 1000) / 10 * 10 = nI (k / 1000 % 10) from pk_rem (by omega) (by decide) (by decide)]) ?_
        refine Ev.sg hX (sX7_writesNumber_35.sub 0 1) (pc' := 36) (ls' := [some (.ref 396), some (.int (nI k)), some (.int 1000)]) (st' := [.int (48 + (nI (k / 1000 % 10))), .ref 396]) (h' := (N, SH v T, LW I W, L, Dd)) rfl ?_
        refine Ev.eqst (st' := [.int (nI (48 + k / 1000 % 10)), .ref 396]) (by rw [show 48 + nI (k / 1000 % 10) = nI (48 + k / 1000 % 10) from nI_add 48 _]) ?_
        refine Ev.callV (As := [.int (nI (48 + k / 1000 % 10))]) (rest := []) dvX7_writes mkX7_216 rfl rfl dX7_writesNumber_36 (m_writes (d := d - 1) (I := I) (W := W) (c := nI (48 + k / 1000 % 10)) hX (by omega) (cOK_dg _ (by omega)) (by (try simp only [List.length_append, List.length_cons, List.length_nil]) <;> omega)) ⟨by omega, by show 2 + 19 + 40 * _ ≤ 40 * _; omega⟩ ⟨Nat.zero_le _, Nat.zero_le _⟩ rfl (Nat.le_of_ble_eq_true rfl) (fun v9 h9 e9 => ?_) (fun E9 h9 e9 => nomatch e9)
        cases e9
        show Ev _ _ _ _ _ _ 39 [some (.ref 396), some (.int (nI k)), some (.int 1000)] [] (N, SH v T, LW I (W ++ [nI (48 + k / 1000 % 10)]), L, Dd)
        refine Ev.sg hX (sX7_writesNumber_39.sub 0 2) (pc' := 42) (ls' := [some (.ref 396), some (.int (nI k)), some (.int 1000)]) (st' := [.int 10, .int 1000]) (h' := (N, SH v T, LW I (W ++ [nI (48 + k / 1000 % 10)]), L, Dd)) rfl ?_
        refine Ev.idiv dX7_writesNumber_42 (by decide) ?_
        refine Ev.eqst (st' := [.int 100]) (by rw [show (1000 : Int32) / 10 = 100 by decide]) ?_
        refine Ev.sg hX (sX7_writesNumber_43.sub 0 2) (pc' := 22) (ls' := [some (.ref 396), some (.int (nI k)), some (.int 100)]) (st' := []) (h' := (N, SH v T, LW I (W ++ [nI (48 + k / 1000 % 10)]), L, Dd)) rfl ?_
        refine Ev.sg hX (sX7_writesNumber_22.sub 0 1) (pc' := 23) (ls' := [some (.ref 396), some (.int (nI k)), some (.int 100)]) (st' := [.int 100]) (h' := (N, SH v T, LW I (W ++ [nI (48 + k / 1000 % 10)]), L, Dd)) rfl ?_
        refine Ev.if_le (tgt := 47) dX7_writesNumber_23 (by decide) (fun b4 => ?_) (fun b4 => ?_)
        · exact absurd b4 (by decide)
        · refine Ev.sg hX (sX7_writesNumber_26.sub 0 4) (pc' := 31) (ls' := [some (.ref 396), some (.int (nI k)), some (.int 100)]) (st' := [.int 100, .int (nI k), .int 48, .ref 396]) (h' := (N, SH v T, LW I (W ++ [nI (48 + k / 1000 % 10)]), L, Dd)) rfl ?_
          refine Ev.idiv dX7_writesNumber_31 (by decide) ?_
          refine Ev.eqst (st' := [.int (nI (k / 100)), .int 48, .ref 396]) (by rw [show nI k / 100 = nI (k / 100) from pk_div (by omega) (by decide) (by decide)]) ?_
          refine Ev.sg hX (sX7_writesNumber_32.sub 0 1) (pc' := 34) (ls' := [some (.ref 396), some (.int (nI k)), some (.int 100)]) (st' := [.int 10, .int (nI (k / 100)), .int 48, .ref 396]) (h' := (N, SH v T, LW I (W ++ [nI (48 + k / 1000 % 10)]), L, Dd)) rfl ?_
          refine Ev.irem dX7_writesNumber_34 (by decide) ?_
          refine Ev.eqst (st' := [.int (nI (k / 100 % 10)), .int 48, .ref 396]) (by rw [show nI (k / 100) - nI (k / 100) / 10 * 10 = nI (k / 100 % 10) from pk_rem (by omega) (by decide) (by decide)]) ?_
          refine Ev.sg hX (sX7_writesNumber_35.sub 0 1) (pc' := 36) (ls' := [some (.ref 396), some (.int (nI k)), some (.int 100)]) (st' := [.int (48 + (nI (k / 100 % 10))), .ref 396]) (h' := (N, SH v T, LW I (W ++ [nI (48 + k / 1000 % 10)]), L, Dd)) rfl ?_
          refine Ev.eqst (st' := [.int (nI (48 + k / 100 % 10)), .ref 396]) (by rw [show 48 + nI (k / 100 % 10) = nI (48 + k / 100 % 10) from nI_add 48 _]) ?_
          refine Ev.callV (As := [.int (nI (48 + k / 100 % 10))]) (rest := []) dvX7_writes mkX7_216 rfl rfl dX7_writesNumber_36 (m_writes (d := d - 1) (I := I) (W := W ++ [nI (48 + k / 1000 % 10)]) (c := nI (48 + k / 100 % 10)) hX (by omega) (cOK_dg _ (by omega)) (by (try simp only [List.length_append, List.length_cons, List.length_nil]) <;> omega)) ⟨by omega, by show 2 + 19 + 40 * _ ≤ 40 * _; omega⟩ ⟨Nat.zero_le _, Nat.zero_le _⟩ rfl (Nat.le_of_ble_eq_true rfl) (fun v9 h9 e9 => ?_) (fun E9 h9 e9 => nomatch e9)
          cases e9
          show Ev _ _ _ _ _ _ 39 [some (.ref 396), some (.int (nI k)), some (.int 100)] [] (N, SH v T, LW I (W ++ [nI (48 + k / 1000 % 10)] ++ [nI (48 + k / 100 % 10)]), L, Dd)
          refine Ev.sg hX (sX7_writesNumber_39.sub 0 2) (pc' := 42) (ls' := [some (.ref 396), some (.int (nI k)), some (.int 100)]) (st' := [.int 10, .int 100]) (h' := (N, SH v T, LW I (W ++ [nI (48 + k / 1000 % 10)] ++ [nI (48 + k / 100 % 10)]), L, Dd)) rfl ?_
          refine Ev.idiv dX7_writesNumber_42 (by decide) ?_
          refine Ev.eqst (st' := [.int 10]) (by rw [show (100 : Int32) / 10 = 10 by decide]) ?_
          refine Ev.sg hX (sX7_writesNumber_43.sub 0 2) (pc' := 22) (ls' := [some (.ref 396), some (.int (nI k)), some (.int 10)]) (st' := []) (h' := (N, SH v T, LW I (W ++ [nI (48 + k / 1000 % 10)] ++ [nI (48 + k / 100 % 10)]), L, Dd)) rfl ?_
          refine Ev.sg hX (sX7_writesNumber_22.sub 0 1) (pc' := 23) (ls' := [some (.ref 396), some (.int (nI k)), some (.int 10)]) (st' := [.int 10]) (h' := (N, SH v T, LW I (W ++ [nI (48 + k / 1000 % 10)] ++ [nI (48 + k / 100 % 10)]), L, Dd)) rfl ?_
          refine Ev.if_le (tgt := 47) dX7_writesNumber_23 (by decide) (fun b5 => ?_) (fun b5 => ?_)
          · exact absurd b5 (by decide)
          · refine Ev.sg hX (sX7_writesNumber_26.sub 0 4) (pc' := 31) (ls' := [some (.ref 396), some (.int (nI k)), some (.int 10)]) (st' := [.int 10, .int (nI k), .int 48, .ref 396]) (h' := (N, SH v T, LW I (W ++ [nI (48 + k / 1000 % 10)] ++ [nI (48 + k / 100 % 10)]), L, Dd)) rfl ?_
            refine Ev.idiv dX7_writesNumber_31 (by decide) ?_
            refine Ev.eqst (st' := [.int (nI (k / 10)), .int 48, .ref 396]) (by rw [show nI k / 10 = nI (k / 10) from pk_div (by omega) (by decide) (by decide)]) ?_
            refine Ev.sg hX (sX7_writesNumber_32.sub 0 1) (pc' := 34) (ls' := [some (.ref 396), some (.int (nI k)), some (.int 10)]) (st' := [.int 10, .int (nI (k / 10)), .int 48, .ref 396]) (h' := (N, SH v T, LW I (W ++ [nI (48 + k / 1000 % 10)] ++ [nI (48 + k / 100 % 10)]), L, Dd)) rfl ?_
            refine Ev.irem dX7_writesNumber_34 (by decide) ?_
            refine Ev.eqst (st' := [.int (nI (k / 10 % 10)), .int 48, .ref 396]) (by rw [show nI (k / 10) - nI (k / 10) / 10 * 10 = nI (k / 10 % 10) from pk_rem (by omega) (by decide) (by decide)]) ?_
            refine Ev.sg hX (sX7_writesNumber_35.sub 0 1) (pc' := 36) (ls' := [some (.ref 396), some (.int (nI k)), some (.int 10)]) (st' := [.int (48 + (nI (k / 10 % 10))), .ref 396]) (h' := (N, SH v T, LW I (W ++ [nI (48 + k / 1000 % 10)] ++ [nI (48 + k / 100 % 10)]), L, Dd)) rfl ?_
            refine Ev.eqst (st' := [.int (nI (48 + k / 10 % 10)), .ref 396]) (by rw [show 48 + nI (k / 10 % 10) = nI (48 + k / 10 % 10) from nI_add 48 _]) ?_
            refine Ev.callV (As := [.int (nI (48 + k / 10 % 10))]) (rest := []) dvX7_writes mkX7_216 rfl rfl dX7_writesNumber_36 (m_writes (d := d - 1) (I := I) (W := W ++ [nI (48 + k / 1000 % 10)] ++ [nI (48 + k / 100 % 10)]) (c := nI (48 + k / 10 % 10)) hX (by omega) (cOK_dg _ (by omega)) (by (try simp only [List.length_append, List.length_cons, List.length_nil]) <;> omega)) ⟨by omega, by show 2 + 19 + 40 * _ ≤ 40 * _; omega⟩ ⟨Nat.zero_le _, Nat.zero_le _⟩ rfl (Nat.le_of_ble_eq_true rfl) (fun v9 h9 e9 => ?_) (fun E9 h9 e9 => nomatch e9)
            cases e9
            show Ev _ _ _ _ _ _ 39 [some (.ref 396), some (.int (nI k)), some (.int 10)] [] (N, SH v T, LW I (W ++ [nI (48 + k / 1000 % 10)] ++ [nI (48 + k / 100 % 10)] ++ [nI (48 + k / 10 % 10)]), L, Dd)
            refine Ev.sg hX (sX7_writesNumber_39.sub 0 2) (pc' := 42) (ls' := [some (.ref 396), some (.int (nI k)), some (.int 10)]) (st' := [.int 10, .int 10]) (h' := (N, SH v T, LW I (W ++ [nI (48 + k / 1000 % 10)] ++ [nI (48 + k / 100 % 10)] ++ [nI (48 + k / 10 % 10)]), L, Dd)) rfl ?_
            refine Ev.idiv dX7_writesNumber_42 (by decide) ?_
            refine Ev.eqst (st' := [.int 1]) (by rw [show (10 : Int32) / 10 = 1 by decide]) ?_
            refine Ev.sg hX (sX7_writesNumber_43.sub 0 2) (pc' := 22) (ls' := [some (.ref 396), some (.int (nI k)), some (.int 1)]) (st' := []) (h' := (N, SH v T, LW I (W ++ [nI (48 + k / 1000 % 10)] ++ [nI (48 + k / 100 % 10)] ++ [nI (48 + k / 10 % 10)]), L, Dd)) rfl ?_
            refine Ev.sg hX (sX7_writesNumber_22.sub 0 1) (pc' := 23) (ls' := [some (.ref 396), some (.int (nI k)), some (.int 1)]) (st' := [.int 1]) (h' := (N, SH v T, LW I (W ++ [nI (48 + k / 1000 % 10)] ++ [nI (48 + k / 100 % 10)] ++ [nI (48 + k / 10 % 10)]), L, Dd)) rfl ?_
            refine Ev.if_le (tgt := 47) dX7_writesNumber_23 (by decide) (fun b6 => ?_) (fun b6 => ?_)
            · exact absurd b6 (by decide)
            · refine Ev.sg hX (sX7_writesNumber_26.sub 0 4) (pc' := 31) (ls' := [some (.ref 396), some (.int (nI k)), some (.int 1)]) (st' := [.int 1, .int (nI k), .int 48, .ref 396]) (h' := (N, SH v T, LW I (W ++ [nI (48 + k / 1000 % 10)] ++ [nI (48 + k / 100 % 10)] ++ [nI (48 + k / 10 % 10)]), L, Dd)) rfl ?_
              refine Ev.idiv dX7_writesNumber_31 (by decide) ?_
              refine Ev.eqst (st' := [.int (nI (k / 1)), .int 48, .ref 396]) (by rw [show nI k / 1 = nI (k / 1) from pk_div (by omega) (by decide) (by decide)]) ?_
              refine Ev.sg hX (sX7_writesNumber_32.sub 0 1) (pc' := 34) (ls' := [some (.ref 396), some (.int (nI k)), some (.int 1)]) (st' := [.int 10, .int (nI (k / 1)), .int 48, .ref 396]) (h' := (N, SH v T, LW I (W ++ [nI (48 + k / 1000 % 10)] ++ [nI (48 + k / 100 % 10)] ++ [nI (48 + k / 10 % 10)]), L, Dd)) rfl ?_
              refine Ev.irem dX7_writesNumber_34 (by decide) ?_
              refine Ev.eqst (st' := [.int (nI (k / 1 % 10)), .int 48, .ref 396]) (by rw [show nI (k / 1) - nI (k / 1) / 10 * 10 = nI (k / 1 % 10) from pk_rem (by omega) (by decide) (by decide)]) ?_
              refine Ev.sg hX (sX7_writesNumber_35.sub 0 1) (pc' := 36) (ls' := [some (.ref 396), some (.int (nI k)), some (.int 1)]) (st' := [.int (48 + (nI (k / 1 % 10))), .ref 396]) (h' := (N, SH v T, LW I (W ++ [nI (48 + k / 1000 % 10)] ++ [nI (48 + k / 100 % 10)] ++ [nI (48 + k / 10 % 10)]), L, Dd)) rfl ?_
              refine Ev.eqst (st' := [.int (nI (48 + k / 1 % 10)), .ref 396]) (by rw [show 48 + nI (k / 1 % 10) = nI (48 + k / 1 % 10) from nI_add 48 _]) ?_
              refine Ev.callV (As := [.int (nI (48 + k / 1 % 10))]) (rest := []) dvX7_writes mkX7_216 rfl rfl dX7_writesNumber_36 (m_writes (d := d - 1) (I := I) (W := W ++ [nI (48 + k / 1000 % 10)] ++ [nI (48 + k / 100 % 10)] ++ [nI (48 + k / 10 % 10)]) (c := nI (48 + k / 1 % 10)) hX (by omega) (cOK_dg _ (by omega)) (by (try simp only [List.length_append, List.length_cons, List.length_nil]) <;> omega)) ⟨by omega, by show 2 + 19 + 40 * _ ≤ 40 * _; omega⟩ ⟨Nat.zero_le _, Nat.zero_le _⟩ rfl (Nat.le_of_ble_eq_true rfl) (fun v9 h9 e9 => ?_) (fun E9 h9 e9 => nomatch e9)
              cases e9
              show Ev _ _ _ _ _ _ 39 [some (.ref 396), some (.int (nI k)), some (.int 1)] [] (N, SH v T, LW I (W ++ [nI (48 + k / 1000 % 10)] ++ [nI (48 + k / 100 % 10)] ++ [nI (48 + k / 10 % 10)] ++ [nI (48 + k / 1 % 10)]), L, Dd)
              refine Ev.sg hX (sX7_writesNumber_39.sub 0 2) (pc' := 42) (ls' := [some (.ref 396), some (.int (nI k)), some (.int 1)]) (st' := [.int 10, .int 1]) (h' := (N, SH v T, LW I (W ++ [nI (48 + k / 1000 % 10)] ++ [nI (48 + k / 100 % 10)] ++ [nI (48 + k / 10 % 10)] ++ [nI (48 + k / 1 % 10)]), L, Dd)) rfl ?_
              refine Ev.idiv dX7_writesNumber_42 (by decide) ?_
              refine Ev.eqst (st' := [.int 0]) (by rw [show (1 : Int32) / 10 = 0 by decide]) ?_
              refine Ev.sg hX (sX7_writesNumber_43.sub 0 2) (pc' := 22) (ls' := [some (.ref 396), some (.int (nI k)), some (.int 0)]) (st' := []) (h' := (N, SH v T, LW I (W ++ [nI (48 + k / 1000 % 10)] ++ [nI (48 + k / 100 % 10)] ++ [nI (48 + k / 10 % 10)] ++ [nI (48 + k / 1 % 10)]), L, Dd)) rfl ?_
              refine Ev.sg hX (sX7_writesNumber_22.sub 0 1) (pc' := 23) (ls' := [some (.ref 396), some (.int (nI k)), some (.int 0)]) (st' := [.int 0]) (h' := (N, SH v T, LW I (W ++ [nI (48 + k / 1000 % 10)] ++ [nI (48 + k / 100 % 10)] ++ [nI (48 + k / 10 % 10)] ++ [nI (48 + k / 1 % 10)]), L, Dd)) rfl ?_
              refine Ev.if_le (tgt := 47) dX7_writesNumber_23 (by decide) (fun b7 => ?_) (fun b7 => ?_)
              · refine Ev.vret dX7_writesNumber_47 rfl ?_
                exact congrArg (fun z => Sum.inl (none, (N, SH v T, LW I z, L, Dd))) (by rw [e9] <;> simp)
              · exact absurd (show (0 : Int32) ≤ 0 by decide) b7
    · exact absurd ((nI_leI (a := 1000) (b := k) (by decide) (by omega)).mpr (by omega)) b2
theorem m_writesNumber (hX : JXok X) (hd : 1 ≤ d) (hk : k < 10000) (hW : W.length + 4 ≤ 300) : MT X d 0 0 jdX7_writesNumber [.ref 396, .int (nI k)] (N, SH v T, LW I W, L, Dd) (fun R => R = .inl (none, (N, SH v T, LW I (W ++ dgL k), L, Dd))) := by
  by_cases h1 : k < 10
  · exact l_wn1 hX hd ⟨Nat.zero_le _, h1⟩ (by omega)
  · by_cases h2 : k < 100
    · exact l_wn2 hX hd ⟨by omega, h2⟩ (by omega)
    · by_cases h3 : k < 1000
      · exact l_wn3 hX hd ⟨by omega, h3⟩ (by omega)
      · exact l_wn4 hX hd ⟨by omega, hk⟩ hW
end MODL
