/-! the model: reading a program -/
abbrev MS : Type := Nat × Int32 × (Nat → Int32)
def PM (I : HI) (s : MS) : HI := fun a j => if a = 396 then (if j = 14 then nI s.1 else if j = 15 then s.2.1 else I 396 j) else if a = 404 then s.2.2 j else I a j
def wr (s : MS) (i : Nat) (x : Int32) : MS := (s.1, s.2.1, upV s.2.2 i x)
section PML
variable {I : HI} {p : Nat} {w x : Int32} {P : Nat → Int32} {i : Nat} {s : MS}
theorem PM_sp {j : Nat} : up2 (PM I s) 396 14 (nI j) = PM I (j, s.2) := by
  funext a k
  unfold up2 PM
  by_cases ha : a = 396
  · by_cases hj : k = 14 <;> simp [ha, hj]
  · simp [ha]
theorem PM_w : up2 (PM I s) 396 15 x = PM I (s.1, x, s.2.2) := by
  funext a k
  unfold up2 PM
  by_cases ha : a = 396
  · by_cases hj : k = 15
    · simp [ha, hj]
    · by_cases h14 : k = 14 <;> simp [ha, hj, h14]
  · simp [ha]
theorem PM_P : up2 (PM I s) 404 i x = PM I (wr s i x) := by
  funext a k
  unfold up2 PM wr upV
  by_cases ha : a = 404
  · by_cases hj : k = i <;> simp [ha, hj]
  · simp [ha]
end PML
def nd (tx : Nat → Int32) (q : Nat) (c : Int32) (s : MS) : MS := if s.2.1 = 0 ∧ chA tx q s.1 = c then (s.1 + 1, 0, s.2.2) else (s.1, 1, s.2.2)
def dOK (tx : Nat → Int32) (q : Nat) (c : Int32) (s : MS) : Prop := (nd tx q c s).2.1 = 0 ∧ (48 ≤ chA tx q (nd tx q c s).1 ∧ chA tx q (nd tx q c s).1 ≤ 57)
abbrev dv (tx : Nat → Int32) (q : Nat) (c : Int32) (n : Nat) (s : MS) : Int32 := if (nd tx q c s).2.1 = 0 ∧ (48 ≤ chA tx q (nd tx q c s).1 ∧ chA tx q (nd tx q c s).1 ≤ 57) then (dgF tx q n (nd tx q c s).1 0).2 else 0
def dd9 (tx : Nat → Int32) (q : Nat) (c : Int32) (n : Nat) (s : MS) : MS := if (nd tx q c s).2.1 = 0 ∧ (48 ≤ chA tx q (nd tx q c s).1 ∧ chA tx q (nd tx q c s).1 ≤ 57) then ((dgF tx q n (nd tx q c s).1 0).1, 0, s.2.2) else ((nd tx q c s).1, 1, s.2.2)
def dw (tx : Nat → Int32) (q : Nat) (c : Int32) (n i : Nat) (s : MS) : MS := wr (dd9 tx q c n s) i (dv tx q c n s)
def pP (tx : Nat → Int32) (q k : Nat) (s : MS) : MS := dw tx q 45 1 (k + 2) (dw tx q 32 1 (k + 1) s)
def pT (tx : Nat → Int32) (q k : Nat) (s : MS) : MS := dw tx q 32 1 (k + 2) (if (nd tx q 97 (nd tx q 114 s)).2.1 = 0 ∧ chA tx q (nd tx q 97 (nd tx q 114 s)).1 = 105 then dw tx q 32 1 (k + 1) (nd tx q 110 (nd tx q 105 (wr (nd tx q 97 (nd tx q 114 s)) k 105))) else dw tx q 32 2 (k + 1) (nd tx q 107 (nd tx q 99 (nd tx q 97 (nd tx q 114 s)))))
def pS (tx : Nat → Int32) (q k : Nat) (s : MS) : MS := if chA tx q s.1 = 104 then dw tx q 32 1 (k + 3) (dw tx q 62 1 (k + 2) (dw tx q 32 1 (k + 1) (nd tx q 116 (nd tx q 110 (nd tx q 117 (nd tx q 104 (wr s k 104))))))) else pP tx q k (nd tx q 104 (nd tx q 99 (nd tx q 116 (nd tx q 105 (nd tx q 119 s)))))
def pC5 (tx : Nat → Int32) (q k : Nat) (s : MS) : MS := dw tx q 32 1 (k + 4) (dw tx q 32 2 (k + 3) (dw tx q 32 2 (k + 2) (dw tx q 32 1 (k + 1) (nd tx q 114 (nd tx q 97 s)))))
def pC (tx : Nat → Int32) (q k : Nat) (s : MS) : MS := if chA tx q s.1 = 117 then pP tx q k (nd tx q 116 (nd tx q 117 (wr s k 117))) else if (pC5 tx q k s).2.1 = 0 ∧ chA tx q (pC5 tx q k s).1 = 33 then ((pC5 tx q k s).1 + 1, (pC5 tx q k s).2.1, upV (pC5 tx q k s).2.2 (k + 5) 1) else wr (pC5 tx q k s) (k + 5) 0
def pX (tx : Nat → Int32) (q k : Nat) (s : MS) : MS := if chA tx q s.1 = 116 then pT tx q k (s.1 + 1, s.2.1, upV s.2.2 k 116) else if chA tx q s.1 = 115 then pS tx q k (s.1 + 1, s.2.1, upV s.2.2 k 115) else if chA tx q s.1 = 99 then pC tx q k (s.1 + 1, s.2.1, upV s.2.2 k 99)
  else if chA tx q s.1 = 114 then dw tx q 32 2 (k + 1) (nd tx q 114 (nd tx q 105 (nd tx q 97 (nd tx q 112 (nd tx q 101 (s.1 + 1, s.2.1, upV s.2.2 k 114)))))) else (s.1, 1, upV s.2.2 k (chA tx q s.1))
section PMB
variable {tx : Nat → Int32} {q k n i B : Nat} {c x : Int32} {s : MS}
theorem nd_b (h : s.1 ≤ B) : (nd tx q c s).1 ≤ B + 1 := by
  unfold nd
  split
  · exact Nat.succ_le_succ h
  · exact Nat.le_succ_of_le h
theorem dd_b (h : s.1 ≤ B) : (dd9 tx q c n s).1 ≤ B + 1 + n := by
  have h1 := nd_b (tx := tx) (q := q) (c := c) h
  unfold dd9
  split
  · exact Nat.le_trans (dgF_le (tx := tx) (q := q) n _ 0).2 (by omega)
  · show (nd tx q c s).1 ≤ _
    omega
theorem wr_b (h : s.1 ≤ B) : (wr s i x).1 ≤ B := h
theorem dw_b (h : s.1 ≤ B) : (dw tx q c n i s).1 ≤ B + 1 + n := dd_b h
theorem pP_b (h : s.1 ≤ B) : (pP tx q k s).1 ≤ B + 4 := dw_b (dw_b h)
theorem pT_b (h : s.1 ≤ B) : (pT tx q k s).1 ≤ B + 9 := by
  unfold pT
  refine Nat.le_trans (dw_b (B := B + 7) ?_) (by omega)
  split
  · exact Nat.le_trans (dw_b (nd_b (nd_b (wr_b (nd_b (nd_b h)))))) (by omega)
  · exact Nat.le_trans (dw_b (nd_b (nd_b (nd_b (nd_b h))))) (by omega)
theorem pS_b (h : s.1 ≤ B) : (pS tx q k s).1 ≤ B + 20 := by
  unfold pS
  split
  · exact Nat.le_trans (dw_b (dw_b (dw_b (nd_b (nd_b (nd_b (nd_b (wr_b h)))))))) (by omega)
  · exact Nat.le_trans (pP_b (nd_b (nd_b (nd_b (nd_b (nd_b h)))))) (by omega)
theorem pC5_b (h : s.1 ≤ B) : (pC5 tx q k s).1 ≤ B + 12 := Nat.le_trans (dw_b (dw_b (dw_b (dw_b (nd_b (nd_b h)))))) (by omega)
theorem pC_b (h : s.1 ≤ B) : (pC tx q k s).1 ≤ B + 20 := by
  have h5 := pC5_b (tx := tx) (q := q) (k := k) h
  unfold pC
  split
  · exact Nat.le_trans (pP_b (nd_b (nd_b (wr_b h)))) (by omega)
  · split
    · exact Nat.le_trans (Nat.succ_le_succ h5) (by omega)
    · exact Nat.le_trans (wr_b h5) (by omega)
end PMB
section PMM
variable {X : JX} {d N v : Nat} {T : Nat → Option JS} {I : Nat → Nat → Int32} {L : Nat → Nat → Int64} {Dd : Nat → Nat → UInt64} {q k n : Nat} {c e : Int32} {s : MS}
theorem m_here (hX : JXok X) (hd : 1 ≤ d) (hq : q ≤ 60) (hty : I 396 7 = nI q) (hb : s.1 ≤ 1000) : MT X d 0 0 jdX7_here [.ref 396] (N, SH v T, PM I s, L, Dd) (fun R => R = .inl (some (.int (chA (I 401) q s.1)), (N, SH v T, PM I s, L, Dd))) := by
  refine MT.mk dvX7_here.1 ?_
  refine Ev.sg hX (sX7_here_0.sub 0 1) (pc' := 1) (ls' := [some (.ref 396)]) (st' := [.ref 396]) (h' := (N, SH v T, PM I s, L, Dd)) rfl ?_
  refine Ev.getf (sX7_here_0.lk 1 (q := (1, .getfield 175, 7, 14)) rfl) rfl rfl (sX7_here_0.dc 1 (q := (1, .getfield 175, 7, 14)) rfl) ?_
  show Ev _ _ _ _ _ _ 4 [some (.ref 396)] [.int (nI s.1)] (N, SH v T, PM I s, L, Dd)
  refine Ev.sg hX (sX7_here_0.sub 2 1) (pc' := 5) (ls' := [some (.ref 396)]) (st' := [.ref 396, .int (nI s.1)]) (h' := (N, SH v T, PM I s, L, Dd)) rfl ?_
  refine Ev.getf (sX7_here_0.lk 3 (q := (5, .getfield 172, 7, 7)) rfl) rfl rfl (sX7_here_0.dc 3 (q := (5, .getfield 172, 7, 7)) rfl) ?_
  show Ev _ _ _ _ _ _ 8 [some (.ref 396)] [.int (I 396 7), .int (nI s.1)] (N, SH v T, PM I s, L, Dd)
  refine Ev.eqst (st' := [.int (nI q), .int (nI s.1)]) (by rw [hty]) ?_
  refine Ev.icmp_ge (tgt := 23) dX7_here_8 (by decide) (fun b1 => ?_) (fun b1 => ?_)
  · refine Ev.sg hX (sX7_here_23.sub 0 1) (pc' := 24) (ls' := [some (.ref 396)]) (st' := [.int (-1)]) (h' := (N, SH v T, PM I s, L, Dd)) rfl ?_
    refine Ev.iret dX7_here_24 rfl ?_
    rw [chA, if_neg (by have := (nI_leI (a := q) (b := s.1) (by omega) (by omega)).mp b1; omega)]
  · refine Ev.sg hX (sX7_here_11.sub 0 1) (pc' := 12) (ls' := [some (.ref 396)]) (st' := [.ref 396]) (h' := (N, SH v T, PM I s, L, Dd)) rfl ?_
    refine Ev.getf (sX7_here_11.lk 1 (q := (12, .getfield 22, 7, 6)) rfl) rfl rfl (sX7_here_11.dc 1 (q := (12, .getfield 22, 7, 6)) rfl) ?_
    show Ev _ _ _ _ _ _ 15 [some (.ref 396)] [.ref 401] (N, SH v T, PM I s, L, Dd)
    refine Ev.sg hX (sX7_here_11.sub 2 1) (pc' := 16) (ls' := [some (.ref 396)]) (st' := [.ref 396, .ref 401]) (h' := (N, SH v T, PM I s, L, Dd)) rfl ?_
    refine Ev.getf (sX7_here_11.lk 3 (q := (16, .getfield 175, 7, 14)) rfl) rfl rfl (sX7_here_11.dc 3 (q := (16, .getfield 175, 7, 14)) rfl) ?_
    show Ev _ _ _ _ _ _ 19 [some (.ref 396)] [.int (nI s.1), .ref 401] (N, SH v T, PM I s, L, Dd)
    have hsq : s.1 < q := by have := mt (nI_leI (a := q) (b := s.1) (by omega) (by omega)).mpr b1; omega
    refine Ev.caldE (n := s.1) (N := 60) rfl rfl (by omega) (by decide) dX7_here_19 ?_
    show Ev _ _ _ _ _ _ 20 [some (.ref 396)] [.int (I 401 s.1)] (N, SH v T, PM I s, L, Dd)
    refine Ev.sg hX (sX7_here_20.sub 0 1) (pc' := 24) (ls' := [some (.ref 396)]) (st' := [.int (I 401 s.1)]) (h' := (N, SH v T, PM I s, L, Dd)) rfl ?_
    refine Ev.iret dX7_here_24 rfl ?_
    rw [chA, if_pos hsq]
theorem m_needs (hX : JXok X) (hd : 2 ≤ d) (hq : q ≤ 60) (hty : I 396 7 = nI q) (hb : s.1 ≤ 1000) : MT X d 0 0 jdX7_needs [.ref 396, .int c] (N, SH v T, PM I s, L, Dd) (fun R => R = .inl (none, (N, SH v T, PM I (nd (I 401) q c s), L, Dd))) := by
  refine MT.mk dvX7_needs.1 ?_
  refine Ev.sg hX (sX7_needs_0.sub 0 2) (pc' := 2) (ls' := [some (.ref 396), some (.int c)]) (st' := [.ref 396, .ref 396]) (h' := (N, SH v T, PM I s, L, Dd)) rfl ?_
  refine Ev.getf (sX7_needs_0.lk 2 (q := (2, .getfield 178, 7, 15)) rfl) rfl rfl (sX7_needs_0.dc 2 (q := (2, .getfield 178, 7, 15)) rfl) ?_
  show Ev _ _ _ _ _ _ 5 [some (.ref 396), some (.int c)] [.int s.2.1, .ref 396] (N, SH v T, PM I s, L, Dd)
  refine Ev.if_ne (tgt := 16) dX7_needs_5 (by decide) (fun b1 => ?_) (fun b1 => ?_)
  · refine Ev.sg hX (sX7_needs_16.sub 0 2) (pc' := 21) (ls' := [some (.ref 396), some (.int c)]) (st' := [.int 1, .ref 396]) (h' := (N, SH v T, PM I s, L, Dd)) rfl ?_
    refine Ev.putI (j := 15) hX ci_X7 (by decide) (bw_of 1501 (by decide +kernel) (by decide +kernel)) (Or.inl rfl) rfl rfl rfl rfl dX7_needs_21 ?_
    show Ev _ _ _ _ _ _ 24 [some (.ref 396), some (.int c)] [] (N, SH v T, up2 (PM I s) 396 15 1, L, Dd)
    rw [PM_w]
    refine Ev.sg hX (sX7_needs_24.sub 0 2) (pc' := 26) (ls' := [some (.ref 396), some (.int c)]) (st' := [.ref 396, .ref 396]) (h' := (N, SH v T, PM I (s.1, 1, s.2.2), L, Dd)) rfl ?_
    refine Ev.getf (sX7_needs_24.lk 2 (q := (26, .getfield 175, 7, 14)) rfl) rfl rfl (sX7_needs_24.dc 2 (q := (26, .getfield 175, 7, 14)) rfl) ?_
    show Ev _ _ _ _ _ _ 29 [some (.ref 396), some (.int c)] [.int (nI (s.1, 1, s.2.2).1), .ref 396] (N, SH v T, PM I (s.1, 1, s.2.2), L, Dd)
    refine Ev.sg hX (sX7_needs_24.sub 3 1) (pc' := 30) (ls' := [some (.ref 396), some (.int c)]) (st' := [.ref 396, .int (nI (s.1, 1, s.2.2).1), .ref 396]) (h' := (N, SH v T, PM I (s.1, 1, s.2.2), L, Dd)) rfl ?_
    refine Ev.getf (sX7_needs_24.lk 4 (q := (30, .getfield 178, 7, 15)) rfl) rfl rfl (sX7_needs_24.dc 4 (q := (30, .getfield 178, 7, 15)) rfl) ?_
    show Ev _ _ _ _ _ _ 33 [some (.ref 396), some (.int c)] [.int ((s.1, 1, s.2.2).2.1), .int (nI (s.1, 1, s.2.2).1), .ref 396] (N, SH v T, PM I (s.1, 1, s.2.2), L, Dd)
    refine Ev.if_eq (tgt := 40) dX7_needs_33 (by decide) (fun b2 => ?_) (fun b2 => ?_)
    · exact absurd b2 (show ¬ (1 : Int32) = 0 by decide)
    · refine Ev.sg hX (sX7_needs_36.sub 0 2) (pc' := 41) (ls' := [some (.ref 396), some (.int c)]) (st' := [.int 0, .int (nI (s.1, 1, s.2.2).1), .ref 396]) (h' := (N, SH v T, PM I (s.1, 1, s.2.2), L, Dd)) rfl ?_
      refine Ev.sg hX (sX7_needs_41.sub 0 1) (pc' := 42) (ls' := [some (.ref 396), some (.int c)]) (st' := [.int ((nI (s.1, 1, s.2.2).1) + 0), .ref 396]) (h' := (N, SH v T, PM I (s.1, 1, s.2.2), L, Dd)) rfl ?_
      refine Ev.putf hX (sX7_needs_41.lk 1 (q := (42, .putfield 175, 7, 14)) rfl) rfl rfl (sX7_needs_41.dc 1 (q := (42, .putfield 175, 7, 14)) rfl) ?_
      show Ev _ _ _ _ _ _ 45 [some (.ref 396), some (.int c)] [] (N, SH v T, up2 (PM I (s.1, 1, s.2.2)) 396 14 ((nI (s.1, 1, s.2.2).1) + 0), L, Dd)
      refine Ev.eqh (h' := (N, SH v T, PM I (s.1, 1, s.2.2), L, Dd)) (congrArg (fun z => (N, SH v T, z, L, Dd)) ((congrArg (up2 (PM I (s.1, 1, s.2.2)) 396 14) (Int32.add_zero (nI s.1))).trans PM_sp)) ?_
      refine Ev.vret dX7_needs_45 rfl ?_
      rw [nd, if_neg (fun w => b1 w.1)]
  · refine Ev.sg hX (sX7_needs_8.sub 0 1) (pc' := 9) (ls' := [some (.ref 396), some (.int c)]) (st' := [.ref 396, .ref 396]) (h' := (N, SH v T, PM I s, L, Dd)) rfl ?_
    refine Ev.callV (As := []) (rest := [.ref 396]) dvX7_here mkX7_182 rfl rfl dX7_needs_9 (m_here (d := d - 1) (s := s) hX (by omega) hq hty (Nat.le_trans hb (by decide))) ⟨by omega, by show 1 + 19 + 40 * _ ≤ 40 * _; omega⟩ ⟨Nat.zero_le _, Nat.zero_le _⟩ rfl (Nat.le_of_ble_eq_true rfl) (fun v9 h9 e9 => ?_) (fun E9 h9 e9 => nomatch e9)
    cases e9
    show Ev _ _ _ _ _ _ 12 [some (.ref 396), some (.int c)] [.int (chA (I 401) q s.1), .ref 396] (N, SH v T, PM I s, L, Dd)
    refine Ev.sg hX (sX7_needs_12.sub 0 1) (pc' := 13) (ls' := [some (.ref 396), some (.int c)]) (st' := [.int c, .int (chA (I 401) q s.1), .ref 396]) (h' := (N, SH v T, PM I s, L, Dd)) rfl ?_
    refine Ev.icmp_eq (tgt := 20) dX7_needs_13 (by decide) (fun b3 => ?_) (fun b3 => ?_)
    · refine Ev.sg hX (sX7_needs_20.sub 0 1) (pc' := 21) (ls' := [some (.ref 396), some (.int c)]) (st' := [.int 0, .ref 396]) (h' := (N, SH v T, PM I s, L, Dd)) rfl ?_
      refine Ev.putI (j := 15) hX ci_X7 (by decide) (bw_of 1501 (by decide +kernel) (by decide +kernel)) (Or.inl rfl) rfl rfl rfl rfl dX7_needs_21 ?_
      show Ev _ _ _ _ _ _ 24 [some (.ref 396), some (.int c)] [] (N, SH v T, up2 (PM I s) 396 15 0, L, Dd)
      rw [PM_w]
      refine Ev.sg hX (sX7_needs_24.sub 0 2) (pc' := 26) (ls' := [some (.ref 396), some (.int c)]) (st' := [.ref 396, .ref 396]) (h' := (N, SH v T, PM I (s.1, 0, s.2.2), L, Dd)) rfl ?_
      refine Ev.getf (sX7_needs_24.lk 2 (q := (26, .getfield 175, 7, 14)) rfl) rfl rfl (sX7_needs_24.dc 2 (q := (26, .getfield 175, 7, 14)) rfl) ?_
      show Ev _ _ _ _ _ _ 29 [some (.ref 396), some (.int c)] [.int (nI (s.1, 0, s.2.2).1), .ref 396] (N, SH v T, PM I (s.1, 0, s.2.2), L, Dd)
      refine Ev.sg hX (sX7_needs_24.sub 3 1) (pc' := 30) (ls' := [some (.ref 396), some (.int c)]) (st' := [.ref 396, .int (nI (s.1, 0, s.2.2).1), .ref 396]) (h' := (N, SH v T, PM I (s.1, 0, s.2.2), L, Dd)) rfl ?_
      refine Ev.getf (sX7_needs_24.lk 4 (q := (30, .getfield 178, 7, 15)) rfl) rfl rfl (sX7_needs_24.dc 4 (q := (30, .getfield 178, 7, 15)) rfl) ?_
      show Ev _ _ _ _ _ _ 33 [some (.ref 396), some (.int c)] [.int ((s.1, 0, s.2.2).2.1), .int (nI (s.1, 0, s.2.2).1), .ref 396] (N, SH v T, PM I (s.1, 0, s.2.2), L, Dd)
      refine Ev.if_eq (tgt := 40) dX7_needs_33 (by decide) (fun b4 => ?_) (fun b4 => ?_)
      · refine Ev.sg hX (sX7_needs_40.sub 0 1) (pc' := 41) (ls' := [some (.ref 396), some (.int c)]) (st' := [.int 1, .int (nI (s.1, 0, s.2.2).1), .ref 396]) (h' := (N, SH v T, PM I (s.1, 0, s.2.2), L, Dd)) rfl ?_
        refine Ev.sg hX (sX7_needs_41.sub 0 1) (pc' := 42) (ls' := [some (.ref 396), some (.int c)]) (st' := [.int ((nI (s.1, 0, s.2.2).1) + 1), .ref 396]) (h' := (N, SH v T, PM I (s.1, 0, s.2.2), L, Dd)) rfl ?_
        refine Ev.putf hX (sX7_needs_41.lk 1 (q := (42, .putfield 175, 7, 14)) rfl) rfl rfl (sX7_needs_41.dc 1 (q := (42, .putfield 175, 7, 14)) rfl) ?_
        show Ev _ _ _ _ _ _ 45 [some (.ref 396), some (.int c)] [] (N, SH v T, up2 (PM I (s.1, 0, s.2.2)) 396 14 ((nI (s.1, 0, s.2.2).1) + 1), L, Dd)
        refine Ev.eqh (h' := (N, SH v T, PM I (s.1 + 1, 0, s.2.2), L, Dd)) (congrArg (fun z => (N, SH v T, z, L, Dd)) ((congrArg (up2 (PM I (s.1, 0, s.2.2)) 396 14) (nI_1 s.1)).trans PM_sp)) ?_
        refine Ev.vret dX7_needs_45 rfl ?_
        rw [nd, if_pos ⟨b1, b3⟩]
      · exact absurd rfl b4
    · refine Ev.sg hX (sX7_needs_16.sub 0 2) (pc' := 21) (ls' := [some (.ref 396), some (.int c)]) (st' := [.int 1, .ref 396]) (h' := (N, SH v T, PM I s, L, Dd)) rfl ?_
      refine Ev.putI (j := 15) hX ci_X7 (by decide) (bw_of 1501 (by decide +kernel) (by decide +kernel)) (Or.inl rfl) rfl rfl rfl rfl dX7_needs_21 ?_
      show Ev _ _ _ _ _ _ 24 [some (.ref 396), some (.int c)] [] (N, SH v T, up2 (PM I s) 396 15 1, L, Dd)
      rw [PM_w]
      refine Ev.sg hX (sX7_needs_24.sub 0 2) (pc' := 26) (ls' := [some (.ref 396), some (.int c)]) (st' := [.ref 396, .ref 396]) (h' := (N, SH v T, PM I (s.1, 1, s.2.2), L, Dd)) rfl ?_
      refine Ev.getf (sX7_needs_24.lk 2 (q := (26, .getfield 175, 7, 14)) rfl) rfl rfl (sX7_needs_24.dc 2 (q := (26, .getfield 175, 7, 14)) rfl) ?_
      show Ev _ _ _ _ _ _ 29 [some (.ref 396), some (.int c)] [.int (nI (s.1, 1, s.2.2).1), .ref 396] (N, SH v T, PM I (s.1, 1, s.2.2), L, Dd)
      refine Ev.sg hX (sX7_needs_24.sub 3 1) (pc' := 30) (ls' := [some (.ref 396), some (.int c)]) (st' := [.ref 396, .int (nI (s.1, 1, s.2.2).1), .ref 396]) (h' := (N, SH v T, PM I (s.1, 1, s.2.2), L, Dd)) rfl ?_
      refine Ev.getf (sX7_needs_24.lk 4 (q := (30, .getfield 178, 7, 15)) rfl) rfl rfl (sX7_needs_24.dc 4 (q := (30, .getfield 178, 7, 15)) rfl) ?_
      show Ev _ _ _ _ _ _ 33 [some (.ref 396), some (.int c)] [.int ((s.1, 1, s.2.2).2.1), .int (nI (s.1, 1, s.2.2).1), .ref 396] (N, SH v T, PM I (s.1, 1, s.2.2), L, Dd)
      refine Ev.if_eq (tgt := 40) dX7_needs_33 (by decide) (fun b5 => ?_) (fun b5 => ?_)
      · exact absurd b5 (show ¬ (1 : Int32) = 0 by decide)
      · refine Ev.sg hX (sX7_needs_36.sub 0 2) (pc' := 41) (ls' := [some (.ref 396), some (.int c)]) (st' := [.int 0, .int (nI (s.1, 1, s.2.2).1), .ref 396]) (h' := (N, SH v T, PM I (s.1, 1, s.2.2), L, Dd)) rfl ?_
        refine Ev.sg hX (sX7_needs_41.sub 0 1) (pc' := 42) (ls' := [some (.ref 396), some (.int c)]) (st' := [.int ((nI (s.1, 1, s.2.2).1) + 0), .ref 396]) (h' := (N, SH v T, PM I (s.1, 1, s.2.2), L, Dd)) rfl ?_
        refine Ev.putf hX (sX7_needs_41.lk 1 (q := (42, .putfield 175, 7, 14)) rfl) rfl rfl (sX7_needs_41.dc 1 (q := (42, .putfield 175, 7, 14)) rfl) ?_
        show Ev _ _ _ _ _ _ 45 [some (.ref 396), some (.int c)] [] (N, SH v T, up2 (PM I (s.1, 1, s.2.2)) 396 14 ((nI (s.1, 1, s.2.2).1) + 0), L, Dd)
        refine Ev.eqh (h' := (N, SH v T, PM I (s.1, 1, s.2.2), L, Dd)) (congrArg (fun z => (N, SH v T, z, L, Dd)) ((congrArg (up2 (PM I (s.1, 1, s.2.2)) 396 14) (Int32.add_zero (nI s.1))).trans PM_sp)) ?_
        refine Ev.vret dX7_needs_45 rfl ?_
        rw [nd, if_neg (fun w => b3 w.2)]
theorem m_needsThree {a b : Int32} (hX : JXok X) (hd : 3 ≤ d) (hq : q ≤ 60) (hty : I 396 7 = nI q) (hb : s.1 ≤ 990) : MT X d 0 0 jdX7_needsThree [.ref 396, .int a, .int b, .int c] (N, SH v T, PM I s, L, Dd) (fun R => R = .inl (none, (N, SH v T, PM I (nd (I 401) q c (nd (I 401) q b (nd (I 401) q a s))), L, Dd))) := by
  refine MT.mk dvX7_needsThree.1 ?_
  refine Ev.sg hX (sX7_needsThree_0.sub 0 2) (pc' := 2) (ls' := [some (.ref 396), some (.int a), some (.int b), some (.int c)]) (st' := [.int a, .ref 396]) (h' := (N, SH v T, PM I s, L, Dd)) rfl ?_
  refine Ev.callV (As := [.int a]) (rest := []) dvX7_needs mkX7_185 rfl rfl dX7_needsThree_2 (m_needs (d := d - 1) (s := s) hX (by omega) hq hty (Nat.le_trans hb (by decide))) ⟨by omega, by show 2 + 19 + 40 * _ ≤ 40 * _; omega⟩ ⟨Nat.zero_le _, Nat.zero_le _⟩ rfl (Nat.le_of_ble_eq_true rfl) (fun v9 h9 e9 => ?_) (fun E9 h9 e9 => nomatch e9)
  cases e9
  show Ev _ _ _ _ _ _ 5 [some (.ref 396), some (.int a), some (.int b), some (.int c)] [] (N, SH v T, PM I (nd (I 401) q a s), L, Dd)
  refine Ev.sg hX (sX7_needsThree_5.sub 0 2) (pc' := 7) (ls' := [some (.ref 396), some (.int a), some (.int b), some (.int c)]) (st' := [.int b, .ref 396]) (h' := (N, SH v T, PM I (nd (I 401) q a s), L, Dd)) rfl ?_
  refine Ev.callV (As := [.int b]) (rest := []) dvX7_needs mkX7_185 rfl rfl dX7_needsThree_7 (m_needs (d := d - 1) (s := (nd (I 401) q a s)) hX (by omega) hq hty (Nat.le_trans (nd_b hb) (by decide))) ⟨by omega, by show 2 + 19 + 40 * _ ≤ 40 * _; omega⟩ ⟨Nat.zero_le _, Nat.zero_le _⟩ rfl (Nat.le_of_ble_eq_true rfl) (fun v9 h9 e9 => ?_) (fun E9 h9 e9 => nomatch e9)
  cases e9
  show Ev _ _ _ _ _ _ 10 [some (.ref 396), some (.int a), some (.int b), some (.int c)] [] (N, SH v T, PM I (nd (I 401) q b (nd (I 401) q a s)), L, Dd)
  refine Ev.sg hX (sX7_needsThree_10.sub 0 2) (pc' := 12) (ls' := [some (.ref 396), some (.int a), some (.int b), some (.int c)]) (st' := [.int c, .ref 396]) (h' := (N, SH v T, PM I (nd (I 401) q b (nd (I 401) q a s)), L, Dd)) rfl ?_
  refine Ev.callV (As := [.int c]) (rest := []) dvX7_needs mkX7_185 rfl rfl dX7_needsThree_12 (m_needs (d := d - 1) (s := (nd (I 401) q b (nd (I 401) q a s))) hX (by omega) hq hty (Nat.le_trans (nd_b (nd_b hb)) (by decide))) ⟨by omega, by show 2 + 19 + 40 * _ ≤ 40 * _; omega⟩ ⟨Nat.zero_le _, Nat.zero_le _⟩ rfl (Nat.le_of_ble_eq_true rfl) (fun v9 h9 e9 => ?_) (fun E9 h9 e9 => nomatch e9)
  cases e9
  show Ev _ _ _ _ _ _ 15 [some (.ref 396), some (.int a), some (.int b), some (.int c)] [] (N, SH v T, PM I (nd (I 401) q c (nd (I 401) q b (nd (I 401) q a s))), L, Dd)
  refine Ev.vret dX7_needsThree_15 rfl ?_
  rfl
theorem l_mdig (hX : JXok X) (hd : 2 ≤ d) (hq : q ≤ 60) (hty : I 396 7 = nI q) (hn : n ≤ 9) : ∀ (n9 k : Nat) (s : MS) (e : Int32), k + n9 = n → s.1 + n9 ≤ 1000 → s.2.1 = 0 → Ev X (jm jdX7_digitsAfter) d 0 0 (fun R => R = .inl (some (.int (dgF (I 401) q n9 s.1 e).2), (N, SH v T, PM I ((dgF (I 401) q n9 s.1 e).1, 0, s.2.2), L, Dd))) 40 [some (.ref 396), some (.int c), some (.int (nI n)), some (.int e), some (.int (nI k))] [] (N, SH v T, PM I s, L, Dd) := by
  intro n9
  induction n9 with
  | zero =>
    intro k s e hk hbn hw
    refine Ev.sg hX (sX7_digitsAfter_40.sub 0 1) (pc' := 41) (ls' := [some (.ref 396), some (.int c), some (.int (nI n)), some (.int e), some (.int (nI k))]) (st' := [.ref 396]) (h' := (N, SH v T, PM I s, L, Dd)) rfl ?_
    refine Ev.getf (sX7_digitsAfter_40.lk 1 (q := (41, .getfield 178, 7, 15)) rfl) rfl rfl (sX7_digitsAfter_40.dc 1 (q := (41, .getfield 178, 7, 15)) rfl) ?_
    show Ev _ _ _ _ _ _ 44 [some (.ref 396), some (.int c), some (.int (nI n)), some (.int e), some (.int (nI k))] [.int s.2.1] (N, SH v T, PM I s, L, Dd)
    refine Ev.if_ne (tgt := 96) dX7_digitsAfter_44 (by decide) (fun b1 => ?_) (fun b1 => ?_)
    · exact absurd hw b1
    · refine Ev.sg hX (sX7_digitsAfter_47.sub 0 2) (pc' := 50) (ls' := [some (.ref 396), some (.int c), some (.int (nI n)), some (.int e), some (.int (nI k))]) (st' := [.int (nI n), .int (nI k)]) (h' := (N, SH v T, PM I s, L, Dd)) rfl ?_
      refine Ev.icmp_ge (tgt := 96) dX7_digitsAfter_50 (by decide) (fun b2 => ?_) (fun b2 => ?_)
      · refine Ev.sg hX (sX7_digitsAfter_96.sub 0 1) (pc' := 97) (ls' := [some (.ref 396), some (.int c), some (.int (nI n)), some (.int e), some (.int (nI k))]) (st' := [.int e]) (h' := (N, SH v T, PM I s, L, Dd)) rfl ?_
        refine Ev.iret dX7_digitsAfter_97 rfl ?_
        exact congrArg (fun z => Sum.inl (some (Value.int e), (N, SH v T, PM I z, L, Dd))) (show s = (s.1, 0, s.2.2) from Prod.ext rfl (Prod.ext hw rfl))
      · exact absurd ((nI_leI (a := n) (b := k) (by omega) (by omega)).mpr (by omega)) b2
  | succ n9 ih =>
    intro k s e hk hbn hw
    refine Ev.sg hX (sX7_digitsAfter_40.sub 0 1) (pc' := 41) (ls' := [some (.ref 396), some (.int c), some (.int (nI n)), some (.int e), some (.int (nI k))]) (st' := [.ref 396]) (h' := (N, SH v T, PM I s, L, Dd)) rfl ?_
    refine Ev.getf (sX7_digitsAfter_40.lk 1 (q := (41, .getfield 178, 7, 15)) rfl) rfl rfl (sX7_digitsAfter_40.dc 1 (q := (41, .getfield 178, 7, 15)) rfl) ?_
    show Ev _ _ _ _ _ _ 44 [some (.ref 396), some (.int c), some (.int (nI n)), some (.int e), some (.int (nI k))] [.int s.2.1] (N, SH v T, PM I s, L, Dd)
    refine Ev.if_ne (tgt := 96) dX7_digitsAfter_44 (by decide) (fun b1 => ?_) (fun b1 => ?_)
    · exact absurd hw b1
    · refine Ev.sg hX (sX7_digitsAfter_47.sub 0 2) (pc' := 50) (ls' := [some (.ref 396), some (.int c), some (.int (nI n)), some (.int e), some (.int (nI k))]) (st' := [.int (nI n), .int (nI k)]) (h' := (N, SH v T, PM I s, L, Dd)) rfl ?_
      refine Ev.icmp_ge (tgt := 96) dX7_digitsAfter_50 (by decide) (fun b2 => ?_) (fun b2 => ?_)
      · exact absurd ((nI_leI (a := n) (b := k) (by omega) (by omega)).mp b2) (by omega)
      · have hb : s.1 ≤ 1000 := by omega
        refine Ev.sg hX (sX7_digitsAfter_53.sub 0 1) (pc' := 54) (ls' := [some (.ref 396), some (.int c), some (.int (nI n)), some (.int e), some (.int (nI k))]) (st' := [.ref 396]) (h' := (N, SH v T, PM I s, L, Dd)) rfl ?_
        refine Ev.callV (As := []) (rest := []) dvX7_here mkX7_182 rfl rfl dX7_digitsAfter_54 (m_here (d := d - 1) (s := s) hX (by omega) hq hty (Nat.le_trans hb (by decide))) ⟨by omega, by show 1 + 19 + 40 * _ ≤ 40 * _; omega⟩ ⟨Nat.zero_le _, Nat.zero_le _⟩ rfl (Nat.le_of_ble_eq_true rfl) (fun v9 h9 e9 => ?_) (fun E9 h9 e9 => nomatch e9)
        cases e9
        show Ev _ _ _ _ _ _ 57 [some (.ref 396), some (.int c), some (.int (nI n)), some (.int e), some (.int (nI k))] [.int (chA (I 401) q s.1)] (N, SH v T, PM I s, L, Dd)
        refine Ev.sg hX (sX7_digitsAfter_57.sub 0 2) (pc' := 61) (ls' := [some (.ref 396), some (.int c), some (.int (nI n)), some (.int e), some (.int (nI k))]) (st' := [.int 57, .int 48, .int (chA (I 401) q s.1)]) (h' := (N, SH v T, PM I s, L, Dd)) rfl ?_
        refine Ev.callS (As := [.int (chA (I 401) q s.1), .int 48, .int 57]) (rest := []) dsX7_in mkX7_52 dX7_digitsAfter_61 (m_in (d := d - 1) hX (by omega)) ⟨by omega, by show 3 + 19 + 40 * _ ≤ 40 * _; omega⟩ ⟨Nat.zero_le _, Nat.zero_le _⟩ rfl (Nat.le_of_ble_eq_true rfl) (fun v9 h9 e9 => ?_) (fun E9 h9 e9 => nomatch e9)
        cases e9
        show Ev _ _ _ _ _ _ 64 [some (.ref 396), some (.int c), some (.int (nI n)), some (.int e), some (.int (nI k))] [.int (bi (48 ≤ (chA (I 401) q s.1) ∧ (chA (I 401) q s.1) ≤ 57))] (N, SH v T, PM I s, L, Dd)
        refine Ev.if_eq (tgt := 96) dX7_digitsAfter_64 (by decide) (fun b3 => ?_) (fun b3 => ?_)
        · refine Ev.sg hX (sX7_digitsAfter_96.sub 0 1) (pc' := 97) (ls' := [some (.ref 396), some (.int c), some (.int (nI n)), some (.int e), some (.int (nI k))]) (st' := [.int e]) (h' := (N, SH v T, PM I s, L, Dd)) rfl ?_
          refine Ev.iret dX7_digitsAfter_97 rfl ?_
          (rw [dgF, if_neg (bi_0.mp b3)]; exact congrArg (fun z => Sum.inl (some (Value.int e), (N, SH v T, PM I z, L, Dd))) (show s = (s.1, 0, s.2.2) from Prod.ext rfl (Prod.ext hw rfl)))
        · refine Ev.sg hX (sX7_digitsAfter_67.sub 0 4) (pc' := 72) (ls' := [some (.ref 396), some (.int c), some (.int (nI n)), some (.int e), some (.int (nI k))]) (st' := [.ref 396, .int (10 * e)]) (h' := (N, SH v T, PM I s, L, Dd)) rfl ?_
          refine Ev.callV (As := []) (rest := [.int (10 * e)]) dvX7_here mkX7_182 rfl rfl dX7_digitsAfter_72 (m_here (d := d - 1) (s := s) hX (by omega) hq hty (Nat.le_trans hb (by decide))) ⟨by omega, by show 1 + 19 + 40 * _ ≤ 40 * _; omega⟩ ⟨Nat.zero_le _, Nat.zero_le _⟩ rfl (Nat.le_of_ble_eq_true rfl) (fun v9 h9 e9 => ?_) (fun E9 h9 e9 => nomatch e9)
          cases e9
          show Ev _ _ _ _ _ _ 75 [some (.ref 396), some (.int c), some (.int (nI n)), some (.int e), some (.int (nI k))] [.int (chA (I 401) q s.1), .int (10 * e)] (N, SH v T, PM I s, L, Dd)
          refine Ev.sg hX (sX7_digitsAfter_75.sub 0 6) (pc' := 82) (ls' := [some (.ref 396), some (.int c), some (.int (nI n)), some (.int (((10 * e) + (chA (I 401) q s.1)) - 48)), some (.int (nI k))]) (st' := [.ref 396, .ref 396]) (h' := (N, SH v T, PM I s, L, Dd)) rfl ?_
          refine Ev.getf (sX7_digitsAfter_75.lk 6 (q := (82, .getfield 175, 7, 14)) rfl) rfl rfl (sX7_digitsAfter_75.dc 6 (q := (82, .getfield 175, 7, 14)) rfl) ?_
          show Ev _ _ _ _ _ _ 85 [some (.ref 396), some (.int c), some (.int (nI n)), some (.int (((10 * e) + (chA (I 401) q s.1)) - 48)), some (.int (nI k))] [.int (nI s.1), .ref 396] (N, SH v T, PM I s, L, Dd)
          refine Ev.sg hX (sX7_digitsAfter_75.sub 7 2) (pc' := 87) (ls' := [some (.ref 396), some (.int c), some (.int (nI n)), some (.int (((10 * e) + (chA (I 401) q s.1)) - 48)), some (.int (nI k))]) (st' := [.int ((nI s.1) + 1), .ref 396]) (h' := (N, SH v T, PM I s, L, Dd)) rfl ?_
          refine Ev.putf hX (sX7_digitsAfter_75.lk 9 (q := (87, .putfield 175, 7, 14)) rfl) rfl rfl (sX7_digitsAfter_75.dc 9 (q := (87, .putfield 175, 7, 14)) rfl) ?_
          show Ev _ _ _ _ _ _ 90 [some (.ref 396), some (.int c), some (.int (nI n)), some (.int (((10 * e) + (chA (I 401) q s.1)) - 48)), some (.int (nI k))] [] (N, SH v T, up2 (PM I s) 396 14 ((nI s.1) + 1), L, Dd)
          refine Ev.sg hX (sX7_digitsAfter_75.sub 10 2) (pc' := 40) (ls' := [some (.ref 396), some (.int c), some (.int (nI n)), some (.int (((10 * e) + (chA (I 401) q s.1)) - 48)), some (.int ((nI k) + 1))]) (st' := []) (h' := (N, SH v T, up2 (PM I s) 396 14 ((nI s.1) + 1), L, Dd)) rfl ?_
          refine Ev.eqh (h' := (N, SH v T, PM I (s.1 + 1, s.2), L, Dd)) (congrArg (fun z => (N, SH v T, z, L, Dd)) ((congrArg (up2 (PM I s) 396 14) (nI_1 s.1)).trans PM_sp)) ?_
          rw [nI_1, show 10 * e + chA (I 401) q s.1 - 48 = e * 10 + chA (I 401) q s.1 - 48 by rw [Int32.mul_comm]]
          rw [show dgF (I 401) q (n9 + 1) s.1 e = dgF (I 401) q n9 (s.1 + 1) (e * 10 + chA (I 401) q s.1 - 48) from if_pos (bi_1.mp b3)]
          exact ih (k + 1) (s.1 + 1, s.2) _ (by omega) (by show s.1 + 1 + n9 ≤ 1000; omega) hw
theorem m_digitsAfter (hX : JXok X) (hd : 3 ≤ d) (hq : q ≤ 60) (hty : I 396 7 = nI q) (hb : s.1 ≤ 980) (hn : n ≤ 9) : MT X d 0 0 jdX7_digitsAfter [.ref 396, .int c, .int (nI n)] (N, SH v T, PM I s, L, Dd) (fun R => R = .inl (some (.int (dv (I 401) q c n s)), (N, SH v T, PM I (dd9 (I 401) q c n s), L, Dd))) := by
  refine MT.mk dvX7_digitsAfter.1 ?_
  refine Ev.sg hX (sX7_digitsAfter_0.sub 0 2) (pc' := 2) (ls' := [some (.ref 396), some (.int c), some (.int (nI n)), none, none]) (st' := [.int c, .ref 396]) (h' := (N, SH v T, PM I s, L, Dd)) rfl ?_
  refine Ev.callV (As := [.int c]) (rest := []) dvX7_needs mkX7_185 rfl rfl dX7_digitsAfter_2 (m_needs (d := d - 1) (s := s) hX (by omega) hq hty (Nat.le_trans hb (by decide))) ⟨by omega, by show 2 + 19 + 40 * _ ≤ 40 * _; omega⟩ ⟨Nat.zero_le _, Nat.zero_le _⟩ rfl (Nat.le_of_ble_eq_true rfl) (fun v9 h9 e9 => ?_) (fun E9 h9 e9 => nomatch e9)
  cases e9
  show Ev _ _ _ _ _ _ 5 [some (.ref 396), some (.int c), some (.int (nI n)), none, none] [] (N, SH v T, PM I (nd (I 401) q c s), L, Dd)
  refine Ev.sg hX (sX7_digitsAfter_5.sub 0 2) (pc' := 7) (ls' := [some (.ref 396), some (.int c), some (.int (nI n)), none, none]) (st' := [.ref 396, .ref 396]) (h' := (N, SH v T, PM I (nd (I 401) q c s), L, Dd)) rfl ?_
  refine Ev.getf (sX7_digitsAfter_5.lk 2 (q := (7, .getfield 178, 7, 15)) rfl) rfl rfl (sX7_digitsAfter_5.dc 2 (q := (7, .getfield 178, 7, 15)) rfl) ?_
  show Ev _ _ _ _ _ _ 10 [some (.ref 396), some (.int c), some (.int (nI n)), none, none] [.int ((nd (I 401) q c s).2.1), .ref 396] (N, SH v T, PM I (nd (I 401) q c s), L, Dd)
  refine Ev.if_ne (tgt := 27) dX7_digitsAfter_10 (by decide) (fun b1 => ?_) (fun b1 => ?_)
  · refine Ev.sg hX (sX7_digitsAfter_27.sub 0 2) (pc' := 32) (ls' := [some (.ref 396), some (.int c), some (.int (nI n)), none, none]) (st' := [.int 1, .ref 396]) (h' := (N, SH v T, PM I (nd (I 401) q c s), L, Dd)) rfl ?_
    refine Ev.putI (j := 15) hX ci_X7 (by decide) (bw_of 1501 (by decide +kernel) (by decide +kernel)) (Or.inl rfl) rfl rfl rfl rfl dX7_digitsAfter_32 ?_
    show Ev _ _ _ _ _ _ 35 [some (.ref 396), some (.int c), some (.int (nI n)), none, none] [] (N, SH v T, up2 (PM I (nd (I 401) q c s)) 396 15 1, L, Dd)
    rw [PM_w]
    refine Ev.sg hX (sX7_digitsAfter_35.sub 0 4) (pc' := 40) (ls' := [some (.ref 396), some (.int c), some (.int (nI n)), some (.int 0), some (.int 0)]) (st' := []) (h' := (N, SH v T, PM I ((nd (I 401) q c s).1, 1, (nd (I 401) q c s).2.2), L, Dd)) rfl ?_
    refine Ev.sg hX (sX7_digitsAfter_40.sub 0 1) (pc' := 41) (ls' := [some (.ref 396), some (.int c), some (.int (nI n)), some (.int 0), some (.int 0)]) (st' := [.ref 396]) (h' := (N, SH v T, PM I ((nd (I 401) q c s).1, 1, (nd (I 401) q c s).2.2), L, Dd)) rfl ?_
    refine Ev.getf (sX7_digitsAfter_40.lk 1 (q := (41, .getfield 178, 7, 15)) rfl) rfl rfl (sX7_digitsAfter_40.dc 1 (q := (41, .getfield 178, 7, 15)) rfl) ?_
    show Ev _ _ _ _ _ _ 44 [some (.ref 396), some (.int c), some (.int (nI n)), some (.int 0), some (.int 0)] [.int (((nd (I 401) q c s).1, 1, (nd (I 401) q c s).2.2).2.1)] (N, SH v T, PM I ((nd (I 401) q c s).1, 1, (nd (I 401) q c s).2.2), L, Dd)
    refine Ev.if_ne (tgt := 96) dX7_digitsAfter_44 (by decide) (fun b2 => ?_) (fun b2 => ?_)
    · refine Ev.sg hX (sX7_digitsAfter_96.sub 0 1) (pc' := 97) (ls' := [some (.ref 396), some (.int c), some (.int (nI n)), some (.int 0), some (.int 0)]) (st' := [.int 0]) (h' := (N, SH v T, PM I ((nd (I 401) q c s).1, 1, (nd (I 401) q c s).2.2), L, Dd)) rfl ?_
      refine Ev.iret dX7_digitsAfter_97 rfl ?_
      rw [dv, dd9, if_neg (fun w => b1 w.1), if_neg (fun w => b1 w.1), show s.2.2 = (nd (I 401) q c s).2.2 from by unfold nd; split <;> rfl]
    · exact absurd b2 (show ¬ (1 : Int32) = 0 by decide)
  · refine Ev.sg hX (sX7_digitsAfter_13.sub 0 1) (pc' := 14) (ls' := [some (.ref 396), some (.int c), some (.int (nI n)), none, none]) (st' := [.ref 396, .ref 396]) (h' := (N, SH v T, PM I (nd (I 401) q c s), L, Dd)) rfl ?_
    refine Ev.callV (As := []) (rest := [.ref 396]) dvX7_here mkX7_182 rfl rfl dX7_digitsAfter_14 (m_here (d := d - 1) (s := (nd (I 401) q c s)) hX (by omega) hq hty (Nat.le_trans (nd_b hb) (by decide))) ⟨by omega, by show 1 + 19 + 40 * _ ≤ 40 * _; omega⟩ ⟨Nat.zero_le _, Nat.zero_le _⟩ rfl (Nat.le_of_ble_eq_true rfl) (fun v9 h9 e9 => ?_) (fun E9 h9 e9 => nomatch e9)
    cases e9
    show Ev _ _ _ _ _ _ 17 [some (.ref 396), some (.int c), some (.int (nI n)), none, none] [.int (chA (I 401) q (nd (I 401) q c s).1), .ref 396] (N, SH v T, PM I (nd (I 401) q c s), L, Dd)
    refine Ev.sg hX (sX7_digitsAfter_17.sub 0 2) (pc' := 21) (ls' := [some (.ref 396), some (.int c), some (.int (nI n)), none, none]) (st' := [.int 57, .int 48, .int (chA (I 401) q (nd (I 401) q c s).1), .ref 396]) (h' := (N, SH v T, PM I (nd (I 401) q c s), L, Dd)) rfl ?_
    refine Ev.callS (As := [.int (chA (I 401) q (nd (I 401) q c s).1), .int 48, .int 57]) (rest := [.ref 396]) dsX7_in mkX7_52 dX7_digitsAfter_21 (m_in (d := d - 1) hX (by omega)) ⟨by omega, by show 3 + 19 + 40 * _ ≤ 40 * _; omega⟩ ⟨Nat.zero_le _, Nat.zero_le _⟩ rfl (Nat.le_of_ble_eq_true rfl) (fun v9 h9 e9 => ?_) (fun E9 h9 e9 => nomatch e9)
    cases e9
    show Ev _ _ _ _ _ _ 24 [some (.ref 396), some (.int c), some (.int (nI n)), none, none] [.int (bi (48 ≤ (chA (I 401) q (nd (I 401) q c s).1) ∧ (chA (I 401) q (nd (I 401) q c s).1) ≤ 57)), .ref 396] (N, SH v T, PM I (nd (I 401) q c s), L, Dd)
    refine Ev.if_ne (tgt := 31) dX7_digitsAfter_24 (by decide) (fun b3 => ?_) (fun b3 => ?_)
    · refine Ev.sg hX (sX7_digitsAfter_31.sub 0 1) (pc' := 32) (ls' := [some (.ref 396), some (.int c), some (.int (nI n)), none, none]) (st' := [.int 0, .ref 396]) (h' := (N, SH v T, PM I (nd (I 401) q c s), L, Dd)) rfl ?_
      refine Ev.putI (j := 15) hX ci_X7 (by decide) (bw_of 1501 (by decide +kernel) (by decide +kernel)) (Or.inl rfl) rfl rfl rfl rfl dX7_digitsAfter_32 ?_
      show Ev _ _ _ _ _ _ 35 [some (.ref 396), some (.int c), some (.int (nI n)), none, none] [] (N, SH v T, up2 (PM I (nd (I 401) q c s)) 396 15 0, L, Dd)
      rw [PM_w]
      refine Ev.sg hX (sX7_digitsAfter_35.sub 0 4) (pc' := 40) (ls' := [some (.ref 396), some (.int c), some (.int (nI n)), some (.int 0), some (.int 0)]) (st' := []) (h' := (N, SH v T, PM I ((nd (I 401) q c s).1, 0, (nd (I 401) q c s).2.2), L, Dd)) rfl ?_
      have hok := And.intro (show (nd (I 401) q c s).2.1 = 0 from b1) (bi_1.mp b3)
      rw [dv, dd9, if_pos hok, if_pos hok, show s.2.2 = (nd (I 401) q c s).2.2 from by unfold nd; split <;> rfl]
      exact l_mdig hX (by omega) hq hty hn n 0 ((nd (I 401) q c s).1, 0, (nd (I 401) q c s).2.2) 0 (Nat.zero_add n) (by have := nd_b (tx := I 401) (q := q) (c := c) hb; show (nd (I 401) q c s).1 + n ≤ 1000; omega) rfl
    · refine Ev.sg hX (sX7_digitsAfter_27.sub 0 2) (pc' := 32) (ls' := [some (.ref 396), some (.int c), some (.int (nI n)), none, none]) (st' := [.int 1, .ref 396]) (h' := (N, SH v T, PM I (nd (I 401) q c s), L, Dd)) rfl ?_
      refine Ev.putI (j := 15) hX ci_X7 (by decide) (bw_of 1501 (by decide +kernel) (by decide +kernel)) (Or.inl rfl) rfl rfl rfl rfl dX7_digitsAfter_32 ?_
      show Ev _ _ _ _ _ _ 35 [some (.ref 396), some (.int c), some (.int (nI n)), none, none] [] (N, SH v T, up2 (PM I (nd (I 401) q c s)) 396 15 1, L, Dd)
      rw [PM_w]
      refine Ev.sg hX (sX7_digitsAfter_35.sub 0 4) (pc' := 40) (ls' := [some (.ref 396), some (.int c), some (.int (nI n)), some (.int 0), some (.int 0)]) (st' := []) (h' := (N, SH v T, PM I ((nd (I 401) q c s).1, 1, (nd (I 401) q c s).2.2), L, Dd)) rfl ?_
      refine Ev.sg hX (sX7_digitsAfter_40.sub 0 1) (pc' := 41) (ls' := [some (.ref 396), some (.int c), some (.int (nI n)), some (.int 0), some (.int 0)]) (st' := [.ref 396]) (h' := (N, SH v T, PM I ((nd (I 401) q c s).1, 1, (nd (I 401) q c s).2.2), L, Dd)) rfl ?_
      refine Ev.getf (sX7_digitsAfter_40.lk 1 (q := (41, .getfield 178, 7, 15)) rfl) rfl rfl (sX7_digitsAfter_40.dc 1 (q := (41, .getfield 178, 7, 15)) rfl) ?_
      show Ev _ _ _ _ _ _ 44 [some (.ref 396), some (.int c), some (.int (nI n)), some (.int 0), some (.int 0)] [.int (((nd (I 401) q c s).1, 1, (nd (I 401) q c s).2.2).2.1)] (N, SH v T, PM I ((nd (I 401) q c s).1, 1, (nd (I 401) q c s).2.2), L, Dd)
      refine Ev.if_ne (tgt := 96) dX7_digitsAfter_44 (by decide) (fun b4 => ?_) (fun b4 => ?_)
      · refine Ev.sg hX (sX7_digitsAfter_96.sub 0 1) (pc' := 97) (ls' := [some (.ref 396), some (.int c), some (.int (nI n)), some (.int 0), some (.int 0)]) (st' := [.int 0]) (h' := (N, SH v T, PM I ((nd (I 401) q c s).1, 1, (nd (I 401) q c s).2.2), L, Dd)) rfl ?_
        refine Ev.iret dX7_digitsAfter_97 rfl ?_
        rw [dv, dd9, if_neg (fun w => (bi_0.mp b3) w.2), if_neg (fun w => (bi_0.mp b3) w.2), show s.2.2 = (nd (I 401) q c s).2.2 from by unfold nd; split <;> rfl]
      · exact absurd b4 (show ¬ (1 : Int32) = 0 by decide)
end PMM
