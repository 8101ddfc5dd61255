/-! the model: commands of a program -/
section PMN
variable {X : JX} {d N v : Nat} {T : Nat → Option JS} {I : Nat → Nat → Int32} {L : Nat → Nat → Int64} {Dd : Nat → Nat → UInt64} {q k n : Nat} {c e : Int32} {s : MS}
theorem m_parsesPair (hX : JXok X) (hd : 4 ≤ d) (hq : q ≤ 60) (hty : I 396 7 = nI q) (hb : s.1 ≤ 900) (hk : k ≤ 300) : MT X d 0 0 jdX7_parsesPair [.ref 396, .int (nI k)] (N, SH v T, PM I s, L, Dd) (fun R => R = .inl (none, (N, SH v T, PM I (pP (I 401) q k s), L, Dd))) := by
  refine MT.mk dvX7_parsesPair.1 ?_
  refine Ev.sg hX (sX7_parsesPair_0.sub 0 1) (pc' := 1) (ls' := [some (.ref 396), some (.int (nI k))]) (st' := [.ref 396]) (h' := (N, SH v T, PM I s, L, Dd)) rfl ?_
  refine Ev.getf (sX7_parsesPair_0.lk 1 (q := (1, .getfield 39, 7, 16)) rfl) rfl rfl (sX7_parsesPair_0.dc 1 (q := (1, .getfield 39, 7, 16)) rfl) ?_
  show Ev _ _ _ _ _ _ 4 [some (.ref 396), some (.int (nI k))] [.ref 404] (N, SH v T, PM I s, L, Dd)
  refine Ev.sg hX (sX7_parsesPair_0.sub 2 6) (pc' := 11) (ls' := [some (.ref 396), some (.int (nI k))]) (st' := [.int 1, .int 32, .ref 396, .int ((nI k) + 1), .ref 404]) (h' := (N, SH v T, PM I s, L, Dd)) rfl ?_
  refine Ev.callV (As := [.int 32, .int 1]) (rest := [.int ((nI k) + 1), .ref 404]) dvX7_digitsAfter mkX7_188 rfl rfl dX7_parsesPair_11 (m_digitsAfter (d := d - 1) (s := s) (n := 1) hX (by omega) hq hty (Nat.le_trans hb (by decide)) (by decide)) ⟨by omega, by show 5 + 19 + 40 * _ ≤ 40 * _; omega⟩ ⟨Nat.zero_le _, Nat.zero_le _⟩ rfl (Nat.le_of_ble_eq_true rfl) (fun v9 h9 e9 => ?_) (fun E9 h9 e9 => nomatch e9)
  cases e9
  show Ev _ _ _ _ _ _ 14 [some (.ref 396), some (.int (nI k))] [.int (dv (I 401) q 32 1 s), .int ((nI k) + 1), .ref 404] (N, SH v T, PM I (dd9 (I 401) q 32 1 s), L, Dd)
  refine Ev.iastE (n := (k + 1)) (N := 360) hX rfl (naI rfl rfl) (by omega) (by decide) dX7_parsesPair_14 ?_
  show Ev _ _ _ _ _ _ 15 [some (.ref 396), some (.int (nI k))] [] (N, SH v T, up2 (PM I (dd9 (I 401) q 32 1 s)) 404 (k + 1) (dv (I 401) q 32 1 s), L, Dd)
  rw [PM_P]
  show Ev _ _ _ _ _ _ 15 [some (.ref 396), some (.int (nI k))] [] (N, SH v T, PM I (dw (I 401) q 32 1 (k + 1) s), L, Dd)
  refine Ev.sg hX (sX7_parsesPair_15.sub 0 1) (pc' := 16) (ls' := [some (.ref 396), some (.int (nI k))]) (st' := [.ref 396]) (h' := (N, SH v T, PM I (dw (I 401) q 32 1 (k + 1) s), L, Dd)) rfl ?_
  refine Ev.getf (sX7_parsesPair_15.lk 1 (q := (16, .getfield 39, 7, 16)) rfl) rfl rfl (sX7_parsesPair_15.dc 1 (q := (16, .getfield 39, 7, 16)) rfl) ?_
  show Ev _ _ _ _ _ _ 19 [some (.ref 396), some (.int (nI k))] [.ref 404] (N, SH v T, PM I (dw (I 401) q 32 1 (k + 1) s), L, Dd)
  refine Ev.sg hX (sX7_parsesPair_15.sub 2 6) (pc' := 26) (ls' := [some (.ref 396), some (.int (nI k))]) (st' := [.int 1, .int 45, .ref 396, .int ((nI k) + 2), .ref 404]) (h' := (N, SH v T, PM I (dw (I 401) q 32 1 (k + 1) s), L, Dd)) rfl ?_
  refine Ev.callV (As := [.int 45, .int 1]) (rest := [.int ((nI k) + 2), .ref 404]) dvX7_digitsAfter mkX7_188 rfl rfl dX7_parsesPair_26 (m_digitsAfter (d := d - 1) (s := (dw (I 401) q 32 1 (k + 1) s)) (n := 1) hX (by omega) hq hty (Nat.le_trans (dw_b hb) (by decide)) (by decide)) ⟨by omega, by show 5 + 19 + 40 * _ ≤ 40 * _; omega⟩ ⟨Nat.zero_le _, Nat.zero_le _⟩ rfl (Nat.le_of_ble_eq_true rfl) (fun v9 h9 e9 => ?_) (fun E9 h9 e9 => nomatch e9)
  cases e9
  show Ev _ _ _ _ _ _ 29 [some (.ref 396), some (.int (nI k))] [.int (dv (I 401) q 45 1 (dw (I 401) q 32 1 (k + 1) s)), .int ((nI k) + 2), .ref 404] (N, SH v T, PM I (dd9 (I 401) q 45 1 (dw (I 401) q 32 1 (k + 1) s)), L, Dd)
  refine Ev.iastE (n := (k + 2)) (N := 360) hX rfl (naI rfl rfl) (by omega) (by decide) dX7_parsesPair_29 ?_
  show Ev _ _ _ _ _ _ 30 [some (.ref 396), some (.int (nI k))] [] (N, SH v T, up2 (PM I (dd9 (I 401) q 45 1 (dw (I 401) q 32 1 (k + 1) s))) 404 (k + 2) (dv (I 401) q 45 1 (dw (I 401) q 32 1 (k + 1) s)), L, Dd)
  rw [PM_P]
  show Ev _ _ _ _ _ _ 30 [some (.ref 396), some (.int (nI k))] [] (N, SH v T, PM I (dw (I 401) q 45 1 (k + 2) (dw (I 401) q 32 1 (k + 1) s)), L, Dd)
  refine Ev.vret dX7_parsesPair_30 rfl ?_
  rfl
theorem m_parsesT (hX : JXok X) (hd : 4 ≤ d) (hq : q ≤ 60) (hty : I 396 7 = nI q) (hb : s.1 ≤ 800) (hk : k ≤ 300) : MT X d 0 0 jdX7_parsesT [.ref 396, .int (nI k)] (N, SH v T, PM I s, L, Dd) (fun R => R = .inl (none, (N, SH v T, PM I (pT (I 401) q k s), L, Dd))) := by
  refine MT.mk dvX7_parsesT.1 ?_
  refine Ev.sg hX (sX7_parsesT_0.sub 0 2) (pc' := 3) (ls' := [some (.ref 396), some (.int (nI k))]) (st' := [.int 114, .ref 396]) (h' := (N, SH v T, PM I s, L, Dd)) rfl ?_
  refine Ev.callV (As := [.int 114]) (rest := []) dvX7_needs mkX7_185 rfl rfl dX7_parsesT_3 (m_needs (d := d - 1) (s := s) hX (by omega) hq hty (Nat.le_trans hb (by decide))) ⟨by omega, by show 2 + 19 + 40 * _ ≤ 40 * _; omega⟩ ⟨Nat.zero_le _, Nat.zero_le _⟩ rfl (Nat.le_of_ble_eq_true rfl) (fun v9 h9 e9 => ?_) (fun E9 h9 e9 => nomatch e9)
  cases e9
  show Ev _ _ _ _ _ _ 6 [some (.ref 396), some (.int (nI k))] [] (N, SH v T, PM I (nd (I 401) q 114 s), L, Dd)
  refine Ev.sg hX (sX7_parsesT_6.sub 0 2) (pc' := 9) (ls' := [some (.ref 396), some (.int (nI k))]) (st' := [.int 97, .ref 396]) (h' := (N, SH v T, PM I (nd (I 401) q 114 s), L, Dd)) rfl ?_
  refine Ev.callV (As := [.int 97]) (rest := []) dvX7_needs mkX7_185 rfl rfl dX7_parsesT_9 (m_needs (d := d - 1) (s := (nd (I 401) q 114 s)) hX (by omega) hq hty (Nat.le_trans (nd_b hb) (by decide))) ⟨by omega, by show 2 + 19 + 40 * _ ≤ 40 * _; omega⟩ ⟨Nat.zero_le _, Nat.zero_le _⟩ rfl (Nat.le_of_ble_eq_true rfl) (fun v9 h9 e9 => ?_) (fun E9 h9 e9 => nomatch e9)
  cases e9
  show Ev _ _ _ _ _ _ 12 [some (.ref 396), some (.int (nI k))] [] (N, SH v T, PM I (nd (I 401) q 97 (nd (I 401) q 114 s)), L, Dd)
  refine Ev.sg hX (sX7_parsesT_12.sub 0 1) (pc' := 13) (ls' := [some (.ref 396), some (.int (nI k))]) (st' := [.ref 396]) (h' := (N, SH v T, PM I (nd (I 401) q 97 (nd (I 401) q 114 s)), L, Dd)) rfl ?_
  refine Ev.getf (sX7_parsesT_12.lk 1 (q := (13, .getfield 178, 7, 15)) rfl) rfl rfl (sX7_parsesT_12.dc 1 (q := (13, .getfield 178, 7, 15)) rfl) ?_
  show Ev _ _ _ _ _ _ 16 [some (.ref 396), some (.int (nI k))] [.int ((nd (I 401) q 97 (nd (I 401) q 114 s)).2.1)] (N, SH v T, PM I (nd (I 401) q 97 (nd (I 401) q 114 s)), L, Dd)
  refine Ev.if_ne (tgt := 66) dX7_parsesT_16 (by decide) (fun b1 => ?_) (fun b1 => ?_)
  · refine Ev.sg hX (sX7_parsesT_66.sub 0 2) (pc' := 69) (ls' := [some (.ref 396), some (.int (nI k))]) (st' := [.int 99, .ref 396]) (h' := (N, SH v T, PM I (nd (I 401) q 97 (nd (I 401) q 114 s)), L, Dd)) rfl ?_
    refine Ev.callV (As := [.int 99]) (rest := []) dvX7_needs mkX7_185 rfl rfl dX7_parsesT_69 (m_needs (d := d - 1) (s := (nd (I 401) q 97 (nd (I 401) q 114 s))) hX (by omega) hq hty (Nat.le_trans (nd_b (nd_b hb)) (by decide))) ⟨by omega, by show 2 + 19 + 40 * _ ≤ 40 * _; omega⟩ ⟨Nat.zero_le _, Nat.zero_le _⟩ rfl (Nat.le_of_ble_eq_true rfl) (fun v9 h9 e9 => ?_) (fun E9 h9 e9 => nomatch e9)
    cases e9
    show Ev _ _ _ _ _ _ 72 [some (.ref 396), some (.int (nI k))] [] (N, SH v T, PM I (nd (I 401) q 99 (nd (I 401) q 97 (nd (I 401) q 114 s))), L, Dd)
    refine Ev.sg hX (sX7_parsesT_72.sub 0 2) (pc' := 75) (ls' := [some (.ref 396), some (.int (nI k))]) (st' := [.int 107, .ref 396]) (h' := (N, SH v T, PM I (nd (I 401) q 99 (nd (I 401) q 97 (nd (I 401) q 114 s))), L, Dd)) rfl ?_
    refine Ev.callV (As := [.int 107]) (rest := []) dvX7_needs mkX7_185 rfl rfl dX7_parsesT_75 (m_needs (d := d - 1) (s := (nd (I 401) q 99 (nd (I 401) q 97 (nd (I 401) q 114 s)))) hX (by omega) hq hty (Nat.le_trans (nd_b (nd_b (nd_b hb))) (by decide))) ⟨by omega, by show 2 + 19 + 40 * _ ≤ 40 * _; omega⟩ ⟨Nat.zero_le _, Nat.zero_le _⟩ rfl (Nat.le_of_ble_eq_true rfl) (fun v9 h9 e9 => ?_) (fun E9 h9 e9 => nomatch e9)
    cases e9
    show Ev _ _ _ _ _ _ 78 [some (.ref 396), some (.int (nI k))] [] (N, SH v T, PM I (nd (I 401) q 107 (nd (I 401) q 99 (nd (I 401) q 97 (nd (I 401) q 114 s)))), L, Dd)
    refine Ev.sg hX (sX7_parsesT_78.sub 0 1) (pc' := 79) (ls' := [some (.ref 396), some (.int (nI k))]) (st' := [.ref 396]) (h' := (N, SH v T, PM I (nd (I 401) q 107 (nd (I 401) q 99 (nd (I 401) q 97 (nd (I 401) q 114 s)))), L, Dd)) rfl ?_
    refine Ev.getf (sX7_parsesT_78.lk 1 (q := (79, .getfield 39, 7, 16)) rfl) rfl rfl (sX7_parsesT_78.dc 1 (q := (79, .getfield 39, 7, 16)) rfl) ?_
    show Ev _ _ _ _ _ _ 82 [some (.ref 396), some (.int (nI k))] [.ref 404] (N, SH v T, PM I (nd (I 401) q 107 (nd (I 401) q 99 (nd (I 401) q 97 (nd (I 401) q 114 s)))), L, Dd)
    refine Ev.sg hX (sX7_parsesT_78.sub 2 6) (pc' := 89) (ls' := [some (.ref 396), some (.int (nI k))]) (st' := [.int 2, .int 32, .ref 396, .int ((nI k) + 1), .ref 404]) (h' := (N, SH v T, PM I (nd (I 401) q 107 (nd (I 401) q 99 (nd (I 401) q 97 (nd (I 401) q 114 s)))), L, Dd)) rfl ?_
    refine Ev.callV (As := [.int 32, .int 2]) (rest := [.int ((nI k) + 1), .ref 404]) dvX7_digitsAfter mkX7_188 rfl rfl dX7_parsesT_89 (m_digitsAfter (d := d - 1) (s := (nd (I 401) q 107 (nd (I 401) q 99 (nd (I 401) q 97 (nd (I 401) q 114 s))))) (n := 2) hX (by omega) hq hty (Nat.le_trans (nd_b (nd_b (nd_b (nd_b hb)))) (by decide)) (by decide)) ⟨by omega, by show 5 + 19 + 40 * _ ≤ 40 * _; omega⟩ ⟨Nat.zero_le _, Nat.zero_le _⟩ rfl (Nat.le_of_ble_eq_true rfl) (fun v9 h9 e9 => ?_) (fun E9 h9 e9 => nomatch e9)
    cases e9
    show Ev _ _ _ _ _ _ 92 [some (.ref 396), some (.int (nI k))] [.int (dv (I 401) q 32 2 (nd (I 401) q 107 (nd (I 401) q 99 (nd (I 401) q 97 (nd (I 401) q 114 s))))), .int ((nI k) + 1), .ref 404] (N, SH v T, PM I (dd9 (I 401) q 32 2 (nd (I 401) q 107 (nd (I 401) q 99 (nd (I 401) q 97 (nd (I 401) q 114 s))))), L, Dd)
    refine Ev.iastE (n := (k + 1)) (N := 360) hX rfl (naI rfl rfl) (by omega) (by decide) dX7_parsesT_92 ?_
    show Ev _ _ _ _ _ _ 93 [some (.ref 396), some (.int (nI k))] [] (N, SH v T, up2 (PM I (dd9 (I 401) q 32 2 (nd (I 401) q 107 (nd (I 401) q 99 (nd (I 401) q 97 (nd (I 401) q 114 s)))))) 404 (k + 1) (dv (I 401) q 32 2 (nd (I 401) q 107 (nd (I 401) q 99 (nd (I 401) q 97 (nd (I 401) q 114 s))))), L, Dd)
    rw [PM_P]
    show Ev _ _ _ _ _ _ 93 [some (.ref 396), some (.int (nI k))] [] (N, SH v T, PM I (dw (I 401) q 32 2 (k + 1) (nd (I 401) q 107 (nd (I 401) q 99 (nd (I 401) q 97 (nd (I 401) q 114 s))))), L, Dd)
    refine Ev.sg hX (sX7_parsesT_93.sub 0 1) (pc' := 94) (ls' := [some (.ref 396), some (.int (nI k))]) (st' := [.ref 396]) (h' := (N, SH v T, PM I (dw (I 401) q 32 2 (k + 1) (nd (I 401) q 107 (nd (I 401) q 99 (nd (I 401) q 97 (nd (I 401) q 114 s))))), L, Dd)) rfl ?_
    refine Ev.getf (sX7_parsesT_93.lk 1 (q := (94, .getfield 39, 7, 16)) rfl) rfl rfl (sX7_parsesT_93.dc 1 (q := (94, .getfield 39, 7, 16)) rfl) ?_
    show Ev _ _ _ _ _ _ 97 [some (.ref 396), some (.int (nI k))] [.ref 404] (N, SH v T, PM I (dw (I 401) q 32 2 (k + 1) (nd (I 401) q 107 (nd (I 401) q 99 (nd (I 401) q 97 (nd (I 401) q 114 s))))), L, Dd)
    refine Ev.sg hX (sX7_parsesT_93.sub 2 6) (pc' := 104) (ls' := [some (.ref 396), some (.int (nI k))]) (st' := [.int 1, .int 32, .ref 396, .int ((nI k) + 2), .ref 404]) (h' := (N, SH v T, PM I (dw (I 401) q 32 2 (k + 1) (nd (I 401) q 107 (nd (I 401) q 99 (nd (I 401) q 97 (nd (I 401) q 114 s))))), L, Dd)) rfl ?_
    refine Ev.callV (As := [.int 32, .int 1]) (rest := [.int ((nI k) + 2), .ref 404]) dvX7_digitsAfter mkX7_188 rfl rfl dX7_parsesT_104 (m_digitsAfter (d := d - 1) (s := (dw (I 401) q 32 2 (k + 1) (nd (I 401) q 107 (nd (I 401) q 99 (nd (I 401) q 97 (nd (I 401) q 114 s)))))) (n := 1) hX (by omega) hq hty (Nat.le_trans (dw_b (nd_b (nd_b (nd_b (nd_b hb))))) (by decide)) (by decide)) ⟨by omega, by show 5 + 19 + 40 * _ ≤ 40 * _; omega⟩ ⟨Nat.zero_le _, Nat.zero_le _⟩ rfl (Nat.le_of_ble_eq_true rfl) (fun v9 h9 e9 => ?_) (fun E9 h9 e9 => nomatch e9)
    cases e9
    show Ev _ _ _ _ _ _ 107 [some (.ref 396), some (.int (nI k))] [.int (dv (I 401) q 32 1 (dw (I 401) q 32 2 (k + 1) (nd (I 401) q 107 (nd (I 401) q 99 (nd (I 401) q 97 (nd (I 401) q 114 s)))))), .int ((nI k) + 2), .ref 404] (N, SH v T, PM I (dd9 (I 401) q 32 1 (dw (I 401) q 32 2 (k + 1) (nd (I 401) q 107 (nd (I 401) q 99 (nd (I 401) q 97 (nd (I 401) q 114 s)))))), L, Dd)
    refine Ev.iastE (n := (k + 2)) (N := 360) hX rfl (naI rfl rfl) (by omega) (by decide) dX7_parsesT_107 ?_
    show Ev _ _ _ _ _ _ 108 [some (.ref 396), some (.int (nI k))] [] (N, SH v T, up2 (PM I (dd9 (I 401) q 32 1 (dw (I 401) q 32 2 (k + 1) (nd (I 401) q 107 (nd (I 401) q 99 (nd (I 401) q 97 (nd (I 401) q 114 s))))))) 404 (k + 2) (dv (I 401) q 32 1 (dw (I 401) q 32 2 (k + 1) (nd (I 401) q 107 (nd (I 401) q 99 (nd (I 401) q 97 (nd (I 401) q 114 s)))))), L, Dd)
    rw [PM_P]
    show Ev _ _ _ _ _ _ 108 [some (.ref 396), some (.int (nI k))] [] (N, SH v T, PM I (dw (I 401) q 32 1 (k + 2) (dw (I 401) q 32 2 (k + 1) (nd (I 401) q 107 (nd (I 401) q 99 (nd (I 401) q 97 (nd (I 401) q 114 s)))))), L, Dd)
    refine Ev.vret dX7_parsesT_108 rfl ?_
    rw [pT, if_neg (fun w => b1 w.1)]
  · refine Ev.sg hX (sX7_parsesT_19.sub 0 1) (pc' := 20) (ls' := [some (.ref 396), some (.int (nI k))]) (st' := [.ref 396]) (h' := (N, SH v T, PM I (nd (I 401) q 97 (nd (I 401) q 114 s)), L, Dd)) rfl ?_
    refine Ev.callV (As := []) (rest := []) dvX7_here mkX7_182 rfl rfl dX7_parsesT_20 (m_here (d := d - 1) (s := (nd (I 401) q 97 (nd (I 401) q 114 s))) hX (by omega) hq hty (Nat.le_trans (nd_b (nd_b hb)) (by decide))) ⟨by omega, by show 1 + 19 + 40 * _ ≤ 40 * _; omega⟩ ⟨Nat.zero_le _, Nat.zero_le _⟩ rfl (Nat.le_of_ble_eq_true rfl) (fun v9 h9 e9 => ?_) (fun E9 h9 e9 => nomatch e9)
    cases e9
    show Ev _ _ _ _ _ _ 23 [some (.ref 396), some (.int (nI k))] [.int (chA (I 401) q (nd (I 401) q 97 (nd (I 401) q 114 s)).1)] (N, SH v T, PM I (nd (I 401) q 97 (nd (I 401) q 114 s)), L, Dd)
    refine Ev.sg hX (sX7_parsesT_23.sub 0 1) (pc' := 25) (ls' := [some (.ref 396), some (.int (nI k))]) (st' := [.int 105, .int (chA (I 401) q (nd (I 401) q 97 (nd (I 401) q 114 s)).1)]) (h' := (N, SH v T, PM I (nd (I 401) q 97 (nd (I 401) q 114 s)), L, Dd)) rfl ?_
    refine Ev.icmp_ne (tgt := 66) dX7_parsesT_25 (by decide) (fun b2 => ?_) (fun b2 => ?_)
    · refine Ev.sg hX (sX7_parsesT_66.sub 0 2) (pc' := 69) (ls' := [some (.ref 396), some (.int (nI k))]) (st' := [.int 99, .ref 396]) (h' := (N, SH v T, PM I (nd (I 401) q 97 (nd (I 401) q 114 s)), L, Dd)) rfl ?_
      refine Ev.callV (As := [.int 99]) (rest := []) dvX7_needs mkX7_185 rfl rfl dX7_parsesT_69 (m_needs (d := d - 1) (s := (nd (I 401) q 97 (nd (I 401) q 114 s))) hX (by omega) hq hty (Nat.le_trans (nd_b (nd_b hb)) (by decide))) ⟨by omega, by show 2 + 19 + 40 * _ ≤ 40 * _; omega⟩ ⟨Nat.zero_le _, Nat.zero_le _⟩ rfl (Nat.le_of_ble_eq_true rfl) (fun v9 h9 e9 => ?_) (fun E9 h9 e9 => nomatch e9)
      cases e9
      show Ev _ _ _ _ _ _ 72 [some (.ref 396), some (.int (nI k))] [] (N, SH v T, PM I (nd (I 401) q 99 (nd (I 401) q 97 (nd (I 401) q 114 s))), L, Dd)
      refine Ev.sg hX (sX7_parsesT_72.sub 0 2) (pc' := 75) (ls' := [some (.ref 396), some (.int (nI k))]) (st' := [.int 107, .ref 396]) (h' := (N, SH v T, PM I (nd (I 401) q 99 (nd (I 401) q 97 (nd (I 401) q 114 s))), L, Dd)) rfl ?_
      refine Ev.callV (As := [.int 107]) (rest := []) dvX7_needs mkX7_185 rfl rfl dX7_parsesT_75 (m_needs (d := d - 1) (s := (nd (I 401) q 99 (nd (I 401) q 97 (nd (I 401) q 114 s)))) hX (by omega) hq hty (Nat.le_trans (nd_b (nd_b (nd_b hb))) (by decide))) ⟨by omega, by show 2 + 19 + 40 * _ ≤ 40 * _; omega⟩ ⟨Nat.zero_le _, Nat.zero_le _⟩ rfl (Nat.le_of_ble_eq_true rfl) (fun v9 h9 e9 => ?_) (fun E9 h9 e9 => nomatch e9)
      cases e9
      show Ev _ _ _ _ _ _ 78 [some (.ref 396), some (.int (nI k))] [] (N, SH v T, PM I (nd (I 401) q 107 (nd (I 401) q 99 (nd (I 401) q 97 (nd (I 401) q 114 s)))), L, Dd)
      refine Ev.sg hX (sX7_parsesT_78.sub 0 1) (pc' := 79) (ls' := [some (.ref 396), some (.int (nI k))]) (st' := [.ref 396]) (h' := (N, SH v T, PM I (nd (I 401) q 107 (nd (I 401) q 99 (nd (I 401) q 97 (nd (I 401) q 114 s)))), L, Dd)) rfl ?_
      refine Ev.getf (sX7_parsesT_78.lk 1 (q := (79, .getfield 39, 7, 16)) rfl) rfl rfl (sX7_parsesT_78.dc 1 (q := (79, .getfield 39, 7, 16)) rfl) ?_
      show Ev _ _ _ _ _ _ 82 [some (.ref 396), some (.int (nI k))] [.ref 404] (N, SH v T, PM I (nd (I 401) q 107 (nd (I 401) q 99 (nd (I 401) q 97 (nd (I 401) q 114 s)))), L, Dd)
      refine Ev.sg hX (sX7_parsesT_78.sub 2 6) (pc' := 89) (ls' := [some (.ref 396), some (.int (nI k))]) (st' := [.int 2, .int 32, .ref 396, .int ((nI k) + 1), .ref 404]) (h' := (N, SH v T, PM I (nd (I 401) q 107 (nd (I 401) q 99 (nd (I 401) q 97 (nd (I 401) q 114 s)))), L, Dd)) rfl ?_
      refine Ev.callV (As := [.int 32, .int 2]) (rest := [.int ((nI k) + 1), .ref 404]) dvX7_digitsAfter mkX7_188 rfl rfl dX7_parsesT_89 (m_digitsAfter (d := d - 1) (s := (nd (I 401) q 107 (nd (I 401) q 99 (nd (I 401) q 97 (nd (I 401) q 114 s))))) (n := 2) hX (by omega) hq hty (Nat.le_trans (nd_b (nd_b (nd_b (nd_b hb)))) (by decide)) (by decide)) ⟨by omega, by show 5 + 19 + 40 * _ ≤ 40 * _; omega⟩ ⟨Nat.zero_le _, Nat.zero_le _⟩ rfl (Nat.le_of_ble_eq_true rfl) (fun v9 h9 e9 => ?_) (fun E9 h9 e9 => nomatch e9)
      cases e9
      show Ev _ _ _ _ _ _ 92 [some (.ref 396), some (.int (nI k))] [.int (dv (I 401) q 32 2 (nd (I 401) q 107 (nd (I 401) q 99 (nd (I 401) q 97 (nd (I 401) q 114 s))))), .int ((nI k) + 1), .ref 404] (N, SH v T, PM I (dd9 (I 401) q 32 2 (nd (I 401) q 107 (nd (I 401) q 99 (nd (I 401) q 97 (nd (I 401) q 114 s))))), L, Dd)
      refine Ev.iastE (n := (k + 1)) (N := 360) hX rfl (naI rfl rfl) (by omega) (by decide) dX7_parsesT_92 ?_
      show Ev _ _ _ _ _ _ 93 [some (.ref 396), some (.int (nI k))] [] (N, SH v T, up2 (PM I (dd9 (I 401) q 32 2 (nd (I 401) q 107 (nd (I 401) q 99 (nd (I 401) q 97 (nd (I 401) q 114 s)))))) 404 (k + 1) (dv (I 401) q 32 2 (nd (I 401) q 107 (nd (I 401) q 99 (nd (I 401) q 97 (nd (I 401) q 114 s))))), L, Dd)
      rw [PM_P]
      show Ev _ _ _ _ _ _ 93 [some (.ref 396), some (.int (nI k))] [] (N, SH v T, PM I (dw (I 401) q 32 2 (k + 1) (nd (I 401) q 107 (nd (I 401) q 99 (nd (I 401) q 97 (nd (I 401) q 114 s))))), L, Dd)
      refine Ev.sg hX (sX7_parsesT_93.sub 0 1) (pc' := 94) (ls' := [some (.ref 396), some (.int (nI k))]) (st' := [.ref 396]) (h' := (N, SH v T, PM I (dw (I 401) q 32 2 (k + 1) (nd (I 401) q 107 (nd (I 401) q 99 (nd (I 401) q 97 (nd (I 401) q 114 s))))), L, Dd)) rfl ?_
      refine Ev.getf (sX7_parsesT_93.lk 1 (q := (94, .getfield 39, 7, 16)) rfl) rfl rfl (sX7_parsesT_93.dc 1 (q := (94, .getfield 39, 7, 16)) rfl) ?_
      show Ev _ _ _ _ _ _ 97 [some (.ref 396), some (.int (nI k))] [.ref 404] (N, SH v T, PM I (dw (I 401) q 32 2 (k + 1) (nd (I 401) q 107 (nd (I 401) q 99 (nd (I 401) q 97 (nd (I 401) q 114 s))))), L, Dd)
      refine Ev.sg hX (sX7_parsesT_93.sub 2 6) (pc' := 104) (ls' := [some (.ref 396), some (.int (nI k))]) (st' := [.int 1, .int 32, .ref 396, .int ((nI k) + 2), .ref 404]) (h' := (N, SH v T, PM I (dw (I 401) q 32 2 (k + 1) (nd (I 401) q 107 (nd (I 401) q 99 (nd (I 401) q 97 (nd (I 401) q 114 s))))), L, Dd)) rfl ?_
      refine Ev.callV (As := [.int 32, .int 1]) (rest := [.int ((nI k) + 2), .ref 404]) dvX7_digitsAfter mkX7_188 rfl rfl dX7_parsesT_104 (m_digitsAfter (d := d - 1) (s := (dw (I 401) q 32 2 (k + 1) (nd (I 401) q 107 (nd (I 401) q 99 (nd (I 401) q 97 (nd (I 401) q 114 s)))))) (n := 1) hX (by omega) hq hty (Nat.le_trans (dw_b (nd_b (nd_b (nd_b (nd_b hb))))) (by decide)) (by decide)) ⟨by omega, by show 5 + 19 + 40 * _ ≤ 40 * _; omega⟩ ⟨Nat.zero_le _, Nat.zero_le _⟩ rfl (Nat.le_of_ble_eq_true rfl) (fun v9 h9 e9 => ?_) (fun E9 h9 e9 => nomatch e9)
      cases e9
      show Ev _ _ _ _ _ _ 107 [some (.ref 396), some (.int (nI k))] [.int (dv (I 401) q 32 1 (dw (I 401) q 32 2 (k + 1) (nd (I 401) q 107 (nd (I 401) q 99 (nd (I 401) q 97 (nd (I 401) q 114 s)))))), .int ((nI k) + 2), .ref 404] (N, SH v T, PM I (dd9 (I 401) q 32 1 (dw (I 401) q 32 2 (k + 1) (nd (I 401) q 107 (nd (I 401) q 99 (nd (I 401) q 97 (nd (I 401) q 114 s)))))), L, Dd)
      refine Ev.iastE (n := (k + 2)) (N := 360) hX rfl (naI rfl rfl) (by omega) (by decide) dX7_parsesT_107 ?_
      show Ev _ _ _ _ _ _ 108 [some (.ref 396), some (.int (nI k))] [] (N, SH v T, up2 (PM I (dd9 (I 401) q 32 1 (dw (I 401) q 32 2 (k + 1) (nd (I 401) q 107 (nd (I 401) q 99 (nd (I 401) q 97 (nd (I 401) q 114 s))))))) 404 (k + 2) (dv (I 401) q 32 1 (dw (I 401) q 32 2 (k + 1) (nd (I 401) q 107 (nd (I 401) q 99 (nd (I 401) q 97 (nd (I 401) q 114 s)))))), L, Dd)
      rw [PM_P]
      show Ev _ _ _ _ _ _ 108 [some (.ref 396), some (.int (nI k))] [] (N, SH v T, PM I (dw (I 401) q 32 1 (k + 2) (dw (I 401) q 32 2 (k + 1) (nd (I 401) q 107 (nd (I 401) q 99 (nd (I 401) q 97 (nd (I 401) q 114 s)))))), L, Dd)
      refine Ev.vret dX7_parsesT_108 rfl ?_
      rw [pT, if_neg (fun w => b2 w.2)]
    · refine Ev.sg hX (sX7_parsesT_28.sub 0 1) (pc' := 29) (ls' := [some (.ref 396), some (.int (nI k))]) (st' := [.ref 396]) (h' := (N, SH v T, PM I (nd (I 401) q 97 (nd (I 401) q 114 s)), L, Dd)) rfl ?_
      refine Ev.getf (sX7_parsesT_28.lk 1 (q := (29, .getfield 39, 7, 16)) rfl) rfl rfl (sX7_parsesT_28.dc 1 (q := (29, .getfield 39, 7, 16)) rfl) ?_
      show Ev _ _ _ _ _ _ 32 [some (.ref 396), some (.int (nI k))] [.ref 404] (N, SH v T, PM I (nd (I 401) q 97 (nd (I 401) q 114 s)), L, Dd)
      refine Ev.sg hX (sX7_parsesT_28.sub 2 2) (pc' := 35) (ls' := [some (.ref 396), some (.int (nI k))]) (st' := [.int 105, .int (nI k), .ref 404]) (h' := (N, SH v T, PM I (nd (I 401) q 97 (nd (I 401) q 114 s)), L, Dd)) rfl ?_
      refine Ev.iastE (n := k) (N := 360) hX rfl rfl (by omega) (by decide) dX7_parsesT_35 ?_
      show Ev _ _ _ _ _ _ 36 [some (.ref 396), some (.int (nI k))] [] (N, SH v T, up2 (PM I (nd (I 401) q 97 (nd (I 401) q 114 s))) 404 k 105, L, Dd)
      rw [PM_P]
      show Ev _ _ _ _ _ _ 36 [some (.ref 396), some (.int (nI k))] [] (N, SH v T, PM I (wr (nd (I 401) q 97 (nd (I 401) q 114 s)) k 105), L, Dd)
      refine Ev.sg hX (sX7_parsesT_36.sub 0 2) (pc' := 39) (ls' := [some (.ref 396), some (.int (nI k))]) (st' := [.int 105, .ref 396]) (h' := (N, SH v T, PM I (wr (nd (I 401) q 97 (nd (I 401) q 114 s)) k 105), L, Dd)) rfl ?_
      refine Ev.callV (As := [.int 105]) (rest := []) dvX7_needs mkX7_185 rfl rfl dX7_parsesT_39 (m_needs (d := d - 1) (s := (wr (nd (I 401) q 97 (nd (I 401) q 114 s)) k 105)) hX (by omega) hq hty (Nat.le_trans (wr_b (nd_b (nd_b hb))) (by decide))) ⟨by omega, by show 2 + 19 + 40 * _ ≤ 40 * _; omega⟩ ⟨Nat.zero_le _, Nat.zero_le _⟩ rfl (Nat.le_of_ble_eq_true rfl) (fun v9 h9 e9 => ?_) (fun E9 h9 e9 => nomatch e9)
      cases e9
      show Ev _ _ _ _ _ _ 42 [some (.ref 396), some (.int (nI k))] [] (N, SH v T, PM I (nd (I 401) q 105 (wr (nd (I 401) q 97 (nd (I 401) q 114 s)) k 105)), L, Dd)
      refine Ev.sg hX (sX7_parsesT_42.sub 0 2) (pc' := 45) (ls' := [some (.ref 396), some (.int (nI k))]) (st' := [.int 110, .ref 396]) (h' := (N, SH v T, PM I (nd (I 401) q 105 (wr (nd (I 401) q 97 (nd (I 401) q 114 s)) k 105)), L, Dd)) rfl ?_
      refine Ev.callV (As := [.int 110]) (rest := []) dvX7_needs mkX7_185 rfl rfl dX7_parsesT_45 (m_needs (d := d - 1) (s := (nd (I 401) q 105 (wr (nd (I 401) q 97 (nd (I 401) q 114 s)) k 105))) hX (by omega) hq hty (Nat.le_trans (nd_b (wr_b (nd_b (nd_b hb)))) (by decide))) ⟨by omega, by show 2 + 19 + 40 * _ ≤ 40 * _; omega⟩ ⟨Nat.zero_le _, Nat.zero_le _⟩ rfl (Nat.le_of_ble_eq_true rfl) (fun v9 h9 e9 => ?_) (fun E9 h9 e9 => nomatch e9)
      cases e9
      show Ev _ _ _ _ _ _ 48 [some (.ref 396), some (.int (nI k))] [] (N, SH v T, PM I (nd (I 401) q 110 (nd (I 401) q 105 (wr (nd (I 401) q 97 (nd (I 401) q 114 s)) k 105))), L, Dd)
      refine Ev.sg hX (sX7_parsesT_48.sub 0 1) (pc' := 49) (ls' := [some (.ref 396), some (.int (nI k))]) (st' := [.ref 396]) (h' := (N, SH v T, PM I (nd (I 401) q 110 (nd (I 401) q 105 (wr (nd (I 401) q 97 (nd (I 401) q 114 s)) k 105))), L, Dd)) rfl ?_
      refine Ev.getf (sX7_parsesT_48.lk 1 (q := (49, .getfield 39, 7, 16)) rfl) rfl rfl (sX7_parsesT_48.dc 1 (q := (49, .getfield 39, 7, 16)) rfl) ?_
      show Ev _ _ _ _ _ _ 52 [some (.ref 396), some (.int (nI k))] [.ref 404] (N, SH v T, PM I (nd (I 401) q 110 (nd (I 401) q 105 (wr (nd (I 401) q 97 (nd (I 401) q 114 s)) k 105))), L, Dd)
      refine Ev.sg hX (sX7_parsesT_48.sub 2 6) (pc' := 59) (ls' := [some (.ref 396), some (.int (nI k))]) (st' := [.int 1, .int 32, .ref 396, .int ((nI k) + 1), .ref 404]) (h' := (N, SH v T, PM I (nd (I 401) q 110 (nd (I 401) q 105 (wr (nd (I 401) q 97 (nd (I 401) q 114 s)) k 105))), L, Dd)) rfl ?_
      refine Ev.callV (As := [.int 32, .int 1]) (rest := [.int ((nI k) + 1), .ref 404]) dvX7_digitsAfter mkX7_188 rfl rfl dX7_parsesT_59 (m_digitsAfter (d := d - 1) (s := (nd (I 401) q 110 (nd (I 401) q 105 (wr (nd (I 401) q 97 (nd (I 401) q 114 s)) k 105)))) (n := 1) hX (by omega) hq hty (Nat.le_trans (nd_b (nd_b (wr_b (nd_b (nd_b hb))))) (by decide)) (by decide)) ⟨by omega, by show 5 + 19 + 40 * _ ≤ 40 * _; omega⟩ ⟨Nat.zero_le _, Nat.zero_le _⟩ rfl (Nat.le_of_ble_eq_true rfl) (fun v9 h9 e9 => ?_) (fun E9 h9 e9 => nomatch e9)
      cases e9
      show Ev _ _ _ _ _ _ 62 [some (.ref 396), some (.int (nI k))] [.int (dv (I 401) q 32 1 (nd (I 401) q 110 (nd (I 401) q 105 (wr (nd (I 401) q 97 (nd (I 401) q 114 s)) k 105)))), .int ((nI k) + 1), .ref 404] (N, SH v T, PM I (dd9 (I 401) q 32 1 (nd (I 401) q 110 (nd (I 401) q 105 (wr (nd (I 401) q 97 (nd (I 401) q 114 s)) k 105)))), L, Dd)
      refine Ev.iastE (n := (k + 1)) (N := 360) hX rfl (naI rfl rfl) (by omega) (by decide) dX7_parsesT_62 ?_
      show Ev _ _ _ _ _ _ 63 [some (.ref 396), some (.int (nI k))] [] (N, SH v T, up2 (PM I (dd9 (I 401) q 32 1 (nd (I 401) q 110 (nd (I 401) q 105 (wr (nd (I 401) q 97 (nd (I 401) q 114 s)) k 105))))) 404 (k + 1) (dv (I 401) q 32 1 (nd (I 401) q 110 (nd (I 401) q 105 (wr (nd (I 401) q 97 (nd (I 401) q 114 s)) k 105)))), L, Dd)
      rw [PM_P]
      show Ev _ _ _ _ _ _ 63 [some (.ref 396), some (.int (nI k))] [] (N, SH v T, PM I (dw (I 401) q 32 1 (k + 1) (nd (I 401) q 110 (nd (I 401) q 105 (wr (nd (I 401) q 97 (nd (I 401) q 114 s)) k 105)))), L, Dd)
      refine Ev.sg hX (sX7_parsesT_63.sub 0 1) (pc' := 93) (ls' := [some (.ref 396), some (.int (nI k))]) (st' := []) (h' := (N, SH v T, PM I (dw (I 401) q 32 1 (k + 1) (nd (I 401) q 110 (nd (I 401) q 105 (wr (nd (I 401) q 97 (nd (I 401) q 114 s)) k 105)))), L, Dd)) rfl ?_
      refine Ev.sg hX (sX7_parsesT_93.sub 0 1) (pc' := 94) (ls' := [some (.ref 396), some (.int (nI k))]) (st' := [.ref 396]) (h' := (N, SH v T, PM I (dw (I 401) q 32 1 (k + 1) (nd (I 401) q 110 (nd (I 401) q 105 (wr (nd (I 401) q 97 (nd (I 401) q 114 s)) k 105)))), L, Dd)) rfl ?_
      refine Ev.getf (sX7_parsesT_93.lk 1 (q := (94, .getfield 39, 7, 16)) rfl) rfl rfl (sX7_parsesT_93.dc 1 (q := (94, .getfield 39, 7, 16)) rfl) ?_
      show Ev _ _ _ _ _ _ 97 [some (.ref 396), some (.int (nI k))] [.ref 404] (N, SH v T, PM I (dw (I 401) q 32 1 (k + 1) (nd (I 401) q 110 (nd (I 401) q 105 (wr (nd (I 401) q 97 (nd (I 401) q 114 s)) k 105)))), L, Dd)
      refine Ev.sg hX (sX7_parsesT_93.sub 2 6) (pc' := 104) (ls' := [some (.ref 396), some (.int (nI k))]) (st' := [.int 1, .int 32, .ref 396, .int ((nI k) + 2), .ref 404]) (h' := (N, SH v T, PM I (dw (I 401) q 32 1 (k + 1) (nd (I 401) q 110 (nd (I 401) q 105 (wr (nd (I 401) q 97 (nd (I 401) q 114 s)) k 105)))), L, Dd)) rfl ?_
      refine Ev.callV (As := [.int 32, .int 1]) (rest := [.int ((nI k) + 2), .ref 404]) dvX7_digitsAfter mkX7_188 rfl rfl dX7_parsesT_104 (m_digitsAfter (d := d - 1) (s := (dw (I 401) q 32 1 (k + 1) (nd (I 401) q 110 (nd (I 401) q 105 (wr (nd (I 401) q 97 (nd (I 401) q 114 s)) k 105))))) (n := 1) hX (by omega) hq hty (Nat.le_trans (dw_b (nd_b (nd_b (wr_b (nd_b (nd_b hb)))))) (by decide)) (by decide)) ⟨by omega, by show 5 + 19 + 40 * _ ≤ 40 * _; omega⟩ ⟨Nat.zero_le _, Nat.zero_le _⟩ rfl (Nat.le_of_ble_eq_true rfl) (fun v9 h9 e9 => ?_) (fun E9 h9 e9 => nomatch e9)
      cases e9
      show Ev _ _ _ _ _ _ 107 [some (.ref 396), some (.int (nI k))] [.int (dv (I 401) q 32 1 (dw (I 401) q 32 1 (k + 1) (nd (I 401) q 110 (nd (I 401) q 105 (wr (nd (I 401) q 97 (nd (I 401) q 114 s)) k 105))))), .int ((nI k) + 2), .ref 404] (N, SH v T, PM I (dd9 (I 401) q 32 1 (dw (I 401) q 32 1 (k + 1) (nd (I 401) q 110 (nd (I 401) q 105 (wr (nd (I 401) q 97 (nd (I 401) q 114 s)) k 105))))), L, Dd)
      refine Ev.iastE (n := (k + 2)) (N := 360) hX rfl (naI rfl rfl) (by omega) (by decide) dX7_parsesT_107 ?_
      show Ev _ _ _ _ _ _ 108 [some (.ref 396), some (.int (nI k))] [] (N, SH v T, up2 (PM I (dd9 (I 401) q 32 1 (dw (I 401) q 32 1 (k + 1) (nd (I 401) q 110 (nd (I 401) q 105 (wr (nd (I 401) q 97 (nd (I 401) q 114 s)) k 105)))))) 404 (k + 2) (dv (I 401) q 32 1 (dw (I 401) q 32 1 (k + 1) (nd (I 401) q 110 (nd (I 401) q 105 (wr (nd (I 401) q 97 (nd (I 401) q 114 s)) k 105))))), L, Dd)
      rw [PM_P]
      show Ev _ _ _ _ _ _ 108 [some (.ref 396), some (.int (nI k))] [] (N, SH v T, PM I (dw (I 401) q 32 1 (k + 2) (dw (I 401) q 32 1 (k + 1) (nd (I 401) q 110 (nd (I 401) q 105 (wr (nd (I 401) q 97 (nd (I 401) q 114 s)) k 105))))), L, Dd)
      refine Ev.vret dX7_parsesT_108 rfl ?_
      rw [pT, if_pos ⟨b1, b2⟩]
theorem m_parsesS (hX : JXok X) (hd : 5 ≤ d) (hq : q ≤ 60) (hty : I 396 7 = nI q) (hb : s.1 ≤ 800) (hk : k ≤ 300) : MT X d 0 0 jdX7_parsesS [.ref 396, .int (nI k)] (N, SH v T, PM I s, L, Dd) (fun R => R = .inl (none, (N, SH v T, PM I (pS (I 401) q k s), L, Dd))) := by
  refine MT.mk dvX7_parsesS.1 ?_
  refine Ev.sg hX (sX7_parsesS_0.sub 0 1) (pc' := 1) (ls' := [some (.ref 396), some (.int (nI k))]) (st' := [.ref 396]) (h' := (N, SH v T, PM I s, L, Dd)) rfl ?_
  refine Ev.callV (As := []) (rest := []) dvX7_here mkX7_182 rfl rfl dX7_parsesS_1 (m_here (d := d - 1) (s := s) hX (by omega) hq hty (Nat.le_trans hb (by decide))) ⟨by omega, by show 1 + 19 + 40 * _ ≤ 40 * _; omega⟩ ⟨Nat.zero_le _, Nat.zero_le _⟩ rfl (Nat.le_of_ble_eq_true rfl) (fun v9 h9 e9 => ?_) (fun E9 h9 e9 => nomatch e9)
  cases e9
  show Ev _ _ _ _ _ _ 4 [some (.ref 396), some (.int (nI k))] [.int (chA (I 401) q s.1)] (N, SH v T, PM I s, L, Dd)
  refine Ev.sg hX (sX7_parsesS_4.sub 0 1) (pc' := 6) (ls' := [some (.ref 396), some (.int (nI k))]) (st' := [.int 104, .int (chA (I 401) q s.1)]) (h' := (N, SH v T, PM I s, L, Dd)) rfl ?_
  refine Ev.icmp_ne (tgt := 81) dX7_parsesS_6 (by decide) (fun b1 => ?_) (fun b1 => ?_)
  · refine Ev.sg hX (sX7_parsesS_81.sub 0 4) (pc' := 88) (ls' := [some (.ref 396), some (.int (nI k))]) (st' := [.int 116, .int 105, .int 119, .ref 396]) (h' := (N, SH v T, PM I s, L, Dd)) rfl ?_
    refine Ev.callV (As := [.int 119, .int 105, .int 116]) (rest := []) dvX7_needsThree mkX7_191 rfl rfl dX7_parsesS_88 (m_needsThree (d := d - 1) (s := s) hX (by omega) hq hty (Nat.le_trans hb (by decide))) ⟨by omega, by show 4 + 19 + 40 * _ ≤ 40 * _; omega⟩ ⟨Nat.zero_le _, Nat.zero_le _⟩ rfl (Nat.le_of_ble_eq_true rfl) (fun v9 h9 e9 => ?_) (fun E9 h9 e9 => nomatch e9)
    cases e9
    show Ev _ _ _ _ _ _ 91 [some (.ref 396), some (.int (nI k))] [] (N, SH v T, PM I (nd (I 401) q 116 (nd (I 401) q 105 (nd (I 401) q 119 s))), L, Dd)
    refine Ev.sg hX (sX7_parsesS_91.sub 0 2) (pc' := 94) (ls' := [some (.ref 396), some (.int (nI k))]) (st' := [.int 99, .ref 396]) (h' := (N, SH v T, PM I (nd (I 401) q 116 (nd (I 401) q 105 (nd (I 401) q 119 s))), L, Dd)) rfl ?_
    refine Ev.callV (As := [.int 99]) (rest := []) dvX7_needs mkX7_185 rfl rfl dX7_parsesS_94 (m_needs (d := d - 1) (s := (nd (I 401) q 116 (nd (I 401) q 105 (nd (I 401) q 119 s)))) hX (by omega) hq hty (Nat.le_trans (nd_b (nd_b (nd_b hb))) (by decide))) ⟨by omega, by show 2 + 19 + 40 * _ ≤ 40 * _; omega⟩ ⟨Nat.zero_le _, Nat.zero_le _⟩ rfl (Nat.le_of_ble_eq_true rfl) (fun v9 h9 e9 => ?_) (fun E9 h9 e9 => nomatch e9)
    cases e9
    show Ev _ _ _ _ _ _ 97 [some (.ref 396), some (.int (nI k))] [] (N, SH v T, PM I (nd (I 401) q 99 (nd (I 401) q 116 (nd (I 401) q 105 (nd (I 401) q 119 s)))), L, Dd)
    refine Ev.sg hX (sX7_parsesS_97.sub 0 2) (pc' := 100) (ls' := [some (.ref 396), some (.int (nI k))]) (st' := [.int 104, .ref 396]) (h' := (N, SH v T, PM I (nd (I 401) q 99 (nd (I 401) q 116 (nd (I 401) q 105 (nd (I 401) q 119 s)))), L, Dd)) rfl ?_
    refine Ev.callV (As := [.int 104]) (rest := []) dvX7_needs mkX7_185 rfl rfl dX7_parsesS_100 (m_needs (d := d - 1) (s := (nd (I 401) q 99 (nd (I 401) q 116 (nd (I 401) q 105 (nd (I 401) q 119 s))))) hX (by omega) hq hty (Nat.le_trans (nd_b (nd_b (nd_b (nd_b hb)))) (by decide))) ⟨by omega, by show 2 + 19 + 40 * _ ≤ 40 * _; omega⟩ ⟨Nat.zero_le _, Nat.zero_le _⟩ rfl (Nat.le_of_ble_eq_true rfl) (fun v9 h9 e9 => ?_) (fun E9 h9 e9 => nomatch e9)
    cases e9
    show Ev _ _ _ _ _ _ 103 [some (.ref 396), some (.int (nI k))] [] (N, SH v T, PM I (nd (I 401) q 104 (nd (I 401) q 99 (nd (I 401) q 116 (nd (I 401) q 105 (nd (I 401) q 119 s))))), L, Dd)
    refine Ev.sg hX (sX7_parsesS_103.sub 0 2) (pc' := 105) (ls' := [some (.ref 396), some (.int (nI k))]) (st' := [.int (nI k), .ref 396]) (h' := (N, SH v T, PM I (nd (I 401) q 104 (nd (I 401) q 99 (nd (I 401) q 116 (nd (I 401) q 105 (nd (I 401) q 119 s))))), L, Dd)) rfl ?_
    refine Ev.callV (As := [.int (nI k)]) (rest := []) dvX7_parsesPair mkX7_195 rfl rfl dX7_parsesS_105 (m_parsesPair (d := d - 1) (s := (nd (I 401) q 104 (nd (I 401) q 99 (nd (I 401) q 116 (nd (I 401) q 105 (nd (I 401) q 119 s)))))) (k := k) hX (by omega) hq hty (Nat.le_trans (nd_b (nd_b (nd_b (nd_b (nd_b hb))))) (by decide)) (by omega)) ⟨by omega, by show 2 + 19 + 40 * _ ≤ 40 * _; omega⟩ ⟨Nat.zero_le _, Nat.zero_le _⟩ rfl (Nat.le_of_ble_eq_true rfl) (fun v9 h9 e9 => ?_) (fun E9 h9 e9 => nomatch e9)
    cases e9
    show Ev _ _ _ _ _ _ 108 [some (.ref 396), some (.int (nI k))] [] (N, SH v T, PM I (pP (I 401) q k (nd (I 401) q 104 (nd (I 401) q 99 (nd (I 401) q 116 (nd (I 401) q 105 (nd (I 401) q 119 s)))))), L, Dd)
    refine Ev.vret dX7_parsesS_108 rfl ?_
    rw [pS, if_neg b1]
  · refine Ev.sg hX (sX7_parsesS_9.sub 0 1) (pc' := 10) (ls' := [some (.ref 396), some (.int (nI k))]) (st' := [.ref 396]) (h' := (N, SH v T, PM I s, L, Dd)) rfl ?_
    refine Ev.getf (sX7_parsesS_9.lk 1 (q := (10, .getfield 39, 7, 16)) rfl) rfl rfl (sX7_parsesS_9.dc 1 (q := (10, .getfield 39, 7, 16)) rfl) ?_
    show Ev _ _ _ _ _ _ 13 [some (.ref 396), some (.int (nI k))] [.ref 404] (N, SH v T, PM I s, L, Dd)
    refine Ev.sg hX (sX7_parsesS_9.sub 2 2) (pc' := 16) (ls' := [some (.ref 396), some (.int (nI k))]) (st' := [.int 104, .int (nI k), .ref 404]) (h' := (N, SH v T, PM I s, L, Dd)) rfl ?_
    refine Ev.iastE (n := k) (N := 360) hX rfl rfl (by omega) (by decide) dX7_parsesS_16 ?_
    show Ev _ _ _ _ _ _ 17 [some (.ref 396), some (.int (nI k))] [] (N, SH v T, up2 (PM I s) 404 k 104, L, Dd)
    rw [PM_P]
    show Ev _ _ _ _ _ _ 17 [some (.ref 396), some (.int (nI k))] [] (N, SH v T, PM I (wr s k 104), L, Dd)
    refine Ev.sg hX (sX7_parsesS_17.sub 0 4) (pc' := 24) (ls' := [some (.ref 396), some (.int (nI k))]) (st' := [.int 110, .int 117, .int 104, .ref 396]) (h' := (N, SH v T, PM I (wr s k 104), L, Dd)) rfl ?_
    refine Ev.callV (As := [.int 104, .int 117, .int 110]) (rest := []) dvX7_needsThree mkX7_191 rfl rfl dX7_parsesS_24 (m_needsThree (d := d - 1) (s := (wr s k 104)) hX (by omega) hq hty (Nat.le_trans (wr_b hb) (by decide))) ⟨by omega, by show 4 + 19 + 40 * _ ≤ 40 * _; omega⟩ ⟨Nat.zero_le _, Nat.zero_le _⟩ rfl (Nat.le_of_ble_eq_true rfl) (fun v9 h9 e9 => ?_) (fun E9 h9 e9 => nomatch e9)
    cases e9
    show Ev _ _ _ _ _ _ 27 [some (.ref 396), some (.int (nI k))] [] (N, SH v T, PM I (nd (I 401) q 110 (nd (I 401) q 117 (nd (I 401) q 104 (wr s k 104)))), L, Dd)
    refine Ev.sg hX (sX7_parsesS_27.sub 0 2) (pc' := 30) (ls' := [some (.ref 396), some (.int (nI k))]) (st' := [.int 116, .ref 396]) (h' := (N, SH v T, PM I (nd (I 401) q 110 (nd (I 401) q 117 (nd (I 401) q 104 (wr s k 104)))), L, Dd)) rfl ?_
    refine Ev.callV (As := [.int 116]) (rest := []) dvX7_needs mkX7_185 rfl rfl dX7_parsesS_30 (m_needs (d := d - 1) (s := (nd (I 401) q 110 (nd (I 401) q 117 (nd (I 401) q 104 (wr s k 104))))) hX (by omega) hq hty (Nat.le_trans (nd_b (nd_b (nd_b (wr_b hb)))) (by decide))) ⟨by omega, by show 2 + 19 + 40 * _ ≤ 40 * _; omega⟩ ⟨Nat.zero_le _, Nat.zero_le _⟩ rfl (Nat.le_of_ble_eq_true rfl) (fun v9 h9 e9 => ?_) (fun E9 h9 e9 => nomatch e9)
    cases e9
    show Ev _ _ _ _ _ _ 33 [some (.ref 396), some (.int (nI k))] [] (N, SH v T, PM I (nd (I 401) q 116 (nd (I 401) q 110 (nd (I 401) q 117 (nd (I 401) q 104 (wr s k 104))))), L, Dd)
    refine Ev.sg hX (sX7_parsesS_33.sub 0 1) (pc' := 34) (ls' := [some (.ref 396), some (.int (nI k))]) (st' := [.ref 396]) (h' := (N, SH v T, PM I (nd (I 401) q 116 (nd (I 401) q 110 (nd (I 401) q 117 (nd (I 401) q 104 (wr s k 104))))), L, Dd)) rfl ?_
    refine Ev.getf (sX7_parsesS_33.lk 1 (q := (34, .getfield 39, 7, 16)) rfl) rfl rfl (sX7_parsesS_33.dc 1 (q := (34, .getfield 39, 7, 16)) rfl) ?_
    show Ev _ _ _ _ _ _ 37 [some (.ref 396), some (.int (nI k))] [.ref 404] (N, SH v T, PM I (nd (I 401) q 116 (nd (I 401) q 110 (nd (I 401) q 117 (nd (I 401) q 104 (wr s k 104))))), L, Dd)
    refine Ev.sg hX (sX7_parsesS_33.sub 2 6) (pc' := 44) (ls' := [some (.ref 396), some (.int (nI k))]) (st' := [.int 1, .int 32, .ref 396, .int ((nI k) + 1), .ref 404]) (h' := (N, SH v T, PM I (nd (I 401) q 116 (nd (I 401) q 110 (nd (I 401) q 117 (nd (I 401) q 104 (wr s k 104))))), L, Dd)) rfl ?_
    refine Ev.callV (As := [.int 32, .int 1]) (rest := [.int ((nI k) + 1), .ref 404]) dvX7_digitsAfter mkX7_188 rfl rfl dX7_parsesS_44 (m_digitsAfter (d := d - 1) (s := (nd (I 401) q 116 (nd (I 401) q 110 (nd (I 401) q 117 (nd (I 401) q 104 (wr s k 104)))))) (n := 1) hX (by omega) hq hty (Nat.le_trans (nd_b (nd_b (nd_b (nd_b (wr_b hb))))) (by decide)) (by decide)) ⟨by omega, by show 5 + 19 + 40 * _ ≤ 40 * _; omega⟩ ⟨Nat.zero_le _, Nat.zero_le _⟩ rfl (Nat.le_of_ble_eq_true rfl) (fun v9 h9 e9 => ?_) (fun E9 h9 e9 => nomatch e9)
    cases e9
    show Ev _ _ _ _ _ _ 47 [some (.ref 396), some (.int (nI k))] [.int (dv (I 401) q 32 1 (nd (I 401) q 116 (nd (I 401) q 110 (nd (I 401) q 117 (nd (I 401) q 104 (wr s k 104)))))), .int ((nI k) + 1), .ref 404] (N, SH v T, PM I (dd9 (I 401) q 32 1 (nd (I 401) q 116 (nd (I 401) q 110 (nd (I 401) q 117 (nd (I 401) q 104 (wr s k 104)))))), L, Dd)
    refine Ev.iastE (n := (k + 1)) (N := 360) hX rfl (naI rfl rfl) (by omega) (by decide) dX7_parsesS_47 ?_
    show Ev _ _ _ _ _ _ 48 [some (.ref 396), some (.int (nI k))] [] (N, SH v T, up2 (PM I (dd9 (I 401) q 32 1 (nd (I 401) q 116 (nd (I 401) q 110 (nd (I 401) q 117 (nd (I 401) q 104 (wr s k 104))))))) 404 (k + 1) (dv (I 401) q 32 1 (nd (I 401) q 116 (nd (I 401) q 110 (nd (I 401) q 117 (nd (I 401) q 104 (wr s k 104)))))), L, Dd)
    rw [PM_P]
    show Ev _ _ _ _ _ _ 48 [some (.ref 396), some (.int (nI k))] [] (N, SH v T, PM I (dw (I 401) q 32 1 (k + 1) (nd (I 401) q 116 (nd (I 401) q 110 (nd (I 401) q 117 (nd (I 401) q 104 (wr s k 104)))))), L, Dd)
    refine Ev.sg hX (sX7_parsesS_48.sub 0 1) (pc' := 49) (ls' := [some (.ref 396), some (.int (nI k))]) (st' := [.ref 396]) (h' := (N, SH v T, PM I (dw (I 401) q 32 1 (k + 1) (nd (I 401) q 116 (nd (I 401) q 110 (nd (I 401) q 117 (nd (I 401) q 104 (wr s k 104)))))), L, Dd)) rfl ?_
    refine Ev.getf (sX7_parsesS_48.lk 1 (q := (49, .getfield 39, 7, 16)) rfl) rfl rfl (sX7_parsesS_48.dc 1 (q := (49, .getfield 39, 7, 16)) rfl) ?_
    show Ev _ _ _ _ _ _ 52 [some (.ref 396), some (.int (nI k))] [.ref 404] (N, SH v T, PM I (dw (I 401) q 32 1 (k + 1) (nd (I 401) q 116 (nd (I 401) q 110 (nd (I 401) q 117 (nd (I 401) q 104 (wr s k 104)))))), L, Dd)
    refine Ev.sg hX (sX7_parsesS_48.sub 2 6) (pc' := 59) (ls' := [some (.ref 396), some (.int (nI k))]) (st' := [.int 1, .int 62, .ref 396, .int ((nI k) + 2), .ref 404]) (h' := (N, SH v T, PM I (dw (I 401) q 32 1 (k + 1) (nd (I 401) q 116 (nd (I 401) q 110 (nd (I 401) q 117 (nd (I 401) q 104 (wr s k 104)))))), L, Dd)) rfl ?_
    refine Ev.callV (As := [.int 62, .int 1]) (rest := [.int ((nI k) + 2), .ref 404]) dvX7_digitsAfter mkX7_188 rfl rfl dX7_parsesS_59 (m_digitsAfter (d := d - 1) (s := (dw (I 401) q 32 1 (k + 1) (nd (I 401) q 116 (nd (I 401) q 110 (nd (I 401) q 117 (nd (I 401) q 104 (wr s k 104))))))) (n := 1) hX (by omega) hq hty (Nat.le_trans (dw_b (nd_b (nd_b (nd_b (nd_b (wr_b hb)))))) (by decide)) (by decide)) ⟨by omega, by show 5 + 19 + 40 * _ ≤ 40 * _; omega⟩ ⟨Nat.zero_le _, Nat.zero_le _⟩ rfl (Nat.le_of_ble_eq_true rfl) (fun v9 h9 e9 => ?_) (fun E9 h9 e9 => nomatch e9)
    cases e9
    show Ev _ _ _ _ _ _ 62 [some (.ref 396), some (.int (nI k))] [.int (dv (I 401) q 62 1 (dw (I 401) q 32 1 (k + 1) (nd (I 401) q 116 (nd (I 401) q 110 (nd (I 401) q 117 (nd (I 401) q 104 (wr s k 104))))))), .int ((nI k) + 2), .ref 404] (N, SH v T, PM I (dd9 (I 401) q 62 1 (dw (I 401) q 32 1 (k + 1) (nd (I 401) q 116 (nd (I 401) q 110 (nd (I 401) q 117 (nd (I 401) q 104 (wr s k 104))))))), L, Dd)
    refine Ev.iastE (n := (k + 2)) (N := 360) hX rfl (naI rfl rfl) (by omega) (by decide) dX7_parsesS_62 ?_
    show Ev _ _ _ _ _ _ 63 [some (.ref 396), some (.int (nI k))] [] (N, SH v T, up2 (PM I (dd9 (I 401) q 62 1 (dw (I 401) q 32 1 (k + 1) (nd (I 401) q 116 (nd (I 401) q 110 (nd (I 401) q 117 (nd (I 401) q 104 (wr s k 104)))))))) 404 (k + 2) (dv (I 401) q 62 1 (dw (I 401) q 32 1 (k + 1) (nd (I 401) q 116 (nd (I 401) q 110 (nd (I 401) q 117 (nd (I 401) q 104 (wr s k 104))))))), L, Dd)
    rw [PM_P]
    show Ev _ _ _ _ _ _ 63 [some (.ref 396), some (.int (nI k))] [] (N, SH v T, PM I (dw (I 401) q 62 1 (k + 2) (dw (I 401) q 32 1 (k + 1) (nd (I 401) q 116 (nd (I 401) q 110 (nd (I 401) q 117 (nd (I 401) q 104 (wr s k 104))))))), L, Dd)
    refine Ev.sg hX (sX7_parsesS_63.sub 0 1) (pc' := 64) (ls' := [some (.ref 396), some (.int (nI k))]) (st' := [.ref 396]) (h' := (N, SH v T, PM I (dw (I 401) q 62 1 (k + 2) (dw (I 401) q 32 1 (k + 1) (nd (I 401) q 116 (nd (I 401) q 110 (nd (I 401) q 117 (nd (I 401) q 104 (wr s k 104))))))), L, Dd)) rfl ?_
    refine Ev.getf (sX7_parsesS_63.lk 1 (q := (64, .getfield 39, 7, 16)) rfl) rfl rfl (sX7_parsesS_63.dc 1 (q := (64, .getfield 39, 7, 16)) rfl) ?_
    show Ev _ _ _ _ _ _ 67 [some (.ref 396), some (.int (nI k))] [.ref 404] (N, SH v T, PM I (dw (I 401) q 62 1 (k + 2) (dw (I 401) q 32 1 (k + 1) (nd (I 401) q 116 (nd (I 401) q 110 (nd (I 401) q 117 (nd (I 401) q 104 (wr s k 104))))))), L, Dd)
    refine Ev.sg hX (sX7_parsesS_63.sub 2 6) (pc' := 74) (ls' := [some (.ref 396), some (.int (nI k))]) (st' := [.int 1, .int 32, .ref 396, .int ((nI k) + 3), .ref 404]) (h' := (N, SH v T, PM I (dw (I 401) q 62 1 (k + 2) (dw (I 401) q 32 1 (k + 1) (nd (I 401) q 116 (nd (I 401) q 110 (nd (I 401) q 117 (nd (I 401) q 104 (wr s k 104))))))), L, Dd)) rfl ?_
    refine Ev.callV (As := [.int 32, .int 1]) (rest := [.int ((nI k) + 3), .ref 404]) dvX7_digitsAfter mkX7_188 rfl rfl dX7_parsesS_74 (m_digitsAfter (d := d - 1) (s := (dw (I 401) q 62 1 (k + 2) (dw (I 401) q 32 1 (k + 1) (nd (I 401) q 116 (nd (I 401) q 110 (nd (I 401) q 117 (nd (I 401) q 104 (wr s k 104)))))))) (n := 1) hX (by omega) hq hty (Nat.le_trans (dw_b (dw_b (nd_b (nd_b (nd_b (nd_b (wr_b hb))))))) (by decide)) (by decide)) ⟨by omega, by show 5 + 19 + 40 * _ ≤ 40 * _; omega⟩ ⟨Nat.zero_le _, Nat.zero_le _⟩ rfl (Nat.le_of_ble_eq_true rfl) (fun v9 h9 e9 => ?_) (fun E9 h9 e9 => nomatch e9)
    cases e9
    show Ev _ _ _ _ _ _ 77 [some (.ref 396), some (.int (nI k))] [.int (dv (I 401) q 32 1 (dw (I 401) q 62 1 (k + 2) (dw (I 401) q 32 1 (k + 1) (nd (I 401) q 116 (nd (I 401) q 110 (nd (I 401) q 117 (nd (I 401) q 104 (wr s k 104)))))))), .int ((nI k) + 3), .ref 404] (N, SH v T, PM I (dd9 (I 401) q 32 1 (dw (I 401) q 62 1 (k + 2) (dw (I 401) q 32 1 (k + 1) (nd (I 401) q 116 (nd (I 401) q 110 (nd (I 401) q 117 (nd (I 401) q 104 (wr s k 104)))))))), L, Dd)
    refine Ev.iastE (n := (k + 3)) (N := 360) hX rfl (naI rfl rfl) (by omega) (by decide) dX7_parsesS_77 ?_
    show Ev _ _ _ _ _ _ 78 [some (.ref 396), some (.int (nI k))] [] (N, SH v T, up2 (PM I (dd9 (I 401) q 32 1 (dw (I 401) q 62 1 (k + 2) (dw (I 401) q 32 1 (k + 1) (nd (I 401) q 116 (nd (I 401) q 110 (nd (I 401) q 117 (nd (I 401) q 104 (wr s k 104))))))))) 404 (k + 3) (dv (I 401) q 32 1 (dw (I 401) q 62 1 (k + 2) (dw (I 401) q 32 1 (k + 1) (nd (I 401) q 116 (nd (I 401) q 110 (nd (I 401) q 117 (nd (I 401) q 104 (wr s k 104)))))))), L, Dd)
    rw [PM_P]
    show Ev _ _ _ _ _ _ 78 [some (.ref 396), some (.int (nI k))] [] (N, SH v T, PM I (dw (I 401) q 32 1 (k + 3) (dw (I 401) q 62 1 (k + 2) (dw (I 401) q 32 1 (k + 1) (nd (I 401) q 116 (nd (I 401) q 110 (nd (I 401) q 117 (nd (I 401) q 104 (wr s k 104)))))))), L, Dd)
    refine Ev.sg hX (sX7_parsesS_78.sub 0 1) (pc' := 108) (ls' := [some (.ref 396), some (.int (nI k))]) (st' := []) (h' := (N, SH v T, PM I (dw (I 401) q 32 1 (k + 3) (dw (I 401) q 62 1 (k + 2) (dw (I 401) q 32 1 (k + 1) (nd (I 401) q 116 (nd (I 401) q 110 (nd (I 401) q 117 (nd (I 401) q 104 (wr s k 104)))))))), L, Dd)) rfl ?_
    refine Ev.vret dX7_parsesS_108 rfl ?_
    rw [pS, if_pos b1]
theorem m_parsesC (hX : JXok X) (hd : 5 ≤ d) (hq : q ≤ 60) (hty : I 396 7 = nI q) (hb : s.1 ≤ 800) (hk : k ≤ 300) : MT X d 0 0 jdX7_parsesC [.ref 396, .int (nI k)] (N, SH v T, PM I s, L, Dd) (fun R => R = .inl (none, (N, SH v T, PM I (pC (I 401) q k s), L, Dd))) := by
  refine MT.mk dvX7_parsesC.1 ?_
  refine Ev.sg hX (sX7_parsesC_0.sub 0 1) (pc' := 1) (ls' := [some (.ref 396), some (.int (nI k))]) (st' := [.ref 396]) (h' := (N, SH v T, PM I s, L, Dd)) rfl ?_
  refine Ev.callV (As := []) (rest := []) dvX7_here mkX7_182 rfl rfl dX7_parsesC_1 (m_here (d := d - 1) (s := s) hX (by omega) hq hty (Nat.le_trans hb (by decide))) ⟨by omega, by show 1 + 19 + 40 * _ ≤ 40 * _; omega⟩ ⟨Nat.zero_le _, Nat.zero_le _⟩ rfl (Nat.le_of_ble_eq_true rfl) (fun v9 h9 e9 => ?_) (fun E9 h9 e9 => nomatch e9)
  cases e9
  show Ev _ _ _ _ _ _ 4 [some (.ref 396), some (.int (nI k))] [.int (chA (I 401) q s.1)] (N, SH v T, PM I s, L, Dd)
  refine Ev.sg hX (sX7_parsesC_4.sub 0 1) (pc' := 6) (ls' := [some (.ref 396), some (.int (nI k))]) (st' := [.int 117, .int (chA (I 401) q s.1)]) (h' := (N, SH v T, PM I s, L, Dd)) rfl ?_
  refine Ev.icmp_ne (tgt := 37) dX7_parsesC_6 (by decide) (fun b1 => ?_) (fun b1 => ?_)
  · refine Ev.sg hX (sX7_parsesC_37.sub 0 2) (pc' := 40) (ls' := [some (.ref 396), some (.int (nI k))]) (st' := [.int 97, .ref 396]) (h' := (N, SH v T, PM I s, L, Dd)) rfl ?_
    refine Ev.callV (As := [.int 97]) (rest := []) dvX7_needs mkX7_185 rfl rfl dX7_parsesC_40 (m_needs (d := d - 1) (s := s) hX (by omega) hq hty (Nat.le_trans hb (by decide))) ⟨by omega, by show 2 + 19 + 40 * _ ≤ 40 * _; omega⟩ ⟨Nat.zero_le _, Nat.zero_le _⟩ rfl (Nat.le_of_ble_eq_true rfl) (fun v9 h9 e9 => ?_) (fun E9 h9 e9 => nomatch e9)
    cases e9
    show Ev _ _ _ _ _ _ 43 [some (.ref 396), some (.int (nI k))] [] (N, SH v T, PM I (nd (I 401) q 97 s), L, Dd)
    refine Ev.sg hX (sX7_parsesC_43.sub 0 2) (pc' := 46) (ls' := [some (.ref 396), some (.int (nI k))]) (st' := [.int 114, .ref 396]) (h' := (N, SH v T, PM I (nd (I 401) q 97 s), L, Dd)) rfl ?_
    refine Ev.callV (As := [.int 114]) (rest := []) dvX7_needs mkX7_185 rfl rfl dX7_parsesC_46 (m_needs (d := d - 1) (s := (nd (I 401) q 97 s)) hX (by omega) hq hty (Nat.le_trans (nd_b hb) (by decide))) ⟨by omega, by show 2 + 19 + 40 * _ ≤ 40 * _; omega⟩ ⟨Nat.zero_le _, Nat.zero_le _⟩ rfl (Nat.le_of_ble_eq_true rfl) (fun v9 h9 e9 => ?_) (fun E9 h9 e9 => nomatch e9)
    cases e9
    show Ev _ _ _ _ _ _ 49 [some (.ref 396), some (.int (nI k))] [] (N, SH v T, PM I (nd (I 401) q 114 (nd (I 401) q 97 s)), L, Dd)
    refine Ev.sg hX (sX7_parsesC_49.sub 0 1) (pc' := 50) (ls' := [some (.ref 396), some (.int (nI k))]) (st' := [.ref 396]) (h' := (N, SH v T, PM I (nd (I 401) q 114 (nd (I 401) q 97 s)), L, Dd)) rfl ?_
    refine Ev.getf (sX7_parsesC_49.lk 1 (q := (50, .getfield 39, 7, 16)) rfl) rfl rfl (sX7_parsesC_49.dc 1 (q := (50, .getfield 39, 7, 16)) rfl) ?_
    show Ev _ _ _ _ _ _ 53 [some (.ref 396), some (.int (nI k))] [.ref 404] (N, SH v T, PM I (nd (I 401) q 114 (nd (I 401) q 97 s)), L, Dd)
    refine Ev.sg hX (sX7_parsesC_49.sub 2 6) (pc' := 60) (ls' := [some (.ref 396), some (.int (nI k))]) (st' := [.int 1, .int 32, .ref 396, .int ((nI k) + 1), .ref 404]) (h' := (N, SH v T, PM I (nd (I 401) q 114 (nd (I 401) q 97 s)), L, Dd)) rfl ?_
    refine Ev.callV (As := [.int 32, .int 1]) (rest := [.int ((nI k) + 1), .ref 404]) dvX7_digitsAfter mkX7_188 rfl rfl dX7_parsesC_60 (m_digitsAfter (d := d - 1) (s := (nd (I 401) q 114 (nd (I 401) q 97 s))) (n := 1) hX (by omega) hq hty (Nat.le_trans (nd_b (nd_b hb)) (by decide)) (by decide)) ⟨by omega, by show 5 + 19 + 40 * _ ≤ 40 * _; omega⟩ ⟨Nat.zero_le _, Nat.zero_le _⟩ rfl (Nat.le_of_ble_eq_true rfl) (fun v9 h9 e9 => ?_) (fun E9 h9 e9 => nomatch e9)
    cases e9
    show Ev _ _ _ _ _ _ 63 [some (.ref 396), some (.int (nI k))] [.int (dv (I 401) q 32 1 (nd (I 401) q 114 (nd (I 401) q 97 s))), .int ((nI k) + 1), .ref 404] (N, SH v T, PM I (dd9 (I 401) q 32 1 (nd (I 401) q 114 (nd (I 401) q 97 s))), L, Dd)
    refine Ev.iastE (n := (k + 1)) (N := 360) hX rfl (naI rfl rfl) (by omega) (by decide) dX7_parsesC_63 ?_
    show Ev _ _ _ _ _ _ 64 [some (.ref 396), some (.int (nI k))] [] (N, SH v T, up2 (PM I (dd9 (I 401) q 32 1 (nd (I 401) q 114 (nd (I 401) q 97 s)))) 404 (k + 1) (dv (I 401) q 32 1 (nd (I 401) q 114 (nd (I 401) q 97 s))), L, Dd)
    rw [PM_P]
    show Ev _ _ _ _ _ _ 64 [some (.ref 396), some (.int (nI k))] [] (N, SH v T, PM I (dw (I 401) q 32 1 (k + 1) (nd (I 401) q 114 (nd (I 401) q 97 s))), L, Dd)
    refine Ev.sg hX (sX7_parsesC_64.sub 0 1) (pc' := 65) (ls' := [some (.ref 396), some (.int (nI k))]) (st' := [.ref 396]) (h' := (N, SH v T, PM I (dw (I 401) q 32 1 (k + 1) (nd (I 401) q 114 (nd (I 401) q 97 s))), L, Dd)) rfl ?_
    refine Ev.getf (sX7_parsesC_64.lk 1 (q := (65, .getfield 39, 7, 16)) rfl) rfl rfl (sX7_parsesC_64.dc 1 (q := (65, .getfield 39, 7, 16)) rfl) ?_
    show Ev _ _ _ _ _ _ 68 [some (.ref 396), some (.int (nI k))] [.ref 404] (N, SH v T, PM I (dw (I 401) q 32 1 (k + 1) (nd (I 401) q 114 (nd (I 401) q 97 s))), L, Dd)
    refine Ev.sg hX (sX7_parsesC_64.sub 2 6) (pc' := 75) (ls' := [some (.ref 396), some (.int (nI k))]) (st' := [.int 2, .int 32, .ref 396, .int ((nI k) + 2), .ref 404]) (h' := (N, SH v T, PM I (dw (I 401) q 32 1 (k + 1) (nd (I 401) q 114 (nd (I 401) q 97 s))), L, Dd)) rfl ?_
    refine Ev.callV (As := [.int 32, .int 2]) (rest := [.int ((nI k) + 2), .ref 404]) dvX7_digitsAfter mkX7_188 rfl rfl dX7_parsesC_75 (m_digitsAfter (d := d - 1) (s := (dw (I 401) q 32 1 (k + 1) (nd (I 401) q 114 (nd (I 401) q 97 s)))) (n := 2) hX (by omega) hq hty (Nat.le_trans (dw_b (nd_b (nd_b hb))) (by decide)) (by decide)) ⟨by omega, by show 5 + 19 + 40 * _ ≤ 40 * _; omega⟩ ⟨Nat.zero_le _, Nat.zero_le _⟩ rfl (Nat.le_of_ble_eq_true rfl) (fun v9 h9 e9 => ?_) (fun E9 h9 e9 => nomatch e9)
    cases e9
    show Ev _ _ _ _ _ _ 78 [some (.ref 396), some (.int (nI k))] [.int (dv (I 401) q 32 2 (dw (I 401) q 32 1 (k + 1) (nd (I 401) q 114 (nd (I 401) q 97 s)))), .int ((nI k) + 2), .ref 404] (N, SH v T, PM I (dd9 (I 401) q 32 2 (dw (I 401) q 32 1 (k + 1) (nd (I 401) q 114 (nd (I 401) q 97 s)))), L, Dd)
    refine Ev.iastE (n := (k + 2)) (N := 360) hX rfl (naI rfl rfl) (by omega) (by decide) dX7_parsesC_78 ?_
    show Ev _ _ _ _ _ _ 79 [some (.ref 396), some (.int (nI k))] [] (N, SH v T, up2 (PM I (dd9 (I 401) q 32 2 (dw (I 401) q 32 1 (k + 1) (nd (I 401) q 114 (nd (I 401) q 97 s))))) 404 (k + 2) (dv (I 401) q 32 2 (dw (I 401) q 32 1 (k + 1) (nd (I 401) q 114 (nd (I 401) q 97 s)))), L, Dd)
    rw [PM_P]
    show Ev _ _ _ _ _ _ 79 [some (.ref 396), some (.int (nI k))] [] (N, SH v T, PM I (dw (I 401) q 32 2 (k + 2) (dw (I 401) q 32 1 (k + 1) (nd (I 401) q 114 (nd (I 401) q 97 s)))), L, Dd)
    refine Ev.sg hX (sX7_parsesC_79.sub 0 1) (pc' := 80) (ls' := [some (.ref 396), some (.int (nI k))]) (st' := [.ref 396]) (h' := (N, SH v T, PM I (dw (I 401) q 32 2 (k + 2) (dw (I 401) q 32 1 (k + 1) (nd (I 401) q 114 (nd (I 401) q 97 s)))), L, Dd)) rfl ?_
    refine Ev.getf (sX7_parsesC_79.lk 1 (q := (80, .getfield 39, 7, 16)) rfl) rfl rfl (sX7_parsesC_79.dc 1 (q := (80, .getfield 39, 7, 16)) rfl) ?_
    show Ev _ _ _ _ _ _ 83 [some (.ref 396), some (.int (nI k))] [.ref 404] (N, SH v T, PM I (dw (I 401) q 32 2 (k + 2) (dw (I 401) q 32 1 (k + 1) (nd (I 401) q 114 (nd (I 401) q 97 s)))), L, Dd)
    refine Ev.sg hX (sX7_parsesC_79.sub 2 6) (pc' := 90) (ls' := [some (.ref 396), some (.int (nI k))]) (st' := [.int 2, .int 32, .ref 396, .int ((nI k) + 3), .ref 404]) (h' := (N, SH v T, PM I (dw (I 401) q 32 2 (k + 2) (dw (I 401) q 32 1 (k + 1) (nd (I 401) q 114 (nd (I 401) q 97 s)))), L, Dd)) rfl ?_
    refine Ev.callV (As := [.int 32, .int 2]) (rest := [.int ((nI k) + 3), .ref 404]) dvX7_digitsAfter mkX7_188 rfl rfl dX7_parsesC_90 (m_digitsAfter (d := d - 1) (s := (dw (I 401) q 32 2 (k + 2) (dw (I 401) q 32 1 (k + 1) (nd (I 401) q 114 (nd (I 401) q 97 s))))) (n := 2) hX (by omega) hq hty (Nat.le_trans (dw_b (dw_b (nd_b (nd_b hb)))) (by decide)) (by decide)) ⟨by omega, by show 5 + 19 + 40 * _ ≤ 40 * _; omega⟩ ⟨Nat.zero_le _, Nat.zero_le _⟩ rfl (Nat.le_of_ble_eq_true rfl) (fun v9 h9 e9 => ?_) (fun E9 h9 e9 => nomatch e9)
    cases e9
    show Ev _ _ _ _ _ _ 93 [some (.ref 396), some (.int (nI k))] [.int (dv (I 401) q 32 2 (dw (I 401) q 32 2 (k + 2) (dw (I 401) q 32 1 (k + 1) (nd (I 401) q 114 (nd (I 401) q 97 s))))), .int ((nI k) + 3), .ref 404] (N, SH v T, PM I (dd9 (I 401) q 32 2 (dw (I 401) q 32 2 (k + 2) (dw (I 401) q 32 1 (k + 1) (nd (I 401) q 114 (nd (I 401) q 97 s))))), L, Dd)
    refine Ev.iastE (n := (k + 3)) (N := 360) hX rfl (naI rfl rfl) (by omega) (by decide) dX7_parsesC_93 ?_
    show Ev _ _ _ _ _ _ 94 [some (.ref 396), some (.int (nI k))] [] (N, SH v T, up2 (PM I (dd9 (I 401) q 32 2 (dw (I 401) q 32 2 (k + 2) (dw (I 401) q 32 1 (k + 1) (nd (I 401) q 114 (nd (I 401) q 97 s)))))) 404 (k + 3) (dv (I 401) q 32 2 (dw (I 401) q 32 2 (k + 2) (dw (I 401) q 32 1 (k + 1) (nd (I 401) q 114 (nd (I 401) q 97 s))))), L, Dd)
    rw [PM_P]
    show Ev _ _ _ _ _ _ 94 [some (.ref 396), some (.int (nI k))] [] (N, SH v T, PM I (dw (I 401) q 32 2 (k + 3) (dw (I 401) q 32 2 (k + 2) (dw (I 401) q 32 1 (k + 1) (nd (I 401) q 114 (nd (I 401) q 97 s))))), L, Dd)
    refine Ev.sg hX (sX7_parsesC_94.sub 0 1) (pc' := 95) (ls' := [some (.ref 396), some (.int (nI k))]) (st' := [.ref 396]) (h' := (N, SH v T, PM I (dw (I 401) q 32 2 (k + 3) (dw (I 401) q 32 2 (k + 2) (dw (I 401) q 32 1 (k + 1) (nd (I 401) q 114 (nd (I 401) q 97 s))))), L, Dd)) rfl ?_
    refine Ev.getf (sX7_parsesC_94.lk 1 (q := (95, .getfield 39, 7, 16)) rfl) rfl rfl (sX7_parsesC_94.dc 1 (q := (95, .getfield 39, 7, 16)) rfl) ?_
    show Ev _ _ _ _ _ _ 98 [some (.ref 396), some (.int (nI k))] [.ref 404] (N, SH v T, PM I (dw (I 401) q 32 2 (k + 3) (dw (I 401) q 32 2 (k + 2) (dw (I 401) q 32 1 (k + 1) (nd (I 401) q 114 (nd (I 401) q 97 s))))), L, Dd)
    refine Ev.sg hX (sX7_parsesC_94.sub 2 6) (pc' := 105) (ls' := [some (.ref 396), some (.int (nI k))]) (st' := [.int 1, .int 32, .ref 396, .int ((nI k) + 4), .ref 404]) (h' := (N, SH v T, PM I (dw (I 401) q 32 2 (k + 3) (dw (I 401) q 32 2 (k + 2) (dw (I 401) q 32 1 (k + 1) (nd (I 401) q 114 (nd (I 401) q 97 s))))), L, Dd)) rfl ?_
    refine Ev.callV (As := [.int 32, .int 1]) (rest := [.int ((nI k) + 4), .ref 404]) dvX7_digitsAfter mkX7_188 rfl rfl dX7_parsesC_105 (m_digitsAfter (d := d - 1) (s := (dw (I 401) q 32 2 (k + 3) (dw (I 401) q 32 2 (k + 2) (dw (I 401) q 32 1 (k + 1) (nd (I 401) q 114 (nd (I 401) q 97 s)))))) (n := 1) hX (by omega) hq hty (Nat.le_trans (dw_b (dw_b (dw_b (nd_b (nd_b hb))))) (by decide)) (by decide)) ⟨by omega, by show 5 + 19 + 40 * _ ≤ 40 * _; omega⟩ ⟨Nat.zero_le _, Nat.zero_le _⟩ rfl (Nat.le_of_ble_eq_true rfl) (fun v9 h9 e9 => ?_) (fun E9 h9 e9 => nomatch e9)
    cases e9
    show Ev _ _ _ _ _ _ 108 [some (.ref 396), some (.int (nI k))] [.int (dv (I 401) q 32 1 (dw (I 401) q 32 2 (k + 3) (dw (I 401) q 32 2 (k + 2) (dw (I 401) q 32 1 (k + 1) (nd (I 401) q 114 (nd (I 401) q 97 s)))))), .int ((nI k) + 4), .ref 404] (N, SH v T, PM I (dd9 (I 401) q 32 1 (dw (I 401) q 32 2 (k + 3) (dw (I 401) q 32 2 (k + 2) (dw (I 401) q 32 1 (k + 1) (nd (I 401) q 114 (nd (I 401) q 97 s)))))), L, Dd)
    refine Ev.iastE (n := (k + 4)) (N := 360) hX rfl (naI rfl rfl) (by omega) (by decide) dX7_parsesC_108 ?_
    show Ev _ _ _ _ _ _ 109 [some (.ref 396), some (.int (nI k))] [] (N, SH v T, up2 (PM I (dd9 (I 401) q 32 1 (dw (I 401) q 32 2 (k + 3) (dw (I 401) q 32 2 (k + 2) (dw (I 401) q 32 1 (k + 1) (nd (I 401) q 114 (nd (I 401) q 97 s))))))) 404 (k + 4) (dv (I 401) q 32 1 (dw (I 401) q 32 2 (k + 3) (dw (I 401) q 32 2 (k + 2) (dw (I 401) q 32 1 (k + 1) (nd (I 401) q 114 (nd (I 401) q 97 s)))))), L, Dd)
    rw [PM_P]
    show Ev _ _ _ _ _ _ 109 [some (.ref 396), some (.int (nI k))] [] (N, SH v T, PM I (dw (I 401) q 32 1 (k + 4) (dw (I 401) q 32 2 (k + 3) (dw (I 401) q 32 2 (k + 2) (dw (I 401) q 32 1 (k + 1) (nd (I 401) q 114 (nd (I 401) q 97 s)))))), L, Dd)
    show Ev _ _ _ _ _ _ 109 [some (.ref 396), some (.int (nI k))] [] (N, SH v T, PM I (pC5 (I 401) q k s), L, Dd)
    have hb5 := pC5_b (tx := I 401) (q := q) (k := k) hb
    generalize h5e : pC5 (I 401) q k s = s5 at hb5 ⊢
    refine Ev.sg hX (sX7_parsesC_109.sub 0 1) (pc' := 110) (ls' := [some (.ref 396), some (.int (nI k))]) (st' := [.ref 396]) (h' := (N, SH v T, PM I s5, L, Dd)) rfl ?_
    refine Ev.getf (sX7_parsesC_109.lk 1 (q := (110, .getfield 39, 7, 16)) rfl) rfl rfl (sX7_parsesC_109.dc 1 (q := (110, .getfield 39, 7, 16)) rfl) ?_
    show Ev _ _ _ _ _ _ 113 [some (.ref 396), some (.int (nI k))] [.ref 404] (N, SH v T, PM I s5, L, Dd)
    refine Ev.sg hX (sX7_parsesC_109.sub 2 4) (pc' := 117) (ls' := [some (.ref 396), some (.int (nI k))]) (st' := [.ref 396, .int ((nI k) + 5), .ref 404]) (h' := (N, SH v T, PM I s5, L, Dd)) rfl ?_
    refine Ev.getf (sX7_parsesC_109.lk 6 (q := (117, .getfield 178, 7, 15)) rfl) rfl rfl (sX7_parsesC_109.dc 6 (q := (117, .getfield 178, 7, 15)) rfl) ?_
    show Ev _ _ _ _ _ _ 120 [some (.ref 396), some (.int (nI k))] [.int s5.2.1, .int ((nI k) + 5), .ref 404] (N, SH v T, PM I s5, L, Dd)
    refine Ev.if_ne (tgt := 136) dX7_parsesC_120 (by decide) (fun b2 => ?_) (fun b2 => ?_)
    · refine Ev.sg hX (sX7_parsesC_136.sub 0 1) (pc' := 137) (ls' := [some (.ref 396), some (.int (nI k))]) (st' := [.int 0, .int ((nI k) + 5), .ref 404]) (h' := (N, SH v T, PM I s5, L, Dd)) rfl ?_
      refine Ev.iastE (n := (k + 5)) (N := 360) hX rfl (naI rfl rfl) (by omega) (by decide) dX7_parsesC_137 ?_
      show Ev _ _ _ _ _ _ 138 [some (.ref 396), some (.int (nI k))] [] (N, SH v T, up2 (PM I s5) 404 (k + 5) 0, L, Dd)
      rw [PM_P]
      show Ev _ _ _ _ _ _ 138 [some (.ref 396), some (.int (nI k))] [] (N, SH v T, PM I (wr s5 (k + 5) 0), L, Dd)
      refine Ev.sg hX (sX7_parsesC_138.sub 0 2) (pc' := 140) (ls' := [some (.ref 396), some (.int (nI k))]) (st' := [.ref 396, .ref 396]) (h' := (N, SH v T, PM I (wr s5 (k + 5) 0), L, Dd)) rfl ?_
      refine Ev.getf (sX7_parsesC_138.lk 2 (q := (140, .getfield 175, 7, 14)) rfl) rfl rfl (sX7_parsesC_138.dc 2 (q := (140, .getfield 175, 7, 14)) rfl) ?_
      show Ev _ _ _ _ _ _ 143 [some (.ref 396), some (.int (nI k))] [.int (nI (wr s5 (k + 5) 0).1), .ref 396] (N, SH v T, PM I (wr s5 (k + 5) 0), L, Dd)
      refine Ev.sg hX (sX7_parsesC_138.sub 3 1) (pc' := 144) (ls' := [some (.ref 396), some (.int (nI k))]) (st' := [.ref 396, .int (nI (wr s5 (k + 5) 0).1), .ref 396]) (h' := (N, SH v T, PM I (wr s5 (k + 5) 0), L, Dd)) rfl ?_
      refine Ev.getf (sX7_parsesC_138.lk 4 (q := (144, .getfield 39, 7, 16)) rfl) rfl rfl (sX7_parsesC_138.dc 4 (q := (144, .getfield 39, 7, 16)) rfl) ?_
      show Ev _ _ _ _ _ _ 147 [some (.ref 396), some (.int (nI k))] [.ref 404, .int (nI (wr s5 (k + 5) 0).1), .ref 396] (N, SH v T, PM I (wr s5 (k + 5) 0), L, Dd)
      refine Ev.sg hX (sX7_parsesC_138.sub 5 3) (pc' := 150) (ls' := [some (.ref 396), some (.int (nI k))]) (st' := [.int ((nI k) + 5), .ref 404, .int (nI (wr s5 (k + 5) 0).1), .ref 396]) (h' := (N, SH v T, PM I (wr s5 (k + 5) 0), L, Dd)) rfl ?_
      refine Ev.ialdE (n := (k + 5)) (N := 360) rfl (naI rfl rfl) (by omega) (by decide) dX7_parsesC_150 ?_
      show Ev _ _ _ _ _ _ 151 [some (.ref 396), some (.int (nI k))] [.int ((wr s5 (k + 5) 0).2.2 (k + 5)), .int (nI (wr s5 (k + 5) 0).1), .ref 396] (N, SH v T, PM I (wr s5 (k + 5) 0), L, Dd)
      refine Ev.sg hX (sX7_parsesC_151.sub 0 1) (pc' := 152) (ls' := [some (.ref 396), some (.int (nI k))]) (st' := [.int ((nI (wr s5 (k + 5) 0).1) + ((wr s5 (k + 5) 0).2.2 (k + 5))), .ref 396]) (h' := (N, SH v T, PM I (wr s5 (k + 5) 0), L, Dd)) rfl ?_
      refine Ev.putf hX (sX7_parsesC_151.lk 1 (q := (152, .putfield 175, 7, 14)) rfl) rfl rfl (sX7_parsesC_151.dc 1 (q := (152, .putfield 175, 7, 14)) rfl) ?_
      show Ev _ _ _ _ _ _ 155 [some (.ref 396), some (.int (nI k))] [] (N, SH v T, up2 (PM I (wr s5 (k + 5) 0)) 396 14 ((nI (wr s5 (k + 5) 0).1) + ((wr s5 (k + 5) 0).2.2 (k + 5))), L, Dd)
      refine Ev.eqh (h' := (N, SH v T, PM I (wr s5 (k + 5) 0), L, Dd)) (congrArg (fun z => (N, SH v T, z, L, Dd)) ((congrArg (up2 (PM I (wr s5 (k + 5) 0)) 396 14) (show nI (wr s5 (k + 5) 0).1 + upV s5.2.2 (k + 5) 0 (k + 5) = nI (wr s5 (k + 5) 0).1 by rw [upV, if_pos rfl, Int32.add_zero])).trans PM_sp)) ?_
      refine Ev.vret dX7_parsesC_155 rfl ?_
      rw [pC, if_neg b1, h5e, if_neg (fun w => b2 w.1)]
    · refine Ev.sg hX (sX7_parsesC_123.sub 0 1) (pc' := 124) (ls' := [some (.ref 396), some (.int (nI k))]) (st' := [.ref 396, .int ((nI k) + 5), .ref 404]) (h' := (N, SH v T, PM I s5, L, Dd)) rfl ?_
      refine Ev.callV (As := []) (rest := [.int ((nI k) + 5), .ref 404]) dvX7_here mkX7_182 rfl rfl dX7_parsesC_124 (m_here (d := d - 1) (s := s5) hX (by omega) hq hty (Nat.le_trans hb5 (by decide))) ⟨by omega, by show 1 + 19 + 40 * _ ≤ 40 * _; omega⟩ ⟨Nat.zero_le _, Nat.zero_le _⟩ rfl (Nat.le_of_ble_eq_true rfl) (fun v9 h9 e9 => ?_) (fun E9 h9 e9 => nomatch e9)
      cases e9
      show Ev _ _ _ _ _ _ 127 [some (.ref 396), some (.int (nI k))] [.int (chA (I 401) q s5.1), .int ((nI k) + 5), .ref 404] (N, SH v T, PM I s5, L, Dd)
      refine Ev.sg hX (sX7_parsesC_127.sub 0 1) (pc' := 129) (ls' := [some (.ref 396), some (.int (nI k))]) (st' := [.int 33, .int (chA (I 401) q s5.1), .int ((nI k) + 5), .ref 404]) (h' := (N, SH v T, PM I s5, L, Dd)) rfl ?_
      refine Ev.icmp_ne (tgt := 136) dX7_parsesC_129 (by decide) (fun b3 => ?_) (fun b3 => ?_)
      · refine Ev.sg hX (sX7_parsesC_136.sub 0 1) (pc' := 137) (ls' := [some (.ref 396), some (.int (nI k))]) (st' := [.int 0, .int ((nI k) + 5), .ref 404]) (h' := (N, SH v T, PM I s5, L, Dd)) rfl ?_
        refine Ev.iastE (n := (k + 5)) (N := 360) hX rfl (naI rfl rfl) (by omega) (by decide) dX7_parsesC_137 ?_
        show Ev _ _ _ _ _ _ 138 [some (.ref 396), some (.int (nI k))] [] (N, SH v T, up2 (PM I s5) 404 (k + 5) 0, L, Dd)
        rw [PM_P]
        show Ev _ _ _ _ _ _ 138 [some (.ref 396), some (.int (nI k))] [] (N, SH v T, PM I (wr s5 (k + 5) 0), L, Dd)
        refine Ev.sg hX (sX7_parsesC_138.sub 0 2) (pc' := 140) (ls' := [some (.ref 396), some (.int (nI k))]) (st' := [.ref 396, .ref 396]) (h' := (N, SH v T, PM I (wr s5 (k + 5) 0), L, Dd)) rfl ?_
        refine Ev.getf (sX7_parsesC_138.lk 2 (q := (140, .getfield 175, 7, 14)) rfl) rfl rfl (sX7_parsesC_138.dc 2 (q := (140, .getfield 175, 7, 14)) rfl) ?_
        show Ev _ _ _ _ _ _ 143 [some (.ref 396), some (.int (nI k))] [.int (nI (wr s5 (k + 5) 0).1), .ref 396] (N, SH v T, PM I (wr s5 (k + 5) 0), L, Dd)
        refine Ev.sg hX (sX7_parsesC_138.sub 3 1) (pc' := 144) (ls' := [some (.ref 396), some (.int (nI k))]) (st' := [.ref 396, .int (nI (wr s5 (k + 5) 0).1), .ref 396]) (h' := (N, SH v T, PM I (wr s5 (k + 5) 0), L, Dd)) rfl ?_
        refine Ev.getf (sX7_parsesC_138.lk 4 (q := (144, .getfield 39, 7, 16)) rfl) rfl rfl (sX7_parsesC_138.dc 4 (q := (144, .getfield 39, 7, 16)) rfl) ?_
        show Ev _ _ _ _ _ _ 147 [some (.ref 396), some (.int (nI k))] [.ref 404, .int (nI (wr s5 (k + 5) 0).1), .ref 396] (N, SH v T, PM I (wr s5 (k + 5) 0), L, Dd)
        refine Ev.sg hX (sX7_parsesC_138.sub 5 3) (pc' := 150) (ls' := [some (.ref 396), some (.int (nI k))]) (st' := [.int ((nI k) + 5), .ref 404, .int (nI (wr s5 (k + 5) 0).1), .ref 396]) (h' := (N, SH v T, PM I (wr s5 (k + 5) 0), L, Dd)) rfl ?_
        refine Ev.ialdE (n := (k + 5)) (N := 360) rfl (naI rfl rfl) (by omega) (by decide) dX7_parsesC_150 ?_
        show Ev _ _ _ _ _ _ 151 [some (.ref 396), some (.int (nI k))] [.int ((wr s5 (k + 5) 0).2.2 (k + 5)), .int (nI (wr s5 (k + 5) 0).1), .ref 396] (N, SH v T, PM I (wr s5 (k + 5) 0), L, Dd)
        refine Ev.sg hX (sX7_parsesC_151.sub 0 1) (pc' := 152) (ls' := [some (.ref 396), some (.int (nI k))]) (st' := [.int ((nI (wr s5 (k + 5) 0).1) + ((wr s5 (k + 5) 0).2.2 (k + 5))), .ref 396]) (h' := (N, SH v T, PM I (wr s5 (k + 5) 0), L, Dd)) rfl ?_
        refine Ev.putf hX (sX7_parsesC_151.lk 1 (q := (152, .putfield 175, 7, 14)) rfl) rfl rfl (sX7_parsesC_151.dc 1 (q := (152, .putfield 175, 7, 14)) rfl) ?_
        show Ev _ _ _ _ _ _ 155 [some (.ref 396), some (.int (nI k))] [] (N, SH v T, up2 (PM I (wr s5 (k + 5) 0)) 396 14 ((nI (wr s5 (k + 5) 0).1) + ((wr s5 (k + 5) 0).2.2 (k + 5))), L, Dd)
        refine Ev.eqh (h' := (N, SH v T, PM I (wr s5 (k + 5) 0), L, Dd)) (congrArg (fun z => (N, SH v T, z, L, Dd)) ((congrArg (up2 (PM I (wr s5 (k + 5) 0)) 396 14) (show nI (wr s5 (k + 5) 0).1 + upV s5.2.2 (k + 5) 0 (k + 5) = nI (wr s5 (k + 5) 0).1 by rw [upV, if_pos rfl, Int32.add_zero])).trans PM_sp)) ?_
        refine Ev.vret dX7_parsesC_155 rfl ?_
        rw [pC, if_neg b1, h5e, if_neg (fun w => b3 w.2)]
      · refine Ev.sg hX (sX7_parsesC_132.sub 0 2) (pc' := 137) (ls' := [some (.ref 396), some (.int (nI k))]) (st' := [.int 1, .int ((nI k) + 5), .ref 404]) (h' := (N, SH v T, PM I s5, L, Dd)) rfl ?_
        refine Ev.iastE (n := (k + 5)) (N := 360) hX rfl (naI rfl rfl) (by omega) (by decide) dX7_parsesC_137 ?_
        show Ev _ _ _ _ _ _ 138 [some (.ref 396), some (.int (nI k))] [] (N, SH v T, up2 (PM I s5) 404 (k + 5) 1, L, Dd)
        rw [PM_P]
        show Ev _ _ _ _ _ _ 138 [some (.ref 396), some (.int (nI k))] [] (N, SH v T, PM I (wr s5 (k + 5) 1), L, Dd)
        refine Ev.sg hX (sX7_parsesC_138.sub 0 2) (pc' := 140) (ls' := [some (.ref 396), some (.int (nI k))]) (st' := [.ref 396, .ref 396]) (h' := (N, SH v T, PM I (wr s5 (k + 5) 1), L, Dd)) rfl ?_
        refine Ev.getf (sX7_parsesC_138.lk 2 (q := (140, .getfield 175, 7, 14)) rfl) rfl rfl (sX7_parsesC_138.dc 2 (q := (140, .getfield 175, 7, 14)) rfl) ?_
        show Ev _ _ _ _ _ _ 143 [some (.ref 396), some (.int (nI k))] [.int (nI (wr s5 (k + 5) 1).1), .ref 396] (N, SH v T, PM I (wr s5 (k + 5) 1), L, Dd)
        refine Ev.sg hX (sX7_parsesC_138.sub 3 1) (pc' := 144) (ls' := [some (.ref 396), some (.int (nI k))]) (st' := [.ref 396, .int (nI (wr s5 (k + 5) 1).1), .ref 396]) (h' := (N, SH v T, PM I (wr s5 (k + 5) 1), L, Dd)) rfl ?_
        refine Ev.getf (sX7_parsesC_138.lk 4 (q := (144, .getfield 39, 7, 16)) rfl) rfl rfl (sX7_parsesC_138.dc 4 (q := (144, .getfield 39, 7, 16)) rfl) ?_
        show Ev _ _ _ _ _ _ 147 [some (.ref 396), some (.int (nI k))] [.ref 404, .int (nI (wr s5 (k + 5) 1).1), .ref 396] (N, SH v T, PM I (wr s5 (k + 5) 1), L, Dd)
        refine Ev.sg hX (sX7_parsesC_138.sub 5 3) (pc' := 150) (ls' := [some (.ref 396), some (.int (nI k))]) (st' := [.int ((nI k) + 5), .ref 404, .int (nI (wr s5 (k + 5) 1).1), .ref 396]) (h' := (N, SH v T, PM I (wr s5 (k + 5) 1), L, Dd)) rfl ?_
        refine Ev.ialdE (n := (k + 5)) (N := 360) rfl (naI rfl rfl) (by omega) (by decide) dX7_parsesC_150 ?_
        show Ev _ _ _ _ _ _ 151 [some (.ref 396), some (.int (nI k))] [.int ((wr s5 (k + 5) 1).2.2 (k + 5)), .int (nI (wr s5 (k + 5) 1).1), .ref 396] (N, SH v T, PM I (wr s5 (k + 5) 1), L, Dd)
        refine Ev.sg hX (sX7_parsesC_151.sub 0 1) (pc' := 152) (ls' := [some (.ref 396), some (.int (nI k))]) (st' := [.int ((nI (wr s5 (k + 5) 1).1) + ((wr s5 (k + 5) 1).2.2 (k + 5))), .ref 396]) (h' := (N, SH v T, PM I (wr s5 (k + 5) 1), L, Dd)) rfl ?_
        refine Ev.putf hX (sX7_parsesC_151.lk 1 (q := (152, .putfield 175, 7, 14)) rfl) rfl rfl (sX7_parsesC_151.dc 1 (q := (152, .putfield 175, 7, 14)) rfl) ?_
        show Ev _ _ _ _ _ _ 155 [some (.ref 396), some (.int (nI k))] [] (N, SH v T, up2 (PM I (wr s5 (k + 5) 1)) 396 14 ((nI (wr s5 (k + 5) 1).1) + ((wr s5 (k + 5) 1).2.2 (k + 5))), L, Dd)
        refine Ev.eqh (h' := (N, SH v T, PM I (s5.1 + 1, s5.2.1, upV s5.2.2 (k + 5) 1), L, Dd)) (congrArg (fun z => (N, SH v T, z, L, Dd)) ((congrArg (up2 (PM I (wr s5 (k + 5) 1)) 396 14) (show nI (wr s5 (k + 5) 1).1 + upV s5.2.2 (k + 5) 1 (k + 5) = nI (s5.1 + 1) by rw [upV, if_pos rfl]; exact nI_1 _)).trans PM_sp)) ?_
        refine Ev.vret dX7_parsesC_155 rfl ?_
        rw [pC, if_neg b1, h5e, if_pos ⟨b2, b3⟩]
  · refine Ev.sg hX (sX7_parsesC_9.sub 0 1) (pc' := 10) (ls' := [some (.ref 396), some (.int (nI k))]) (st' := [.ref 396]) (h' := (N, SH v T, PM I s, L, Dd)) rfl ?_
    refine Ev.getf (sX7_parsesC_9.lk 1 (q := (10, .getfield 39, 7, 16)) rfl) rfl rfl (sX7_parsesC_9.dc 1 (q := (10, .getfield 39, 7, 16)) rfl) ?_
    show Ev _ _ _ _ _ _ 13 [some (.ref 396), some (.int (nI k))] [.ref 404] (N, SH v T, PM I s, L, Dd)
    refine Ev.sg hX (sX7_parsesC_9.sub 2 2) (pc' := 16) (ls' := [some (.ref 396), some (.int (nI k))]) (st' := [.int 117, .int (nI k), .ref 404]) (h' := (N, SH v T, PM I s, L, Dd)) rfl ?_
    refine Ev.iastE (n := k) (N := 360) hX rfl rfl (by omega) (by decide) dX7_parsesC_16 ?_
    show Ev _ _ _ _ _ _ 17 [some (.ref 396), some (.int (nI k))] [] (N, SH v T, up2 (PM I s) 404 k 117, L, Dd)
    rw [PM_P]
    show Ev _ _ _ _ _ _ 17 [some (.ref 396), some (.int (nI k))] [] (N, SH v T, PM I (wr s k 117), L, Dd)
    refine Ev.sg hX (sX7_parsesC_17.sub 0 2) (pc' := 20) (ls' := [some (.ref 396), some (.int (nI k))]) (st' := [.int 117, .ref 396]) (h' := (N, SH v T, PM I (wr s k 117), L, Dd)) rfl ?_
    refine Ev.callV (As := [.int 117]) (rest := []) dvX7_needs mkX7_185 rfl rfl dX7_parsesC_20 (m_needs (d := d - 1) (s := (wr s k 117)) hX (by omega) hq hty (Nat.le_trans (wr_b hb) (by decide))) ⟨by omega, by show 2 + 19 + 40 * _ ≤ 40 * _; omega⟩ ⟨Nat.zero_le _, Nat.zero_le _⟩ rfl (Nat.le_of_ble_eq_true rfl) (fun v9 h9 e9 => ?_) (fun E9 h9 e9 => nomatch e9)
    cases e9
    show Ev _ _ _ _ _ _ 23 [some (.ref 396), some (.int (nI k))] [] (N, SH v T, PM I (nd (I 401) q 117 (wr s k 117)), L, Dd)
    refine Ev.sg hX (sX7_parsesC_23.sub 0 2) (pc' := 26) (ls' := [some (.ref 396), some (.int (nI k))]) (st' := [.int 116, .ref 396]) (h' := (N, SH v T, PM I (nd (I 401) q 117 (wr s k 117)), L, Dd)) rfl ?_
    refine Ev.callV (As := [.int 116]) (rest := []) dvX7_needs mkX7_185 rfl rfl dX7_parsesC_26 (m_needs (d := d - 1) (s := (nd (I 401) q 117 (wr s k 117))) hX (by omega) hq hty (Nat.le_trans (nd_b (wr_b hb)) (by decide))) ⟨by omega, by show 2 + 19 + 40 * _ ≤ 40 * _; omega⟩ ⟨Nat.zero_le _, Nat.zero_le _⟩ rfl (Nat.le_of_ble_eq_true rfl) (fun v9 h9 e9 => ?_) (fun E9 h9 e9 => nomatch e9)
    cases e9
    show Ev _ _ _ _ _ _ 29 [some (.ref 396), some (.int (nI k))] [] (N, SH v T, PM I (nd (I 401) q 116 (nd (I 401) q 117 (wr s k 117))), L, Dd)
    refine Ev.sg hX (sX7_parsesC_29.sub 0 2) (pc' := 31) (ls' := [some (.ref 396), some (.int (nI k))]) (st' := [.int (nI k), .ref 396]) (h' := (N, SH v T, PM I (nd (I 401) q 116 (nd (I 401) q 117 (wr s k 117))), L, Dd)) rfl ?_
    refine Ev.callV (As := [.int (nI k)]) (rest := []) dvX7_parsesPair mkX7_195 rfl rfl dX7_parsesC_31 (m_parsesPair (d := d - 1) (s := (nd (I 401) q 116 (nd (I 401) q 117 (wr s k 117)))) (k := k) hX (by omega) hq hty (Nat.le_trans (nd_b (nd_b (wr_b hb))) (by decide)) (by omega)) ⟨by omega, by show 2 + 19 + 40 * _ ≤ 40 * _; omega⟩ ⟨Nat.zero_le _, Nat.zero_le _⟩ rfl (Nat.le_of_ble_eq_true rfl) (fun v9 h9 e9 => ?_) (fun E9 h9 e9 => nomatch e9)
    cases e9
    show Ev _ _ _ _ _ _ 34 [some (.ref 396), some (.int (nI k))] [] (N, SH v T, PM I (pP (I 401) q k (nd (I 401) q 116 (nd (I 401) q 117 (wr s k 117)))), L, Dd)
    refine Ev.sg hX (sX7_parsesC_34.sub 0 1) (pc' := 155) (ls' := [some (.ref 396), some (.int (nI k))]) (st' := []) (h' := (N, SH v T, PM I (pP (I 401) q k (nd (I 401) q 116 (nd (I 401) q 117 (wr s k 117)))), L, Dd)) rfl ?_
    refine Ev.vret dX7_parsesC_155 rfl ?_
    rw [pC, if_pos b1]
end PMN
