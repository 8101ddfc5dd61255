/-! the model: a command by its first letter -/
theorem look_no {c : Int32} (h1 : ¬ c = 116) (h2 : ¬ c = 115) (h3 : ¬ c = 99) (h4 : ¬ c = 114) : Op.lookupswitch.offset [(99, 57), (114, 65), (115, 49), (116, 41)] 105 c.toInt = 105 := by
  have t : ∀ x : Int32, ¬ c = x → ¬ c.toInt = x.toInt := fun x hx e => hx (Int32.toInt_inj.mp e)
  have g1 := t 116 h1
  have g2 := t 115 h2
  have g3 := t 99 h3
  have g4 := t 114 h4
  rw [show (116 : Int32).toInt = 116 from rfl] at g1
  rw [show (115 : Int32).toInt = 115 from rfl] at g2
  rw [show (99 : Int32).toInt = 99 from rfl] at g3
  rw [show (114 : Int32).toInt = 114 from rfl] at g4
  simp [Op.lookupswitch.offset, g1, g2, g3, g4, Ne.symm g1, Ne.symm g2, Ne.symm g3, Ne.symm g4]
section PMO
variable {X : JX} {d N v : Nat} {T : Nat → Option JS} {I : Nat → Nat → Int32} {L : Nat → Nat → Int64} {Dd : Nat → Nat → UInt64} {q k n : Nat} {c e : Int32} {s : MS}
theorem m_parsesCommand (hX : JXok X) (hd : 6 ≤ d) (hq : q ≤ 60) (hty : I 396 7 = nI q) (hb : s.1 ≤ 700) (hk : k ≤ 300) : MT X d 0 0 jdX7_parsesCommand [.ref 396, .int (nI k)] (N, SH v T, PM I s, L, Dd) (fun R => R = .inl (none, (N, SH v T, PM I (pX (I 401) q k s), L, Dd))) := by
  refine MT.mk dvX7_parsesCommand.1 ?_
  refine Ev.sg hX (sX7_parsesCommand_0.sub 0 1) (pc' := 1) (ls' := [some (.ref 396), some (.int (nI k)), none]) (st' := [.ref 396]) (h' := (N, SH v T, PM I s, L, Dd)) rfl ?_
  refine Ev.callV (As := []) (rest := []) dvX7_here mkX7_182 rfl rfl dX7_parsesCommand_1 (m_here (d := d - 1) (s := s) hX (by omega) hq hty (Nat.le_trans hb (by decide))) ⟨by omega, by show 1 + 19 + 40 * _ ≤ 40 * _; omega⟩ ⟨Nat.zero_le _, Nat.zero_le _⟩ rfl (Nat.le_of_ble_eq_true rfl) (fun v9 h9 e9 => ?_) (fun E9 h9 e9 => nomatch e9)
  cases e9
  show Ev _ _ _ _ _ _ 4 [some (.ref 396), some (.int (nI k)), none] [.int (chA (I 401) q s.1)] (N, SH v T, PM I s, L, Dd)
  refine Ev.sg hX (sX7_parsesCommand_4.sub 0 3) (pc' := 7) (ls' := [some (.ref 396), some (.int (nI k)), some (.int (chA (I 401) q s.1))]) (st' := [.ref 396, .ref 396]) (h' := (N, SH v T, PM I s, L, Dd)) rfl ?_
  refine Ev.getf (sX7_parsesCommand_4.lk 3 (q := (7, .getfield 175, 7, 14)) rfl) rfl rfl (sX7_parsesCommand_4.dc 3 (q := (7, .getfield 175, 7, 14)) rfl) ?_
  show Ev _ _ _ _ _ _ 10 [some (.ref 396), some (.int (nI k)), some (.int (chA (I 401) q s.1))] [.int (nI s.1), .ref 396] (N, SH v T, PM I s, L, Dd)
  refine Ev.sg hX (sX7_parsesCommand_4.sub 4 2) (pc' := 12) (ls' := [some (.ref 396), some (.int (nI k)), some (.int (chA (I 401) q s.1))]) (st' := [.int ((nI s.1) + 1), .ref 396]) (h' := (N, SH v T, PM I s, L, Dd)) rfl ?_
  refine Ev.putf hX (sX7_parsesCommand_4.lk 6 (q := (12, .putfield 175, 7, 14)) rfl) rfl rfl (sX7_parsesCommand_4.dc 6 (q := (12, .putfield 175, 7, 14)) rfl) ?_
  show Ev _ _ _ _ _ _ 15 [some (.ref 396), some (.int (nI k)), some (.int (chA (I 401) q s.1))] [] (N, SH v T, up2 (PM I s) 396 14 ((nI s.1) + 1), L, Dd)
  refine Ev.eqh (h' := (N, SH v T, PM I (s.1 + 1, s.2), L, Dd)) (congrArg (fun z => (N, SH v T, z, L, Dd)) ((congrArg (up2 (PM I s) 396 14) (nI_1 s.1)).trans PM_sp)) ?_
  refine Ev.sg hX (sX7_parsesCommand_4.sub 7 1) (pc' := 16) (ls' := [some (.ref 396), some (.int (nI k)), some (.int (chA (I 401) q s.1))]) (st' := [.ref 396]) (h' := (N, SH v T, PM I (s.1 + 1, s.2), L, Dd)) rfl ?_
  refine Ev.getf (sX7_parsesCommand_4.lk 8 (q := (16, .getfield 39, 7, 16)) rfl) rfl rfl (sX7_parsesCommand_4.dc 8 (q := (16, .getfield 39, 7, 16)) rfl) ?_
  show Ev _ _ _ _ _ _ 19 [some (.ref 396), some (.int (nI k)), some (.int (chA (I 401) q s.1))] [.ref 404] (N, SH v T, PM I (s.1 + 1, s.2), L, Dd)
  refine Ev.sg hX (sX7_parsesCommand_4.sub 9 2) (pc' := 21) (ls' := [some (.ref 396), some (.int (nI k)), some (.int (chA (I 401) q s.1))]) (st' := [.int (chA (I 401) q s.1), .int (nI k), .ref 404]) (h' := (N, SH v T, PM I (s.1 + 1, s.2), L, Dd)) rfl ?_
  refine Ev.iastE (n := k) (N := 360) hX rfl rfl (by omega) (by decide) dX7_parsesCommand_21 ?_
  show Ev _ _ _ _ _ _ 22 [some (.ref 396), some (.int (nI k)), some (.int (chA (I 401) q s.1))] [] (N, SH v T, up2 (PM I (s.1 + 1, s.2)) 404 k (chA (I 401) q s.1), L, Dd)
  rw [PM_P]
  show Ev _ _ _ _ _ _ 22 [some (.ref 396), some (.int (nI k)), some (.int (chA (I 401) q s.1))] [] (N, SH v T, PM I (wr (s.1 + 1, s.2) k (chA (I 401) q s.1)), L, Dd)
  refine Ev.sg hX (sX7_parsesCommand_22.sub 0 1) (pc' := 23) (ls' := [some (.ref 396), some (.int (nI k)), some (.int (chA (I 401) q s.1))]) (st' := [.int (chA (I 401) q s.1)]) (h' := (N, SH v T, PM I (wr (s.1 + 1, s.2) k (chA (I 401) q s.1)), L, Dd)) rfl ?_
  generalize hc9 : chA (I 401) q s.1 = c9
  by_cases h0 : c9 = 116
  · subst h0
    refine Ev.look (off := 41) (tgt := 64) dX7_parsesCommand_23 (by decide) (by decide) (by decide) ?_
    show Ev _ _ _ _ _ _ 64 [some (.ref 396), some (.int (nI k)), some (.int 116)] [] (N, SH v T, PM I (s.1 + 1, s.2.1, upV s.2.2 k 116), L, Dd)
    refine Ev.sg hX (sX7_parsesCommand_64.sub 0 2) (pc' := 66) (ls' := [some (.ref 396), some (.int (nI k)), some (.int 116)]) (st' := [.int (nI k), .ref 396]) (h' := (N, SH v T, PM I (s.1 + 1, s.2.1, upV s.2.2 k 116), L, Dd)) rfl ?_
    refine Ev.callV (As := [.int (nI k)]) (rest := []) dvX7_parsesT mkX7_198 rfl rfl dX7_parsesCommand_66 (m_parsesT (d := d - 1) (s := (s.1 + 1, s.2.1, upV s.2.2 k 116)) (k := k) hX (by omega) hq hty (Nat.le_trans (show ((s.1 + 1, s.2.1, upV s.2.2 k 116) : MS).1 ≤ 701 from Nat.succ_le_succ hb) (by decide)) (by omega)) ⟨by omega, by show 2 + 19 + 40 * _ ≤ 40 * _; omega⟩ ⟨Nat.zero_le _, Nat.zero_le _⟩ rfl (Nat.le_of_ble_eq_true rfl) (fun v9 h9 e9 => ?_) (fun E9 h9 e9 => nomatch e9)
    cases e9
    show Ev _ _ _ _ _ _ 69 [some (.ref 396), some (.int (nI k)), some (.int 116)] [] (N, SH v T, PM I (pT (I 401) q k (s.1 + 1, s.2.1, upV s.2.2 k 116)), L, Dd)
    refine Ev.sg hX (sX7_parsesCommand_69.sub 0 1) (pc' := 143) (ls' := [some (.ref 396), some (.int (nI k)), some (.int 116)]) (st' := []) (h' := (N, SH v T, PM I (pT (I 401) q k (s.1 + 1, s.2.1, upV s.2.2 k 116)), L, Dd)) rfl ?_
    refine Ev.vret dX7_parsesCommand_143 rfl ?_
    rw [pX, hc9, if_pos rfl]
  · skip
    by_cases h1 : c9 = 115
    · subst h1
      refine Ev.look (off := 49) (tgt := 72) dX7_parsesCommand_23 (by decide) (by decide) (by decide) ?_
      show Ev _ _ _ _ _ _ 72 [some (.ref 396), some (.int (nI k)), some (.int 115)] [] (N, SH v T, PM I (s.1 + 1, s.2.1, upV s.2.2 k 115), L, Dd)
      refine Ev.sg hX (sX7_parsesCommand_72.sub 0 2) (pc' := 74) (ls' := [some (.ref 396), some (.int (nI k)), some (.int 115)]) (st' := [.int (nI k), .ref 396]) (h' := (N, SH v T, PM I (s.1 + 1, s.2.1, upV s.2.2 k 115), L, Dd)) rfl ?_
      refine Ev.callV (As := [.int (nI k)]) (rest := []) dvX7_parsesS mkX7_201 rfl rfl dX7_parsesCommand_74 (m_parsesS (d := d - 1) (s := (s.1 + 1, s.2.1, upV s.2.2 k 115)) (k := k) hX (by omega) hq hty (Nat.le_trans (show ((s.1 + 1, s.2.1, upV s.2.2 k 115) : MS).1 ≤ 701 from Nat.succ_le_succ hb) (by decide)) (by omega)) ⟨by omega, by show 2 + 19 + 40 * _ ≤ 40 * _; omega⟩ ⟨Nat.zero_le _, Nat.zero_le _⟩ rfl (Nat.le_of_ble_eq_true rfl) (fun v9 h9 e9 => ?_) (fun E9 h9 e9 => nomatch e9)
      cases e9
      show Ev _ _ _ _ _ _ 77 [some (.ref 396), some (.int (nI k)), some (.int 115)] [] (N, SH v T, PM I (pS (I 401) q k (s.1 + 1, s.2.1, upV s.2.2 k 115)), L, Dd)
      refine Ev.sg hX (sX7_parsesCommand_77.sub 0 1) (pc' := 143) (ls' := [some (.ref 396), some (.int (nI k)), some (.int 115)]) (st' := []) (h' := (N, SH v T, PM I (pS (I 401) q k (s.1 + 1, s.2.1, upV s.2.2 k 115)), L, Dd)) rfl ?_
      refine Ev.vret dX7_parsesCommand_143 rfl ?_
      rw [pX, hc9, if_neg (by decide), if_pos rfl]
    · skip
      by_cases h2 : c9 = 99
      · subst h2
        refine Ev.look (off := 57) (tgt := 80) dX7_parsesCommand_23 (by decide) (by decide) (by decide) ?_
        show Ev _ _ _ _ _ _ 80 [some (.ref 396), some (.int (nI k)), some (.int 99)] [] (N, SH v T, PM I (s.1 + 1, s.2.1, upV s.2.2 k 99), L, Dd)
        refine Ev.sg hX (sX7_parsesCommand_80.sub 0 2) (pc' := 82) (ls' := [some (.ref 396), some (.int (nI k)), some (.int 99)]) (st' := [.int (nI k), .ref 396]) (h' := (N, SH v T, PM I (s.1 + 1, s.2.1, upV s.2.2 k 99), L, Dd)) rfl ?_
        refine Ev.callV (As := [.int (nI k)]) (rest := []) dvX7_parsesC mkX7_204 rfl rfl dX7_parsesCommand_82 (m_parsesC (d := d - 1) (s := (s.1 + 1, s.2.1, upV s.2.2 k 99)) (k := k) hX (by omega) hq hty (Nat.le_trans (show ((s.1 + 1, s.2.1, upV s.2.2 k 99) : MS).1 ≤ 701 from Nat.succ_le_succ hb) (by decide)) (by omega)) ⟨by omega, by show 2 + 19 + 40 * _ ≤ 40 * _; omega⟩ ⟨Nat.zero_le _, Nat.zero_le _⟩ rfl (Nat.le_of_ble_eq_true rfl) (fun v9 h9 e9 => ?_) (fun E9 h9 e9 => nomatch e9)
        cases e9
        show Ev _ _ _ _ _ _ 85 [some (.ref 396), some (.int (nI k)), some (.int 99)] [] (N, SH v T, PM I (pC (I 401) q k (s.1 + 1, s.2.1, upV s.2.2 k 99)), L, Dd)
        refine Ev.sg hX (sX7_parsesCommand_85.sub 0 1) (pc' := 143) (ls' := [some (.ref 396), some (.int (nI k)), some (.int 99)]) (st' := []) (h' := (N, SH v T, PM I (pC (I 401) q k (s.1 + 1, s.2.1, upV s.2.2 k 99)), L, Dd)) rfl ?_
        refine Ev.vret dX7_parsesCommand_143 rfl ?_
        rw [pX, hc9, if_neg (by decide), if_neg (by decide), if_pos rfl]
      · skip
        by_cases h3 : c9 = 114
        · subst h3
          refine Ev.look (off := 65) (tgt := 88) dX7_parsesCommand_23 (by decide) (by decide) (by decide) ?_
          show Ev _ _ _ _ _ _ 88 [some (.ref 396), some (.int (nI k)), some (.int 114)] [] (N, SH v T, PM I (s.1 + 1, s.2.1, upV s.2.2 k 114), L, Dd)
          refine Ev.sg hX (sX7_parsesCommand_88.sub 0 4) (pc' := 95) (ls' := [some (.ref 396), some (.int (nI k)), some (.int 114)]) (st' := [.int 97, .int 112, .int 101, .ref 396]) (h' := (N, SH v T, PM I (s.1 + 1, s.2.1, upV s.2.2 k 114), L, Dd)) rfl ?_
          refine Ev.callV (As := [.int 101, .int 112, .int 97]) (rest := []) dvX7_needsThree mkX7_191 rfl rfl dX7_parsesCommand_95 (m_needsThree (d := d - 1) (s := (s.1 + 1, s.2.1, upV s.2.2 k 114)) hX (by omega) hq hty (Nat.le_trans (show ((s.1 + 1, s.2.1, upV s.2.2 k 114) : MS).1 ≤ 701 from Nat.succ_le_succ hb) (by decide))) ⟨by omega, by show 4 + 19 + 40 * _ ≤ 40 * _; omega⟩ ⟨Nat.zero_le _, Nat.zero_le _⟩ rfl (Nat.le_of_ble_eq_true rfl) (fun v9 h9 e9 => ?_) (fun E9 h9 e9 => nomatch e9)
          cases e9
          show Ev _ _ _ _ _ _ 98 [some (.ref 396), some (.int (nI k)), some (.int 114)] [] (N, SH v T, PM I (nd (I 401) q 97 (nd (I 401) q 112 (nd (I 401) q 101 (s.1 + 1, s.2.1, upV s.2.2 k 114)))), L, Dd)
          refine Ev.sg hX (sX7_parsesCommand_98.sub 0 2) (pc' := 101) (ls' := [some (.ref 396), some (.int (nI k)), some (.int 114)]) (st' := [.int 105, .ref 396]) (h' := (N, SH v T, PM I (nd (I 401) q 97 (nd (I 401) q 112 (nd (I 401) q 101 (s.1 + 1, s.2.1, upV s.2.2 k 114)))), L, Dd)) rfl ?_
          refine Ev.callV (As := [.int 105]) (rest := []) dvX7_needs mkX7_185 rfl rfl dX7_parsesCommand_101 (m_needs (d := d - 1) (s := (nd (I 401) q 97 (nd (I 401) q 112 (nd (I 401) q 101 (s.1 + 1, s.2.1, upV s.2.2 k 114))))) hX (by omega) hq hty (Nat.le_trans (nd_b (nd_b (nd_b (show ((s.1 + 1, s.2.1, upV s.2.2 k 114) : MS).1 ≤ 701 from Nat.succ_le_succ hb)))) (by decide))) ⟨by omega, by show 2 + 19 + 40 * _ ≤ 40 * _; omega⟩ ⟨Nat.zero_le _, Nat.zero_le _⟩ rfl (Nat.le_of_ble_eq_true rfl) (fun v9 h9 e9 => ?_) (fun E9 h9 e9 => nomatch e9)
          cases e9
          show Ev _ _ _ _ _ _ 104 [some (.ref 396), some (.int (nI k)), some (.int 114)] [] (N, SH v T, PM I (nd (I 401) q 105 (nd (I 401) q 97 (nd (I 401) q 112 (nd (I 401) q 101 (s.1 + 1, s.2.1, upV s.2.2 k 114))))), L, Dd)
          refine Ev.sg hX (sX7_parsesCommand_104.sub 0 2) (pc' := 107) (ls' := [some (.ref 396), some (.int (nI k)), some (.int 114)]) (st' := [.int 114, .ref 396]) (h' := (N, SH v T, PM I (nd (I 401) q 105 (nd (I 401) q 97 (nd (I 401) q 112 (nd (I 401) q 101 (s.1 + 1, s.2.1, upV s.2.2 k 114))))), L, Dd)) rfl ?_
          refine Ev.callV (As := [.int 114]) (rest := []) dvX7_needs mkX7_185 rfl rfl dX7_parsesCommand_107 (m_needs (d := d - 1) (s := (nd (I 401) q 105 (nd (I 401) q 97 (nd (I 401) q 112 (nd (I 401) q 101 (s.1 + 1, s.2.1, upV s.2.2 k 114)))))) hX (by omega) hq hty (Nat.le_trans (nd_b (nd_b (nd_b (nd_b (show ((s.1 + 1, s.2.1, upV s.2.2 k 114) : MS).1 ≤ 701 from Nat.succ_le_succ hb))))) (by decide))) ⟨by omega, by show 2 + 19 + 40 * _ ≤ 40 * _; omega⟩ ⟨Nat.zero_le _, Nat.zero_le _⟩ rfl (Nat.le_of_ble_eq_true rfl) (fun v9 h9 e9 => ?_) (fun E9 h9 e9 => nomatch e9)
          cases e9
          show Ev _ _ _ _ _ _ 110 [some (.ref 396), some (.int (nI k)), some (.int 114)] [] (N, SH v T, PM I (nd (I 401) q 114 (nd (I 401) q 105 (nd (I 401) q 97 (nd (I 401) q 112 (nd (I 401) q 101 (s.1 + 1, s.2.1, upV s.2.2 k 114)))))), L, Dd)
          refine Ev.sg hX (sX7_parsesCommand_110.sub 0 1) (pc' := 111) (ls' := [some (.ref 396), some (.int (nI k)), some (.int 114)]) (st' := [.ref 396]) (h' := (N, SH v T, PM I (nd (I 401) q 114 (nd (I 401) q 105 (nd (I 401) q 97 (nd (I 401) q 112 (nd (I 401) q 101 (s.1 + 1, s.2.1, upV s.2.2 k 114)))))), L, Dd)) rfl ?_
          refine Ev.getf (sX7_parsesCommand_110.lk 1 (q := (111, .getfield 39, 7, 16)) rfl) rfl rfl (sX7_parsesCommand_110.dc 1 (q := (111, .getfield 39, 7, 16)) rfl) ?_
          show Ev _ _ _ _ _ _ 114 [some (.ref 396), some (.int (nI k)), some (.int 114)] [.ref 404] (N, SH v T, PM I (nd (I 401) q 114 (nd (I 401) q 105 (nd (I 401) q 97 (nd (I 401) q 112 (nd (I 401) q 101 (s.1 + 1, s.2.1, upV s.2.2 k 114)))))), L, Dd)
          refine Ev.sg hX (sX7_parsesCommand_110.sub 2 6) (pc' := 121) (ls' := [some (.ref 396), some (.int (nI k)), some (.int 114)]) (st' := [.int 2, .int 32, .ref 396, .int ((nI k) + 1), .ref 404]) (h' := (N, SH v T, PM I (nd (I 401) q 114 (nd (I 401) q 105 (nd (I 401) q 97 (nd (I 401) q 112 (nd (I 401) q 101 (s.1 + 1, s.2.1, upV s.2.2 k 114)))))), L, Dd)) rfl ?_
          refine Ev.callV (As := [.int 32, .int 2]) (rest := [.int ((nI k) + 1), .ref 404]) dvX7_digitsAfter mkX7_188 rfl rfl dX7_parsesCommand_121 (m_digitsAfter (d := d - 1) (s := (nd (I 401) q 114 (nd (I 401) q 105 (nd (I 401) q 97 (nd (I 401) q 112 (nd (I 401) q 101 (s.1 + 1, s.2.1, upV s.2.2 k 114))))))) (n := 2) hX (by omega) hq hty (Nat.le_trans (nd_b (nd_b (nd_b (nd_b (nd_b (show ((s.1 + 1, s.2.1, upV s.2.2 k 114) : MS).1 ≤ 701 from Nat.succ_le_succ hb)))))) (by decide)) (by decide)) ⟨by omega, by show 5 + 19 + 40 * _ ≤ 40 * _; omega⟩ ⟨Nat.zero_le _, Nat.zero_le _⟩ rfl (Nat.le_of_ble_eq_true rfl) (fun v9 h9 e9 => ?_) (fun E9 h9 e9 => nomatch e9)
          cases e9
          show Ev _ _ _ _ _ _ 124 [some (.ref 396), some (.int (nI k)), some (.int 114)] [.int (dv (I 401) q 32 2 (nd (I 401) q 114 (nd (I 401) q 105 (nd (I 401) q 97 (nd (I 401) q 112 (nd (I 401) q 101 (s.1 + 1, s.2.1, upV s.2.2 k 114))))))), .int ((nI k) + 1), .ref 404] (N, SH v T, PM I (dd9 (I 401) q 32 2 (nd (I 401) q 114 (nd (I 401) q 105 (nd (I 401) q 97 (nd (I 401) q 112 (nd (I 401) q 101 (s.1 + 1, s.2.1, upV s.2.2 k 114))))))), L, Dd)
          refine Ev.iastE (n := (k + 1)) (N := 360) hX rfl (naI rfl rfl) (by omega) (by decide) dX7_parsesCommand_124 ?_
          show Ev _ _ _ _ _ _ 125 [some (.ref 396), some (.int (nI k)), some (.int 114)] [] (N, SH v T, up2 (PM I (dd9 (I 401) q 32 2 (nd (I 401) q 114 (nd (I 401) q 105 (nd (I 401) q 97 (nd (I 401) q 112 (nd (I 401) q 101 (s.1 + 1, s.2.1, upV s.2.2 k 114)))))))) 404 (k + 1) (dv (I 401) q 32 2 (nd (I 401) q 114 (nd (I 401) q 105 (nd (I 401) q 97 (nd (I 401) q 112 (nd (I 401) q 101 (s.1 + 1, s.2.1, upV s.2.2 k 114))))))), L, Dd)
          rw [PM_P]
          show Ev _ _ _ _ _ _ 125 [some (.ref 396), some (.int (nI k)), some (.int 114)] [] (N, SH v T, PM I (dw (I 401) q 32 2 (k + 1) (nd (I 401) q 114 (nd (I 401) q 105 (nd (I 401) q 97 (nd (I 401) q 112 (nd (I 401) q 101 (s.1 + 1, s.2.1, upV s.2.2 k 114))))))), L, Dd)
          refine Ev.sg hX (sX7_parsesCommand_125.sub 0 1) (pc' := 143) (ls' := [some (.ref 396), some (.int (nI k)), some (.int 114)]) (st' := []) (h' := (N, SH v T, PM I (dw (I 401) q 32 2 (k + 1) (nd (I 401) q 114 (nd (I 401) q 105 (nd (I 401) q 97 (nd (I 401) q 112 (nd (I 401) q 101 (s.1 + 1, s.2.1, upV s.2.2 k 114))))))), L, Dd)) rfl ?_
          refine Ev.vret dX7_parsesCommand_143 rfl ?_
          rw [pX, hc9, if_neg (by decide), if_neg (by decide), if_neg (by decide), if_pos rfl]
        · skip
          refine Ev.look (off := 105) (tgt := 128) dX7_parsesCommand_23 (by decide) (look_no h0 h1 h2 h3) (by decide) ?_
          show Ev _ _ _ _ _ _ 128 [some (.ref 396), some (.int (nI k)), some (.int c9)] [] (N, SH v T, PM I (s.1 + 1, s.2.1, upV s.2.2 k c9), L, Dd)
          refine Ev.sg hX (sX7_parsesCommand_128.sub 0 2) (pc' := 130) (ls' := [some (.ref 396), some (.int (nI k)), some (.int c9)]) (st' := [.int 1, .ref 396]) (h' := (N, SH v T, PM I (s.1 + 1, s.2.1, upV s.2.2 k c9), L, Dd)) rfl ?_
          refine Ev.putI (j := 15) hX ci_X7 (by decide) (bw_of 1501 (by decide +kernel) (by decide +kernel)) (Or.inl rfl) rfl rfl rfl rfl dX7_parsesCommand_130 ?_
          show Ev _ _ _ _ _ _ 133 [some (.ref 396), some (.int (nI k)), some (.int c9)] [] (N, SH v T, up2 (PM I (s.1 + 1, s.2.1, upV s.2.2 k c9)) 396 15 1, L, Dd)
          rw [PM_w]
          refine Ev.sg hX (sX7_parsesCommand_133.sub 0 2) (pc' := 135) (ls' := [some (.ref 396), some (.int (nI k)), some (.int c9)]) (st' := [.ref 396, .ref 396]) (h' := (N, SH v T, PM I (s.1 + 1, 1, upV s.2.2 k c9), L, Dd)) rfl ?_
          refine Ev.getf (sX7_parsesCommand_133.lk 2 (q := (135, .getfield 175, 7, 14)) rfl) rfl rfl (sX7_parsesCommand_133.dc 2 (q := (135, .getfield 175, 7, 14)) rfl) ?_
          show Ev _ _ _ _ _ _ 138 [some (.ref 396), some (.int (nI k)), some (.int c9)] [.int (nI (s.1 + 1, 1, upV s.2.2 k c9).1), .ref 396] (N, SH v T, PM I (s.1 + 1, 1, upV s.2.2 k c9), L, Dd)
          refine Ev.sg hX (sX7_parsesCommand_133.sub 3 2) (pc' := 140) (ls' := [some (.ref 396), some (.int (nI k)), some (.int c9)]) (st' := [.int ((nI (s.1 + 1, 1, upV s.2.2 k c9).1) - 1), .ref 396]) (h' := (N, SH v T, PM I (s.1 + 1, 1, upV s.2.2 k c9), L, Dd)) rfl ?_
          refine Ev.putf hX (sX7_parsesCommand_133.lk 5 (q := (140, .putfield 175, 7, 14)) rfl) rfl rfl (sX7_parsesCommand_133.dc 5 (q := (140, .putfield 175, 7, 14)) rfl) ?_
          show Ev _ _ _ _ _ _ 143 [some (.ref 396), some (.int (nI k)), some (.int c9)] [] (N, SH v T, up2 (PM I (s.1 + 1, 1, upV s.2.2 k c9)) 396 14 ((nI (s.1 + 1, 1, upV s.2.2 k c9).1) - 1), L, Dd)
          refine Ev.eqh (h' := (N, SH v T, PM I (s.1, 1, upV s.2.2 k c9), L, Dd)) (congrArg (fun z => (N, SH v T, z, L, Dd)) ((congrArg (up2 (PM I (s.1 + 1, 1, upV s.2.2 k c9)) 396 14) (show nI (s.1 + 1) - 1 = nI s.1 by rw [show (1 : Int32) = nI 1 from rfl, nI_subN (by omega), Nat.add_sub_cancel])).trans PM_sp)) ?_
          refine Ev.vret dX7_parsesCommand_143 rfl ?_
          rw [pX, hc9, if_neg h0, if_neg h1, if_neg h2, if_neg h3]
end PMO
