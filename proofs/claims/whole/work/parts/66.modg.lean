/-! the model: run -/
theorem PM_0 {I : HI} : up2 (up2 I 396 14 0) 396 15 0 = PM I (0, 0, I 404) := by
  funext a j
  unfold up2 PM
  by_cases ha : a = 396
  · subst ha
    by_cases h15 : j = 15
    · simp [h15]
    · by_cases h14 : j = 14
      · simp [h14]
        rfl
      · simp [h15, h14]
  · by_cases h4 : a = 404
    · simp [h4]
    · simp [ha, h4]
theorem rd_b {tx : Nat → Int32} {q : Nat} (hq : q ≤ 60) : ∀ (n ct : Nat) (s : MS), 2 * ct ≤ s.1 → s.1 ≤ q → (rdM tx q n ct s).1 ≤ 31 ∧ (rdM tx q n ct s).2.1 ≤ 100
  | 0, ct, s, h1, h2 => ⟨by show ct ≤ 31; omega, by show s.1 ≤ 100; omega⟩
  | n + 1, ct, s, h1, h2 => by
    have hb := pX_b (tx := tx) (q := q) (k := 6 * ct) (show s.1 ≤ 60 by omega)
    rw [rdM]
    split
    · rename_i h
      obtain ⟨a, b⟩ := pX_ok h.1
      have := chA_no h.2 (by decide)
      exact rd_b hq n (ct + 1) _ (by show 2 * (ct + 1) ≤ _ + 1; omega) (by show _ + 1 ≤ q; omega)
    · exact ⟨by show ct + 1 ≤ 31; omega, by show (pX tx q (6 * ct) s).1 ≤ 100; omega⟩
abbrev rd0 (I : HI) (q : Nat) : Nat × MS := rdM (I 401) q 61 0 (0, 0, I 404)
abbrev runE (I : HI) (q : Nat) : Prop := ¬ (rd0 I q).2.2.1 = 0 ∨ (rd0 I q).2.1 < q
def mrn0 (I : HI) (q : Nat) : HI := begM (up2 (PM I ((rd0 I q).2.1, 0, (rd0 I q).2.2.2)) 396 7 0)
def runM (I : HI) (q ch : Nat) : Int32 × HI := if runE I q then (0, up2 (up2 (up2 (PM I ((rd0 I q).2.1, 1, (rd0 I q).2.2.2)) 396 7 0) 396 8 (nI (rd0 I q).2.1)) 396 12 1)
  else mfi ch (rd0 I q).1 (mrL (rd0 I q).1 0 (mrn0 I q)).2 (mrL (rd0 I q).1 0 (mrn0 I q)).1
section PMQ
variable {X : JX} {d N v : Nat} {T : Nat → Option JS} {I : Nat → Nat → Int32} {L : Nat → Nat → Int64} {Dd : Nat → Nat → UInt64} {q k n ch ct : Nat} {c e : Int32} {s : MS}
theorem l_mr (hX : JXok X) (hd : 7 ≤ d) (hch8 : ch ≤ 8) (hct : ct ≤ 40) : ∀ (n k : Nat) (J : HI) (l4 : Option Value), k + n = ct → mrOK ch n k J → (l4 = none ∨ ∃ x, l4 = some (.int x)) → Ev X (jm jdX7_run) d 0 0 (fun R => R = .inl (some (.int (mfi ch ct (mrL n k J).2 (mrL n k J).1).1), (N, SH v T, (mfi ch ct (mrL n k J).2 (mrL n k J).1).2, L, Dd))) 131 [some (.ref 396), some (.int (nI ct)), some (.int 0), some (.int (nI k)), l4] [] (N, SH v T, J, L, Dd) := by
  intro n
  induction n with
  | zero =>
    intro k J l4 hk hok hl4
    refine Ev.sg hX (sX7_run_131.sub 0 2) (pc' := 133) (ls' := [some (.ref 396), some (.int (nI ct)), some (.int 0), some (.int (nI k)), l4]) (st' := [.int (nI ct), .int (nI k)]) (h' := (N, SH v T, J, L, Dd)) rfl ?_
    refine Ev.icmp_ge (tgt := 176) dX7_run_133 (by decide) (fun b1 => ?_) (fun b1 => ?_)
    · have hch2 : J 396 3 = nI ch := hok
      refine Ev.sg hX (sX7_run_176.sub 0 3) (pc' := 179) (ls' := [some (.ref 396), some (.int (nI ct)), some (.int 0), some (.int (nI k)), l4]) (st' := [.int (nI ct), .ref 396, .ref 396]) (h' := (N, SH v T, J, L, Dd)) rfl ?_
      refine Ev.callV (As := [.int (nI ct)]) (rest := [.ref 396]) dvX7_done mkX7_79 rfl rfl dX7_run_179 (m_done (d := d - 1) (I := J) hX (by omega)) ⟨by omega, by show 2 + 19 + 40 * _ ≤ 40 * _; omega⟩ ⟨Nat.zero_le _, Nat.zero_le _⟩ rfl (Nat.le_of_ble_eq_true rfl) (fun v9 h9 e9 => ?_) (fun E9 h9 e9 => nomatch e9)
      cases e9
      show Ev _ _ _ _ _ _ 182 [some (.ref 396), some (.int (nI ct)), some (.int 0), some (.int (nI k)), l4] [.int (nI ct), .ref 396] (N, SH v T, up2 J 396 12 0, L, Dd)
      refine Ev.callV (As := [.int (nI ct)]) (rest := []) dvX7_kept mkX7_88 rfl rfl dX7_run_182 (m_kept (d := d - 1) (I := (up2 J 396 12 0)) hX (by omega) (ch := ch) hch2 hch8) ⟨by omega, by show 3 + 19 + 40 * _ ≤ 40 * _; omega⟩ ⟨Nat.zero_le _, Nat.zero_le _⟩ rfl (Nat.le_of_ble_eq_true rfl) (fun v9 h9 e9 => ?_) (fun E9 h9 e9 => nomatch e9)
      cases e9
      show Ev _ _ _ _ _ _ 185 [some (.ref 396), some (.int (nI ct)), some (.int 0), some (.int (nI k)), l4] [.int ((kepM (up2 J 396 12 0) (nI ct) ch).1)] (N, SH v T, (kepM (up2 J 396 12 0) (nI ct) ch).2, L, Dd)
      refine Ev.iret dX7_run_185 rfl ?_
      rfl
    · exact absurd ((nI_leI (a := ct) (b := k) (by omega) (by omega)).mpr (by omega)) b1
  | succ n ih =>
    intro k J l4 hk hok hl4
    refine Ev.sg hX (sX7_run_131.sub 0 2) (pc' := 133) (ls' := [some (.ref 396), some (.int (nI ct)), some (.int 0), some (.int (nI k)), l4]) (st' := [.int (nI ct), .int (nI k)]) (h' := (N, SH v T, J, L, Dd)) rfl ?_
    refine Ev.icmp_ge (tgt := 176) dX7_run_133 (by decide) (fun b1 => ?_) (fun b1 => ?_)
    · exact absurd ((nI_leI (a := ct) (b := k) (by omega) (by omega)).mp b1) (by omega)
    · obtain ⟨hco, hch2, hnx⟩ := hok
      refine Ev.sg hX (sX7_run_136.sub 0 4) (pc' := 141) (ls' := [some (.ref 396), some (.int (nI ct)), some (.int 0), some (.int (nI k)), l4]) (st' := [.int (6 * (nI k)), .ref 396]) (h' := (N, SH v T, J, L, Dd)) rfl ?_
      refine Ev.eqst (st' := [.int (nI (6 * k)), .ref 396]) (by rw [show 6 * nI k = nI (6 * k) from nmI rfl rfl]) ?_
      refine Ev.callV (As := [.int (nI (6 * k))]) (rest := []) dvX7_carriesOut mkX7_210 rfl rfl dX7_run_141 (m_carriesOut (d := d - 1) (I := J) (k := 6 * k) hX (by omega) (by omega) hco) ⟨by omega, by show 4 + 19 + 40 * _ ≤ 40 * _; omega⟩ ⟨Nat.zero_le _, Nat.zero_le _⟩ rfl (Nat.le_of_ble_eq_true rfl) (fun v9 h9 e9 => ?_) (fun E9 h9 e9 => nomatch e9)
      cases e9
      generalize hcm : coM J (6 * k) = cm at hch2 hnx
      show Ev _ _ _ _ _ _ 144 [some (.ref 396), some (.int (nI ct)), some (.int 0), some (.int (nI k)), l4] [.int cm.1] (N, SH v T, cm.2, L, Dd)
      refine Ev.sg hX (sX7_run_144.sub 0 2) (pc' := 147) (ls' := [some (.ref 396), some (.int (nI ct)), some (.int 0), some (.int (nI k)), some (.int cm.1)]) (st' := [.ref 396]) (h' := (N, SH v T, cm.2, L, Dd)) rfl ?_
      refine Ev.getf (sX7_run_144.lk 2 (q := (147, .getfield 42, 7, 12)) rfl) rfl rfl (sX7_run_144.dc 2 (q := (147, .getfield 42, 7, 12)) rfl) ?_
      show Ev _ _ _ _ _ _ 150 [some (.ref 396), some (.int (nI ct)), some (.int 0), some (.int (nI k)), some (.int cm.1)] [.int (cm.2 396 12)] (N, SH v T, cm.2, L, Dd)
      refine Ev.if_eq (tgt := 170) dX7_run_150 (by decide) (fun b2 => ?_) (fun b2 => ?_)
      · refine Ev.sg hX (sX7_run_170.sub 0 2) (pc' := 131) (ls' := [some (.ref 396), some (.int (nI ct)), some (.int 0), some (.int ((nI k) + 1)), some (.int cm.1)]) (st' := []) (h' := (N, SH v T, cm.2, L, Dd)) rfl ?_
        rw [nI_1, mrL, hcm, if_pos b2]
        exact ih (k + 1) cm.2 _ (by omega) (hnx b2) (Or.inr ⟨_, rfl⟩)
      · refine Ev.sg hX (sX7_run_153.sub 0 2) (pc' := 155) (ls' := [some (.ref 396), some (.int (nI ct)), some (.int 0), some (.int (nI k)), some (.int cm.1)]) (st' := [.int (nI k), .ref 396]) (h' := (N, SH v T, cm.2, L, Dd)) rfl ?_
        refine Ev.putf hX (sX7_run_153.lk 2 (q := (155, .putfield 30, 7, 9)) rfl) rfl rfl (sX7_run_153.dc 2 (q := (155, .putfield 30, 7, 9)) rfl) ?_
        show Ev _ _ _ _ _ _ 158 [some (.ref 396), some (.int (nI ct)), some (.int 0), some (.int (nI k)), some (.int cm.1)] [] (N, SH v T, up2 cm.2 396 9 (nI k), L, Dd)
        refine Ev.sg hX (sX7_run_153.sub 3 2) (pc' := 160) (ls' := [some (.ref 396), some (.int (nI ct)), some (.int 0), some (.int (nI k)), some (.int cm.1)]) (st' := [.int 2, .ref 396]) (h' := (N, SH v T, up2 cm.2 396 9 (nI k), L, Dd)) rfl ?_
        refine Ev.putf hX (sX7_run_153.lk 5 (q := (160, .putfield 42, 7, 12)) rfl) rfl rfl (sX7_run_153.dc 5 (q := (160, .putfield 42, 7, 12)) rfl) ?_
        show Ev _ _ _ _ _ _ 163 [some (.ref 396), some (.int (nI ct)), some (.int 0), some (.int (nI k)), some (.int cm.1)] [] (N, SH v T, up2 (up2 cm.2 396 9 (nI k)) 396 12 2, L, Dd)
        refine Ev.sg hX (sX7_run_153.sub 6 2) (pc' := 166) (ls' := [some (.ref 396), some (.int (nI ct)), some (.int 0), some (.int (nI k)), some (.int cm.1)]) (st' := [.int cm.1, .ref 396]) (h' := (N, SH v T, up2 (up2 cm.2 396 9 (nI k)) 396 12 2, L, Dd)) rfl ?_
        refine Ev.callV (As := [.int cm.1]) (rest := []) dvX7_kept mkX7_88 rfl rfl dX7_run_166 (m_kept (d := d - 1) (I := (up2 (up2 cm.2 396 9 (nI k)) 396 12 2)) hX (by omega) (ch := ch) hch2 hch8) ⟨by omega, by show 3 + 19 + 40 * _ ≤ 40 * _; omega⟩ ⟨Nat.zero_le _, Nat.zero_le _⟩ rfl (Nat.le_of_ble_eq_true rfl) (fun v9 h9 e9 => ?_) (fun E9 h9 e9 => nomatch e9)
        cases e9
        show Ev _ _ _ _ _ _ 169 [some (.ref 396), some (.int (nI ct)), some (.int 0), some (.int (nI k)), some (.int cm.1)] [.int ((kepM (up2 (up2 cm.2 396 9 (nI k)) 396 12 2) cm.1 ch).1)] (N, SH v T, (kepM (up2 (up2 cm.2 396 9 (nI k)) 396 12 2) cm.1 ch).2, L, Dd)
        refine Ev.iret dX7_run_169 rfl ?_
        rw [mrL, hcm, if_neg b2, mfi]
theorem m_run (hX : JXok X) (hd : 8 ≤ d) (hq : q ≤ 60) (hty : I 396 7 = nI q) (hch8 : ch ≤ 8) (hok : ¬ runE I q → mrOK ch (rdM (I 401) q 61 0 (0, 0, I 404)).1 0 (begM (up2 (PM I ((rdM (I 401) q 61 0 (0, 0, I 404)).2.1, 0, (rdM (I 401) q 61 0 (0, 0, I 404)).2.2.2)) 396 7 0))) : MT X d 0 0 jdX7_run [.ref 396] (N, SH v T, I, L, Dd) (fun R => R = .inl (some (.int (runM I q ch).1), (N, SH v T, (runM I q ch).2, L, Dd))) := by
  refine MT.mk dvX7_run.1 ?_
  refine Ev.sg hX (sX7_run_0.sub 0 2) (pc' := 2) (ls' := [some (.ref 396), none, none, none, none]) (st' := [.int 0, .ref 396]) (h' := (N, SH v T, I, L, Dd)) rfl ?_
  refine Ev.putf hX (sX7_run_0.lk 2 (q := (2, .putfield 175, 7, 14)) rfl) rfl rfl (sX7_run_0.dc 2 (q := (2, .putfield 175, 7, 14)) rfl) ?_
  show Ev _ _ _ _ _ _ 5 [some (.ref 396), none, none, none, none] [] (N, SH v T, up2 I 396 14 0, L, Dd)
  refine Ev.sg hX (sX7_run_0.sub 3 2) (pc' := 7) (ls' := [some (.ref 396), none, none, none, none]) (st' := [.int 0, .ref 396]) (h' := (N, SH v T, up2 I 396 14 0, L, Dd)) rfl ?_
  refine Ev.putI (j := 15) hX ci_X7 (by decide) (bw_of 1501 (by decide +kernel) (by decide +kernel)) (Or.inl rfl) rfl rfl rfl rfl dX7_run_7 ?_
  show Ev _ _ _ _ _ _ 10 [some (.ref 396), none, none, none, none] [] (N, SH v T, up2 (up2 I 396 14 0) 396 15 0, L, Dd)
  refine Ev.sg hX (sX7_run_10.sub 0 4) (pc' := 14) (ls' := [some (.ref 396), some (.int 0), some (.int 1), none, none]) (st' := []) (h' := (N, SH v T, up2 (up2 I 396 14 0) 396 15 0, L, Dd)) rfl ?_
  refine Ev.eqh (h' := (N, SH v T, PM I (0, 0, I 404), L, Dd)) (congrArg (fun z => (N, SH v T, z, L, Dd)) PM_0) ?_
  refine l_rd hX (by omega) hq hty 61 0 (0, 0, I 404) rfl (Nat.zero_le _) (Nat.zero_le _) ?_
  obtain ⟨hr1, hr2⟩ := rd_b (tx := I 401) hq 61 0 (0, 0, I 404) (Nat.zero_le _) (Nat.zero_le _)
  have he9 : ∀ R9, R9 = rdM (I 401) q 61 0 (0, 0, I 404) → (runE I q ↔ (¬ R9.2.2.1 = 0 ∨ R9.2.1 < q)) := fun R9 e => by rw [e]
  unfold runM mrn0
  dsimp only [rd0]
  generalize hR9 : rdM (I 401) q 61 0 (0, 0, I 404) = R9 at hr1 hr2 hok
  have he8 := he9 R9 hR9.symm
  obtain ⟨ct, s9⟩ := R9
  dsimp only at hr1 hr2 hok he8 ⊢
  show Ev _ _ _ _ _ _ 72 [some (.ref 396), some (.int (nI ct)), some (.int 0), none, none] [] (N, SH v T, PM I s9, L, Dd)
  refine Ev.sg hX (sX7_run_72.sub 0 2) (pc' := 74) (ls' := [some (.ref 396), some (.int (nI ct)), some (.int 0), none, none]) (st' := [.ref 396, .ref 396]) (h' := (N, SH v T, PM I s9, L, Dd)) rfl ?_
  refine Ev.getf (sX7_run_72.lk 2 (q := (74, .getfield 178, 7, 15)) rfl) rfl rfl (sX7_run_72.dc 2 (q := (74, .getfield 178, 7, 15)) rfl) ?_
  show Ev _ _ _ _ _ _ 77 [some (.ref 396), some (.int (nI ct)), some (.int 0), none, none] [.int s9.2.1, .ref 396] (N, SH v T, PM I s9, L, Dd)
  refine Ev.if_ne (tgt := 91) dX7_run_77 (by decide) (fun b1 => ?_) (fun b1 => ?_)
  · refine Ev.sg hX (sX7_run_91.sub 0 2) (pc' := 96) (ls' := [some (.ref 396), some (.int (nI ct)), some (.int 0), none, none]) (st' := [.int 1, .ref 396]) (h' := (N, SH v T, PM I s9, L, Dd)) rfl ?_
    refine Ev.putI (j := 15) hX ci_X7 (by decide) (bw_of 1501 (by decide +kernel) (by decide +kernel)) (Or.inl rfl) rfl rfl rfl rfl dX7_run_96 ?_
    show Ev _ _ _ _ _ _ 99 [some (.ref 396), some (.int (nI ct)), some (.int 0), none, none] [] (N, SH v T, up2 (PM I s9) 396 15 1, L, Dd)
    rw [PM_w]
    refine Ev.sg hX (sX7_run_99.sub 0 2) (pc' := 101) (ls' := [some (.ref 396), some (.int (nI ct)), some (.int 0), none, none]) (st' := [.int 0, .ref 396]) (h' := (N, SH v T, PM I (s9.1, 1, s9.2.2), L, Dd)) rfl ?_
    refine Ev.putf hX (sX7_run_99.lk 2 (q := (101, .putfield 172, 7, 7)) rfl) rfl rfl (sX7_run_99.dc 2 (q := (101, .putfield 172, 7, 7)) rfl) ?_
    show Ev _ _ _ _ _ _ 104 [some (.ref 396), some (.int (nI ct)), some (.int 0), none, none] [] (N, SH v T, up2 (PM I (s9.1, 1, s9.2.2)) 396 7 0, L, Dd)
    refine Ev.sg hX (sX7_run_99.sub 3 1) (pc' := 105) (ls' := [some (.ref 396), some (.int (nI ct)), some (.int 0), none, none]) (st' := [.ref 396]) (h' := (N, SH v T, up2 (PM I (s9.1, 1, s9.2.2)) 396 7 0, L, Dd)) rfl ?_
    refine Ev.getf (sX7_run_99.lk 4 (q := (105, .getfield 178, 7, 15)) rfl) rfl rfl (sX7_run_99.dc 4 (q := (105, .getfield 178, 7, 15)) rfl) ?_
    show Ev _ _ _ _ _ _ 108 [some (.ref 396), some (.int (nI ct)), some (.int 0), none, none] [.int ((up2 (PM I (s9.1, 1, s9.2.2)) 396 7 0) 396 15)] (N, SH v T, up2 (PM I (s9.1, 1, s9.2.2)) 396 7 0, L, Dd)
    refine Ev.eqst (st' := [.int 1]) (by rw [show (up2 (PM I (s9.1, 1, s9.2.2)) 396 7 0) 396 15 = 1 from rfl]) ?_
    refine Ev.if_eq (tgt := 125) dX7_run_108 (by decide) (fun b2 => ?_) (fun b2 => ?_)
    · exact absurd b2 (show ¬ (1 : Int32) = 0 by decide)
    · refine Ev.sg hX (sX7_run_111.sub 0 2) (pc' := 113) (ls' := [some (.ref 396), some (.int (nI ct)), some (.int 0), none, none]) (st' := [.ref 396, .ref 396]) (h' := (N, SH v T, up2 (PM I (s9.1, 1, s9.2.2)) 396 7 0, L, Dd)) rfl ?_
      refine Ev.getf (sX7_run_111.lk 2 (q := (113, .getfield 175, 7, 14)) rfl) rfl rfl (sX7_run_111.dc 2 (q := (113, .getfield 175, 7, 14)) rfl) ?_
      show Ev _ _ _ _ _ _ 116 [some (.ref 396), some (.int (nI ct)), some (.int 0), none, none] [.int ((up2 (PM I (s9.1, 1, s9.2.2)) 396 7 0) 396 14), .ref 396] (N, SH v T, up2 (PM I (s9.1, 1, s9.2.2)) 396 7 0, L, Dd)
      refine Ev.putf hX (sX7_run_111.lk 3 (q := (116, .putfield 26, 7, 8)) rfl) rfl rfl (sX7_run_111.dc 3 (q := (116, .putfield 26, 7, 8)) rfl) ?_
      show Ev _ _ _ _ _ _ 119 [some (.ref 396), some (.int (nI ct)), some (.int 0), none, none] [] (N, SH v T, up2 (up2 (PM I (s9.1, 1, s9.2.2)) 396 7 0) 396 8 ((up2 (PM I (s9.1, 1, s9.2.2)) 396 7 0) 396 14), L, Dd)
      refine Ev.sg hX (sX7_run_111.sub 4 2) (pc' := 121) (ls' := [some (.ref 396), some (.int (nI ct)), some (.int 0), none, none]) (st' := [.int 1, .ref 396]) (h' := (N, SH v T, up2 (up2 (PM I (s9.1, 1, s9.2.2)) 396 7 0) 396 8 ((up2 (PM I (s9.1, 1, s9.2.2)) 396 7 0) 396 14), L, Dd)) rfl ?_
      refine Ev.callV (As := [.int 1]) (rest := []) dvX7_fails mkX7_75 rfl rfl dX7_run_121 (m_fails (d := d - 1) (I := (up2 (up2 (PM I (s9.1, 1, s9.2.2)) 396 7 0) 396 8 ((up2 (PM I (s9.1, 1, s9.2.2)) 396 7 0) 396 14))) hX (by omega)) ⟨by omega, by show 2 + 19 + 40 * _ ≤ 40 * _; omega⟩ ⟨Nat.zero_le _, Nat.zero_le _⟩ rfl (Nat.le_of_ble_eq_true rfl) (fun v9 h9 e9 => ?_) (fun E9 h9 e9 => nomatch e9)
      cases e9
      show Ev _ _ _ _ _ _ 124 [some (.ref 396), some (.int (nI ct)), some (.int 0), none, none] [.int 0] (N, SH v T, up2 (up2 (up2 (PM I (s9.1, 1, s9.2.2)) 396 7 0) 396 8 ((up2 (PM I (s9.1, 1, s9.2.2)) 396 7 0) 396 14)) 396 12 1, L, Dd)
      refine Ev.iret dX7_run_124 rfl ?_
      (rw [if_pos (he8.mpr (Or.inl b1))]; rfl)
  · refine Ev.sg hX (sX7_run_80.sub 0 1) (pc' := 81) (ls' := [some (.ref 396), some (.int (nI ct)), some (.int 0), none, none]) (st' := [.ref 396, .ref 396]) (h' := (N, SH v T, PM I s9, L, Dd)) rfl ?_
    refine Ev.getf (sX7_run_80.lk 1 (q := (81, .getfield 175, 7, 14)) rfl) rfl rfl (sX7_run_80.dc 1 (q := (81, .getfield 175, 7, 14)) rfl) ?_
    show Ev _ _ _ _ _ _ 84 [some (.ref 396), some (.int (nI ct)), some (.int 0), none, none] [.int (nI s9.1), .ref 396] (N, SH v T, PM I s9, L, Dd)
    refine Ev.sg hX (sX7_run_80.sub 2 1) (pc' := 85) (ls' := [some (.ref 396), some (.int (nI ct)), some (.int 0), none, none]) (st' := [.ref 396, .int (nI s9.1), .ref 396]) (h' := (N, SH v T, PM I s9, L, Dd)) rfl ?_
    refine Ev.getf (sX7_run_80.lk 3 (q := (85, .getfield 172, 7, 7)) rfl) rfl rfl (sX7_run_80.dc 3 (q := (85, .getfield 172, 7, 7)) rfl) ?_
    show Ev _ _ _ _ _ _ 88 [some (.ref 396), some (.int (nI ct)), some (.int 0), none, none] [.int (I 396 7), .int (nI s9.1), .ref 396] (N, SH v T, PM I s9, L, Dd)
    refine Ev.eqst (st' := [.int (nI q), .int (nI s9.1), .ref 396]) (by rw [hty]) ?_
    refine Ev.icmp_ge (tgt := 95) dX7_run_88 (by decide) (fun b3 => ?_) (fun b3 => ?_)
    · refine Ev.sg hX (sX7_run_95.sub 0 1) (pc' := 96) (ls' := [some (.ref 396), some (.int (nI ct)), some (.int 0), none, none]) (st' := [.int 0, .ref 396]) (h' := (N, SH v T, PM I s9, L, Dd)) rfl ?_
      refine Ev.putI (j := 15) hX ci_X7 (by decide) (bw_of 1501 (by decide +kernel) (by decide +kernel)) (Or.inl rfl) rfl rfl rfl rfl dX7_run_96 ?_
      show Ev _ _ _ _ _ _ 99 [some (.ref 396), some (.int (nI ct)), some (.int 0), none, none] [] (N, SH v T, up2 (PM I s9) 396 15 0, L, Dd)
      rw [PM_w]
      refine Ev.sg hX (sX7_run_99.sub 0 2) (pc' := 101) (ls' := [some (.ref 396), some (.int (nI ct)), some (.int 0), none, none]) (st' := [.int 0, .ref 396]) (h' := (N, SH v T, PM I (s9.1, 0, s9.2.2), L, Dd)) rfl ?_
      refine Ev.putf hX (sX7_run_99.lk 2 (q := (101, .putfield 172, 7, 7)) rfl) rfl rfl (sX7_run_99.dc 2 (q := (101, .putfield 172, 7, 7)) rfl) ?_
      show Ev _ _ _ _ _ _ 104 [some (.ref 396), some (.int (nI ct)), some (.int 0), none, none] [] (N, SH v T, up2 (PM I (s9.1, 0, s9.2.2)) 396 7 0, L, Dd)
      refine Ev.sg hX (sX7_run_99.sub 3 1) (pc' := 105) (ls' := [some (.ref 396), some (.int (nI ct)), some (.int 0), none, none]) (st' := [.ref 396]) (h' := (N, SH v T, up2 (PM I (s9.1, 0, s9.2.2)) 396 7 0, L, Dd)) rfl ?_
      refine Ev.getf (sX7_run_99.lk 4 (q := (105, .getfield 178, 7, 15)) rfl) rfl rfl (sX7_run_99.dc 4 (q := (105, .getfield 178, 7, 15)) rfl) ?_
      show Ev _ _ _ _ _ _ 108 [some (.ref 396), some (.int (nI ct)), some (.int 0), none, none] [.int ((up2 (PM I (s9.1, 0, s9.2.2)) 396 7 0) 396 15)] (N, SH v T, up2 (PM I (s9.1, 0, s9.2.2)) 396 7 0, L, Dd)
      refine Ev.eqst (st' := [.int 0]) (by rw [show (up2 (PM I (s9.1, 0, s9.2.2)) 396 7 0) 396 15 = 0 from rfl]) ?_
      refine Ev.if_eq (tgt := 125) dX7_run_108 (by decide) (fun b4 => ?_) (fun b4 => ?_)
      · refine Ev.sg hX (sX7_run_125.sub 0 1) (pc' := 126) (ls' := [some (.ref 396), some (.int (nI ct)), some (.int 0), none, none]) (st' := [.ref 396]) (h' := (N, SH v T, up2 (PM I (s9.1, 0, s9.2.2)) 396 7 0, L, Dd)) rfl ?_
        refine Ev.callV (As := []) (rest := []) dvX7_begin mkX7_82 rfl rfl dX7_run_126 (m_begin (d := d - 1) (I := (up2 (PM I (s9.1, 0, s9.2.2)) 396 7 0)) hX (by omega)) ⟨by omega, by show 1 + 19 + 40 * _ ≤ 40 * _; omega⟩ ⟨Nat.zero_le _, Nat.zero_le _⟩ rfl (Nat.le_of_ble_eq_true rfl) (fun v9 h9 e9 => ?_) (fun E9 h9 e9 => nomatch e9)
        cases e9
        show Ev _ _ _ _ _ _ 129 [some (.ref 396), some (.int (nI ct)), some (.int 0), none, none] [] (N, SH v T, begM (up2 (PM I (s9.1, 0, s9.2.2)) 396 7 0), L, Dd)
        refine Ev.sg hX (sX7_run_129.sub 0 2) (pc' := 131) (ls' := [some (.ref 396), some (.int (nI ct)), some (.int 0), some (.int 0), none]) (st' := []) (h' := (N, SH v T, begM (up2 (PM I (s9.1, 0, s9.2.2)) 396 7 0), L, Dd)) rfl ?_
        rw [if_neg (fun w => (he8.mp w).elim (fun w2 => w2 b1) (fun w2 => by have := (nI_leI (a := q) (b := s9.1) (by omega) (by omega)).mp b3; omega))]
        exact l_mr hX (by omega) hch8 (by omega) ct 0 _ _ (Nat.zero_add ct) (hok (fun w => (he8.mp w).elim (fun w2 => w2 b1) (fun w2 => by have := (nI_leI (a := q) (b := s9.1) (by omega) (by omega)).mp b3; omega))) (Or.inl rfl)
      · exact absurd rfl b4
    · refine Ev.sg hX (sX7_run_91.sub 0 2) (pc' := 96) (ls' := [some (.ref 396), some (.int (nI ct)), some (.int 0), none, none]) (st' := [.int 1, .ref 396]) (h' := (N, SH v T, PM I s9, L, Dd)) rfl ?_
      refine Ev.putI (j := 15) hX ci_X7 (by decide) (bw_of 1501 (by decide +kernel) (by decide +kernel)) (Or.inl rfl) rfl rfl rfl rfl dX7_run_96 ?_
      show Ev _ _ _ _ _ _ 99 [some (.ref 396), some (.int (nI ct)), some (.int 0), none, none] [] (N, SH v T, up2 (PM I s9) 396 15 1, L, Dd)
      rw [PM_w]
      refine Ev.sg hX (sX7_run_99.sub 0 2) (pc' := 101) (ls' := [some (.ref 396), some (.int (nI ct)), some (.int 0), none, none]) (st' := [.int 0, .ref 396]) (h' := (N, SH v T, PM I (s9.1, 1, s9.2.2), L, Dd)) rfl ?_
      refine Ev.putf hX (sX7_run_99.lk 2 (q := (101, .putfield 172, 7, 7)) rfl) rfl rfl (sX7_run_99.dc 2 (q := (101, .putfield 172, 7, 7)) rfl) ?_
      show Ev _ _ _ _ _ _ 104 [some (.ref 396), some (.int (nI ct)), some (.int 0), none, none] [] (N, SH v T, up2 (PM I (s9.1, 1, s9.2.2)) 396 7 0, L, Dd)
      refine Ev.sg hX (sX7_run_99.sub 3 1) (pc' := 105) (ls' := [some (.ref 396), some (.int (nI ct)), some (.int 0), none, none]) (st' := [.ref 396]) (h' := (N, SH v T, up2 (PM I (s9.1, 1, s9.2.2)) 396 7 0, L, Dd)) rfl ?_
      refine Ev.getf (sX7_run_99.lk 4 (q := (105, .getfield 178, 7, 15)) rfl) rfl rfl (sX7_run_99.dc 4 (q := (105, .getfield 178, 7, 15)) rfl) ?_
      show Ev _ _ _ _ _ _ 108 [some (.ref 396), some (.int (nI ct)), some (.int 0), none, none] [.int ((up2 (PM I (s9.1, 1, s9.2.2)) 396 7 0) 396 15)] (N, SH v T, up2 (PM I (s9.1, 1, s9.2.2)) 396 7 0, L, Dd)
      refine Ev.eqst (st' := [.int 1]) (by rw [show (up2 (PM I (s9.1, 1, s9.2.2)) 396 7 0) 396 15 = 1 from rfl]) ?_
      refine Ev.if_eq (tgt := 125) dX7_run_108 (by decide) (fun b5 => ?_) (fun b5 => ?_)
      · exact absurd b5 (show ¬ (1 : Int32) = 0 by decide)
      · refine Ev.sg hX (sX7_run_111.sub 0 2) (pc' := 113) (ls' := [some (.ref 396), some (.int (nI ct)), some (.int 0), none, none]) (st' := [.ref 396, .ref 396]) (h' := (N, SH v T, up2 (PM I (s9.1, 1, s9.2.2)) 396 7 0, L, Dd)) rfl ?_
        refine Ev.getf (sX7_run_111.lk 2 (q := (113, .getfield 175, 7, 14)) rfl) rfl rfl (sX7_run_111.dc 2 (q := (113, .getfield 175, 7, 14)) rfl) ?_
        show Ev _ _ _ _ _ _ 116 [some (.ref 396), some (.int (nI ct)), some (.int 0), none, none] [.int ((up2 (PM I (s9.1, 1, s9.2.2)) 396 7 0) 396 14), .ref 396] (N, SH v T, up2 (PM I (s9.1, 1, s9.2.2)) 396 7 0, L, Dd)
        refine Ev.putf hX (sX7_run_111.lk 3 (q := (116, .putfield 26, 7, 8)) rfl) rfl rfl (sX7_run_111.dc 3 (q := (116, .putfield 26, 7, 8)) rfl) ?_
        show Ev _ _ _ _ _ _ 119 [some (.ref 396), some (.int (nI ct)), some (.int 0), none, none] [] (N, SH v T, up2 (up2 (PM I (s9.1, 1, s9.2.2)) 396 7 0) 396 8 ((up2 (PM I (s9.1, 1, s9.2.2)) 396 7 0) 396 14), L, Dd)
        refine Ev.sg hX (sX7_run_111.sub 4 2) (pc' := 121) (ls' := [some (.ref 396), some (.int (nI ct)), some (.int 0), none, none]) (st' := [.int 1, .ref 396]) (h' := (N, SH v T, up2 (up2 (PM I (s9.1, 1, s9.2.2)) 396 7 0) 396 8 ((up2 (PM I (s9.1, 1, s9.2.2)) 396 7 0) 396 14), L, Dd)) rfl ?_
        refine Ev.callV (As := [.int 1]) (rest := []) dvX7_fails mkX7_75 rfl rfl dX7_run_121 (m_fails (d := d - 1) (I := (up2 (up2 (PM I (s9.1, 1, s9.2.2)) 396 7 0) 396 8 ((up2 (PM I (s9.1, 1, s9.2.2)) 396 7 0) 396 14))) hX (by omega)) ⟨by omega, by show 2 + 19 + 40 * _ ≤ 40 * _; omega⟩ ⟨Nat.zero_le _, Nat.zero_le _⟩ rfl (Nat.le_of_ble_eq_true rfl) (fun v9 h9 e9 => ?_) (fun E9 h9 e9 => nomatch e9)
        cases e9
        show Ev _ _ _ _ _ _ 124 [some (.ref 396), some (.int (nI ct)), some (.int 0), none, none] [.int 0] (N, SH v T, up2 (up2 (up2 (PM I (s9.1, 1, s9.2.2)) 396 7 0) 396 8 ((up2 (PM I (s9.1, 1, s9.2.2)) 396 7 0) 396 14)) 396 12 1, L, Dd)
        refine Ev.iret dX7_run_124 rfl ?_
        (rw [if_pos (he8.mpr (Or.inr (by have := mt (nI_leI (a := q) (b := s9.1) (by omega) (by omega)).mpr b3; omega)))]; rfl)
end PMQ
