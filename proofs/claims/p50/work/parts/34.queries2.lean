/-! what the questions leave as it was: all but the rows that each search makes anew -/
def eqS (J I : Nat → Nat → Int32) : Prop := ∀ a, a ≠ 10 → a ≠ 12 → a ≠ 14 → a ≠ 35 → J a = I a
theorem eqS.rf (I : Nat → Nat → Int32) : eqS I I := fun _ _ _ _ _ => rfl
theorem eqS.tr {I J K : Nat → Nat → Int32} (h1 : eqS K J) (h2 : eqS J I) : eqS K I := fun a q1 q2 q3 q4 => (h1 a q1 q2 q3 q4).trans (h2 a q1 q2 q3 q4)
theorem eqS_up2 {I J : Nat → Nat → Int32} {a k : Nat} {x : Int32} (h : eqS J I) (ha : a = 10 ∨ a = 12 ∨ a = 14 ∨ a = 35) : eqS (up2 J a k x) I := fun b q1 q2 q3 q4 => by
  rw [up2_ne (by omega)]
  exact h b q1 q2 q3 q4
theorem eqS_upr {I J : Nat → Nat → Int32} {a n : Nat} {i x : Int32} (h : eqS J I) (ha : a = 10 ∨ a = 12 ∨ a = 14 ∨ a = 35) : eqS (upr J a n i x) I := by
  unfold upr
  split
  · exact eqS_up2 h ha
  · exact h
theorem listO_eq {I : Nat → Nat → Int32} {t : Int32} : eqS (listO I t) I := by
  refine fo_inv (P := fun J => eqS J I) (fun k J h => ?_) _ _ _ (eqS.rf I)
  unfold stO
  split
  · exact eqS_upr h (by decide)
  · exact h
theorem fill_eq {I J : Nat → Nat → Int32} {a n : Nat} {x : Int32} (h : eqS J I) (ha : a = 10 ∨ a = 12 ∨ a = 14 ∨ a = 35) : eqS (fillI J a n x) I := fo_inv (P := fun J => eqS J I) (fun k J h => eqS_up2 h ha) _ _ _ h
theorem bfs_eq {I : Nat → Nat → Int32} {sz : Nat} : ∀ (n h : Nat) (u : (Nat → Nat → Int32) × Int32), eqS u.1 I → eqS (bfs sz n h u).1 I
  | 0, _, _, q => q
  | n + 1, h, u, q => by
    rw [bfs]
    split
    · refine bfs_eq n _ _ (fo_inv (P := fun (u : (Nat → Nat → Int32) × Int32) => eqS u.1 I) (fun k u g => ?_) _ _ _ q)
      unfold stN
      split
      · exact eqS_upr (eqS_up2 g (Or.inl rfl)) (Or.inr (Or.inl rfl))
      · exact g
    · exact q
theorem bfsI_eq {I : Nat → Nat → Int32} {sz s : Nat} : eqS (bfsI I sz s) I := bfs_eq _ _ _ (eqS_up2 (eqS_up2 (fill_eq (eqS.rf I) (Or.inl rfl)) (Or.inl rfl)) (Or.inr (Or.inl rfl)))
theorem comb_eq {I J : Nat → Nat → Int32} {sz p k : Nat} (h : eqS J I) : eqS (combI J sz p k) I := by
  refine fo_inv (P := fun J => eqS J I) (fun k J h => ?_) _ _ _ h
  unfold stC
  split
  · exact eqS_up2 h (by decide)
  · exact h
theorem mat_eq {I : Nat → Nat → Int32} {sz : Nat} : eqS (matI I sz) I :=
  fo_inv (P := fun J => eqS J I) (fun k J h => fo_inv (P := fun J => eqS J I) (fun k J h => comb_eq h) _ _ _ h) _ _ _ (fo_inv (P := fun J => eqS J I) (fun k J h => fo_inv (P := fun J => eqS J I) (fun k J h => eqS_up2 h (by decide)) _ _ _ h) _ _ _ (eqS.rf I))
theorem ins_eq {I : Nat → Nat → Int32} {x : Int32} : ∀ (g : Nat) (J : Nat → Nat → Int32) (c : Int32), eqS J I → eqS (insF x g J c).2.1 I
  | 0, _, _, q => q
  | g + 1, J, c, q => by
    rw [insF]
    split
    · exact ins_eq g _ _ (eqS_up2 q (by decide))
    · exact q
theorem shifts_eq {I J : Nat → Nat → Int32} {hg : Nat} (h : eqS J I) : eqS (shiftsF J hg).1 I := fo_inv (P := fun (u : (Nat → Nat → Int32) × Int32) => eqS u.1 I) (fun k u g => eqS_up2 (ins_eq _ _ _ g) (Or.inr (Or.inr (Or.inr rfl)))) _ _ _ h
theorem way_eq {I : Nat → Nat → Int32} {sz : Nat} : ∀ (n f : Nat) (J : Nat → Nat → Int32), eqS J I → eqS (wayF sz n f J).2 I
  | 0, _, _, q => q
  | n + 1, f, J, q => by
    rw [wayF]
    split
    · exact way_eq n _ _ (bfsI_eq.tr q)
    · exact bfsI_eq.tr q
theorem move_eq {I : Nat → Nat → Int32} {sz : Nat} {a b c : Int32} : eqS (moveF I sz a b c).2 I := by
  unfold moveF
  repeat' split
  all_goals first | exact eqS.rf I | exact bfsI_eq
section QU2
variable {X : JX} {d N v : Nat} {T : Nat → Option JS} {I : Nat → Nat → Int32} {L : Nat → Nat → Int64} {Dd : Nat → Nat → UInt64} {t c a b : Int32}
def routeTQ (I : Nat → Nat → Int32) (sz : Nat) (a b c : Int32) : Option String × Int32 × (Nat → Nat → Int32) := seqX (trkX I a) I (seqX (trkX I b) I (seqX (routeX (stepsF I sz a.toNatClampNeg b.toNatClampNeg)) (bfsI I sz b.toNatClampNeg) (seqX (if c < 0 ∨ (stepsF I sz a.toNatClampNeg b.toNatClampNeg) < c then some "java/util/NoSuchElementException" else none) (bfsI I sz b.toNatClampNeg) (none, nI (routeF (bfsI I sz b.toNatClampNeg) sz a.toNatClampNeg b.toNatClampNeg c.toNatClampNeg), bfsI (bfsI I sz b.toNatClampNeg) sz b.toNatClampNeg))))
theorem pos_nI {c x : Int32} (h0 : ¬ c < 0) (h1 : c ≤ x) (hx : ∃ q, q < 8 ∧ x = nI q) : ∃ k, k < 100 ∧ c = nI k := by
  obtain ⟨q, hq, rfl⟩ := hx
  rw [Int32.le_iff_toInt_le, nI_toInt (by omega)] at h1
  rw [i0lt] at h0
  refine ⟨c.toInt.toNat, by omega, ?_⟩
  apply Int32.toInt_inj.mp
  rw [nI_toInt (by omega)]
  omega
theorem c_routeTrack (hX : JXok X) (hd : 7 ≤ d) (hN4 : 396 ≤ N) (hN : N + 1 < BIG) {sz : Nat} (hsz : sz ≤ 8) (hJ : I 6 0 = nI sz) (hst : ∀ i j, i < 8 → j < 8 → stepsF I sz i j ≠ 1000 → ∃ q, q < 8 ∧ stepsF I sz i j = nI q) : MT X d 4 24 jdX6_routeTrack [.ref 0, .int a, .int b, .int c] (N, SH v T, I, L, Dd) (outQ (routeTQ I sz a b c) N v T L Dd) := by
  refine MT.mk dvX6_routeTrack.1 ?_
  refine Ev.sg hX sX6_routeTrack_0 (pc' := 2) (ls' := [some (.ref 0), some (.int a), some (.int b), some (.int c), none]) (st' := [.int a, .ref 0]) (h' := (N, SH v T, I, L, Dd)) rfl ?_
  refine opt_split (trkX I a) (fun E2 f1 => ?_) (fun f1 => ?_)
  · refine Ev.callV (As := [.int a]) (rest := []) dvX6_requireTrack mkX6_117 rfl rfl dX6_routeTrack_2 ((c_requireTrack (d := d - 1) (t := a) (N := N) (v := v) (T := T) (I := I) (L := L) (Dd := Dd) hX (by omega) hN4 hN).some f1) ⟨by omega, by show 2 + 19 + 40 * _ ≤ 40 * _; omega⟩ ⟨by omega, by omega⟩ rfl (Nat.le_of_ble_eq_true rfl) (fun v9 h9 e9 => by obtain ⟨T9, e9⟩ := e9; cases e9) (fun E9 h9 e9 => ?_)
    obtain ⟨T9, e9⟩ := e9
    cases e9
    refine EvX.out rfl ?_
    exact outQ_pass 0 (by simp [routeTQ, seqX, f1])
  refine Ev.callV (As := [.int a]) (rest := []) dvX6_requireTrack mkX6_117 rfl rfl dX6_routeTrack_2 ((c_requireTrack (d := d - 1) (t := a) (N := N) (v := v) (T := T) (I := I) (L := L) (Dd := Dd) hX (by omega) hN4 hN).none f1) ⟨by omega, by show 2 + 19 + 40 * _ ≤ 40 * _; omega⟩ ⟨by omega, by omega⟩ rfl (Nat.le_of_ble_eq_true rfl) (fun v9 h9 e9 => ?_) (fun E9 h9 e9 => nomatch e9)
  cases e9
  show Ev _ _ _ _ _ _ 5 [some (.ref 0), some (.int a), some (.int b), some (.int c), none] [] (N, SH v T, I, L, Dd)
  obtain ⟨f9, hf9, rfl⟩ := hasT_nI hsz hJ (trkX_none f1)
  have hcf9 : (nI f9).toNatClampNeg = f9 := nI_clamp (by omega)
  refine Ev.sg hX sX6_routeTrack_5 (pc' := 7) (ls' := [some (.ref 0), some (.int (nI f9)), some (.int b), some (.int c), none]) (st' := [.int b, .ref 0]) (h' := (N, SH v T, I, L, Dd)) rfl ?_
  refine opt_split (trkX I b) (fun E4 f3 => ?_) (fun f3 => ?_)
  · refine Ev.callV (As := [.int b]) (rest := []) dvX6_requireTrack mkX6_117 rfl rfl dX6_routeTrack_7 ((c_requireTrack (d := d - 1) (t := b) (N := N) (v := v) (T := T) (I := I) (L := L) (Dd := Dd) hX (by omega) hN4 hN).some f3) ⟨by omega, by show 2 + 19 + 40 * _ ≤ 40 * _; omega⟩ ⟨by omega, by omega⟩ rfl (Nat.le_of_ble_eq_true rfl) (fun v9 h9 e9 => by obtain ⟨T9, e9⟩ := e9; cases e9) (fun E9 h9 e9 => ?_)
    obtain ⟨T9, e9⟩ := e9
    cases e9
    refine EvX.out rfl ?_
    exact outQ_pass 0 (by simp [routeTQ, seqX, f1, f3, hcf9])
  refine Ev.callV (As := [.int b]) (rest := []) dvX6_requireTrack mkX6_117 rfl rfl dX6_routeTrack_7 ((c_requireTrack (d := d - 1) (t := b) (N := N) (v := v) (T := T) (I := I) (L := L) (Dd := Dd) hX (by omega) hN4 hN).none f3) ⟨by omega, by show 2 + 19 + 40 * _ ≤ 40 * _; omega⟩ ⟨by omega, by omega⟩ rfl (Nat.le_of_ble_eq_true rfl) (fun v9 h9 e9 => ?_) (fun E9 h9 e9 => nomatch e9)
  cases e9
  show Ev _ _ _ _ _ _ 10 [some (.ref 0), some (.int (nI f9)), some (.int b), some (.int c), none] [] (N, SH v T, I, L, Dd)
  obtain ⟨t9, ht9, rfl⟩ := hasT_nI hsz hJ (trkX_none f3)
  have hct9 : (nI t9).toNatClampNeg = t9 := nI_clamp (by omega)
  refine Ev.sg hX sX6_routeTrack_10 (pc' := 19) (ls' := [some (.ref 0), some (.int (nI f9)), some (.int (nI t9)), some (.int c), none]) (st' := [.int (nI t9), .int (nI f9), .ref 6]) (h' := (N, SH v T, I, L, Dd)) rfl ?_
  refine Ev.callV (As := [.int (nI f9), .int (nI t9)]) (rest := []) dvX2_stepsBySearch mkX6_170 rfl rfl dX6_routeTrack_19 (c_steps (d := d - 1) (I := I) hX (by omega) (by omega) (by omega) hsz hJ) ⟨by omega, by show 3 + 19 + 40 * _ ≤ 40 * _; omega⟩ (by decide) rfl (Nat.le_of_ble_eq_true rfl) (fun v9 h9 e9 => ?_) (fun E9 h9 e9 => nomatch e9)
  cases e9
  show Ev _ _ _ _ _ _ 22 [some (.ref 0), some (.int (nI f9)), some (.int (nI t9)), some (.int c), none] [.int (stepsF I sz f9 t9)] (N, SH v T, bfsI I sz t9, L, Dd)
  refine opt_split (routeX (stepsF I sz f9 t9)) (fun E6 f5 => ?_) (fun f5 => ?_)
  · refine Ev.callS (As := [.int (stepsF I sz f9 t9)]) (rest := []) dsX6_requireRoute mkX6_173 dX6_routeTrack_22 ((c_requireRoute (d := d - 1) (f := (stepsF I sz f9 t9)) (N := N) (v := v) (T := T) (I := bfsI I sz t9) (L := L) (Dd := Dd) hX (by omega) hN4 hN).some f5) ⟨by omega, by show 1 + 19 + 40 * _ ≤ 40 * _; omega⟩ ⟨by omega, by omega⟩ rfl (Nat.le_of_ble_eq_true rfl) (fun v9 h9 e9 => by obtain ⟨T9, e9⟩ := e9; cases e9) (fun E9 h9 e9 => ?_)
    obtain ⟨T9, e9⟩ := e9
    cases e9
    refine EvX.out rfl ?_
    exact outQ_pass 0 (by simp [routeTQ, seqX, f1, f3, f5, hcf9, hct9])
  refine Ev.callS (As := [.int (stepsF I sz f9 t9)]) (rest := []) dsX6_requireRoute mkX6_173 dX6_routeTrack_22 ((c_requireRoute (d := d - 1) (f := (stepsF I sz f9 t9)) (N := N) (v := v) (T := T) (I := bfsI I sz t9) (L := L) (Dd := Dd) hX (by omega) hN4 hN).none f5) ⟨by omega, by show 1 + 19 + 40 * _ ≤ 40 * _; omega⟩ ⟨by omega, by omega⟩ rfl (Nat.le_of_ble_eq_true rfl) (fun v9 h9 e9 => ?_) (fun E9 h9 e9 => nomatch e9)
  cases e9
  show Ev _ _ _ _ _ _ 25 [some (.ref 0), some (.int (nI f9)), some (.int (nI t9)), some (.int c), none] [.int (stepsF I sz f9 t9)] (N, SH v T, bfsI I sz t9, L, Dd)
  refine Ev.sg hX sX6_routeTrack_25 (pc' := 28) (ls' := [some (.ref 0), some (.int (nI f9)), some (.int (nI t9)), some (.int c), some (.int (stepsF I sz f9 t9))]) (st' := [.int c]) (h' := (N, SH v T, bfsI I sz t9, L, Dd)) rfl ?_
  refine Ev.if_lt (tgt := 37) dX6_routeTrack_28 (by decide) (fun b7 => ?_) (fun b7 => ?_)
  · refine Ev.mkS (E := "java/util/NoSuchElementException") (si := 8) hX je_12 (by decide +kernel) (by decide +kernel) rfl dX6_routeTrack_37 (sX6_routeTrack_40.dc 0 (q := (40, .dup, 0, 0)) rfl) dX6_routeTrack_41 dX6_routeTrack_43 (by omega) ⟨by omega, by omega⟩ hN (Nat.le_of_ble_eq_true rfl) ?_
    refine Ev.athrow hX upS_eq rfl dX6_routeTrack_46 (EvX.out rfl ?_)
    exact outQ_new 0 (by simp [routeTQ, seqX, f1, f3, f5, b7, hcf9, hct9]) hN4
  · refine Ev.sg hX sX6_routeTrack_31 (pc' := 34) (ls' := [some (.ref 0), some (.int (nI f9)), some (.int (nI t9)), some (.int c), some (.int (stepsF I sz f9 t9))]) (st' := [.int (stepsF I sz f9 t9), .int c]) (h' := (N, SH v T, bfsI I sz t9, L, Dd)) rfl ?_
    refine Ev.icmp_le (tgt := 47) dX6_routeTrack_34 (by decide) (fun b8 => ?_) (fun b8 => ?_)
    · obtain ⟨c9, hc9, rfl⟩ := pos_nI b7 b8 (hst _ _ (by omega) (by omega) (by simpa [routeX] using f5))
      have hcc9 : (nI c9).toNatClampNeg = c9 := nI_clamp (by omega)
      refine Ev.sg hX sX6_routeTrack_47 (pc' := 57) (ls' := [some (.ref 0), some (.int (nI f9)), some (.int (nI t9)), some (.int (nI c9)), some (.int (stepsF I sz f9 t9))]) (st' := [.int (nI c9), .int (nI t9), .int (nI f9), .ref 6]) (h' := (N, SH v T, bfsI I sz t9, L, Dd)) rfl ?_
      refine Ev.callV (As := [.int (nI f9), .int (nI t9), .int (nI c9)]) (rest := []) dvX2_trackOnRoute mkX6_181 rfl rfl dX6_routeTrack_57 (c_route (d := d - 1) (I := (bfsI I sz t9)) hX (by omega) (by omega) (by omega) (q := c9) (by omega) hsz ((congrFun (bfsI_eq 6 (by decide) (by decide) (by decide) (by decide)) 0).trans hJ)) ⟨by omega, by show 6 + 19 + 40 * _ ≤ 40 * _; omega⟩ (by decide) rfl (Nat.le_of_ble_eq_true rfl) (fun v9 h9 e9 => ?_) (fun E9 h9 e9 => nomatch e9)
      cases e9
      show Ev _ _ _ _ _ _ 60 [some (.ref 0), some (.int (nI f9)), some (.int (nI t9)), some (.int (nI c9)), some (.int (stepsF I sz f9 t9))] [.int (nI (routeF (bfsI I sz t9) sz f9 t9 c9))] (N, SH v T, bfsI (bfsI I sz t9) sz t9, L, Dd)
      refine Ev.iret dX6_routeTrack_60 rfl ?_
      exact outQ_ret (by simp [routeTQ, seqX, f1, f3, f5, b7, Int32.not_lt.mpr b8, hcf9, hct9, hcc9])
    · refine Ev.mkS (E := "java/util/NoSuchElementException") (si := 8) hX je_12 (by decide +kernel) (by decide +kernel) rfl dX6_routeTrack_37 (sX6_routeTrack_40.dc 0 (q := (40, .dup, 0, 0)) rfl) dX6_routeTrack_41 dX6_routeTrack_43 (by omega) ⟨by omega, by omega⟩ hN (Nat.le_of_ble_eq_true rfl) ?_
      refine Ev.athrow hX upS_eq rfl dX6_routeTrack_46 (EvX.out rfl ?_)
      exact outQ_new 0 (by simp [routeTQ, seqX, f1, f3, f5, b7, Int32.not_le.mp b8, hcf9, hct9]) hN4
def shTf (f : Int32) : Int32 := if f = 3 ∨ f = 5 then 4 else f
def shuntTQ (I : Nat → Nat → Int32) (sz : Nat) (a b c : Int32) : Option String × Int32 × (Nat → Nat → Int32) := seqX (excN (shTf (moveF I sz a b c).1)) (moveF I sz a b c).2 (none, minF (moveF I sz a b c).2 sz a.toNatClampNeg b.toNatClampNeg c, bfsI (moveF I sz a b c).2 sz b.toNatClampNeg)
theorem moveF_ok {I : Nat → Nat → Int32} {sz : Nat} {a b c : Int32} (h : excN (moveF I sz a b c).1 = none) : hasT I a ∧ hasT I b := by
  by_cases q : hasT I a ∧ hasT I b
  · exact q
  · rw [show (moveF I sz a b c).1 = 1 from by unfold moveF; rw [if_pos q]] at h
    exact absurd h (by decide)
theorem shTf_ok {f : Int32} (h : excN (shTf f) = none) : excN f = none ∧ shTf f = f := by
  by_cases q : f = 3 ∨ f = 5
  · rw [show shTf f = 4 from if_pos q] at h
    exact absurd h (by decide)
  · have : shTf f = f := if_neg q
    rw [this] at h
    exact ⟨h, this⟩
theorem c_shuntingTime (hX : JXok X) (hd : 7 ≤ d) (hN4 : 396 ≤ N) (hN : N + 1 < BIG) {sz : Nat} (hsz : sz ≤ 8) (hJ : I 6 0 = nI sz) : MT X d 4 24 jdX6_shuntingTime [.ref 0, .int a, .int b, .int c] (N, SH v T, I, L, Dd) (outQ (shuntTQ I sz a b c) N v T L Dd) := by
  refine MT.mk dvX6_shuntingTime.1 ?_
  refine Ev.sg hX sX6_shuntingTime_0 (pc' := 7) (ls' := [some (.ref 0), some (.int a), some (.int b), some (.int c), none]) (st' := [.int c, .int b, .int a, .ref 1]) (h' := (N, SH v T, I, L, Dd)) rfl ?_
  refine Ev.callV (As := [.int a, .int b, .int c]) (rest := []) dvX5_moveFault mkX6_94 rfl rfl dX6_shuntingTime_7 (c_moveFault (d := d - 1) (I := I) hX (by omega) hsz hJ) ⟨by omega, by show 4 + 19 + 40 * _ ≤ 40 * _; omega⟩ (by decide) rfl (Nat.le_of_ble_eq_true rfl) (fun v9 h9 e9 => ?_) (fun E9 h9 e9 => nomatch e9)
  cases e9
  show Ev _ _ _ _ _ _ 10 [some (.ref 0), some (.int a), some (.int b), some (.int c), none] [.int ((moveF I sz a b c).1)] (N, SH v T, (moveF I sz a b c).2, L, Dd)
  refine Ev.sg hX sX6_shuntingTime_10 (pc' := 15) (ls' := [some (.ref 0), some (.int a), some (.int b), some (.int c), some (.int ((moveF I sz a b c).1))]) (st' := [.int 3, .int ((moveF I sz a b c).1)]) (h' := (N, SH v T, (moveF I sz a b c).2, L, Dd)) rfl ?_
  refine Ev.icmp_eq (tgt := 24) dX6_shuntingTime_15 (by decide) (fun b1 => ?_) (fun b1 => ?_)
  · refine Ev.sg hX sX6_shuntingTime_24 (pc' := 30) (ls' := [some (.ref 0), some (.int a), some (.int b), some (.int c), some (.int ((moveF I sz a b c).1))]) (st' := [.int 4]) (h' := (N, SH v T, (moveF I sz a b c).2, L, Dd)) rfl ?_
    rw [show (4 : Int32) = shTf (moveF I sz a b c).1 from (if_pos (Or.inl b1) : shTf (moveF I sz a b c).1 = _).symm]
    refine opt_split (excN (shTf (moveF I sz a b c).1)) (fun E3 f2 => ?_) (fun f2 => ?_)
    · refine Ev.callS (As := [.int (shTf (moveF I sz a b c).1)]) (rest := []) dsX6_refuse mkX6_51 dX6_shuntingTime_30 ((c_refuse (d := d - 1) (f := (shTf (moveF I sz a b c).1)) (N := N) (v := v) (T := T) (I := (moveF I sz a b c).2) (L := L) (Dd := Dd) hX (by omega) hN4 hN).some f2) ⟨by omega, by show 1 + 19 + 40 * _ ≤ 40 * _; omega⟩ ⟨by omega, by omega⟩ rfl (Nat.le_of_ble_eq_true rfl) (fun v9 h9 e9 => by obtain ⟨T9, e9⟩ := e9; cases e9) (fun E9 h9 e9 => ?_)
      obtain ⟨T9, e9⟩ := e9
      cases e9
      refine EvX.out rfl ?_
      exact outQ_pass 0 (by simp [shuntTQ, seqX, f2])
    refine Ev.callS (As := [.int (shTf (moveF I sz a b c).1)]) (rest := []) dsX6_refuse mkX6_51 dX6_shuntingTime_30 ((c_refuse (d := d - 1) (f := (shTf (moveF I sz a b c).1)) (N := N) (v := v) (T := T) (I := (moveF I sz a b c).2) (L := L) (Dd := Dd) hX (by omega) hN4 hN).none f2) ⟨by omega, by show 1 + 19 + 40 * _ ≤ 40 * _; omega⟩ ⟨by omega, by omega⟩ rfl (Nat.le_of_ble_eq_true rfl) (fun v9 h9 e9 => ?_) (fun E9 h9 e9 => nomatch e9)
    cases e9
    show Ev _ _ _ _ _ _ 33 [some (.ref 0), some (.int a), some (.int b), some (.int c), some (.int ((moveF I sz a b c).1))] [] (N, SH v T, (moveF I sz a b c).2, L, Dd)
    obtain ⟨f9, hf9, rfl⟩ := hasT_nI hsz hJ (moveF_ok (shTf_ok f2).1).1
    obtain ⟨t9, ht9, rfl⟩ := hasT_nI hsz hJ (moveF_ok (shTf_ok f2).1).2
    have hcf9 : (nI f9).toNatClampNeg = f9 := nI_clamp (by omega)
    have hct9 : (nI t9).toNatClampNeg = t9 := nI_clamp (by omega)
    refine Ev.sg hX sX6_shuntingTime_33 (pc' := 40) (ls' := [some (.ref 0), some (.int (nI f9)), some (.int (nI t9)), some (.int c), some (.int ((moveF I sz (nI f9) (nI t9) c).1))]) (st' := [.int c, .int (nI t9), .int (nI f9), .ref 1]) (h' := (N, SH v T, (moveF I sz (nI f9) (nI t9) c).2, L, Dd)) rfl ?_
    refine Ev.callV (As := [.int (nI f9), .int (nI t9), .int c]) (rest := []) dvX5_minutesOfMove mkX6_184 rfl rfl dX6_shuntingTime_40 (c_minutes (d := d - 1) (I := ((moveF I sz (nI f9) (nI t9) c).2)) hX (by omega) (by omega) (by omega) hsz ((congrFun (move_eq 6 (by decide) (by decide) (by decide) (by decide)) 0).trans hJ)) ⟨by omega, by show 5 + 19 + 40 * _ ≤ 40 * _; omega⟩ (by decide) rfl (Nat.le_of_ble_eq_true rfl) (fun v9 h9 e9 => ?_) (fun E9 h9 e9 => nomatch e9)
    cases e9
    show Ev _ _ _ _ _ _ 43 [some (.ref 0), some (.int (nI f9)), some (.int (nI t9)), some (.int c), some (.int ((moveF I sz (nI f9) (nI t9) c).1))] [.int (minF ((moveF I sz (nI f9) (nI t9) c).2) sz f9 t9 c)] (N, SH v T, bfsI ((moveF I sz (nI f9) (nI t9) c).2) sz t9, L, Dd)
    refine Ev.iret dX6_shuntingTime_43 rfl ?_
    exact outQ_ret (by simp [shuntTQ, seqX, f2, hcf9, hct9])
  · refine Ev.sg hX sX6_shuntingTime_18 (pc' := 21) (ls' := [some (.ref 0), some (.int a), some (.int b), some (.int c), some (.int ((moveF I sz a b c).1))]) (st' := [.int 5, .int ((moveF I sz a b c).1)]) (h' := (N, SH v T, (moveF I sz a b c).2, L, Dd)) rfl ?_
    refine Ev.icmp_ne (tgt := 28) dX6_shuntingTime_21 (by decide) (fun b4 => ?_) (fun b4 => ?_)
    · refine Ev.sg hX sX6_shuntingTime_28 (pc' := 30) (ls' := [some (.ref 0), some (.int a), some (.int b), some (.int c), some (.int ((moveF I sz a b c).1))]) (st' := [.int ((moveF I sz a b c).1)]) (h' := (N, SH v T, (moveF I sz a b c).2, L, Dd)) rfl ?_
      rw [show (moveF I sz a b c).1 = shTf (moveF I sz a b c).1 from (if_neg (fun q => q.elim b1 b4) : shTf (moveF I sz a b c).1 = _).symm]
      refine opt_split (excN (shTf (moveF I sz a b c).1)) (fun E6 f5 => ?_) (fun f5 => ?_)
      · refine Ev.callS (As := [.int (shTf (moveF I sz a b c).1)]) (rest := []) dsX6_refuse mkX6_51 dX6_shuntingTime_30 ((c_refuse (d := d - 1) (f := (shTf (moveF I sz a b c).1)) (N := N) (v := v) (T := T) (I := (moveF I sz a b c).2) (L := L) (Dd := Dd) hX (by omega) hN4 hN).some f5) ⟨by omega, by show 1 + 19 + 40 * _ ≤ 40 * _; omega⟩ ⟨by omega, by omega⟩ rfl (Nat.le_of_ble_eq_true rfl) (fun v9 h9 e9 => by obtain ⟨T9, e9⟩ := e9; cases e9) (fun E9 h9 e9 => ?_)
        obtain ⟨T9, e9⟩ := e9
        cases e9
        refine EvX.out rfl ?_
        exact outQ_pass 0 (by simp [shuntTQ, seqX, f5])
      refine Ev.callS (As := [.int (shTf (moveF I sz a b c).1)]) (rest := []) dsX6_refuse mkX6_51 dX6_shuntingTime_30 ((c_refuse (d := d - 1) (f := (shTf (moveF I sz a b c).1)) (N := N) (v := v) (T := T) (I := (moveF I sz a b c).2) (L := L) (Dd := Dd) hX (by omega) hN4 hN).none f5) ⟨by omega, by show 1 + 19 + 40 * _ ≤ 40 * _; omega⟩ ⟨by omega, by omega⟩ rfl (Nat.le_of_ble_eq_true rfl) (fun v9 h9 e9 => ?_) (fun E9 h9 e9 => nomatch e9)
      cases e9
      show Ev _ _ _ _ _ _ 33 [some (.ref 0), some (.int a), some (.int b), some (.int c), some (.int (shTf (moveF I sz a b c).1))] [] (N, SH v T, (moveF I sz a b c).2, L, Dd)
      obtain ⟨f9, hf9, rfl⟩ := hasT_nI hsz hJ (moveF_ok (shTf_ok f5).1).1
      obtain ⟨t9, ht9, rfl⟩ := hasT_nI hsz hJ (moveF_ok (shTf_ok f5).1).2
      have hcf9 : (nI f9).toNatClampNeg = f9 := nI_clamp (by omega)
      have hct9 : (nI t9).toNatClampNeg = t9 := nI_clamp (by omega)
      refine Ev.sg hX sX6_shuntingTime_33 (pc' := 40) (ls' := [some (.ref 0), some (.int (nI f9)), some (.int (nI t9)), some (.int c), some (.int (shTf (moveF I sz (nI f9) (nI t9) c).1))]) (st' := [.int c, .int (nI t9), .int (nI f9), .ref 1]) (h' := (N, SH v T, (moveF I sz (nI f9) (nI t9) c).2, L, Dd)) rfl ?_
      refine Ev.callV (As := [.int (nI f9), .int (nI t9), .int c]) (rest := []) dvX5_minutesOfMove mkX6_184 rfl rfl dX6_shuntingTime_40 (c_minutes (d := d - 1) (I := ((moveF I sz (nI f9) (nI t9) c).2)) hX (by omega) (by omega) (by omega) hsz ((congrFun (move_eq 6 (by decide) (by decide) (by decide) (by decide)) 0).trans hJ)) ⟨by omega, by show 5 + 19 + 40 * _ ≤ 40 * _; omega⟩ (by decide) rfl (Nat.le_of_ble_eq_true rfl) (fun v9 h9 e9 => ?_) (fun E9 h9 e9 => nomatch e9)
      cases e9
      show Ev _ _ _ _ _ _ 43 [some (.ref 0), some (.int (nI f9)), some (.int (nI t9)), some (.int c), some (.int (shTf (moveF I sz (nI f9) (nI t9) c).1))] [.int (minF ((moveF I sz (nI f9) (nI t9) c).2) sz f9 t9 c)] (N, SH v T, bfsI ((moveF I sz (nI f9) (nI t9) c).2) sz t9, L, Dd)
      refine Ev.iret dX6_shuntingTime_43 rfl ?_
      exact outQ_ret (by simp [shuntTQ, seqX, f5, hcf9, hct9])
    · refine Ev.sg hX sX6_shuntingTime_24 (pc' := 30) (ls' := [some (.ref 0), some (.int a), some (.int b), some (.int c), some (.int ((moveF I sz a b c).1))]) (st' := [.int 4]) (h' := (N, SH v T, (moveF I sz a b c).2, L, Dd)) rfl ?_
      rw [show (4 : Int32) = shTf (moveF I sz a b c).1 from (if_pos (Or.inr b4) : shTf (moveF I sz a b c).1 = _).symm]
      refine opt_split (excN (shTf (moveF I sz a b c).1)) (fun E8 f7 => ?_) (fun f7 => ?_)
      · refine Ev.callS (As := [.int (shTf (moveF I sz a b c).1)]) (rest := []) dsX6_refuse mkX6_51 dX6_shuntingTime_30 ((c_refuse (d := d - 1) (f := (shTf (moveF I sz a b c).1)) (N := N) (v := v) (T := T) (I := (moveF I sz a b c).2) (L := L) (Dd := Dd) hX (by omega) hN4 hN).some f7) ⟨by omega, by show 1 + 19 + 40 * _ ≤ 40 * _; omega⟩ ⟨by omega, by omega⟩ rfl (Nat.le_of_ble_eq_true rfl) (fun v9 h9 e9 => by obtain ⟨T9, e9⟩ := e9; cases e9) (fun E9 h9 e9 => ?_)
        obtain ⟨T9, e9⟩ := e9
        cases e9
        refine EvX.out rfl ?_
        exact outQ_pass 0 (by simp [shuntTQ, seqX, f7])
      refine Ev.callS (As := [.int (shTf (moveF I sz a b c).1)]) (rest := []) dsX6_refuse mkX6_51 dX6_shuntingTime_30 ((c_refuse (d := d - 1) (f := (shTf (moveF I sz a b c).1)) (N := N) (v := v) (T := T) (I := (moveF I sz a b c).2) (L := L) (Dd := Dd) hX (by omega) hN4 hN).none f7) ⟨by omega, by show 1 + 19 + 40 * _ ≤ 40 * _; omega⟩ ⟨by omega, by omega⟩ rfl (Nat.le_of_ble_eq_true rfl) (fun v9 h9 e9 => ?_) (fun E9 h9 e9 => nomatch e9)
      cases e9
      show Ev _ _ _ _ _ _ 33 [some (.ref 0), some (.int a), some (.int b), some (.int c), some (.int ((moveF I sz a b c).1))] [] (N, SH v T, (moveF I sz a b c).2, L, Dd)
      obtain ⟨f9, hf9, rfl⟩ := hasT_nI hsz hJ (moveF_ok (shTf_ok f7).1).1
      obtain ⟨t9, ht9, rfl⟩ := hasT_nI hsz hJ (moveF_ok (shTf_ok f7).1).2
      have hcf9 : (nI f9).toNatClampNeg = f9 := nI_clamp (by omega)
      have hct9 : (nI t9).toNatClampNeg = t9 := nI_clamp (by omega)
      refine Ev.sg hX sX6_shuntingTime_33 (pc' := 40) (ls' := [some (.ref 0), some (.int (nI f9)), some (.int (nI t9)), some (.int c), some (.int ((moveF I sz (nI f9) (nI t9) c).1))]) (st' := [.int c, .int (nI t9), .int (nI f9), .ref 1]) (h' := (N, SH v T, (moveF I sz (nI f9) (nI t9) c).2, L, Dd)) rfl ?_
      refine Ev.callV (As := [.int (nI f9), .int (nI t9), .int c]) (rest := []) dvX5_minutesOfMove mkX6_184 rfl rfl dX6_shuntingTime_40 (c_minutes (d := d - 1) (I := ((moveF I sz (nI f9) (nI t9) c).2)) hX (by omega) (by omega) (by omega) hsz ((congrFun (move_eq 6 (by decide) (by decide) (by decide) (by decide)) 0).trans hJ)) ⟨by omega, by show 5 + 19 + 40 * _ ≤ 40 * _; omega⟩ (by decide) rfl (Nat.le_of_ble_eq_true rfl) (fun v9 h9 e9 => ?_) (fun E9 h9 e9 => nomatch e9)
      cases e9
      show Ev _ _ _ _ _ _ 43 [some (.ref 0), some (.int (nI f9)), some (.int (nI t9)), some (.int c), some (.int ((moveF I sz (nI f9) (nI t9) c).1))] [.int (minF ((moveF I sz (nI f9) (nI t9) c).2) sz f9 t9 c)] (N, SH v T, bfsI ((moveF I sz (nI f9) (nI t9) c).2) sz t9, L, Dd)
      refine Ev.iret dX6_shuntingTime_43 rfl ?_
      exact outQ_ret (by simp [shuntTQ, seqX, f7, hcf9, hct9])
/-- nearestFor: a step -/
def stNr (sz f k : Nat) (u : (Nat → Nat → Int32) × Int32 × Int32) : (Nat → Nat → Int32) × Int32 × Int32 :=
  if (moveF u.1 sz (nI f) (nI k) 1).1 = 0 then
    (if u.2.1 = -1 ∨ minF (moveF u.1 sz (nI f) (nI k) 1).2 sz f k 1 < u.2.2 ∨ (minF (moveF u.1 sz (nI f) (nI k) 1).2 sz f k 1 = u.2.2 ∧ frT (bfsI (moveF u.1 sz (nI f) (nI k) 1).2 sz k) u.2.1.toNatClampNeg < frT (bfsI (moveF u.1 sz (nI f) (nI k) 1).2 sz k) k) then (bfsI (moveF u.1 sz (nI f) (nI k) 1).2 sz k, nI k, minF (moveF u.1 sz (nI f) (nI k) 1).2 sz f k 1)
     else (bfsI (moveF u.1 sz (nI f) (nI k) 1).2 sz k, u.2.1, u.2.2))
  else ((moveF u.1 sz (nI f) (nI k) 1).2, u.2.1, u.2.2)
theorem l_near (hX : JXok X) (hd : 4 ≤ d) {f sz : Nat} (hf : f < 8) (hsz : sz ≤ 8) : ∀ (n k : Nat) (J : Nat → Nat → Int32) (ne : Int32) (le : Int32), (n + k = sz ∧ J 6 0 = nI sz ∧ (ne = -1 ∨ ∃ q, q < 8 ∧ ne = nI q)) → Ev X (jm jdX5_nearestFor) d 0 0 (fun R => R = .inl (some (.int ((fo (stNr sz f) n k (J, ne, le)).2.1)), (N, SH v T, (fo (stNr sz f) n k (J, ne, le)).1, L, Dd))) 7 [some (.ref 1), some (.int (nI f)), some (.int ne), some (.int le), some (.int (nI k)), none] [] (N, SH v T, J, L, Dd) := by
  intro n
  induction n with
  | zero =>
    intro k J ne le hk
    obtain ⟨hk, hJ, hne⟩ := hk
    refine Ev.sg hX sX5_nearestFor_7 (pc' := 16) (ls' := [some (.ref 1), some (.int (nI f)), some (.int ne), some (.int le), some (.int (nI k)), none]) (st' := [.int (J 6 0), .int (nI k)]) (h' := (N, SH v T, J, L, Dd)) rfl ?_
    rw [hJ]
    refine Ev.icmp_ge (tgt := 83) dX5_nearestFor_16 (by decide) (fun b1 => ?_) (fun b1 => ?_)
    · refine Ev.sg hX sX5_nearestFor_83 (pc' := 84) (ls' := [some (.ref 1), some (.int (nI f)), some (.int ne), some (.int le), some (.int (nI k)), none]) (st' := [.int ne]) (h' := (N, SH v T, J, L, Dd)) rfl ?_
      refine Ev.iret dX5_nearestFor_84 rfl ?_
      rfl
    · exact absurd (((nI_leI (a := sz) (b := k) (by omega) (by omega)).mpr (by omega))) b1
  | succ n ih =>
    intro k J ne le hk
    obtain ⟨hk, hJ, hne⟩ := hk
    refine Ev.sg hX sX5_nearestFor_7 (pc' := 16) (ls' := [some (.ref 1), some (.int (nI f)), some (.int ne), some (.int le), some (.int (nI k)), none]) (st' := [.int (J 6 0), .int (nI k)]) (h' := (N, SH v T, J, L, Dd)) rfl ?_
    rw [hJ]
    refine Ev.icmp_ge (tgt := 83) dX5_nearestFor_16 (by decide) (fun b1 => ?_) (fun b1 => ?_)
    · exact absurd (((nI_leI (a := sz) (b := k) (by omega) (by omega)).mp b1)) (by omega)
    · refine Ev.sg hX sX5_nearestFor_19 (pc' := 24) (ls' := [some (.ref 1), some (.int (nI f)), some (.int ne), some (.int le), some (.int (nI k)), none]) (st' := [.int 1, .int (nI k), .int (nI f), .ref 1]) (h' := (N, SH v T, J, L, Dd)) rfl ?_
      refine Ev.callV (As := [.int (nI f), .int (nI k), .int 1]) (rest := []) dvX5_moveFault mkX5_131 rfl rfl dX5_nearestFor_24 (c_moveFault (d := d - 1) (I := J) hX (by omega) hsz hJ) ⟨by omega, by show 4 + 19 + 40 * _ ≤ 40 * _; omega⟩ (by decide) rfl (Nat.le_of_ble_eq_true rfl) (fun v9 h9 e9 => ?_) (fun E9 h9 e9 => nomatch e9)
      cases e9
      show Ev _ _ _ _ _ _ 27 [some (.ref 1), some (.int (nI f)), some (.int ne), some (.int le), some (.int (nI k)), none] [.int ((moveF J sz (nI f) (nI k) 1).1)] (N, SH v T, (moveF J sz (nI f) (nI k) 1).2, L, Dd)
      refine Ev.if_ne (tgt := 77) dX5_nearestFor_27 (by decide) (fun b2 => ?_) (fun b2 => ?_)
      · refine Ev.sg hX sX5_nearestFor_77 (pc' := 7) (ls' := [some (.ref 1), some (.int (nI f)), some (.int ne), some (.int le), some (.int ((nI k) + 1)), none]) (st' := []) (h' := (N, SH v T, (moveF J sz (nI f) (nI k) 1).2, L, Dd)) rfl ?_
        rw [nI_1, fo, show stNr sz f k (J, ne, le) = ((moveF J sz (nI f) (nI k) 1).2, ne, le) from by simp [stNr, frT, b2]]
        exact (ih (k + 1) _ _ _ ⟨by omega, (congrFun (move_eq 6 (by decide) (by decide) (by decide) (by decide)) 0).trans hJ, hne⟩)
      · refine Ev.sg hX sX5_nearestFor_30 (pc' := 35) (ls' := [some (.ref 1), some (.int (nI f)), some (.int ne), some (.int le), some (.int (nI k)), none]) (st' := [.int 1, .int (nI k), .int (nI f), .ref 1]) (h' := (N, SH v T, (moveF J sz (nI f) (nI k) 1).2, L, Dd)) rfl ?_
        refine Ev.callV (As := [.int (nI f), .int (nI k), .int 1]) (rest := []) dvX5_minutesOfMove mkX5_106 rfl rfl dX5_nearestFor_35 (c_minutes (d := d - 1) (I := ((moveF J sz (nI f) (nI k) 1).2)) hX (by omega) hf (by omega) hsz ((congrFun (move_eq 6 (by decide) (by decide) (by decide) (by decide)) 0).trans hJ)) ⟨by omega, by show 5 + 19 + 40 * _ ≤ 40 * _; omega⟩ (by decide) rfl (Nat.le_of_ble_eq_true rfl) (fun v9 h9 e9 => ?_) (fun E9 h9 e9 => nomatch e9)
        cases e9
        show Ev _ _ _ _ _ _ 38 [some (.ref 1), some (.int (nI f)), some (.int ne), some (.int le), some (.int (nI k)), none] [.int (minF ((moveF J sz (nI f) (nI k) 1).2) sz f k 1)] (N, SH v T, bfsI ((moveF J sz (nI f) (nI k) 1).2) sz k, L, Dd)
        refine Ev.sg hX sX5_nearestFor_38 (pc' := 42) (ls' := [some (.ref 1), some (.int (nI f)), some (.int ne), some (.int le), some (.int (nI k)), some (.int (minF ((moveF J sz (nI f) (nI k) 1).2) sz f k 1))]) (st' := [.int (-1), .int ne]) (h' := (N, SH v T, bfsI ((moveF J sz (nI f) (nI k) 1).2) sz k, L, Dd)) rfl ?_
        refine Ev.icmp_eq (tgt := 71) dX5_nearestFor_42 (by decide) (fun b3 => ?_) (fun b3 => ?_)
        · refine Ev.sg hX sX5_nearestFor_71 (pc' := 77) (ls' := [some (.ref 1), some (.int (nI f)), some (.int (nI k)), some (.int (minF ((moveF J sz (nI f) (nI k) 1).2) sz f k 1)), some (.int (nI k)), some (.int (minF ((moveF J sz (nI f) (nI k) 1).2) sz f k 1))]) (st' := []) (h' := (N, SH v T, bfsI ((moveF J sz (nI f) (nI k) 1).2) sz k, L, Dd)) rfl ?_
          refine Ev.sg hX sX5_nearestFor_77 (pc' := 7) (ls' := [some (.ref 1), some (.int (nI f)), some (.int (nI k)), some (.int (minF ((moveF J sz (nI f) (nI k) 1).2) sz f k 1)), some (.int ((nI k) + 1)), some (.int (minF ((moveF J sz (nI f) (nI k) 1).2) sz f k 1))]) (st' := []) (h' := (N, SH v T, bfsI ((moveF J sz (nI f) (nI k) 1).2) sz k, L, Dd)) rfl ?_
          rw [nI_1, fo, show stNr sz f k (J, ne, le) = (bfsI ((moveF J sz (nI f) (nI k) 1).2) sz k, nI k, minF ((moveF J sz (nI f) (nI k) 1).2) sz f k 1) from by simp [stNr, frT, b2, b3]]
          exact Ev.drop 5 (ih (k + 1) _ _ _ ⟨by omega, (congrFun ((bfsI_eq.tr move_eq) 6 (by decide) (by decide) (by decide) (by decide)) 0).trans hJ, Or.inr ⟨k, by omega, rfl⟩⟩)
        · refine Ev.sg hX sX5_nearestFor_45 (pc' := 48) (ls' := [some (.ref 1), some (.int (nI f)), some (.int ne), some (.int le), some (.int (nI k)), some (.int (minF ((moveF J sz (nI f) (nI k) 1).2) sz f k 1))]) (st' := [.int le, .int (minF ((moveF J sz (nI f) (nI k) 1).2) sz f k 1)]) (h' := (N, SH v T, bfsI ((moveF J sz (nI f) (nI k) 1).2) sz k, L, Dd)) rfl ?_
          refine Ev.icmp_lt (tgt := 71) dX5_nearestFor_48 (by decide) (fun b4 => ?_) (fun b4 => ?_)
          · refine Ev.sg hX sX5_nearestFor_71 (pc' := 77) (ls' := [some (.ref 1), some (.int (nI f)), some (.int (nI k)), some (.int (minF ((moveF J sz (nI f) (nI k) 1).2) sz f k 1)), some (.int (nI k)), some (.int (minF ((moveF J sz (nI f) (nI k) 1).2) sz f k 1))]) (st' := []) (h' := (N, SH v T, bfsI ((moveF J sz (nI f) (nI k) 1).2) sz k, L, Dd)) rfl ?_
            refine Ev.sg hX sX5_nearestFor_77 (pc' := 7) (ls' := [some (.ref 1), some (.int (nI f)), some (.int (nI k)), some (.int (minF ((moveF J sz (nI f) (nI k) 1).2) sz f k 1)), some (.int ((nI k) + 1)), some (.int (minF ((moveF J sz (nI f) (nI k) 1).2) sz f k 1))]) (st' := []) (h' := (N, SH v T, bfsI ((moveF J sz (nI f) (nI k) 1).2) sz k, L, Dd)) rfl ?_
            rw [nI_1, fo, show stNr sz f k (J, ne, le) = (bfsI ((moveF J sz (nI f) (nI k) 1).2) sz k, nI k, minF ((moveF J sz (nI f) (nI k) 1).2) sz f k 1) from by simp [stNr, frT, b2, b3, b4]]
            exact Ev.drop 5 (ih (k + 1) _ _ _ ⟨by omega, (congrFun ((bfsI_eq.tr move_eq) 6 (by decide) (by decide) (by decide) (by decide)) 0).trans hJ, Or.inr ⟨k, by omega, rfl⟩⟩)
          · refine Ev.sg hX sX5_nearestFor_51 (pc' := 54) (ls' := [some (.ref 1), some (.int (nI f)), some (.int ne), some (.int le), some (.int (nI k)), some (.int (minF ((moveF J sz (nI f) (nI k) 1).2) sz f k 1))]) (st' := [.int le, .int (minF ((moveF J sz (nI f) (nI k) 1).2) sz f k 1)]) (h' := (N, SH v T, bfsI ((moveF J sz (nI f) (nI k) 1).2) sz k, L, Dd)) rfl ?_
            refine Ev.icmp_ne (tgt := 77) dX5_nearestFor_54 (by decide) (fun b5 => ?_) (fun b5 => ?_)
            · refine Ev.sg hX sX5_nearestFor_77 (pc' := 7) (ls' := [some (.ref 1), some (.int (nI f)), some (.int ne), some (.int le), some (.int ((nI k) + 1)), some (.int (minF ((moveF J sz (nI f) (nI k) 1).2) sz f k 1))]) (st' := []) (h' := (N, SH v T, bfsI ((moveF J sz (nI f) (nI k) 1).2) sz k, L, Dd)) rfl ?_
              rw [nI_1, fo, show stNr sz f k (J, ne, le) = (bfsI ((moveF J sz (nI f) (nI k) 1).2) sz k, ne, le) from by simp [stNr, frT, b2, b3, b4, b5]]
              exact Ev.drop 5 (ih (k + 1) _ _ _ ⟨by omega, (congrFun ((bfsI_eq.tr move_eq) 6 (by decide) (by decide) (by decide) (by decide)) 0).trans hJ, hne⟩)
            · refine Ev.sg hX sX5_nearestFor_57 (pc' := 60) (ls' := [some (.ref 1), some (.int (nI f)), some (.int ne), some (.int le), some (.int (nI k)), some (.int (minF ((moveF J sz (nI f) (nI k) 1).2) sz f k 1))]) (st' := [.int (nI k), .ref 1]) (h' := (N, SH v T, bfsI ((moveF J sz (nI f) (nI k) 1).2) sz k, L, Dd)) rfl ?_
              refine Ev.callV (As := [.int (nI k)]) (rest := []) dvX5_free mkX5_90 rfl rfl dX5_nearestFor_60 (c_free (d := d - 1) (I := (bfsI ((moveF J sz (nI f) (nI k) 1).2) sz k)) hX (by omega) (by omega)) ⟨by omega, by show 2 + 19 + 40 * _ ≤ 40 * _; omega⟩ (by decide) rfl (Nat.le_of_ble_eq_true rfl) (fun v9 h9 e9 => ?_) (fun E9 h9 e9 => nomatch e9)
              cases e9
              show Ev _ _ _ _ _ _ 63 [some (.ref 1), some (.int (nI f)), some (.int ne), some (.int le), some (.int (nI k)), some (.int (minF ((moveF J sz (nI f) (nI k) 1).2) sz f k 1))] [.int ((bfsI ((moveF J sz (nI f) (nI k) 1).2) sz k) 3 k - (bfsI ((moveF J sz (nI f) (nI k) 1).2) sz k) 33 k)] (N, SH v T, bfsI ((moveF J sz (nI f) (nI k) 1).2) sz k, L, Dd)
              refine Ev.sg hX sX5_nearestFor_63 (pc' := 65) (ls' := [some (.ref 1), some (.int (nI f)), some (.int ne), some (.int le), some (.int (nI k)), some (.int (minF ((moveF J sz (nI f) (nI k) 1).2) sz f k 1))]) (st' := [.int ne, .ref 1, .int ((bfsI ((moveF J sz (nI f) (nI k) 1).2) sz k) 3 k - (bfsI ((moveF J sz (nI f) (nI k) 1).2) sz k) 33 k)]) (h' := (N, SH v T, bfsI ((moveF J sz (nI f) (nI k) 1).2) sz k, L, Dd)) rfl ?_
              obtain ⟨ne9, hne9, rfl⟩ := hne.resolve_left b3
              have hcn9 : (nI ne9).toNatClampNeg = ne9 := nI_clamp (by omega)
              refine Ev.callV (As := [.int (nI ne9)]) (rest := [.int ((bfsI ((moveF J sz (nI f) (nI k) 1).2) sz k) 3 k - (bfsI ((moveF J sz (nI f) (nI k) 1).2) sz k) 33 k)]) dvX5_free mkX5_90 rfl rfl dX5_nearestFor_65 (c_free (d := d - 1) (I := (bfsI ((moveF J sz (nI f) (nI k) 1).2) sz k)) hX (by omega) hne9) ⟨by omega, by show 2 + 19 + 40 * _ ≤ 40 * _; omega⟩ (by decide) rfl (Nat.le_of_ble_eq_true rfl) (fun v9 h9 e9 => ?_) (fun E9 h9 e9 => nomatch e9)
              cases e9
              show Ev _ _ _ _ _ _ 68 [some (.ref 1), some (.int (nI f)), some (.int (nI ne9)), some (.int le), some (.int (nI k)), some (.int (minF ((moveF J sz (nI f) (nI k) 1).2) sz f k 1))] [.int ((bfsI ((moveF J sz (nI f) (nI k) 1).2) sz k) 3 ne9 - (bfsI ((moveF J sz (nI f) (nI k) 1).2) sz k) 33 ne9), .int ((bfsI ((moveF J sz (nI f) (nI k) 1).2) sz k) 3 k - (bfsI ((moveF J sz (nI f) (nI k) 1).2) sz k) 33 k)] (N, SH v T, bfsI ((moveF J sz (nI f) (nI k) 1).2) sz k, L, Dd)
              refine Ev.icmp_le (tgt := 77) dX5_nearestFor_68 (by decide) (fun b6 => ?_) (fun b6 => ?_)
              · refine Ev.sg hX sX5_nearestFor_77 (pc' := 7) (ls' := [some (.ref 1), some (.int (nI f)), some (.int (nI ne9)), some (.int le), some (.int ((nI k) + 1)), some (.int (minF ((moveF J sz (nI f) (nI k) 1).2) sz f k 1))]) (st' := []) (h' := (N, SH v T, bfsI ((moveF J sz (nI f) (nI k) 1).2) sz k, L, Dd)) rfl ?_
                rw [nI_1, fo, show stNr sz f k (J, nI ne9, le) = (bfsI ((moveF J sz (nI f) (nI k) 1).2) sz k, nI ne9, le) from by simp [stNr, frT, hcn9, b2, b3, b4, b5, Int32.not_lt.mpr b6]]
                exact Ev.drop 5 (ih (k + 1) _ _ _ ⟨by omega, (congrFun ((bfsI_eq.tr move_eq) 6 (by decide) (by decide) (by decide) (by decide)) 0).trans hJ, Or.inr ⟨ne9, hne9, rfl⟩⟩)
              · refine Ev.sg hX sX5_nearestFor_71 (pc' := 77) (ls' := [some (.ref 1), some (.int (nI f)), some (.int (nI k)), some (.int (minF ((moveF J sz (nI f) (nI k) 1).2) sz f k 1)), some (.int (nI k)), some (.int (minF ((moveF J sz (nI f) (nI k) 1).2) sz f k 1))]) (st' := []) (h' := (N, SH v T, bfsI ((moveF J sz (nI f) (nI k) 1).2) sz k, L, Dd)) rfl ?_
                refine Ev.sg hX sX5_nearestFor_77 (pc' := 7) (ls' := [some (.ref 1), some (.int (nI f)), some (.int (nI k)), some (.int (minF ((moveF J sz (nI f) (nI k) 1).2) sz f k 1)), some (.int ((nI k) + 1)), some (.int (minF ((moveF J sz (nI f) (nI k) 1).2) sz f k 1))]) (st' := []) (h' := (N, SH v T, bfsI ((moveF J sz (nI f) (nI k) 1).2) sz k, L, Dd)) rfl ?_
                rw [nI_1, fo, show stNr sz f k (J, nI ne9, le) = (bfsI ((moveF J sz (nI f) (nI k) 1).2) sz k, nI k, minF ((moveF J sz (nI f) (nI k) 1).2) sz f k 1) from by simp [stNr, frT, hcn9, b2, b3, b4, b5, Int32.not_le.mp b6]]
                exact Ev.drop 5 (ih (k + 1) _ _ _ ⟨by omega, (congrFun ((bfsI_eq.tr move_eq) 6 (by decide) (by decide) (by decide) (by decide)) 0).trans hJ, Or.inr ⟨k, by omega, rfl⟩⟩)
end QU2
