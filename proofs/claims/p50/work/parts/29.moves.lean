/-! the yard in use: moves, trains, ranks, sums, the check -/
section YARD2
variable {X : JX} {d N v : Nat} {T : Nat → Option JS} {I : Nat → Nat → Int32} {L : Nat → Nat → Int64} {Dd : Nat → Nat → UInt64} {J : Nat → Nat → Int32} {Q : JR → Prop} {a b c dd : Int32}
def repairFt (I : Nat → Nat → Int32) (c : Int32) : Int32 := if slotOf I c = -1 then 4 else if rg 20 (I 21) (slotOf I c) = 1 then 0 else 3
theorem c_repairFault (hX : JXok X) (hd : 2 ≤ d) : MT X d 0 0 jdX5_repairFault [.ref 1, .int c] (N, SH v T, I, L, Dd) (fun R => R = .inl (some (.int (repairFt I c)), (N, SH v T, I, L, Dd))) := by
  refine MT.mk dvX5_repairFault.1 ?_
  refine Ev.sg hX sX5_repairFault_0 (pc' := 5) (ls' := [some (.ref 1), some (.int c), none]) (st' := [.int c, .ref 15]) (h' := (N, SH v T, I, L, Dd)) rfl ?_
  refine Ev.callV (As := [.int c]) (rest := []) dvX0_slotOf mkX5_113 rfl rfl dX5_repairFault_5 (c_slotOf (d := d - 1) (I := I) hX (by omega)) ⟨by omega, by show 3 + 19 + 40 * _ ≤ 40 * _; omega⟩ (by decide) rfl (Nat.le_of_ble_eq_true rfl) (fun v9 h9 e9 => ?_) (fun E9 h9 e9 => nomatch e9)
  cases e9
  show Ev _ _ _ _ _ _ 8 [some (.ref 1), some (.int c), none] [.int (slotOf I c)] (N, SH v T, I, L, Dd)
  refine Ev.sg hX sX5_repairFault_8 (pc' := 11) (ls' := [some (.ref 1), some (.int c), some (.int (slotOf I c))]) (st' := [.int (-1), .int (slotOf I c)]) (h' := (N, SH v T, I, L, Dd)) rfl ?_
  refine Ev.icmp_ne (tgt := 16) dX5_repairFault_11 (by decide) (fun b1 => ?_) (fun b1 => ?_)
  · refine Ev.sg hX sX5_repairFault_16 (pc' := 24) (ls' := [some (.ref 1), some (.int c), some (.int (slotOf I c))]) (st' := [.int (slotOf I c), .ref 20]) (h' := (N, SH v T, I, L, Dd)) rfl ?_
    refine Ev.callV (As := [.int (slotOf I c)]) (rest := []) dvX4_get mkX5_64 rfl rfl dX5_repairFault_24 (c_Row_get (d := d - 1) (h := (N, SH v T, I, L, Dd)) (r := 20) (a := 21) (n := 20) hX rfl rfl (by decide)) ⟨by omega, by show 2 + 19 + 40 * _ ≤ 40 * _; omega⟩ (by decide) rfl (Nat.le_of_ble_eq_true rfl) (fun v9 h9 e9 => ?_) (fun E9 h9 e9 => nomatch e9)
    cases e9
    show Ev _ _ _ _ _ _ 27 [some (.ref 1), some (.int c), some (.int (slotOf I c))] [.int (rg 20 (I 21) (slotOf I c))] (N, SH v T, I, L, Dd)
    refine Ev.sg hX sX5_repairFault_27 (pc' := 28) (ls' := [some (.ref 1), some (.int c), some (.int (slotOf I c))]) (st' := [.int 1, .int (rg 20 (I 21) (slotOf I c))]) (h' := (N, SH v T, I, L, Dd)) rfl ?_
    refine Ev.icmp_ne (tgt := 35) dX5_repairFault_28 (by decide) (fun b2 => ?_) (fun b2 => ?_)
    · refine Ev.sg hX sX5_repairFault_35 (pc' := 36) (ls' := [some (.ref 1), some (.int c), some (.int (slotOf I c))]) (st' := [.int 3]) (h' := (N, SH v T, I, L, Dd)) rfl ?_
      refine Ev.iret dX5_repairFault_36 rfl ?_
      simp [repairFt, b1, b2]
    · refine Ev.sg hX sX5_repairFault_31 (pc' := 36) (ls' := [some (.ref 1), some (.int c), some (.int (slotOf I c))]) (st' := [.int 0]) (h' := (N, SH v T, I, L, Dd)) rfl ?_
      refine Ev.iret dX5_repairFault_36 rfl ?_
      simp [repairFt, b1, b2]
  · refine Ev.sg hX sX5_repairFault_14 (pc' := 15) (ls' := [some (.ref 1), some (.int c), some (.int (slotOf I c))]) (st' := [.int 4]) (h' := (N, SH v T, I, L, Dd)) rfl ?_
    refine Ev.iret dX5_repairFault_15 rfl ?_
    simp [repairFt, b1]
def trainFt (I : Nat → Nat → Int32) (t dd : Int32) : Int32 × (Nat → Nat → Int32) :=
  if ¬ hasT I t then (1, I) else if ¬ (0 ≤ dd ∧ dd ≤ 9) then (2, I) else
  if slotAt I t (I 31 t.toNatClampNeg - 1) = -1 ∨ rg 20 (I 19) (slotAt I t (I 31 t.toNatClampNeg - 1)) ≠ dd then (3, I) else
  (if 0 < defectsOfLast (listO I t) t (trainF (listO I t) (I 31 t.toNatClampNeg).toNatClampNeg) then 5 else 0, listO I t)
theorem c_trainFault (hX : JXok X) (hd : 3 ≤ d) {t : Int32} {sz : Nat} (hsz : sz ≤ 8) (hJ : I 6 0 = nI sz) (hhs : ∀ t, t < 8 → ∃ hg, hg ≤ 20 ∧ I 31 t = nI hg) : MT X d 0 0 jdX5_trainFault [.ref 1, .int t, .int dd] (N, SH v T, I, L, Dd) (fun R => R = .inl (some (.int ((trainFt I t dd).1)), (N, SH v T, (trainFt I t dd).2, L, Dd))) := by
  refine MT.mk dvX5_trainFault.1 ?_
  refine Ev.sg hX sX5_trainFault_0 (pc' := 2) (ls' := [some (.ref 1), some (.int t), some (.int dd), none]) (st' := [.int t, .ref 1]) (h' := (N, SH v T, I, L, Dd)) rfl ?_
  refine Ev.callV (As := [.int t]) (rest := []) dvX5_hasTrack mkX5_79 rfl rfl dX5_trainFault_2 (c_hasTrack (d := d - 1) (I := I) hX (Nat.zero_le _)) ⟨by omega, by show 2 + 19 + 40 * _ ≤ 40 * _; omega⟩ (by decide) rfl (Nat.le_of_ble_eq_true rfl) (fun v9 h9 e9 => ?_) (fun E9 h9 e9 => nomatch e9)
  cases e9
  show Ev _ _ _ _ _ _ 5 [some (.ref 1), some (.int t), some (.int dd), none] [.int (bi (hasT I t))] (N, SH v T, I, L, Dd)
  refine Ev.if_ne (tgt := 10) dX5_trainFault_5 (by decide) (fun b1 => ?_) (fun b1 => ?_)
  · refine Ev.sg hX sX5_trainFault_10 (pc' := 14) (ls' := [some (.ref 1), some (.int t), some (.int dd), none]) (st' := [.int 9, .int 0, .int dd]) (h' := (N, SH v T, I, L, Dd)) rfl ?_
    refine Ev.callSN (As := [.int dd, .int 0, .int 9]) (rest := []) (host := "ClassificationYard") dsX6_isWithin (by decide +kernel) dX5_trainFault_14 (c_isWithin (d := d - 1) hX) ⟨by omega, by show 3 + 19 + 40 * _ ≤ 40 * _; omega⟩ (by decide) rfl (Nat.le_of_ble_eq_true rfl) (fun v9 h9 e9 => ?_) (fun E9 h9 e9 => nomatch e9)
    cases e9
    show Ev _ _ _ _ _ _ 17 [some (.ref 1), some (.int t), some (.int dd), none] [.int (bi (0 ≤ dd ∧ dd ≤ 9))] (N, SH v T, I, L, Dd)
    refine Ev.if_ne (tgt := 22) dX5_trainFault_17 (by decide) (fun b2 => ?_) (fun b2 => ?_)
    · obtain ⟨f9, hf9, rfl⟩ := hasT_nI hsz hJ (bi_1.mp b1)
      have hcf9 : (nI f9).toNatClampNeg = f9 := nI_clamp (by omega)
      have htf9 := bi_1.mp b1
      obtain ⟨hg, hg20, hh⟩ := hhs f9 (by omega)
      have hch : (nI hg).toNatClampNeg = hg := nI_clamp (by omega)
      refine Ev.sg hX sX5_trainFault_22 (pc' := 35) (ls' := [some (.ref 1), some (.int (nI f9)), some (.int dd), none]) (st' := [.int (nI f9), .ref 30, .int (nI f9), .ref 15]) (h' := (N, SH v T, I, L, Dd)) rfl ?_
      refine Ev.callV (As := [.int (nI f9)]) (rest := [.int (nI f9), .ref 15]) dvX4_get mkX5_64 rfl rfl dX5_trainFault_35 (c_Row_getN (d := d - 1) (h := (N, SH v T, I, L, Dd)) (r := 30) (a := 31) (n := 8) hX rfl rfl (by decide) (by omega)) ⟨by omega, by show 2 + 19 + 40 * _ ≤ 40 * _; omega⟩ (by decide) rfl (Nat.le_of_ble_eq_true rfl) (fun v9 h9 e9 => ?_) (fun E9 h9 e9 => nomatch e9)
      cases e9
      show Ev _ _ _ _ _ _ 38 [some (.ref 1), some (.int (nI f9)), some (.int dd), none] [.int (I 31 f9), .int (nI f9), .ref 15] (N, SH v T, I, L, Dd)
      refine Ev.sg hX sX5_trainFault_38 (pc' := 40) (ls' := [some (.ref 1), some (.int (nI f9)), some (.int dd), none]) (st' := [.int ((I 31 f9) - 1), .int (nI f9), .ref 15]) (h' := (N, SH v T, I, L, Dd)) rfl ?_
      refine Ev.callV (As := [.int (nI f9), .int ((I 31 f9) - 1)]) (rest := []) dvX0_slotAt mkX5_119 rfl rfl dX5_trainFault_40 (c_slotAt (d := d - 1) (I := I) hX (by omega)) ⟨by omega, by show 4 + 19 + 40 * _ ≤ 40 * _; omega⟩ (by decide) rfl (Nat.le_of_ble_eq_true rfl) (fun v9 h9 e9 => ?_) (fun E9 h9 e9 => nomatch e9)
      cases e9
      show Ev _ _ _ _ _ _ 43 [some (.ref 1), some (.int (nI f9)), some (.int dd), none] [.int (slotAt I (nI f9) ((I 31 f9) - 1))] (N, SH v T, I, L, Dd)
      refine Ev.sg hX sX5_trainFault_43 (pc' := 46) (ls' := [some (.ref 1), some (.int (nI f9)), some (.int dd), some (.int (slotAt I (nI f9) ((I 31 f9) - 1)))]) (st' := [.int (-1), .int (slotAt I (nI f9) ((I 31 f9) - 1))]) (h' := (N, SH v T, I, L, Dd)) rfl ?_
      refine Ev.icmp_eq (tgt := 64) dX5_trainFault_46 (by decide) (fun b3 => ?_) (fun b3 => ?_)
      · refine Ev.sg hX sX5_trainFault_64 (pc' := 65) (ls' := [some (.ref 1), some (.int (nI f9)), some (.int dd), some (.int (slotAt I (nI f9) ((I 31 f9) - 1)))]) (st' := [.int 3]) (h' := (N, SH v T, I, L, Dd)) rfl ?_
        refine Ev.iret dX5_trainFault_65 rfl ?_
        (simp only [hh] at b3; simp [trainFt, bi_1.mp b1, bi_1.mp b2, b3, hcf9, hh, hch])
      · refine Ev.sg hX sX5_trainFault_49 (pc' := 57) (ls' := [some (.ref 1), some (.int (nI f9)), some (.int dd), some (.int (slotAt I (nI f9) ((I 31 f9) - 1)))]) (st' := [.int (slotAt I (nI f9) ((I 31 f9) - 1)), .ref 18]) (h' := (N, SH v T, I, L, Dd)) rfl ?_
        refine Ev.callV (As := [.int (slotAt I (nI f9) ((I 31 f9) - 1))]) (rest := []) dvX4_get mkX5_64 rfl rfl dX5_trainFault_57 (c_Row_get (d := d - 1) (h := (N, SH v T, I, L, Dd)) (r := 18) (a := 19) (n := 20) hX rfl rfl (by decide)) ⟨by omega, by show 2 + 19 + 40 * _ ≤ 40 * _; omega⟩ (by decide) rfl (Nat.le_of_ble_eq_true rfl) (fun v9 h9 e9 => ?_) (fun E9 h9 e9 => nomatch e9)
        cases e9
        show Ev _ _ _ _ _ _ 60 [some (.ref 1), some (.int (nI f9)), some (.int dd), some (.int (slotAt I (nI f9) ((I 31 f9) - 1)))] [.int (rg 20 (I 19) (slotAt I (nI f9) ((I 31 f9) - 1)))] (N, SH v T, I, L, Dd)
        refine Ev.sg hX sX5_trainFault_60 (pc' := 61) (ls' := [some (.ref 1), some (.int (nI f9)), some (.int dd), some (.int (slotAt I (nI f9) ((I 31 f9) - 1)))]) (st' := [.int dd, .int (rg 20 (I 19) (slotAt I (nI f9) ((I 31 f9) - 1)))]) (h' := (N, SH v T, I, L, Dd)) rfl ?_
        refine Ev.icmp_eq (tgt := 66) dX5_trainFault_61 (by decide) (fun b4 => ?_) (fun b4 => ?_)
        · refine Ev.sg hX sX5_trainFault_66 (pc' := 76) (ls' := [some (.ref 1), some (.int (nI f9)), some (.int dd), some (.int (slotAt I (nI f9) ((I 31 f9) - 1)))]) (st' := [.int (nI f9), .ref 15, .int (nI f9), .ref 15]) (h' := (N, SH v T, I, L, Dd)) rfl ?_
          refine Ev.callV (As := [.int (nI f9)]) (rest := [.int (nI f9), .ref 15]) dvX0_trainOf mkX5_125 rfl rfl dX5_trainFault_76 (c_trainOf (d := d - 1) (I := I) hX (by omega) (by omega) hg20 hh) ⟨by omega, by show 5 + 19 + 40 * _ ≤ 40 * _; omega⟩ (by decide) rfl (Nat.le_of_ble_eq_true rfl) (fun v9 h9 e9 => ?_) (fun E9 h9 e9 => nomatch e9)
          cases e9
          show Ev _ _ _ _ _ _ 79 [some (.ref 1), some (.int (nI f9)), some (.int dd), some (.int (slotAt I (nI f9) ((I 31 f9) - 1)))] [.int (trainF (listO I (nI f9)) hg), .int (nI f9), .ref 15] (N, SH v T, listO I (nI f9), L, Dd)
          refine Ev.callV (As := [.int (nI f9), .int (trainF (listO I (nI f9)) hg)]) (rest := []) dvX0_defectsOfLast mkX5_103 rfl rfl dX5_trainFault_79 (c_defectsOfLast (d := d - 1) (I := (listO I (nI f9))) hX (by omega)) ⟨by omega, by show 5 + 19 + 40 * _ ≤ 40 * _; omega⟩ (by decide) rfl (Nat.le_of_ble_eq_true rfl) (fun v9 h9 e9 => ?_) (fun E9 h9 e9 => nomatch e9)
          cases e9
          show Ev _ _ _ _ _ _ 82 [some (.ref 1), some (.int (nI f9)), some (.int dd), some (.int (slotAt I (nI f9) ((I 31 f9) - 1)))] [.int (defectsOfLast (listO I (nI f9)) (nI f9) (trainF (listO I (nI f9)) hg))] (N, SH v T, listO I (nI f9), L, Dd)
          refine Ev.if_le (tgt := 89) dX5_trainFault_82 (by decide) (fun b5 => ?_) (fun b5 => ?_)
          · refine Ev.sg hX sX5_trainFault_89 (pc' := 90) (ls' := [some (.ref 1), some (.int (nI f9)), some (.int dd), some (.int (slotAt I (nI f9) ((I 31 f9) - 1)))]) (st' := [.int 0]) (h' := (N, SH v T, listO I (nI f9), L, Dd)) rfl ?_
            refine Ev.iret dX5_trainFault_90 rfl ?_
            (simp only [hh] at b3 b4; simp [trainFt, bi_1.mp b1, bi_1.mp b2, b3, b4, Int32.not_lt.mpr b5, hcf9, hh, hch])
          · refine Ev.sg hX sX5_trainFault_85 (pc' := 90) (ls' := [some (.ref 1), some (.int (nI f9)), some (.int dd), some (.int (slotAt I (nI f9) ((I 31 f9) - 1)))]) (st' := [.int 5]) (h' := (N, SH v T, listO I (nI f9), L, Dd)) rfl ?_
            refine Ev.iret dX5_trainFault_90 rfl ?_
            (simp only [hh] at b3 b4; simp [trainFt, bi_1.mp b1, bi_1.mp b2, b3, b4, Int32.not_le.mp b5, hcf9, hh, hch])
        · refine Ev.sg hX sX5_trainFault_64 (pc' := 65) (ls' := [some (.ref 1), some (.int (nI f9)), some (.int dd), some (.int (slotAt I (nI f9) ((I 31 f9) - 1)))]) (st' := [.int 3]) (h' := (N, SH v T, I, L, Dd)) rfl ?_
          refine Ev.iret dX5_trainFault_65 rfl ?_
          (simp only [hh] at b3 b4; simp [trainFt, bi_1.mp b1, bi_1.mp b2, b3, b4, hcf9, hh, hch])
    · refine Ev.sg hX sX5_trainFault_20 (pc' := 21) (ls' := [some (.ref 1), some (.int t), some (.int dd), none]) (st' := [.int 2]) (h' := (N, SH v T, I, L, Dd)) rfl ?_
      refine Ev.iret dX5_trainFault_21 rfl ?_
      (simp [trainFt, bi_1.mp b1, bi_0.mp b2])
  · refine Ev.sg hX sX5_trainFault_8 (pc' := 9) (ls' := [some (.ref 1), some (.int t), some (.int dd), none]) (st' := [.int 1]) (h' := (N, SH v T, I, L, Dd)) rfl ?_
    refine Ev.iret dX5_trainFault_9 rfl ?_
    (simp [trainFt, bi_0.mp b1])
def popS (J : Nat → Nat → Int32) (f : Nat) : Nat := (slotAt J (nI f) (J 31 f - 1)).toNatClampNeg
def popOK (J : Nat → Nat → Int32) (f : Nat) : Prop := popS J f < 20 ∧ slotAt J (nI f) (J 31 f - 1) = nI (popS J f)
def moveL (f t : Nat) (J : Nat → Nat → Int32) : Nat → Nat → Int32 := pushI (popI J (popS J f) f) (popS J f) t
def mvOK (f t : Nat) : Nat → (Nat → Nat → Int32) → Prop
  | 0, _ => True
  | n + 1, J => popOK J f ∧ mvOK f t n (moveL f t J)
theorem l_move (hX : JXok X) (hd : 4 ≤ d) {f t q : Nat} (hf : f < 8) (ht : t < 8) (hq : q ≤ 100) {mm : Int32} : ∀ (n k : Nat) (J : Nat → Nat → Int32), (n + k = q ∧ mvOK f t n J) → Ev X (jm jdX5_move) d 0 0 (fun R => R = .inl (some (.int (mm)), (N, SH v T, up2 (fo (fun _ J => moveL f t J) n k J) 1 5 (fo (fun _ J => moveL f t J) n k J 1 5 + 1), up2 L 1 4 (L 1 4 + mm.toInt64), Dd))) 12 [some (.ref 1), some (.int (nI f)), some (.int (nI t)), some (.int (nI q)), some (.int mm), some (.int (nI k))] [] (N, SH v T, J, L, Dd) := by
  intro n
  induction n with
  | zero =>
    intro k J hk
    obtain ⟨hk, hok⟩ := hk
    refine Ev.sg hX sX5_move_12 (pc' := 15) (ls' := [some (.ref 1), some (.int (nI f)), some (.int (nI t)), some (.int (nI q)), some (.int mm), some (.int (nI k))]) (st' := [.int (nI q), .int (nI k)]) (h' := (N, SH v T, J, L, Dd)) rfl ?_
    refine Ev.icmp_ge (tgt := 33) dX5_move_15 (by decide) (fun b1 => ?_) (fun b1 => ?_)
    · refine Ev.sg hX sX5_move_33 (pc' := 42) (ls' := [some (.ref 1), some (.int (nI f)), some (.int (nI t)), some (.int (nI q)), some (.int mm), some (.int (nI k))]) (st' := [.long ((L 1 4) + mm.toInt64), .ref 1]) (h' := (N, SH v T, J, L, Dd)) rfl ?_
      refine Ev.putL (j := 4) hX ci_X5 (by decide) (bw_of 153 (by decide +kernel) (by decide +kernel)) (Or.inl rfl) rfl rfl rfl rfl dX5_move_42 ?_
      show Ev _ _ _ _ _ _ 45 [some (.ref 1), some (.int (nI f)), some (.int (nI t)), some (.int (nI q)), some (.int mm), some (.int (nI k))] [] (N, SH v T, J, up2 L 1 4 ((L 1 4) + mm.toInt64), Dd)
      refine Ev.sg hX sX5_move_45 (pc' := 57) (ls' := [some (.ref 1), some (.int (nI f)), some (.int (nI t)), some (.int (nI q)), some (.int mm), some (.int (nI k))]) (st' := [.int mm]) (h' := (N, SH v T, up2 J 1 5 ((J 1 5) + 1), up2 L 1 4 ((L 1 4) + mm.toInt64), Dd)) rfl ?_
      refine Ev.iret dX5_move_57 rfl ?_
      rfl
    · exact absurd (((nI_leI (a := q) (b := k) (by omega) (by omega)).mpr (by omega))) b1
  | succ n ih =>
    intro k J hk
    obtain ⟨hk, hok⟩ := hk
    refine Ev.sg hX sX5_move_12 (pc' := 15) (ls' := [some (.ref 1), some (.int (nI f)), some (.int (nI t)), some (.int (nI q)), some (.int mm), some (.int (nI k))]) (st' := [.int (nI q), .int (nI k)]) (h' := (N, SH v T, J, L, Dd)) rfl ?_
    refine Ev.icmp_ge (tgt := 33) dX5_move_15 (by decide) (fun b1 => ?_) (fun b1 => ?_)
    · exact absurd (((nI_leI (a := q) (b := k) (by omega) (by omega)).mp b1)) (by omega)
    · refine Ev.sg hX sX5_move_18 (pc' := 24) (ls' := [some (.ref 1), some (.int (nI f)), some (.int (nI t)), some (.int (nI q)), some (.int mm), some (.int (nI k))]) (st' := [.int (nI t), .int (nI f), .ref 15]) (h' := (N, SH v T, J, L, Dd)) rfl ?_
      refine Ev.callV (As := [.int (nI f), .int (nI t)]) (rest := []) dvX0_moveLast mkX5_110 rfl rfl dX5_move_24 (c_moveLast (d := d - 1) (I := J) hX (by omega) hok.1.1 hf ht hok.1.2) ⟨by omega, by show 3 + 19 + 40 * _ ≤ 40 * _; omega⟩ (by decide) rfl (Nat.le_of_ble_eq_true rfl) (fun v9 h9 e9 => ?_) (fun E9 h9 e9 => nomatch e9)
      cases e9
      show Ev _ _ _ _ _ _ 27 [some (.ref 1), some (.int (nI f)), some (.int (nI t)), some (.int (nI q)), some (.int mm), some (.int (nI k))] [] (N, SH v T, moveL f t J, L, Dd)
      refine Ev.sg hX sX5_move_27 (pc' := 12) (ls' := [some (.ref 1), some (.int (nI f)), some (.int (nI t)), some (.int (nI q)), some (.int mm), some (.int ((nI k) + 1))]) (st' := []) (h' := (N, SH v T, moveL f t J, L, Dd)) rfl ?_
      rw [nI_1, fo]
      exact ih (k + 1) _ ⟨by omega, hok.2⟩
def moveI (I : Nat → Nat → Int32) (f t q : Nat) : Nat → Nat → Int32 := up2 (fo (fun _ J => moveL f t J) q 0 I) 1 5 (fo (fun _ J => moveL f t J) q 0 I 1 5 + 1)
theorem c_move (hX : JXok X) (hd : 4 ≤ d) {f t q : Nat} (hf : f < 8) (ht : t < 8) (hq : q ≤ 100) {sz : Nat} (hsz : sz ≤ 8) (hJ : I 6 0 = nI sz) (hok : mvOK f t q (bfsI I sz t)) : MT X d 0 0 jdX5_move [.ref 1, .int (nI f), .int (nI t), .int (nI q)] (N, SH v T, I, L, Dd) (fun R => R = .inl (some (.int (minF I sz f t (nI q))), (N, SH v T, moveI (bfsI I sz t) f t q, up2 L 1 4 (L 1 4 + (minF I sz f t (nI q)).toInt64), Dd))) := by
  refine MT.mk dvX5_move.1 ?_
  refine Ev.sg hX sX5_move_0 (pc' := 4) (ls' := [some (.ref 1), some (.int (nI f)), some (.int (nI t)), some (.int (nI q)), none, none]) (st' := [.int (nI q), .int (nI t), .int (nI f), .ref 1]) (h' := (N, SH v T, I, L, Dd)) rfl ?_
  refine Ev.callV (As := [.int (nI f), .int (nI t), .int (nI q)]) (rest := []) dvX5_minutesOfMove mkX5_106 rfl rfl dX5_move_4 (c_minutes (d := d - 1) (I := I) hX (by omega) hf ht hsz hJ) ⟨by omega, by show 5 + 19 + 40 * _ ≤ 40 * _; omega⟩ (by decide) rfl (Nat.le_of_ble_eq_true rfl) (fun v9 h9 e9 => ?_) (fun E9 h9 e9 => nomatch e9)
  cases e9
  show Ev _ _ _ _ _ _ 7 [some (.ref 1), some (.int (nI f)), some (.int (nI t)), some (.int (nI q)), none, none] [.int (minF I sz f t (nI q))] (N, SH v T, bfsI I sz t, L, Dd)
  refine Ev.sg hX sX5_move_7 (pc' := 12) (ls' := [some (.ref 1), some (.int (nI f)), some (.int (nI t)), some (.int (nI q)), some (.int (minF I sz f t (nI q))), some (.int 0)]) (st' := []) (h' := (N, SH v T, bfsI I sz t, L, Dd)) rfl ?_
  exact l_move hX hd hf ht hq q 0 _ ⟨rfl, hok⟩
def leaveL (f : Nat) (u : (Nat → Nat → Int32) × Int64) : (Nat → Nat → Int32) × Int64 := (leaveI u.1 (popS u.1 f) f, u.2 + (u.1 29 (popS u.1 f)).toInt64)
def lvOK (f : Nat) : Nat → (Nat → Nat → Int32) × Int64 → Prop
  | 0, _ => True
  | n + 1, u => popOK u.1 f ∧ lvOK f n (leaveL f u)
theorem upL_7 {L : Nat → Nat → Int64} {x y : Int64} : up2 (up2 L 1 7 x) 1 7 y = up2 L 1 7 y := by
  funext b j
  simp only [rd2]
  split
  · split <;> rfl
  · rfl
theorem l_send (hX : JXok X) (hd : 4 ≤ d) {f q : Nat} (hf : f < 8) (hq : q ≤ 100) : ∀ (n k : Nat) (u : (Nat → Nat → Int32) × Int64), (n + k = q ∧ lvOK f n u) → Ev X (jm jdX5_sendTrain) d 0 0 (fun R => R = .inl (some (.int (nI q)), (N, SH v T, up2 (fo (fun _ u => leaveL f u) n k u).1 1 6 ((fo (fun _ u => leaveL f u) n k u).1 1 6 + nI q), up2 L 1 7 (fo (fun _ u => leaveL f u) n k u).2, Dd))) 11 [some (.ref 1), some (.int (nI f)), some (.int (nI q)), some (.int (nI k))] [] (N, SH v T, u.1, up2 L 1 7 u.2, Dd) := by
  intro n
  induction n with
  | zero =>
    intro k u hk
    obtain ⟨hk, hok⟩ := hk
    refine Ev.sg hX sX5_sendTrain_11 (pc' := 13) (ls' := [some (.ref 1), some (.int (nI f)), some (.int (nI q)), some (.int (nI k))]) (st' := [.int (nI q), .int (nI k)]) (h' := (N, SH v T, u.1, up2 L 1 7 u.2, Dd)) rfl ?_
    refine Ev.icmp_ge (tgt := 40) dX5_sendTrain_13 (by decide) (fun b1 => ?_) (fun b1 => ?_)
    · refine Ev.sg hX sX5_sendTrain_40 (pc' := 51) (ls' := [some (.ref 1), some (.int (nI f)), some (.int (nI q)), some (.int (nI k))]) (st' := [.int (nI q)]) (h' := (N, SH v T, up2 u.1 1 6 ((u.1 1 6) + (nI q)), up2 L 1 7 u.2, Dd)) rfl ?_
      refine Ev.iret dX5_sendTrain_51 rfl ?_
      rfl
    · exact absurd (((nI_leI (a := q) (b := k) (by omega) (by omega)).mpr (by omega))) b1
  | succ n ih =>
    intro k u hk
    obtain ⟨hk, hok⟩ := hk
    refine Ev.sg hX sX5_sendTrain_11 (pc' := 13) (ls' := [some (.ref 1), some (.int (nI f)), some (.int (nI q)), some (.int (nI k))]) (st' := [.int (nI q), .int (nI k)]) (h' := (N, SH v T, u.1, up2 L 1 7 u.2, Dd)) rfl ?_
    refine Ev.icmp_ge (tgt := 40) dX5_sendTrain_13 (by decide) (fun b1 => ?_) (fun b1 => ?_)
    · exact absurd (((nI_leI (a := q) (b := k) (by omega) (by omega)).mp b1)) (by omega)
    · refine Ev.sg hX sX5_sendTrain_16 (pc' := 26) (ls' := [some (.ref 1), some (.int (nI f)), some (.int (nI q)), some (.int (nI k))]) (st' := [.int (nI f), .ref 15, .long ((up2 L 1 7 u.2) 1 7), .ref 1]) (h' := (N, SH v T, u.1, up2 L 1 7 u.2, Dd)) rfl ?_
      refine Ev.callV (As := [.int (nI f)]) (rest := [.long ((up2 L 1 7 u.2) 1 7), .ref 1]) dvX0_leave mkX5_128 rfl rfl dX5_sendTrain_26 (c_leave (d := d - 1) (I := u.1) hX (by omega) hok.1.1 hf hok.1.2) ⟨by omega, by show 3 + 19 + 40 * _ ≤ 40 * _; omega⟩ (by decide) rfl (Nat.le_of_ble_eq_true rfl) (fun v9 h9 e9 => ?_) (fun E9 h9 e9 => nomatch e9)
      cases e9
      show Ev _ _ _ _ _ _ 29 [some (.ref 1), some (.int (nI f)), some (.int (nI q)), some (.int (nI k))] [.int (u.1 29 (popS u.1 f)), .long ((up2 L 1 7 u.2) 1 7), .ref 1] (N, SH v T, leaveI u.1 (popS u.1 f) f, up2 L 1 7 u.2, Dd)
      refine Ev.sg hX sX5_sendTrain_29 (pc' := 31) (ls' := [some (.ref 1), some (.int (nI f)), some (.int (nI q)), some (.int (nI k))]) (st' := [.long (((up2 L 1 7 u.2) 1 7) + ((u.1 29 (popS u.1 f)).toInt64)), .ref 1]) (h' := (N, SH v T, leaveI u.1 (popS u.1 f) f, up2 L 1 7 u.2, Dd)) rfl ?_
      refine Ev.putL (j := 7) hX ci_X5 (by decide) (bw_of 159 (by decide +kernel) (by decide +kernel)) (Or.inl rfl) rfl rfl rfl rfl dX5_sendTrain_31 ?_
      show Ev _ _ _ _ _ _ 34 [some (.ref 1), some (.int (nI f)), some (.int (nI q)), some (.int (nI k))] [] (N, SH v T, leaveI u.1 (popS u.1 f) f, up2 (up2 L 1 7 u.2) 1 7 (((up2 L 1 7 u.2) 1 7) + ((u.1 29 (popS u.1 f)).toInt64)), Dd)
      refine Ev.sg hX sX5_sendTrain_34 (pc' := 11) (ls' := [some (.ref 1), some (.int (nI f)), some (.int (nI q)), some (.int ((nI k) + 1))]) (st' := []) (h' := (N, SH v T, leaveI u.1 (popS u.1 f) f, up2 (up2 L 1 7 u.2) 1 7 (((up2 L 1 7 u.2) 1 7) + ((u.1 29 (popS u.1 f)).toInt64)), Dd)) rfl ?_
      rw [nI_1, fo, upL_7]
      exact ih (k + 1) _ ⟨by omega, hok.2⟩
theorem upL_id {L : Nat → Nat → Int64} {a k : Nat} : up2 L a k (L a k) = L := by
  funext b j
  simp only [rd2]
  split
  · rename_i h
    subst h
    split
    · rename_i h
      subst h
      rfl
    · rfl
  · rfl
def sendU (I : Nat → Nat → Int32) (L : Nat → Nat → Int64) (f q : Nat) : (Nat → Nat → Int32) × Int64 := fo (fun _ u => leaveL f u) q 0 (I, L 1 7)
def sendI (I : Nat → Nat → Int32) (L : Nat → Nat → Int64) (f q : Nat) : Nat → Nat → Int32 := up2 (sendU I L f q).1 1 6 ((sendU I L f q).1 1 6 + nI q)
theorem c_sendTrain (hX : JXok X) (hd : 4 ≤ d) {f q hg : Nat} (hf : f < 8) (hq : q ≤ 100) (hg20 : hg ≤ 20) (hh : I 31 f = nI hg) (hz : trainF (listO I (nI f)) hg = nI q) (hok : lvOK f q (listO I (nI f), L 1 7)) : MT X d 0 0 jdX5_sendTrain [.ref 1, .int (nI f)] (N, SH v T, I, L, Dd) (fun R => R = .inl (some (.int (nI q)), (N, SH v T, sendI (listO I (nI f)) L f q, up2 L 1 7 (sendU (listO I (nI f)) L f q).2, Dd))) := by
  refine MT.mk dvX5_sendTrain.1 ?_
  refine Ev.sg hX sX5_sendTrain_0 (pc' := 5) (ls' := [some (.ref 1), some (.int (nI f)), none, none]) (st' := [.int (nI f), .ref 15]) (h' := (N, SH v T, I, L, Dd)) rfl ?_
  refine Ev.callV (As := [.int (nI f)]) (rest := []) dvX0_trainOf mkX5_125 rfl rfl dX5_sendTrain_5 (c_trainOf (d := d - 1) (I := I) hX (by omega) hf hg20 hh) ⟨by omega, by show 5 + 19 + 40 * _ ≤ 40 * _; omega⟩ (by decide) rfl (Nat.le_of_ble_eq_true rfl) (fun v9 h9 e9 => ?_) (fun E9 h9 e9 => nomatch e9)
  cases e9
  show Ev _ _ _ _ _ _ 8 [some (.ref 1), some (.int (nI f)), none, none] [.int (trainF (listO I (nI f)) hg)] (N, SH v T, listO I (nI f), L, Dd)
  refine Ev.sg hX sX5_sendTrain_8 (pc' := 11) (ls' := [some (.ref 1), some (.int (nI f)), some (.int (trainF (listO I (nI f)) hg)), some (.int 0)]) (st' := []) (h' := (N, SH v T, listO I (nI f), L, Dd)) rfl ?_
  rw [hz]
  have e8 := l_send (L := L) (N := N) (v := v) (T := T) (Dd := Dd) hX (by omega : 4 ≤ d) hf hq q 0 (listO I (nI f), L 1 7) ⟨rfl, hok⟩
  simp only [upL_id] at e8
  exact e8
def frT (I : Nat → Nat → Int32) (k : Nat) : Int32 := I 3 k - I 33 k
def rkT (I : Nat → Nat → Int32) (i j : Nat) : Bool := if I 3 i - I 33 i = I 3 j - I 33 j then (if I 5 i = I 5 j then decide (nI i < nI j) else decide (I 5 i < I 5 j)) else decide (I 3 j - I 33 j < I 3 i - I 33 i)
theorem c_ranksT (hX : JXok X) (hd : 2 ≤ d) {i j : Nat} (hi : i < 8) (hj : j < 8) : MT X d 0 0 jdX5_ranksBefore [.ref 1, .int (nI i), .int (nI j)] (N, SH v T, I, L, Dd) (fun R => R = .inl (some (.int (bi (rkT I i j = true))), (N, SH v T, I, L, Dd))) := by
  refine MT.mk dvX5_ranksBefore.1 ?_
  refine Ev.sg hX sX5_ranksBefore_0 (pc' := 2) (ls' := [some (.ref 1), some (.int (nI i)), some (.int (nI j))]) (st' := [.int (nI i), .ref 1]) (h' := (N, SH v T, I, L, Dd)) rfl ?_
  refine Ev.callV (As := [.int (nI i)]) (rest := []) dvX5_free mkX5_90 rfl rfl dX5_ranksBefore_2 (c_free (d := d - 1) (I := I) hX (by omega) hi) ⟨by omega, by show 2 + 19 + 40 * _ ≤ 40 * _; omega⟩ (by decide) rfl (Nat.le_of_ble_eq_true rfl) (fun v9 h9 e9 => ?_) (fun E9 h9 e9 => nomatch e9)
  cases e9
  show Ev _ _ _ _ _ _ 5 [some (.ref 1), some (.int (nI i)), some (.int (nI j))] [.int (I 3 i - I 33 i)] (N, SH v T, I, L, Dd)
  refine Ev.sg hX sX5_ranksBefore_5 (pc' := 7) (ls' := [some (.ref 1), some (.int (nI i)), some (.int (nI j))]) (st' := [.int (nI j), .ref 1, .int (I 3 i - I 33 i)]) (h' := (N, SH v T, I, L, Dd)) rfl ?_
  refine Ev.callV (As := [.int (nI j)]) (rest := [.int (I 3 i - I 33 i)]) dvX5_free mkX5_90 rfl rfl dX5_ranksBefore_7 (c_free (d := d - 1) (I := I) hX (by omega) hj) ⟨by omega, by show 2 + 19 + 40 * _ ≤ 40 * _; omega⟩ (by decide) rfl (Nat.le_of_ble_eq_true rfl) (fun v9 h9 e9 => ?_) (fun E9 h9 e9 => nomatch e9)
  cases e9
  show Ev _ _ _ _ _ _ 10 [some (.ref 1), some (.int (nI i)), some (.int (nI j))] [.int (I 3 j - I 33 j), .int (I 3 i - I 33 i)] (N, SH v T, I, L, Dd)
  refine Ev.icmp_eq (tgt := 32) dX5_ranksBefore_10 (by decide) (fun b1 => ?_) (fun b1 => ?_)
  · refine Ev.sg hX sX5_ranksBefore_32 (pc' := 37) (ls' := [some (.ref 1), some (.int (nI i)), some (.int (nI j))]) (st' := [.int (nI i), .ref 4]) (h' := (N, SH v T, I, L, Dd)) rfl ?_
    refine Ev.callV (As := [.int (nI i)]) (rest := []) dvX4_get mkX5_64 rfl rfl dX5_ranksBefore_37 (c_Row_getN (d := d - 1) (h := (N, SH v T, I, L, Dd)) (r := 4) (a := 5) (n := 8) hX rfl rfl (by decide) hi) ⟨by omega, by show 2 + 19 + 40 * _ ≤ 40 * _; omega⟩ (by decide) rfl (Nat.le_of_ble_eq_true rfl) (fun v9 h9 e9 => ?_) (fun E9 h9 e9 => nomatch e9)
    cases e9
    show Ev _ _ _ _ _ _ 40 [some (.ref 1), some (.int (nI i)), some (.int (nI j))] [.int (I 5 i)] (N, SH v T, I, L, Dd)
    refine Ev.sg hX sX5_ranksBefore_40 (pc' := 45) (ls' := [some (.ref 1), some (.int (nI i)), some (.int (nI j))]) (st' := [.int (nI j), .ref 4, .int (I 5 i)]) (h' := (N, SH v T, I, L, Dd)) rfl ?_
    refine Ev.callV (As := [.int (nI j)]) (rest := [.int (I 5 i)]) dvX4_get mkX5_64 rfl rfl dX5_ranksBefore_45 (c_Row_getN (d := d - 1) (h := (N, SH v T, I, L, Dd)) (r := 4) (a := 5) (n := 8) hX rfl rfl (by decide) hj) ⟨by omega, by show 2 + 19 + 40 * _ ≤ 40 * _; omega⟩ (by decide) rfl (Nat.le_of_ble_eq_true rfl) (fun v9 h9 e9 => ?_) (fun E9 h9 e9 => nomatch e9)
    cases e9
    show Ev _ _ _ _ _ _ 48 [some (.ref 1), some (.int (nI i)), some (.int (nI j))] [.int (I 5 j), .int (I 5 i)] (N, SH v T, I, L, Dd)
    refine Ev.icmp_eq (tgt := 76) dX5_ranksBefore_48 (by decide) (fun b2 => ?_) (fun b2 => ?_)
    · refine Ev.sg hX sX5_ranksBefore_76 (pc' := 78) (ls' := [some (.ref 1), some (.int (nI i)), some (.int (nI j))]) (st' := [.int (nI j), .int (nI i)]) (h' := (N, SH v T, I, L, Dd)) rfl ?_
      refine Ev.icmp_ge (tgt := 85) dX5_ranksBefore_78 (by decide) (fun b3 => ?_) (fun b3 => ?_)
      · refine Ev.sg hX sX5_ranksBefore_85 (pc' := 86) (ls' := [some (.ref 1), some (.int (nI i)), some (.int (nI j))]) (st' := [.int 0]) (h' := (N, SH v T, I, L, Dd)) rfl ?_
        refine Ev.zret dX5_ranksBefore_86 rfl ?_ ?_
        · rfl
        simp [bi, rkT, b1, b2, Int32.not_lt.mpr b3]
      · refine Ev.sg hX sX5_ranksBefore_81 (pc' := 86) (ls' := [some (.ref 1), some (.int (nI i)), some (.int (nI j))]) (st' := [.int 1]) (h' := (N, SH v T, I, L, Dd)) rfl ?_
        refine Ev.zret dX5_ranksBefore_86 rfl ?_ ?_
        · rfl
        simp [bi, rkT, b1, b2, Int32.not_le.mp b3]
    · refine Ev.sg hX sX5_ranksBefore_51 (pc' := 56) (ls' := [some (.ref 1), some (.int (nI i)), some (.int (nI j))]) (st' := [.int (nI i), .ref 4]) (h' := (N, SH v T, I, L, Dd)) rfl ?_
      refine Ev.callV (As := [.int (nI i)]) (rest := []) dvX4_get mkX5_64 rfl rfl dX5_ranksBefore_56 (c_Row_getN (d := d - 1) (h := (N, SH v T, I, L, Dd)) (r := 4) (a := 5) (n := 8) hX rfl rfl (by decide) hi) ⟨by omega, by show 2 + 19 + 40 * _ ≤ 40 * _; omega⟩ (by decide) rfl (Nat.le_of_ble_eq_true rfl) (fun v9 h9 e9 => ?_) (fun E9 h9 e9 => nomatch e9)
      cases e9
      show Ev _ _ _ _ _ _ 59 [some (.ref 1), some (.int (nI i)), some (.int (nI j))] [.int (I 5 i)] (N, SH v T, I, L, Dd)
      refine Ev.sg hX sX5_ranksBefore_59 (pc' := 64) (ls' := [some (.ref 1), some (.int (nI i)), some (.int (nI j))]) (st' := [.int (nI j), .ref 4, .int (I 5 i)]) (h' := (N, SH v T, I, L, Dd)) rfl ?_
      refine Ev.callV (As := [.int (nI j)]) (rest := [.int (I 5 i)]) dvX4_get mkX5_64 rfl rfl dX5_ranksBefore_64 (c_Row_getN (d := d - 1) (h := (N, SH v T, I, L, Dd)) (r := 4) (a := 5) (n := 8) hX rfl rfl (by decide) hj) ⟨by omega, by show 2 + 19 + 40 * _ ≤ 40 * _; omega⟩ (by decide) rfl (Nat.le_of_ble_eq_true rfl) (fun v9 h9 e9 => ?_) (fun E9 h9 e9 => nomatch e9)
      cases e9
      show Ev _ _ _ _ _ _ 67 [some (.ref 1), some (.int (nI i)), some (.int (nI j))] [.int (I 5 j), .int (I 5 i)] (N, SH v T, I, L, Dd)
      refine Ev.icmp_ge (tgt := 74) dX5_ranksBefore_67 (by decide) (fun b4 => ?_) (fun b4 => ?_)
      · refine Ev.sg hX sX5_ranksBefore_74 (pc' := 75) (ls' := [some (.ref 1), some (.int (nI i)), some (.int (nI j))]) (st' := [.int 0]) (h' := (N, SH v T, I, L, Dd)) rfl ?_
        refine Ev.zret dX5_ranksBefore_75 rfl ?_ ?_
        · rfl
        simp [bi, rkT, b1, b2, Int32.not_lt.mpr b4]
      · refine Ev.sg hX sX5_ranksBefore_70 (pc' := 75) (ls' := [some (.ref 1), some (.int (nI i)), some (.int (nI j))]) (st' := [.int 1]) (h' := (N, SH v T, I, L, Dd)) rfl ?_
        refine Ev.zret dX5_ranksBefore_75 rfl ?_ ?_
        · rfl
        simp [bi, rkT, b1, b2, Int32.not_le.mp b4]
  · refine Ev.sg hX sX5_ranksBefore_13 (pc' := 15) (ls' := [some (.ref 1), some (.int (nI i)), some (.int (nI j))]) (st' := [.int (nI i), .ref 1]) (h' := (N, SH v T, I, L, Dd)) rfl ?_
    refine Ev.callV (As := [.int (nI i)]) (rest := []) dvX5_free mkX5_90 rfl rfl dX5_ranksBefore_15 (c_free (d := d - 1) (I := I) hX (by omega) hi) ⟨by omega, by show 2 + 19 + 40 * _ ≤ 40 * _; omega⟩ (by decide) rfl (Nat.le_of_ble_eq_true rfl) (fun v9 h9 e9 => ?_) (fun E9 h9 e9 => nomatch e9)
    cases e9
    show Ev _ _ _ _ _ _ 18 [some (.ref 1), some (.int (nI i)), some (.int (nI j))] [.int (I 3 i - I 33 i)] (N, SH v T, I, L, Dd)
    refine Ev.sg hX sX5_ranksBefore_18 (pc' := 20) (ls' := [some (.ref 1), some (.int (nI i)), some (.int (nI j))]) (st' := [.int (nI j), .ref 1, .int (I 3 i - I 33 i)]) (h' := (N, SH v T, I, L, Dd)) rfl ?_
    refine Ev.callV (As := [.int (nI j)]) (rest := [.int (I 3 i - I 33 i)]) dvX5_free mkX5_90 rfl rfl dX5_ranksBefore_20 (c_free (d := d - 1) (I := I) hX (by omega) hj) ⟨by omega, by show 2 + 19 + 40 * _ ≤ 40 * _; omega⟩ (by decide) rfl (Nat.le_of_ble_eq_true rfl) (fun v9 h9 e9 => ?_) (fun E9 h9 e9 => nomatch e9)
    cases e9
    show Ev _ _ _ _ _ _ 23 [some (.ref 1), some (.int (nI i)), some (.int (nI j))] [.int (I 3 j - I 33 j), .int (I 3 i - I 33 i)] (N, SH v T, I, L, Dd)
    refine Ev.icmp_le (tgt := 30) dX5_ranksBefore_23 (by decide) (fun b5 => ?_) (fun b5 => ?_)
    · refine Ev.sg hX sX5_ranksBefore_30 (pc' := 31) (ls' := [some (.ref 1), some (.int (nI i)), some (.int (nI j))]) (st' := [.int 0]) (h' := (N, SH v T, I, L, Dd)) rfl ?_
      refine Ev.zret dX5_ranksBefore_31 rfl ?_ ?_
      · rfl
      simp [bi, rkT, b1, Int32.not_lt.mpr b5]
    · refine Ev.sg hX sX5_ranksBefore_26 (pc' := 31) (ls' := [some (.ref 1), some (.int (nI i)), some (.int (nI j))]) (st' := [.int 1]) (h' := (N, SH v T, I, L, Dd)) rfl ?_
      refine Ev.zret dX5_ranksBefore_31 rfl ?_ ?_
      · rfl
      simp [bi, rkT, b1, Int32.not_le.mp b5]
def stRT (I : Nat → Nat → Int32) (s k : Nat) (a : Int32) : Int32 := if rkT I k s = true then a + 1 else a
theorem l_rankT (hX : JXok X) (hd : 3 ≤ d) {s : Nat} (hs : s < 8) {sz : Nat} (hsz : sz ≤ 8) (hJ : I 6 0 = nI sz) : ∀ (n k : Nat) (a : Int32), n + k = sz → Ev X (jm jdX5_rankOf) d 0 0 (fun R => R = .inl (some (.int (fo (stRT I s) n k a)), (N, SH v T, I, L, Dd))) 4 [some (.ref 1), some (.int (nI s)), some (.int a), some (.int (nI k))] [] (N, SH v T, I, L, Dd) := by
  intro n
  induction n with
  | zero =>
    intro k a hk
    refine Ev.sg hX sX5_rankOf_4 (pc' := 12) (ls' := [some (.ref 1), some (.int (nI s)), some (.int a), some (.int (nI k))]) (st' := [.int (I 6 0), .int (nI k)]) (h' := (N, SH v T, I, L, Dd)) rfl ?_
    rw [hJ]
    refine Ev.icmp_ge (tgt := 33) dX5_rankOf_12 (by decide) (fun b1 => ?_) (fun b1 => ?_)
    · refine Ev.sg hX sX5_rankOf_33 (pc' := 34) (ls' := [some (.ref 1), some (.int (nI s)), some (.int a), some (.int (nI k))]) (st' := [.int a]) (h' := (N, SH v T, I, L, Dd)) rfl ?_
      refine Ev.iret dX5_rankOf_34 rfl ?_
      rfl
    · exact absurd (((nI_leI (a := sz) (b := k) (by omega) (by omega)).mpr (by omega))) b1
  | succ n ih =>
    intro k a hk
    refine Ev.sg hX sX5_rankOf_4 (pc' := 12) (ls' := [some (.ref 1), some (.int (nI s)), some (.int a), some (.int (nI k))]) (st' := [.int (I 6 0), .int (nI k)]) (h' := (N, SH v T, I, L, Dd)) rfl ?_
    rw [hJ]
    refine Ev.icmp_ge (tgt := 33) dX5_rankOf_12 (by decide) (fun b1 => ?_) (fun b1 => ?_)
    · exact absurd (((nI_leI (a := sz) (b := k) (by omega) (by omega)).mp b1)) (by omega)
    · refine Ev.sg hX sX5_rankOf_15 (pc' := 18) (ls' := [some (.ref 1), some (.int (nI s)), some (.int a), some (.int (nI k))]) (st' := [.int (nI s), .int (nI k), .ref 1]) (h' := (N, SH v T, I, L, Dd)) rfl ?_
      refine Ev.callV (As := [.int (nI k), .int (nI s)]) (rest := []) dvX5_ranksBefore mkX5_137 rfl rfl dX5_rankOf_18 (c_ranksT (d := d - 1) hX (by omega) (by omega) hs) ⟨by omega, by show 3 + 19 + 40 * _ ≤ 40 * _; omega⟩ (by decide) rfl (Nat.le_of_ble_eq_true rfl) (fun v9 h9 e9 => ?_) (fun E9 h9 e9 => nomatch e9)
      cases e9
      show Ev _ _ _ _ _ _ 21 [some (.ref 1), some (.int (nI s)), some (.int a), some (.int (nI k))] [.int (bi (rkT I k s = true))] (N, SH v T, I, L, Dd)
      refine Ev.if_eq (tgt := 27) dX5_rankOf_21 (by decide) (fun b2 => ?_) (fun b2 => ?_)
      · refine Ev.sg hX sX5_rankOf_27 (pc' := 4) (ls' := [some (.ref 1), some (.int (nI s)), some (.int a), some (.int ((nI k) + 1))]) (st' := []) (h' := (N, SH v T, I, L, Dd)) rfl ?_
        rw [nI_1, fo, show stRT I s k a = a from if_neg (bi_0.mp b2)]
        exact ih (k + 1) _ (by omega)
      · refine Ev.sg hX sX5_rankOf_24 (pc' := 27) (ls' := [some (.ref 1), some (.int (nI s)), some (.int (a + 1)), some (.int (nI k))]) (st' := []) (h' := (N, SH v T, I, L, Dd)) rfl ?_
        refine Ev.sg hX sX5_rankOf_27 (pc' := 4) (ls' := [some (.ref 1), some (.int (nI s)), some (.int (a + 1)), some (.int ((nI k) + 1))]) (st' := []) (h' := (N, SH v T, I, L, Dd)) rfl ?_
        rw [nI_1, fo, show stRT I s k a = a + 1 from if_pos (bi_1.mp b2)]
        exact ih (k + 1) _ (by omega)
def rankT (I : Nat → Nat → Int32) (sz s : Nat) : Int32 := fo (stRT I s) sz 0 0
theorem c_rankT (hX : JXok X) (hd : 3 ≤ d) {s : Nat} (hs : s < 8) {sz : Nat} (hsz : sz ≤ 8) (hJ : I 6 0 = nI sz) : MT X d 0 0 jdX5_rankOf [.ref 1, .int (nI s)] (N, SH v T, I, L, Dd) (fun R => R = .inl (some (.int (rankT I sz s)), (N, SH v T, I, L, Dd))) := by
  refine MT.mk dvX5_rankOf.1 ?_
  refine Ev.sg hX sX5_rankOf_0 (pc' := 4) (ls' := [some (.ref 1), some (.int (nI s)), some (.int 0), some (.int 0)]) (st' := []) (h' := (N, SH v T, I, L, Dd)) rfl ?_
  exact l_rankT hX hd hs hsz hJ sz 0 0 rfl
theorem l_rkdT (hX : JXok X) (hd : 4 ≤ d) {sz : Nat} (hsz : sz ≤ 8) (hJ : I 6 0 = nI sz) : ∀ (n k : Nat), n + k = sz → Ev X (jm jdX5_rankedTrack) d 0 0 (fun R => R = .inl (some (.int (fnd (fun s => rankT I sz s = c) n k)), (N, SH v T, I, L, Dd))) 2 [some (.ref 1), some (.int c), some (.int (nI k))] [] (N, SH v T, I, L, Dd) := by
  intro n
  induction n with
  | zero =>
    intro k hk
    refine Ev.sg hX sX5_rankedTrack_2 (pc' := 10) (ls' := [some (.ref 1), some (.int c), some (.int (nI k))]) (st' := [.int (I 6 0), .int (nI k)]) (h' := (N, SH v T, I, L, Dd)) rfl ?_
    rw [hJ]
    refine Ev.icmp_ge (tgt := 30) dX5_rankedTrack_10 (by decide) (fun b1 => ?_) (fun b1 => ?_)
    · refine Ev.sg hX sX5_rankedTrack_30 (pc' := 31) (ls' := [some (.ref 1), some (.int c), some (.int (nI k))]) (st' := [.int (-1)]) (h' := (N, SH v T, I, L, Dd)) rfl ?_
      refine Ev.iret dX5_rankedTrack_31 rfl ?_
      rfl
    · exact absurd (((nI_leI (a := sz) (b := k) (by omega) (by omega)).mpr (by omega))) b1
  | succ n ih =>
    intro k hk
    refine Ev.sg hX sX5_rankedTrack_2 (pc' := 10) (ls' := [some (.ref 1), some (.int c), some (.int (nI k))]) (st' := [.int (I 6 0), .int (nI k)]) (h' := (N, SH v T, I, L, Dd)) rfl ?_
    rw [hJ]
    refine Ev.icmp_ge (tgt := 30) dX5_rankedTrack_10 (by decide) (fun b1 => ?_) (fun b1 => ?_)
    · exact absurd (((nI_leI (a := sz) (b := k) (by omega) (by omega)).mp b1)) (by omega)
    · refine Ev.sg hX sX5_rankedTrack_13 (pc' := 15) (ls' := [some (.ref 1), some (.int c), some (.int (nI k))]) (st' := [.int (nI k), .ref 1]) (h' := (N, SH v T, I, L, Dd)) rfl ?_
      refine Ev.callV (As := [.int (nI k)]) (rest := []) dvX5_rankOf mkX5_134 rfl rfl dX5_rankedTrack_15 (c_rankT (d := d - 1) hX (by omega) (by omega) hsz hJ) ⟨by omega, by show 4 + 19 + 40 * _ ≤ 40 * _; omega⟩ (by decide) rfl (Nat.le_of_ble_eq_true rfl) (fun v9 h9 e9 => ?_) (fun E9 h9 e9 => nomatch e9)
      cases e9
      show Ev _ _ _ _ _ _ 18 [some (.ref 1), some (.int c), some (.int (nI k))] [.int (rankT I sz k)] (N, SH v T, I, L, Dd)
      refine Ev.sg hX sX5_rankedTrack_18 (pc' := 19) (ls' := [some (.ref 1), some (.int c), some (.int (nI k))]) (st' := [.int c, .int (rankT I sz k)]) (h' := (N, SH v T, I, L, Dd)) rfl ?_
      refine Ev.icmp_ne (tgt := 24) dX5_rankedTrack_19 (by decide) (fun b2 => ?_) (fun b2 => ?_)
      · refine Ev.sg hX sX5_rankedTrack_24 (pc' := 2) (ls' := [some (.ref 1), some (.int c), some (.int ((nI k) + 1))]) (st' := []) (h' := (N, SH v T, I, L, Dd)) rfl ?_
        rw [nI_1, fnd, if_neg b2]
        exact ih (k + 1) (by omega)
      · refine Ev.sg hX sX5_rankedTrack_22 (pc' := 23) (ls' := [some (.ref 1), some (.int c), some (.int (nI k))]) (st' := [.int (nI k)]) (h' := (N, SH v T, I, L, Dd)) rfl ?_
        refine Ev.iret dX5_rankedTrack_23 rfl ?_
        rw [fnd, if_pos b2]
def rankedT (I : Nat → Nat → Int32) (sz : Nat) (c : Int32) : Int32 := fnd (fun s => rankT I sz s = c) sz 0
theorem c_rankedTrack (hX : JXok X) (hd : 4 ≤ d) {sz : Nat} (hsz : sz ≤ 8) (hJ : I 6 0 = nI sz) : MT X d 0 0 jdX5_rankedTrack [.ref 1, .int c] (N, SH v T, I, L, Dd) (fun R => R = .inl (some (.int (rankedT I sz c)), (N, SH v T, I, L, Dd))) := by
  refine MT.mk dvX5_rankedTrack.1 ?_
  refine Ev.sg hX sX5_rankedTrack_0 (pc' := 2) (ls' := [some (.ref 1), some (.int c), some (.int 0)]) (st' := []) (h' := (N, SH v T, I, L, Dd)) rfl ?_
  exact l_rkdT hX hd hsz hJ sz 0 rfl
theorem l_capF (hX : JXok X) (hd : 1 ≤ d) {sz : Nat} (hsz : sz ≤ 8) (hJ : I 6 0 = nI sz) : ∀ (n k : Nat) (a : Int32), n + k = sz → Ev X (jm jdX5_capacityOfAll) d 0 0 (fun R => R = .inl (some (.int (fo (fun k a => a + I 3 k) n k a)), (N, SH v T, I, L, Dd))) 4 [some (.ref 1), some (.int a), some (.int (nI k))] [] (N, SH v T, I, L, Dd) := by
  intro n
  induction n with
  | zero =>
    intro k a hk
    refine Ev.sg hX sX5_capacityOfAll_4 (pc' := 12) (ls' := [some (.ref 1), some (.int a), some (.int (nI k))]) (st' := [.int (I 6 0), .int (nI k)]) (h' := (N, SH v T, I, L, Dd)) rfl ?_
    rw [hJ]
    refine Ev.icmp_ge (tgt := 32) dX5_capacityOfAll_12 (by decide) (fun b1 => ?_) (fun b1 => ?_)
    · refine Ev.sg hX sX5_capacityOfAll_32 (pc' := 33) (ls' := [some (.ref 1), some (.int a), some (.int (nI k))]) (st' := [.int a]) (h' := (N, SH v T, I, L, Dd)) rfl ?_
      refine Ev.iret dX5_capacityOfAll_33 rfl ?_
      rfl
    · exact absurd (((nI_leI (a := sz) (b := k) (by omega) (by omega)).mpr (by omega))) b1
  | succ n ih =>
    intro k a hk
    refine Ev.sg hX sX5_capacityOfAll_4 (pc' := 12) (ls' := [some (.ref 1), some (.int a), some (.int (nI k))]) (st' := [.int (I 6 0), .int (nI k)]) (h' := (N, SH v T, I, L, Dd)) rfl ?_
    rw [hJ]
    refine Ev.icmp_ge (tgt := 32) dX5_capacityOfAll_12 (by decide) (fun b1 => ?_) (fun b1 => ?_)
    · exact absurd (((nI_leI (a := sz) (b := k) (by omega) (by omega)).mp b1)) (by omega)
    · refine Ev.sg hX sX5_capacityOfAll_15 (pc' := 21) (ls' := [some (.ref 1), some (.int a), some (.int (nI k))]) (st' := [.int (nI k), .ref 2, .int a]) (h' := (N, SH v T, I, L, Dd)) rfl ?_
      refine Ev.callV (As := [.int (nI k)]) (rest := [.int a]) dvX4_get mkX5_64 rfl rfl dX5_capacityOfAll_21 (c_Row_getN (d := d - 1) (h := (N, SH v T, I, L, Dd)) (r := 2) (a := 3) (n := 8) hX rfl rfl (by decide) (by omega)) ⟨by omega, by show 2 + 19 + 40 * _ ≤ 40 * _; omega⟩ (by decide) rfl (Nat.le_of_ble_eq_true rfl) (fun v9 h9 e9 => ?_) (fun E9 h9 e9 => nomatch e9)
      cases e9
      show Ev _ _ _ _ _ _ 24 [some (.ref 1), some (.int a), some (.int (nI k))] [.int (I 3 k), .int a] (N, SH v T, I, L, Dd)
      refine Ev.sg hX sX5_capacityOfAll_24 (pc' := 4) (ls' := [some (.ref 1), some (.int (a + (I 3 k))), some (.int ((nI k) + 1))]) (st' := []) (h' := (N, SH v T, I, L, Dd)) rfl ?_
      rw [nI_1, fo]
      exact ih (k + 1) _ (by omega)
def capF (I : Nat → Nat → Int32) (sz : Nat) : Int32 := fo (fun k a => a + I 3 k) sz 0 0
theorem c_capF (hX : JXok X) (hd : 1 ≤ d) {sz : Nat} (hsz : sz ≤ 8) (hJ : I 6 0 = nI sz) : MT X d 0 0 jdX5_capacityOfAll [.ref 1] (N, SH v T, I, L, Dd) (fun R => R = .inl (some (.int (capF I sz)), (N, SH v T, I, L, Dd))) := by
  refine MT.mk dvX5_capacityOfAll.1 ?_
  refine Ev.sg hX sX5_capacityOfAll_0 (pc' := 4) (ls' := [some (.ref 1), some (.int 0), some (.int 0)]) (st' := []) (h' := (N, SH v T, I, L, Dd)) rfl ?_
  exact l_capF hX hd hsz hJ sz 0 0 rfl
theorem l_usedF (hX : JXok X) (hd : 1 ≤ d) {sz : Nat} (hsz : sz ≤ 8) (hJ : I 6 0 = nI sz) : ∀ (n k : Nat) (a : Int32), n + k = sz → Ev X (jm jdX5_usedOfAll) d 0 0 (fun R => R = .inl (some (.int (fo (fun k a => a + I 33 k) n k a)), (N, SH v T, I, L, Dd))) 4 [some (.ref 1), some (.int a), some (.int (nI k))] [] (N, SH v T, I, L, Dd) := by
  intro n
  induction n with
  | zero =>
    intro k a hk
    refine Ev.sg hX sX5_usedOfAll_4 (pc' := 12) (ls' := [some (.ref 1), some (.int a), some (.int (nI k))]) (st' := [.int (I 6 0), .int (nI k)]) (h' := (N, SH v T, I, L, Dd)) rfl ?_
    rw [hJ]
    refine Ev.icmp_ge (tgt := 35) dX5_usedOfAll_12 (by decide) (fun b1 => ?_) (fun b1 => ?_)
    · refine Ev.sg hX sX5_usedOfAll_35 (pc' := 36) (ls' := [some (.ref 1), some (.int a), some (.int (nI k))]) (st' := [.int a]) (h' := (N, SH v T, I, L, Dd)) rfl ?_
      refine Ev.iret dX5_usedOfAll_36 rfl ?_
      rfl
    · exact absurd (((nI_leI (a := sz) (b := k) (by omega) (by omega)).mpr (by omega))) b1
  | succ n ih =>
    intro k a hk
    refine Ev.sg hX sX5_usedOfAll_4 (pc' := 12) (ls' := [some (.ref 1), some (.int a), some (.int (nI k))]) (st' := [.int (I 6 0), .int (nI k)]) (h' := (N, SH v T, I, L, Dd)) rfl ?_
    rw [hJ]
    refine Ev.icmp_ge (tgt := 35) dX5_usedOfAll_12 (by decide) (fun b1 => ?_) (fun b1 => ?_)
    · exact absurd (((nI_leI (a := sz) (b := k) (by omega) (by omega)).mp b1)) (by omega)
    · refine Ev.sg hX sX5_usedOfAll_15 (pc' := 24) (ls' := [some (.ref 1), some (.int a), some (.int (nI k))]) (st' := [.int (nI k), .ref 32, .int a]) (h' := (N, SH v T, I, L, Dd)) rfl ?_
      refine Ev.callV (As := [.int (nI k)]) (rest := [.int a]) dvX4_get mkX5_64 rfl rfl dX5_usedOfAll_24 (c_Row_getN (d := d - 1) (h := (N, SH v T, I, L, Dd)) (r := 32) (a := 33) (n := 8) hX rfl rfl (by decide) (by omega)) ⟨by omega, by show 2 + 19 + 40 * _ ≤ 40 * _; omega⟩ (by decide) rfl (Nat.le_of_ble_eq_true rfl) (fun v9 h9 e9 => ?_) (fun E9 h9 e9 => nomatch e9)
      cases e9
      show Ev _ _ _ _ _ _ 27 [some (.ref 1), some (.int a), some (.int (nI k))] [.int (I 33 k), .int a] (N, SH v T, I, L, Dd)
      refine Ev.sg hX sX5_usedOfAll_27 (pc' := 4) (ls' := [some (.ref 1), some (.int (a + (I 33 k))), some (.int ((nI k) + 1))]) (st' := []) (h' := (N, SH v T, I, L, Dd)) rfl ?_
      rw [nI_1, fo]
      exact ih (k + 1) _ (by omega)
def usedF (I : Nat → Nat → Int32) (sz : Nat) : Int32 := fo (fun k a => a + I 33 k) sz 0 0
theorem c_usedF (hX : JXok X) (hd : 1 ≤ d) {sz : Nat} (hsz : sz ≤ 8) (hJ : I 6 0 = nI sz) : MT X d 0 0 jdX5_usedOfAll [.ref 1] (N, SH v T, I, L, Dd) (fun R => R = .inl (some (.int (usedF I sz)), (N, SH v T, I, L, Dd))) := by
  refine MT.mk dvX5_usedOfAll.1 ?_
  refine Ev.sg hX sX5_usedOfAll_0 (pc' := 4) (ls' := [some (.ref 1), some (.int 0), some (.int 0)]) (st' := []) (h' := (N, SH v T, I, L, Dd)) rfl ?_
  exact l_usedF hX hd hsz hJ sz 0 0 rfl
end YARD2
