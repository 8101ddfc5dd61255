/-! the history's other methods; refuse, requireTrack, requireCar, requireRoute -/
def ringPrev (k : Nat) : Nat := if 0 < k then k - 1 else 7
theorem ringPrev_lt {k : Nat} (hk : k < 8) : ringPrev k < 8 := by
  unfold ringPrev
  split <;> omega
def excN (f : Int32) : Option String := if f = 1 then some "java/lang/IndexOutOfBoundsException" else if f = 2 then some "java/lang/IllegalArgumentException" else if f = 3 then some "java/lang/IllegalStateException" else if f = 4 then some "java/util/NoSuchElementException" else if f = 5 then some "java/lang/UnsupportedOperationException" else none
section REQ
variable {X : JX} {d N v : Nat} {T : Nat → Option JS} {I : Nat → Nat → Int32} {L : Nat → Nat → Int64} {Dd : Nat → Nat → UInt64} {f t c : Int32}
def takeI (I : Nat → Nat → Int32) (k : Nat) : Nat → Nat → Int32 := up2 (up2 I 71 1 (nI (ringPrev k))) 71 2 ((up2 I 71 1 (nI (ringPrev k))) 71 2 - 1)
theorem c_takeLatest (hX : JXok X) (hd : 1 ≤ d) {k : Nat} (hk : k < 8) (hk9 : I 71 1 = nI k) : MT X d 0 0 jdX1_takeLatest [.ref 71] (N, SH v T, I, L, Dd) (fun R => R = .inl (some (.ref (108 + 35 * ringPrev k)), (N, SH v T, takeI I k, L, Dd))) := by
  refine MT.mk dvX1_takeLatest.1 ?_
  refine Ev.sg hX sX1_takeLatest_0 (pc' := 5) (ls' := [some (.ref 71)]) (st' := [.int (I 71 1), .ref 71]) (h' := (N, SH v T, I, L, Dd)) rfl ?_
  rw [hk9]
  refine Ev.if_le (tgt := 17) dX1_takeLatest_5 (by decide) (fun b1 => ?_) (fun b1 => ?_)
  · refine Ev.sg hX sX1_takeLatest_17 (pc' := 19) (ls' := [some (.ref 71)]) (st' := [.int 7, .ref 71]) (h' := (N, SH v T, I, L, Dd)) rfl ?_
    rw [show (7 : Int32) = nI (ringPrev k) from by unfold ringPrev; rw [if_neg (by have := (nI_leI (a := k) (b := 0) (by omega) (by decide)).mp b1; omega)]; rfl]
    refine Ev.sg hX sX1_takeLatest_19 (pc' := 37) (ls' := [some (.ref 71)]) (st' := [.int ((up2 (up2 I 71 1 (nI (ringPrev k))) 71 2 (((up2 I 71 1 (nI (ringPrev k))) 71 2) - 1)) 71 1), .ref 71]) (h' := (N, SH v T, up2 (up2 I 71 1 (nI (ringPrev k))) 71 2 (((up2 I 71 1 (nI (ringPrev k))) 71 2) - 1), L, Dd)) rfl ?_
    show Ev _ _ _ _ _ _ 37 [some (.ref 71)] [.int (nI (ringPrev k)), .ref 71] (N, SH v T, up2 (up2 I 71 1 (nI (ringPrev k))) 71 2 (((up2 I 71 1 (nI (ringPrev k))) 71 2) - 1), L, Dd)
    refine Ev.callV (As := [.int (nI (ringPrev k))]) (rest := []) dvX1_pastAt mkX1_26 rfl rfl dX1_takeLatest_37 (c_pastAt (d := d - 1) (k := (ringPrev k)) hX (Nat.zero_le _) (ringPrev_lt hk)) ⟨by omega, by show 2 + 19 + 40 * _ ≤ 40 * _; omega⟩ (by decide) rfl (Nat.le_of_ble_eq_true rfl) (fun v9 h9 e9 => ?_) (fun E9 h9 e9 => nomatch e9)
    cases e9
    show Ev _ _ _ _ _ _ 40 [some (.ref 71)] [.ref (108 + 35 * (ringPrev k))] (N, SH v T, up2 (up2 I 71 1 (nI (ringPrev k))) 71 2 (((up2 I 71 1 (nI (ringPrev k))) 71 2) - 1), L, Dd)
    refine Ev.aret dX1_takeLatest_40 rfl (Or.inl ⟨_, rfl⟩) ?_
    rfl
  · refine Ev.sg hX sX1_takeLatest_8 (pc' := 19) (ls' := [some (.ref 71)]) (st' := [.int ((I 71 1) - 1), .ref 71]) (h' := (N, SH v T, I, L, Dd)) rfl ?_
    rw [show (I 71 1) - 1 = nI (ringPrev k) from by have h0 : 0 < k := Nat.pos_of_ne_zero (fun e => b1 (by subst e; decide)); rw [hk9]; unfold ringPrev; rw [if_pos h0, nI_m1 h0]]
    refine Ev.sg hX sX1_takeLatest_19 (pc' := 37) (ls' := [some (.ref 71)]) (st' := [.int ((up2 (up2 I 71 1 (nI (ringPrev k))) 71 2 (((up2 I 71 1 (nI (ringPrev k))) 71 2) - 1)) 71 1), .ref 71]) (h' := (N, SH v T, up2 (up2 I 71 1 (nI (ringPrev k))) 71 2 (((up2 I 71 1 (nI (ringPrev k))) 71 2) - 1), L, Dd)) rfl ?_
    show Ev _ _ _ _ _ _ 37 [some (.ref 71)] [.int (nI (ringPrev k)), .ref 71] (N, SH v T, up2 (up2 I 71 1 (nI (ringPrev k))) 71 2 (((up2 I 71 1 (nI (ringPrev k))) 71 2) - 1), L, Dd)
    refine Ev.callV (As := [.int (nI (ringPrev k))]) (rest := []) dvX1_pastAt mkX1_26 rfl rfl dX1_takeLatest_37 (c_pastAt (d := d - 1) (k := (ringPrev k)) hX (Nat.zero_le _) (ringPrev_lt hk)) ⟨by omega, by show 2 + 19 + 40 * _ ≤ 40 * _; omega⟩ (by decide) rfl (Nat.le_of_ble_eq_true rfl) (fun v9 h9 e9 => ?_) (fun E9 h9 e9 => nomatch e9)
    cases e9
    show Ev _ _ _ _ _ _ 40 [some (.ref 71)] [.ref (108 + 35 * (ringPrev k))] (N, SH v T, up2 (up2 I 71 1 (nI (ringPrev k))) 71 2 (((up2 I 71 1 (nI (ringPrev k))) 71 2) - 1), L, Dd)
    refine Ev.aret dX1_takeLatest_40 rfl (Or.inl ⟨_, rfl⟩) ?_
    rfl
theorem c_keep (hX : JXok X) (hd : 5 ≤ d) : MT X d 0 0 jdX1_keep [.ref 71, .ref 1] (N, SH v T, I, L, Dd) (fun R => R = .inl (none, (N, SH v T, up2 (yardCpI I 73 1) 71 4 1, yardCpL L 73 1, Dd))) := by
  refine MT.mk dvX1_keep.1 ?_
  refine Ev.sg hX sX1_keep_0 (pc' := 5) (ls' := [some (.ref 71), some (.ref 1)]) (st' := [.ref 1, .ref 73]) (h' := (N, SH v T, I, L, Dd)) rfl ?_
  refine Ev.callV (As := [.ref 1]) (rest := []) dvX5_copy mkX1_30 rfl rfl dX1_keep_5 (c_Yard_copy (d := d - 1) (b := 73) (b2 := 1) (S := SH v T) (I := I) (L := L) hX (by omega) YS_73 YS_1) ⟨by omega, by show 2 + 19 + 40 * _ ≤ 40 * _; omega⟩ (by decide) rfl (Nat.le_of_ble_eq_true rfl) (fun v9 h9 e9 => ?_) (fun E9 h9 e9 => nomatch e9)
  cases e9
  show Ev _ _ _ _ _ _ 8 [some (.ref 71), some (.ref 1)] [] (N, SH v T, yardCpI I 73 1, yardCpL L 73 1, Dd)
  refine Ev.sg hX sX1_keep_8 (pc' := 10) (ls' := [some (.ref 71), some (.ref 1)]) (st' := [.int 1, .ref 71]) (h' := (N, SH v T, yardCpI I 73 1, yardCpL L 73 1, Dd)) rfl ?_
  refine Ev.putI (j := 4) hX ci_X1 (by decide) (bw_of 193 (by decide +kernel) (by decide +kernel)) (Or.inl rfl) rfl rfl rfl rfl dX1_keep_10 ?_
  show Ev _ _ _ _ _ _ 13 [some (.ref 71), some (.ref 1)] [] (N, SH v T, up2 (yardCpI I 73 1) 71 4 1, yardCpL L 73 1, Dd)
  refine Ev.vret dX1_keep_13 rfl ?_
  rfl
theorem excN_0 {f : Int32} (h1 : ¬ f = 1) (h2 : ¬ f = 2) (h3 : ¬ f = 3) (h4 : ¬ f = 4) (h5 : ¬ f = 5) : excN f = none ∧ (f.toInt < 1 ∨ 5 < f.toInt) := by
  refine ⟨by unfold excN; rw [if_neg h1, if_neg h2, if_neg h3, if_neg h4, if_neg h5], ?_⟩
  have q1 : f.toInt ≠ 1 := fun q => h1 (Int32.toInt_inj.mp q)
  have q2 : f.toInt ≠ 2 := fun q => h2 (Int32.toInt_inj.mp q)
  have q3 : f.toInt ≠ 3 := fun q => h3 (Int32.toInt_inj.mp q)
  have q4 : f.toInt ≠ 4 := fun q => h4 (Int32.toInt_inj.mp q)
  have q5 : f.toInt ≠ 5 := fun q => h5 (Int32.toInt_inj.mp q)
  omega
theorem c_refuse (hX : JXok X) (hd : 6 ≤ d) (hN4 : 396 ≤ N) (hN : N + 1 < BIG) : MT X d 1 6 jdX6_refuse [.int f] (N, SH v T, I, L, Dd) (outE (excN f) N v T I L Dd (.inl (none, (N, SH v T, I, L, Dd)))) := by
  refine MT.mk dsX6_refuse.1 ?_
  refine Ev.sg hX sX6_refuse_0 (pc' := 1) (ls' := [some (.int f)]) (st' := [.int f]) (h' := (N, SH v T, I, L, Dd)) rfl ?_
  by_cases h1 : f = 1
  · subst h1
    refine Ev.tabIn (tgt := 36) (off := 35) dX6_refuse_1 (by decide) (by decide) rfl rfl ?_
    refine Ev.mkSW (E := "java/lang/IndexOutOfBoundsException") (si := 0) hX je_11 (by decide +kernel) (by decide +kernel) rfl dX6_refuse_36 (sX6_refuse_39.dc 0 (q := (39, .dup, 0, 0)) rfl) dX6_refuse_40 dX6_refuse_43 (by omega) ⟨by omega, by omega⟩ hN (Nat.le_of_ble_eq_true rfl) ?_
    refine Ev.athrow hX upS_eq rfl dX6_refuse_46 (EvX.out rfl ?_)
    exact outE_new hN4 rfl
  by_cases h2 : f = 2
  · subst h2
    refine Ev.tabIn (tgt := 47) (off := 46) dX6_refuse_1 (by decide) (by decide) rfl rfl ?_
    refine Ev.mkSW (E := "java/lang/IllegalArgumentException") (si := 1) hX je_9 (by decide +kernel) (by decide +kernel) rfl dX6_refuse_47 (sX6_refuse_50.dc 0 (q := (50, .dup, 0, 0)) rfl) dX6_refuse_51 dX6_refuse_54 (by omega) ⟨by omega, by omega⟩ hN (Nat.le_of_ble_eq_true rfl) ?_
    refine Ev.athrow hX upS_eq rfl dX6_refuse_57 (EvX.out rfl ?_)
    exact outE_new hN4 rfl
  by_cases h3 : f = 3
  · subst h3
    refine Ev.tabIn (tgt := 58) (off := 57) dX6_refuse_1 (by decide) (by decide) rfl rfl ?_
    refine Ev.mkSW (E := "java/lang/IllegalStateException") (si := 2) hX je_10 (by decide +kernel) (by decide +kernel) rfl dX6_refuse_58 (sX6_refuse_61.dc 0 (q := (61, .dup, 0, 0)) rfl) dX6_refuse_62 dX6_refuse_65 (by omega) ⟨by omega, by omega⟩ hN (Nat.le_of_ble_eq_true rfl) ?_
    refine Ev.athrow hX upS_eq rfl dX6_refuse_68 (EvX.out rfl ?_)
    exact outE_new hN4 rfl
  by_cases h4 : f = 4
  · subst h4
    refine Ev.tabIn (tgt := 69) (off := 68) dX6_refuse_1 (by decide) (by decide) rfl rfl ?_
    refine Ev.mkSW (E := "java/util/NoSuchElementException") (si := 3) hX je_12 (by decide +kernel) (by decide +kernel) rfl dX6_refuse_69 (sX6_refuse_72.dc 0 (q := (72, .dup, 0, 0)) rfl) dX6_refuse_73 dX6_refuse_76 (by omega) ⟨by omega, by omega⟩ hN (Nat.le_of_ble_eq_true rfl) ?_
    refine Ev.athrow hX upS_eq rfl dX6_refuse_79 (EvX.out rfl ?_)
    exact outE_new hN4 rfl
  by_cases h5 : f = 5
  · subst h5
    refine Ev.tabIn (tgt := 80) (off := 79) dX6_refuse_1 (by decide) (by decide) rfl rfl ?_
    refine Ev.mkSW (E := "java/lang/UnsupportedOperationException") (si := 4) hX je_13 (by decide +kernel) (by decide +kernel) rfl dX6_refuse_80 (sX6_refuse_83.dc 0 (q := (83, .dup, 0, 0)) rfl) dX6_refuse_84 dX6_refuse_87 (by omega) ⟨by omega, by omega⟩ hN (Nat.le_of_ble_eq_true rfl) ?_
    refine Ev.athrow hX upS_eq rfl dX6_refuse_90 (EvX.out rfl ?_)
    exact outE_new hN4 rfl
  obtain ⟨e0, e1⟩ := excN_0 h1 h2 h3 h4 h5
  refine Ev.tabOut (tgt := 91) dX6_refuse_1 e1 rfl ?_
  refine Ev.vret dX6_refuse_91 rfl ?_
  exact outE_ret e0
def trkX (I : Nat → Nat → Int32) (t : Int32) : Option String := if hasT I t then none else some "java/lang/IndexOutOfBoundsException"
theorem c_requireTrack (hX : JXok X) (hd : 6 ≤ d) (hN4 : 396 ≤ N) (hN : N + 1 < BIG) : MT X d 1 6 jdX6_requireTrack [.ref 0, .int t] (N, SH v T, I, L, Dd) (outE (trkX I t) N v T I L Dd (.inl (none, (N, SH v T, I, L, Dd)))) := by
  refine MT.mk dvX6_requireTrack.1 ?_
  refine Ev.sg hX sX6_requireTrack_0 (pc' := 5) (ls' := [some (.ref 0), some (.int t)]) (st' := [.int t, .ref 1]) (h' := (N, SH v T, I, L, Dd)) rfl ?_
  refine Ev.callV (As := [.int t]) (rest := []) dvX5_hasTrack mkX6_369 rfl rfl dX6_requireTrack_5 (c_hasTrack (d := d - 1) (I := I) hX (Nat.zero_le _)) ⟨by omega, by show 2 + 19 + 40 * _ ≤ 40 * _; omega⟩ (by decide) rfl (Nat.le_of_ble_eq_true rfl) (fun v9 h9 e9 => ?_) (fun E9 h9 e9 => nomatch e9)
  cases e9
  show Ev _ _ _ _ _ _ 8 [some (.ref 0), some (.int t)] [.int (bi (hasT I t))] (N, SH v T, I, L, Dd)
  refine Ev.if_ne (tgt := 22) dX6_requireTrack_8 (by decide) (fun b1 => ?_) (fun b1 => ?_)
  · refine Ev.vret dX6_requireTrack_22 rfl ?_
    exact outE_ret (if_pos (bi_1.mp b1))
  · refine Ev.mkSW (E := "java/lang/IndexOutOfBoundsException") (si := 0) hX je_11 (by decide +kernel) (by decide +kernel) rfl dX6_requireTrack_11 (sX6_requireTrack_14.dc 0 (q := (14, .dup, 0, 0)) rfl) dX6_requireTrack_15 dX6_requireTrack_18 (by omega) ⟨by omega, by omega⟩ hN (Nat.le_of_ble_eq_true rfl) ?_
    refine Ev.athrow hX upS_eq rfl dX6_requireTrack_21 (EvX.out rfl ?_)
    exact outE_new hN4 (if_neg (bi_0.mp b1))
def carX (I : Nat → Nat → Int32) (c : Int32) : Option String := if slotOf I c = -1 then some "java/util/NoSuchElementException" else none
theorem c_requireCar (hX : JXok X) (hd : 6 ≤ d) (hN4 : 396 ≤ N) (hN : N + 1 < BIG) : MT X d 1 6 jdX6_requireCar [.ref 0, .int c] (N, SH v T, I, L, Dd) (outE (carX I c) N v T I L Dd (.inl (some (.int (slotOf I c)), (N, SH v T, I, L, Dd)))) := by
  refine MT.mk dvX6_requireCar.1 ?_
  refine Ev.sg hX sX6_requireCar_0 (pc' := 8) (ls' := [some (.ref 0), some (.int c), none]) (st' := [.int c, .ref 15]) (h' := (N, SH v T, I, L, Dd)) rfl ?_
  refine Ev.callV (As := [.int c]) (rest := []) dvX0_slotOf mkX6_195 rfl rfl dX6_requireCar_8 (c_slotOf (d := d - 1) (I := I) hX (by omega)) ⟨by omega, by show 3 + 19 + 40 * _ ≤ 40 * _; omega⟩ (by decide) rfl (Nat.le_of_ble_eq_true rfl) (fun v9 h9 e9 => ?_) (fun E9 h9 e9 => nomatch e9)
  cases e9
  show Ev _ _ _ _ _ _ 11 [some (.ref 0), some (.int c), none] [.int (slotOf I c)] (N, SH v T, I, L, Dd)
  refine Ev.sg hX sX6_requireCar_11 (pc' := 14) (ls' := [some (.ref 0), some (.int c), some (.int (slotOf I c))]) (st' := [.int (-1), .int (slotOf I c)]) (h' := (N, SH v T, I, L, Dd)) rfl ?_
  refine Ev.icmp_ne (tgt := 28) dX6_requireCar_14 (by decide) (fun b1 => ?_) (fun b1 => ?_)
  · refine Ev.sg hX sX6_requireCar_28 (pc' := 29) (ls' := [some (.ref 0), some (.int c), some (.int (slotOf I c))]) (st' := [.int (slotOf I c)]) (h' := (N, SH v T, I, L, Dd)) rfl ?_
    refine Ev.iret dX6_requireCar_29 rfl ?_
    exact outE_ret (if_neg b1)
  · refine Ev.mkSW (E := "java/util/NoSuchElementException") (si := 10) hX je_12 (by decide +kernel) (by decide +kernel) rfl dX6_requireCar_17 (sX6_requireCar_20.dc 0 (q := (20, .dup, 0, 0)) rfl) dX6_requireCar_21 dX6_requireCar_24 (by omega) ⟨by omega, by omega⟩ hN (Nat.le_of_ble_eq_true rfl) ?_
    refine Ev.athrow hX upS_eq rfl dX6_requireCar_27 (EvX.out rfl ?_)
    exact outE_new hN4 (if_pos b1)
def routeX (f : Int32) : Option String := if f = 1000 then some "java/util/NoSuchElementException" else none
theorem c_requireRoute (hX : JXok X) (hd : 6 ≤ d) (hN4 : 396 ≤ N) (hN : N + 1 < BIG) : MT X d 1 6 jdX6_requireRoute [.int f] (N, SH v T, I, L, Dd) (outE (routeX f) N v T I L Dd (.inl (some (.int (f)), (N, SH v T, I, L, Dd)))) := by
  refine MT.mk dsX6_requireRoute.1 ?_
  refine Ev.sg hX sX6_requireRoute_0 (pc' := 4) (ls' := [some (.int f)]) (st' := [.int 1000, .int f]) (h' := (N, SH v T, I, L, Dd)) rfl ?_
  refine Ev.icmp_ne (tgt := 18) dX6_requireRoute_4 (by decide) (fun b1 => ?_) (fun b1 => ?_)
  · refine Ev.sg hX sX6_requireRoute_18 (pc' := 19) (ls' := [some (.int f)]) (st' := [.int f]) (h' := (N, SH v T, I, L, Dd)) rfl ?_
    refine Ev.iret dX6_requireRoute_19 rfl ?_
    exact outE_ret (if_neg b1)
  · refine Ev.mkSW (E := "java/util/NoSuchElementException") (si := 7) hX je_12 (by decide +kernel) (by decide +kernel) rfl dX6_requireRoute_7 (sX6_requireRoute_10.dc 0 (q := (10, .dup, 0, 0)) rfl) dX6_requireRoute_11 dX6_requireRoute_14 (by omega) ⟨by omega, by omega⟩ hN (Nat.le_of_ble_eq_true rfl) ?_
    refine Ev.athrow hX upS_eq rfl dX6_requireRoute_17 (EvX.out rfl ?_)
    exact outE_new hN4 (if_pos b1)
end REQ
