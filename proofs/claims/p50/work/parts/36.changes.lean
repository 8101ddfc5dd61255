/-! the calls that change the yard -/
theorem remI_lo {I : Nat → Nat → Int32} {k m b2 a : Nat} (h : a < 71) : remI I k m b2 a = I a := by
  rw [remI, up2_out (by omega), up2_out (by omega), yardCpI_out (by omega)]
theorem remL_lo {L : Nat → Nat → Int64} {k b2 a : Nat} (h : a < 108) : yardCpL L (108 + 35 * k) b2 a = L a := yardCpL_out (by omega)
theorem track_ok {I : Nat → Nat → Int32} {c e : Int32} (h : excN (trackF I c e) = none) : I 6 0 < 8 := by
  unfold trackF at h
  split at h
  · exact absurd h (by decide)
  · split at h
    · assumption
    · exact absurd h (by decide)
theorem car_ok {I : Nat → Nat → Int32} {t a b c : Int32} (h : excN (carF I t a b c) = none) : hasT I t ∧ I 15 0 < 20 := by
  unfold carF at h
  split at h
  · exact absurd h (by decide)
  · split at h
    · exact absurd h (by decide)
    · split at h
      · exact absurd h (by decide)
      · rename_i h1 h2 h3
        exact ⟨Classical.not_not.mp h1, Classical.not_not.mp h3⟩
theorem moveF_ok2 {I : Nat → Nat → Int32} {sz : Nat} {a b c : Int32} (h : excN (moveF I sz a b c).1 = none) : 1 ≤ c ∧ c ≤ 9 := by
  have q := moveF_ok h
  by_cases e : a = b ∨ ¬ (1 ≤ c ∧ c ≤ 9)
  · rw [show (moveF I sz a b c).1 = 2 from by unfold moveF; rw [if_neg (fun z => z q), if_pos e]] at h
    exact absurd h (by decide)
  · exact Classical.not_not.mp (fun z => e (Or.inr z))
theorem nI_le_of {c : Int32} {n : Nat} (h0 : 0 ≤ c) (h1 : c ≤ nI n) (hn : n < 2 ^ 31) : ∃ k, k ≤ n ∧ c = nI k := by
  rw [Int32.le_iff_toInt_le, nI_toInt hn] at h1
  rw [Int32.le_iff_toInt_le, Int32.toInt_zero] at h0
  refine ⟨c.toInt.toNat, by omega, ?_⟩
  apply Int32.toInt_inj.mp
  rw [nI_toInt (by omega)]
  omega
theorem repair_ok {I : Nat → Nat → Int32} {c : Int32} (h : excN (repairFt I c) = none) : ∃ s, s < 20 ∧ slotOf I c = nI s := by
  rcases slotOf_or I c with e | e
  · rw [show repairFt I c = 4 from if_pos e] at h
    exact absurd h (by decide)
  · exact e
theorem train_ok {I : Nat → Nat → Int32} {t dd : Int32} (h : excN (trainFt I t dd).1 = none) : hasT I t := by
  by_cases q : hasT I t
  · exact q
  · rw [show (trainFt I t dd).1 = 1 from by unfold trainFt; rw [if_pos q]] at h
    exact absurd h (by decide)
theorem train_eq {I : Nat → Nat → Int32} {t dd : Int32} : eqS (trainFt I t dd).2 I := by
  unfold trainFt
  by_cases h1 : ¬ hasT I t
  · rw [if_pos h1]
    exact eqS.rf I
  · rw [if_neg h1]
    by_cases h2 : ¬ (0 ≤ dd ∧ dd ≤ 9)
    · rw [if_pos h2]
      exact eqS.rf I
    · rw [if_neg h2]
      by_cases h3 : slotAt I t (I 31 t.toNatClampNeg - 1) = -1 ∨ rg 20 (I 19) (slotAt I t (I 31 t.toNatClampNeg - 1)) ≠ dd
      · rw [if_pos h3]
        exact eqS.rf I
      · rw [if_neg h3]
        dsimp only
        exact listO_eq
theorem slotOf_congr {I J : Nat → Nat → Int32} {c : Int32} (h : J 17 = I 17) : slotOf J c = slotOf I c := by unfold slotOf; rw [h]
theorem freeSlot_congr {I J : Nat → Nat → Int32} (h : J 17 = I 17) : freeSlot J = freeSlot I := by unfold freeSlot; rw [h]
section CHG
variable {X : JX} {d N v : Nat} {T : Nat → Option JS} {I : Nat → Nat → Int32} {L : Nat → Nat → Int64} {Dd : Nat → Nat → UInt64} {t a b c dd e : Int32}
theorem c_addTrack (hX : JXok X) (hd : 7 ≤ d) (hN4 : 396 ≤ N) (hN : N + 1 < BIG) {k m : Nat} (hk : k < 8) (hk9 : I 71 1 = nI k) (hm : m ≤ 8) (hm9 : I 71 2 = nI m) {sz : Nat} (hsz : sz ≤ 8) (hJ : I 6 0 = nI sz) : MT X d 4 24 jdX6_addTrack [.ref 0, .int c, .int e] (N, SH v T, I, L, Dd) (outE (excN (trackF I c e)) N v T (I) L Dd (.inl (some (.int (nI sz)), (N, SH v T, buildI (remI I k m 1) sz c e, yardCpL L (108 + 35 * k) 1, Dd)))) := by
  refine MT.mk dvX6_addTrack.1 ?_
  refine Ev.sg hX sX6_addTrack_0 (pc' := 6) (ls' := [some (.ref 0), some (.int c), some (.int e)]) (st' := [.int e, .int c, .ref 1]) (h' := (N, SH v T, I, L, Dd)) rfl ?_
  refine Ev.callV (As := [.int c, .int e]) (rest := []) dvX5_trackFault mkX6_47 rfl rfl dX6_addTrack_6 (c_trackFault (d := d - 1) hX (by omega)) ⟨by omega, by show 3 + 19 + 40 * _ ≤ 40 * _; omega⟩ (by decide) rfl (Nat.le_of_ble_eq_true rfl) (fun v9 h9 e9 => ?_) (fun E9 h9 e9 => nomatch e9)
  cases e9
  show Ev _ _ _ _ _ _ 9 [some (.ref 0), some (.int c), some (.int e)] [.int (trackF I c e)] (N, SH v T, I, L, Dd)
  refine opt_split (excN (trackF I c e)) (fun E2 f1 => ?_) (fun f1 => ?_)
  · refine Ev.callS (As := [.int (trackF I c e)]) (rest := []) dsX6_refuse mkX6_51 dX6_addTrack_9 ((c_refuse (d := d - 1) (f := (trackF I c e)) (N := N) (v := v) (T := T) (I := I) (L := L) (Dd := Dd) hX (by omega) hN4 hN).some f1) ⟨by omega, by show 1 + 19 + 40 * _ ≤ 40 * _; omega⟩ ⟨by omega, by omega⟩ rfl (Nat.le_of_ble_eq_true rfl) (fun v9 h9 e9 => by obtain ⟨T9, e9⟩ := e9; cases e9) (fun E9 h9 e9 => ?_)
    obtain ⟨T9, e9⟩ := e9
    cases e9
    refine EvX.out rfl ?_
    exact outE_pass f1
  refine Ev.callS (As := [.int (trackF I c e)]) (rest := []) dsX6_refuse mkX6_51 dX6_addTrack_9 ((c_refuse (d := d - 1) (f := (trackF I c e)) (N := N) (v := v) (T := T) (I := I) (L := L) (Dd := Dd) hX (by omega) hN4 hN).none f1) ⟨by omega, by show 1 + 19 + 40 * _ ≤ 40 * _; omega⟩ ⟨by omega, by omega⟩ rfl (Nat.le_of_ble_eq_true rfl) (fun v9 h9 e9 => ?_) (fun E9 h9 e9 => nomatch e9)
  cases e9
  show Ev _ _ _ _ _ _ 12 [some (.ref 0), some (.int c), some (.int e)] [] (N, SH v T, I, L, Dd)
  have hsz8 : sz < 8 := by have := track_ok f1; rw [hJ] at this; exact (nI_ltI (a := sz) (b := 8) (by omega) (by decide)).mp this
  refine Ev.sg hX sX6_addTrack_12 (pc' := 20) (ls' := [some (.ref 0), some (.int c), some (.int e)]) (st' := [.ref 1, .ref 71]) (h' := (N, SH v T, I, L, Dd)) rfl ?_
  refine Ev.callV (As := [.ref 1]) (rest := []) dvX1_remember mkX6_55 rfl rfl dX6_addTrack_20 (c_remember (d := d - 1) (I := I) (L := L) hX (by omega) hk hk9 hm hm9 YS_1) ⟨by omega, by show 3 + 19 + 40 * _ ≤ 40 * _; omega⟩ (by decide) rfl (Nat.le_of_ble_eq_true rfl) (fun v9 h9 e9 => ?_) (fun E9 h9 e9 => nomatch e9)
  cases e9
  show Ev _ _ _ _ _ _ 23 [some (.ref 0), some (.int c), some (.int e)] [] (N, SH v T, remI I k m 1, yardCpL L (108 + 35 * k) 1, Dd)
  refine Ev.sg hX sX6_addTrack_23 (pc' := 29) (ls' := [some (.ref 0), some (.int c), some (.int e)]) (st' := [.int e, .int c, .ref 1]) (h' := (N, SH v T, remI I k m 1, yardCpL L (108 + 35 * k) 1, Dd)) rfl ?_
  refine Ev.callV (As := [.int c, .int e]) (rest := []) dvX5_build mkX6_59 rfl rfl dX6_addTrack_29 (c_build (d := d - 1) (I := (remI I k m 1)) (n := sz) hX (by omega) hsz8 ((congrFun (remI_lo (by decide)) 0).trans hJ)) ⟨by omega, by show 4 + 19 + 40 * _ ≤ 40 * _; omega⟩ (by decide) rfl (Nat.le_of_ble_eq_true rfl) (fun v9 h9 e9 => ?_) (fun E9 h9 e9 => nomatch e9)
  cases e9
  show Ev _ _ _ _ _ _ 32 [some (.ref 0), some (.int c), some (.int e)] [.int (nI sz)] (N, SH v T, buildI (remI I k m 1) sz c e, yardCpL L (108 + 35 * k) 1, Dd)
  refine Ev.iret dX6_addTrack_32 rfl ?_
  exact outE_ret f1
theorem c_connect (hX : JXok X) (hd : 7 ≤ d) (hN4 : 396 ≤ N) (hN : N + 1 < BIG) {k m : Nat} (hk : k < 8) (hk9 : I 71 1 = nI k) (hm : m ≤ 8) (hm9 : I 71 2 = nI m) {sz : Nat} (hsz : sz ≤ 8) (hJ : I 6 0 = nI sz) : MT X d 4 24 jdX6_connect [.ref 0, .int a, .int b] (N, SH v T, I, L, Dd) (outE (excN (switchF I a b)) N v T (I) L Dd (.inl (some (.int ((remI I k m 1) 6 1 + 1)), (N, SH v T, joinI (remI I k m 1) a b, yardCpL L (108 + 35 * k) 1, Dd)))) := by
  refine MT.mk dvX6_connect.1 ?_
  refine Ev.sg hX sX6_connect_0 (pc' := 6) (ls' := [some (.ref 0), some (.int a), some (.int b)]) (st' := [.int b, .int a, .ref 1]) (h' := (N, SH v T, I, L, Dd)) rfl ?_
  refine Ev.callV (As := [.int a, .int b]) (rest := []) dvX5_switchFault mkX6_62 rfl rfl dX6_connect_6 (c_switchFault (d := d - 1) hX (by omega) hsz hJ) ⟨by omega, by show 3 + 19 + 40 * _ ≤ 40 * _; omega⟩ (by decide) rfl (Nat.le_of_ble_eq_true rfl) (fun v9 h9 e9 => ?_) (fun E9 h9 e9 => nomatch e9)
  cases e9
  show Ev _ _ _ _ _ _ 9 [some (.ref 0), some (.int a), some (.int b)] [.int (switchF I a b)] (N, SH v T, I, L, Dd)
  refine opt_split (excN (switchF I a b)) (fun E2 f1 => ?_) (fun f1 => ?_)
  · refine Ev.callS (As := [.int (switchF I a b)]) (rest := []) dsX6_refuse mkX6_51 dX6_connect_9 ((c_refuse (d := d - 1) (f := (switchF I a b)) (N := N) (v := v) (T := T) (I := I) (L := L) (Dd := Dd) hX (by omega) hN4 hN).some f1) ⟨by omega, by show 1 + 19 + 40 * _ ≤ 40 * _; omega⟩ ⟨by omega, by omega⟩ rfl (Nat.le_of_ble_eq_true rfl) (fun v9 h9 e9 => by obtain ⟨T9, e9⟩ := e9; cases e9) (fun E9 h9 e9 => ?_)
    obtain ⟨T9, e9⟩ := e9
    cases e9
    refine EvX.out rfl ?_
    exact outE_pass f1
  refine Ev.callS (As := [.int (switchF I a b)]) (rest := []) dsX6_refuse mkX6_51 dX6_connect_9 ((c_refuse (d := d - 1) (f := (switchF I a b)) (N := N) (v := v) (T := T) (I := I) (L := L) (Dd := Dd) hX (by omega) hN4 hN).none f1) ⟨by omega, by show 1 + 19 + 40 * _ ≤ 40 * _; omega⟩ ⟨by omega, by omega⟩ rfl (Nat.le_of_ble_eq_true rfl) (fun v9 h9 e9 => ?_) (fun E9 h9 e9 => nomatch e9)
  cases e9
  show Ev _ _ _ _ _ _ 12 [some (.ref 0), some (.int a), some (.int b)] [] (N, SH v T, I, L, Dd)
  refine Ev.sg hX sX6_connect_12 (pc' := 20) (ls' := [some (.ref 0), some (.int a), some (.int b)]) (st' := [.ref 1, .ref 71]) (h' := (N, SH v T, I, L, Dd)) rfl ?_
  refine Ev.callV (As := [.ref 1]) (rest := []) dvX1_remember mkX6_55 rfl rfl dX6_connect_20 (c_remember (d := d - 1) (I := I) (L := L) hX (by omega) hk hk9 hm hm9 YS_1) ⟨by omega, by show 3 + 19 + 40 * _ ≤ 40 * _; omega⟩ (by decide) rfl (Nat.le_of_ble_eq_true rfl) (fun v9 h9 e9 => ?_) (fun E9 h9 e9 => nomatch e9)
  cases e9
  show Ev _ _ _ _ _ _ 23 [some (.ref 0), some (.int a), some (.int b)] [] (N, SH v T, remI I k m 1, yardCpL L (108 + 35 * k) 1, Dd)
  refine Ev.sg hX sX6_connect_23 (pc' := 32) (ls' := [some (.ref 0), some (.int a), some (.int b)]) (st' := [.int b, .int a, .ref 6]) (h' := (N, SH v T, remI I k m 1, yardCpL L (108 + 35 * k) 1, Dd)) rfl ?_
  refine Ev.callV (As := [.int a, .int b]) (rest := []) dvX2_join mkX6_69 rfl rfl dX6_connect_32 (c_join (d := d - 1) (I := (remI I k m 1)) hX (by omega)) ⟨by omega, by show 3 + 19 + 40 * _ ≤ 40 * _; omega⟩ (by decide) rfl (Nat.le_of_ble_eq_true rfl) (fun v9 h9 e9 => ?_) (fun E9 h9 e9 => nomatch e9)
  cases e9
  show Ev _ _ _ _ _ _ 35 [some (.ref 0), some (.int a), some (.int b)] [.int ((remI I k m 1) 6 1 + 1)] (N, SH v T, joinI (remI I k m 1) a b, yardCpL L (108 + 35 * k) 1, Dd)
  refine Ev.iret dX6_connect_35 rfl ?_
  exact outE_ret f1
theorem c_disconnect (hX : JXok X) (hd : 7 ≤ d) (hN4 : 396 ≤ N) (hN : N + 1 < BIG) {k m : Nat} (hk : k < 8) (hk9 : I 71 1 = nI k) (hm : m ≤ 8) (hm9 : I 71 2 = nI m) {sz : Nat} (hsz : sz ≤ 8) (hJ : I 6 0 = nI sz) : MT X d 4 24 jdX6_disconnect [.ref 0, .int a, .int b] (N, SH v T, I, L, Dd) (outE (excN (cutF I a b)) N v T (I) L Dd (.inl (some (.int ((remI I k m 1) 6 1 - 1)), (N, SH v T, partI (remI I k m 1) a b, yardCpL L (108 + 35 * k) 1, Dd)))) := by
  refine MT.mk dvX6_disconnect.1 ?_
  refine Ev.sg hX sX6_disconnect_0 (pc' := 6) (ls' := [some (.ref 0), some (.int a), some (.int b)]) (st' := [.int b, .int a, .ref 1]) (h' := (N, SH v T, I, L, Dd)) rfl ?_
  refine Ev.callV (As := [.int a, .int b]) (rest := []) dvX5_cutFault mkX6_74 rfl rfl dX6_disconnect_6 (c_cutFault (d := d - 1) hX (by omega) hsz hJ) ⟨by omega, by show 3 + 19 + 40 * _ ≤ 40 * _; omega⟩ (by decide) rfl (Nat.le_of_ble_eq_true rfl) (fun v9 h9 e9 => ?_) (fun E9 h9 e9 => nomatch e9)
  cases e9
  show Ev _ _ _ _ _ _ 9 [some (.ref 0), some (.int a), some (.int b)] [.int (cutF I a b)] (N, SH v T, I, L, Dd)
  refine opt_split (excN (cutF I a b)) (fun E2 f1 => ?_) (fun f1 => ?_)
  · refine Ev.callS (As := [.int (cutF I a b)]) (rest := []) dsX6_refuse mkX6_51 dX6_disconnect_9 ((c_refuse (d := d - 1) (f := (cutF I a b)) (N := N) (v := v) (T := T) (I := I) (L := L) (Dd := Dd) hX (by omega) hN4 hN).some f1) ⟨by omega, by show 1 + 19 + 40 * _ ≤ 40 * _; omega⟩ ⟨by omega, by omega⟩ rfl (Nat.le_of_ble_eq_true rfl) (fun v9 h9 e9 => by obtain ⟨T9, e9⟩ := e9; cases e9) (fun E9 h9 e9 => ?_)
    obtain ⟨T9, e9⟩ := e9
    cases e9
    refine EvX.out rfl ?_
    exact outE_pass f1
  refine Ev.callS (As := [.int (cutF I a b)]) (rest := []) dsX6_refuse mkX6_51 dX6_disconnect_9 ((c_refuse (d := d - 1) (f := (cutF I a b)) (N := N) (v := v) (T := T) (I := I) (L := L) (Dd := Dd) hX (by omega) hN4 hN).none f1) ⟨by omega, by show 1 + 19 + 40 * _ ≤ 40 * _; omega⟩ ⟨by omega, by omega⟩ rfl (Nat.le_of_ble_eq_true rfl) (fun v9 h9 e9 => ?_) (fun E9 h9 e9 => nomatch e9)
  cases e9
  show Ev _ _ _ _ _ _ 12 [some (.ref 0), some (.int a), some (.int b)] [] (N, SH v T, I, L, Dd)
  refine Ev.sg hX sX6_disconnect_12 (pc' := 20) (ls' := [some (.ref 0), some (.int a), some (.int b)]) (st' := [.ref 1, .ref 71]) (h' := (N, SH v T, I, L, Dd)) rfl ?_
  refine Ev.callV (As := [.ref 1]) (rest := []) dvX1_remember mkX6_55 rfl rfl dX6_disconnect_20 (c_remember (d := d - 1) (I := I) (L := L) hX (by omega) hk hk9 hm hm9 YS_1) ⟨by omega, by show 3 + 19 + 40 * _ ≤ 40 * _; omega⟩ (by decide) rfl (Nat.le_of_ble_eq_true rfl) (fun v9 h9 e9 => ?_) (fun E9 h9 e9 => nomatch e9)
  cases e9
  show Ev _ _ _ _ _ _ 23 [some (.ref 0), some (.int a), some (.int b)] [] (N, SH v T, remI I k m 1, yardCpL L (108 + 35 * k) 1, Dd)
  refine Ev.sg hX sX6_disconnect_23 (pc' := 32) (ls' := [some (.ref 0), some (.int a), some (.int b)]) (st' := [.int b, .int a, .ref 6]) (h' := (N, SH v T, remI I k m 1, yardCpL L (108 + 35 * k) 1, Dd)) rfl ?_
  refine Ev.callV (As := [.int a, .int b]) (rest := []) dvX2_part mkX6_77 rfl rfl dX6_disconnect_32 (c_part (d := d - 1) (I := (remI I k m 1)) hX (by omega)) ⟨by omega, by show 3 + 19 + 40 * _ ≤ 40 * _; omega⟩ (by decide) rfl (Nat.le_of_ble_eq_true rfl) (fun v9 h9 e9 => ?_) (fun E9 h9 e9 => nomatch e9)
  cases e9
  show Ev _ _ _ _ _ _ 35 [some (.ref 0), some (.int a), some (.int b)] [.int ((remI I k m 1) 6 1 - 1)] (N, SH v T, partI (remI I k m 1) a b, yardCpL L (108 + 35 * k) 1, Dd)
  refine Ev.iret dX6_disconnect_35 rfl ?_
  exact outE_ret f1
theorem c_addCar (hX : JXok X) (hd : 7 ≤ d) (hN4 : 396 ≤ N) (hN : N + 1 < BIG) {k m : Nat} (hk : k < 8) (hk9 : I 71 1 = nI k) (hm : m ≤ 8) (hm9 : I 71 2 = nI m) {sz : Nat} (hsz : sz ≤ 8) (hJ : I 6 0 = nI sz) (hb : e = 0 ∨ e = 1) (hfs : I 15 0 < 20 → ∃ s, s < 20 ∧ freeSlot I = nI s) : MT X d 4 24 jdX6_addCar [.ref 0, .int t, .int a, .int b, .int c, .int e] (N, SH v T, I, L, Dd) (outE (excN (carF I t a b c)) N v T (I) L Dd (.inl (some (.int ((remI I k m 1) 15 1 + 1)), (N, SH v T, enterI (remI I k m 1) (freeSlot I).toNatClampNeg t.toNatClampNeg a b c e, yardCpL L (108 + 35 * k) 1, Dd)))) := by
  refine MT.mk dvX6_addCar.1 ?_
  refine Ev.sg hX sX6_addCar_0 (pc' := 9) (ls' := [some (.ref 0), some (.int t), some (.int a), some (.int b), some (.int c), some (.int e)]) (st' := [.int c, .int b, .int a, .int t, .ref 1]) (h' := (N, SH v T, I, L, Dd)) rfl ?_
  refine Ev.callV (As := [.int t, .int a, .int b, .int c]) (rest := []) dvX5_carFault mkX6_80 rfl rfl dX6_addCar_9 (c_carFault (d := d - 1) hX (by omega) hsz hJ) ⟨by omega, by show 5 + 19 + 40 * _ ≤ 40 * _; omega⟩ (by decide) rfl (Nat.le_of_ble_eq_true rfl) (fun v9 h9 e9 => ?_) (fun E9 h9 e9 => nomatch e9)
  cases e9
  show Ev _ _ _ _ _ _ 12 [some (.ref 0), some (.int t), some (.int a), some (.int b), some (.int c), some (.int e)] [.int (carF I t a b c)] (N, SH v T, I, L, Dd)
  refine opt_split (excN (carF I t a b c)) (fun E2 f1 => ?_) (fun f1 => ?_)
  · refine Ev.callS (As := [.int (carF I t a b c)]) (rest := []) dsX6_refuse mkX6_51 dX6_addCar_12 ((c_refuse (d := d - 1) (f := (carF I t a b c)) (N := N) (v := v) (T := T) (I := I) (L := L) (Dd := Dd) hX (by omega) hN4 hN).some f1) ⟨by omega, by show 1 + 19 + 40 * _ ≤ 40 * _; omega⟩ ⟨by omega, by omega⟩ rfl (Nat.le_of_ble_eq_true rfl) (fun v9 h9 e9 => by obtain ⟨T9, e9⟩ := e9; cases e9) (fun E9 h9 e9 => ?_)
    obtain ⟨T9, e9⟩ := e9
    cases e9
    refine EvX.out rfl ?_
    exact outE_pass f1
  refine Ev.callS (As := [.int (carF I t a b c)]) (rest := []) dsX6_refuse mkX6_51 dX6_addCar_12 ((c_refuse (d := d - 1) (f := (carF I t a b c)) (N := N) (v := v) (T := T) (I := I) (L := L) (Dd := Dd) hX (by omega) hN4 hN).none f1) ⟨by omega, by show 1 + 19 + 40 * _ ≤ 40 * _; omega⟩ ⟨by omega, by omega⟩ rfl (Nat.le_of_ble_eq_true rfl) (fun v9 h9 e9 => ?_) (fun E9 h9 e9 => nomatch e9)
  cases e9
  show Ev _ _ _ _ _ _ 15 [some (.ref 0), some (.int t), some (.int a), some (.int b), some (.int c), some (.int e)] [] (N, SH v T, I, L, Dd)
  obtain ⟨hs, hs20, hs9⟩ := hfs (car_ok f1).2
  have hcs : (nI hs).toNatClampNeg = hs := nI_clamp (by omega)
  obtain ⟨f9, hf9, rfl⟩ := hasT_nI hsz hJ (car_ok f1).1
  have hcf9 : (nI f9).toNatClampNeg = f9 := nI_clamp (by omega)
  refine Ev.sg hX sX6_addCar_15 (pc' := 23) (ls' := [some (.ref 0), some (.int (nI f9)), some (.int a), some (.int b), some (.int c), some (.int e)]) (st' := [.ref 1, .ref 71]) (h' := (N, SH v T, I, L, Dd)) rfl ?_
  refine Ev.callV (As := [.ref 1]) (rest := []) dvX1_remember mkX6_55 rfl rfl dX6_addCar_23 (c_remember (d := d - 1) (I := I) (L := L) hX (by omega) hk hk9 hm hm9 YS_1) ⟨by omega, by show 3 + 19 + 40 * _ ≤ 40 * _; omega⟩ (by decide) rfl (Nat.le_of_ble_eq_true rfl) (fun v9 h9 e9 => ?_) (fun E9 h9 e9 => nomatch e9)
  cases e9
  show Ev _ _ _ _ _ _ 26 [some (.ref 0), some (.int (nI f9)), some (.int a), some (.int b), some (.int c), some (.int e)] [] (N, SH v T, remI I k m 1, yardCpL L (108 + 35 * k) 1, Dd)
  refine Ev.sg hX sX6_addCar_26 (pc' := 40) (ls' := [some (.ref 0), some (.int (nI f9)), some (.int a), some (.int b), some (.int c), some (.int e)]) (st' := [.int e, .int c, .int b, .int a, .int (nI f9), .ref 15]) (h' := (N, SH v T, remI I k m 1, yardCpL L (108 + 35 * k) 1, Dd)) rfl ?_
  refine Ev.callV (As := [.int (nI f9), .int a, .int b, .int c, .int e]) (rest := []) dvX0_enter mkX6_88 rfl rfl dX6_addCar_40 (c_enter (d := d - 1) (I := (remI I k m 1)) (s := hs) hX (by omega) hs20 (by omega) hb ((freeSlot_congr (remI_lo (by decide))).trans hs9)) ⟨by omega, by show 7 + 19 + 40 * _ ≤ 40 * _; omega⟩ (by decide) rfl (Nat.le_of_ble_eq_true rfl) (fun v9 h9 e9 => ?_) (fun E9 h9 e9 => nomatch e9)
  cases e9
  show Ev _ _ _ _ _ _ 43 [some (.ref 0), some (.int (nI f9)), some (.int a), some (.int b), some (.int c), some (.int e)] [.int ((remI I k m 1) 15 1 + 1)] (N, SH v T, enterI (remI I k m 1) hs f9 a b c e, yardCpL L (108 + 35 * k) 1, Dd)
  refine Ev.iret dX6_addCar_43 rfl ?_
  rw [hcf9, hs9, hcs]; exact outE_ret f1
theorem c_shunt (hX : JXok X) (hd : 7 ≤ d) (hN4 : 396 ≤ N) (hN : N + 1 < BIG) {k m : Nat} (hk : k < 8) (hk9 : I 71 1 = nI k) (hm : m ≤ 8) (hm9 : I 71 2 = nI m) {sz : Nat} (hsz : sz ≤ 8) (hJ : I 6 0 = nI sz) (hok : excN (moveF I sz a b c).1 = none → mvOK a.toNatClampNeg b.toNatClampNeg c.toNatClampNeg (bfsI (remI (moveF I sz a b c).2 k m 1) sz b.toNatClampNeg)) : MT X d 4 24 jdX6_shunt [.ref 0, .int a, .int b, .int c] (N, SH v T, I, L, Dd) (outE (excN ((moveF I sz a b c).1)) N v T ((moveF I sz a b c).2) L Dd (.inl (some (.int (minF (remI (moveF I sz a b c).2 k m 1) sz a.toNatClampNeg b.toNatClampNeg c)), (N, SH v T, moveI (bfsI (remI (moveF I sz a b c).2 k m 1) sz b.toNatClampNeg) a.toNatClampNeg b.toNatClampNeg c.toNatClampNeg, up2 (yardCpL L (108 + 35 * k) 1) 1 4 ((yardCpL L (108 + 35 * k) 1) 1 4 + (minF (remI (moveF I sz a b c).2 k m 1) sz a.toNatClampNeg b.toNatClampNeg c).toInt64), Dd)))) := by
  refine MT.mk dvX6_shunt.1 ?_
  refine Ev.sg hX sX6_shunt_0 (pc' := 7) (ls' := [some (.ref 0), some (.int a), some (.int b), some (.int c)]) (st' := [.int c, .int b, .int a, .ref 1]) (h' := (N, SH v T, I, L, Dd)) rfl ?_
  refine Ev.callV (As := [.int a, .int b, .int c]) (rest := []) dvX5_moveFault mkX6_94 rfl rfl dX6_shunt_7 (c_moveFault (d := d - 1) (I := I) hX (by omega) hsz hJ) ⟨by omega, by show 4 + 19 + 40 * _ ≤ 40 * _; omega⟩ (by decide) rfl (Nat.le_of_ble_eq_true rfl) (fun v9 h9 e9 => ?_) (fun E9 h9 e9 => nomatch e9)
  cases e9
  show Ev _ _ _ _ _ _ 10 [some (.ref 0), some (.int a), some (.int b), some (.int c)] [.int ((moveF I sz a b c).1)] (N, SH v T, (moveF I sz a b c).2, L, Dd)
  refine opt_split (excN ((moveF I sz a b c).1)) (fun E2 f1 => ?_) (fun f1 => ?_)
  · refine Ev.callS (As := [.int ((moveF I sz a b c).1)]) (rest := []) dsX6_refuse mkX6_51 dX6_shunt_10 ((c_refuse (d := d - 1) (f := ((moveF I sz a b c).1)) (N := N) (v := v) (T := T) (I := (moveF I sz a b c).2) (L := L) (Dd := Dd) hX (by omega) hN4 hN).some f1) ⟨by omega, by show 1 + 19 + 40 * _ ≤ 40 * _; omega⟩ ⟨by omega, by omega⟩ rfl (Nat.le_of_ble_eq_true rfl) (fun v9 h9 e9 => by obtain ⟨T9, e9⟩ := e9; cases e9) (fun E9 h9 e9 => ?_)
    obtain ⟨T9, e9⟩ := e9
    cases e9
    refine EvX.out rfl ?_
    exact outE_pass f1
  refine Ev.callS (As := [.int ((moveF I sz a b c).1)]) (rest := []) dsX6_refuse mkX6_51 dX6_shunt_10 ((c_refuse (d := d - 1) (f := ((moveF I sz a b c).1)) (N := N) (v := v) (T := T) (I := (moveF I sz a b c).2) (L := L) (Dd := Dd) hX (by omega) hN4 hN).none f1) ⟨by omega, by show 1 + 19 + 40 * _ ≤ 40 * _; omega⟩ ⟨by omega, by omega⟩ rfl (Nat.le_of_ble_eq_true rfl) (fun v9 h9 e9 => ?_) (fun E9 h9 e9 => nomatch e9)
  cases e9
  show Ev _ _ _ _ _ _ 13 [some (.ref 0), some (.int a), some (.int b), some (.int c)] [] (N, SH v T, (moveF I sz a b c).2, L, Dd)
  obtain ⟨f9, hf9, rfl⟩ := hasT_nI hsz hJ (moveF_ok f1).1
  obtain ⟨t9, ht9, rfl⟩ := hasT_nI hsz hJ (moveF_ok f1).2
  obtain ⟨q9, hq9, rfl⟩ := nI_le_of (n := 9) (Int32.le_trans (show (0 : Int32) ≤ 1 by decide) (moveF_ok2 f1).1) (moveF_ok2 f1).2 (by decide)
  have hcf9 : (nI f9).toNatClampNeg = f9 := nI_clamp (by omega)
  have hct9 : (nI t9).toNatClampNeg = t9 := nI_clamp (by omega)
  have hcq9 : (nI q9).toNatClampNeg = q9 := nI_clamp (by omega)
  have hk9J := (congrFun (move_eq (sz := sz) (a := nI f9) (b := nI t9) (c := nI q9) 71 (by decide) (by decide) (by decide) (by decide)) 1).trans hk9
  have hm9J := (congrFun (move_eq (sz := sz) (a := nI f9) (b := nI t9) (c := nI q9) 71 (by decide) (by decide) (by decide) (by decide)) 2).trans hm9
  have hok9 := hok f1
  rw [hcf9, hct9, hcq9] at hok9
  refine Ev.sg hX sX6_shunt_13 (pc' := 21) (ls' := [some (.ref 0), some (.int (nI f9)), some (.int (nI t9)), some (.int (nI q9))]) (st' := [.ref 1, .ref 71]) (h' := (N, SH v T, (moveF I sz (nI f9) (nI t9) (nI q9)).2, L, Dd)) rfl ?_
  refine Ev.callV (As := [.ref 1]) (rest := []) dvX1_remember mkX6_55 rfl rfl dX6_shunt_21 (c_remember (d := d - 1) (I := ((moveF I sz (nI f9) (nI t9) (nI q9)).2)) (L := L) hX (by omega) hk hk9J hm hm9J YS_1) ⟨by omega, by show 3 + 19 + 40 * _ ≤ 40 * _; omega⟩ (by decide) rfl (Nat.le_of_ble_eq_true rfl) (fun v9 h9 e9 => ?_) (fun E9 h9 e9 => nomatch e9)
  cases e9
  show Ev _ _ _ _ _ _ 24 [some (.ref 0), some (.int (nI f9)), some (.int (nI t9)), some (.int (nI q9))] [] (N, SH v T, remI ((moveF I sz (nI f9) (nI t9) (nI q9)).2) k m 1, yardCpL L (108 + 35 * k) 1, Dd)
  refine Ev.sg hX sX6_shunt_24 (pc' := 31) (ls' := [some (.ref 0), some (.int (nI f9)), some (.int (nI t9)), some (.int (nI q9))]) (st' := [.int (nI q9), .int (nI t9), .int (nI f9), .ref 1]) (h' := (N, SH v T, remI ((moveF I sz (nI f9) (nI t9) (nI q9)).2) k m 1, yardCpL L (108 + 35 * k) 1, Dd)) rfl ?_
  refine Ev.callV (As := [.int (nI f9), .int (nI t9), .int (nI q9)]) (rest := []) dvX5_move mkX6_98 rfl rfl dX6_shunt_31 (c_move (d := d - 1) (I := (remI ((moveF I sz (nI f9) (nI t9) (nI q9)).2) k m 1)) (L := yardCpL L (108 + 35 * k) 1) (q := q9) hX (by omega) (by omega) (by omega) (by omega) hsz ((congrFun (remI_lo (by decide)) 0).trans (sz_of move_eq hJ)) hok9) ⟨by omega, by show 6 + 19 + 40 * _ ≤ 40 * _; omega⟩ (by decide) rfl (Nat.le_of_ble_eq_true rfl) (fun v9 h9 e9 => ?_) (fun E9 h9 e9 => nomatch e9)
  cases e9
  show Ev _ _ _ _ _ _ 34 [some (.ref 0), some (.int (nI f9)), some (.int (nI t9)), some (.int (nI q9))] [.int (minF (remI ((moveF I sz (nI f9) (nI t9) (nI q9)).2) k m 1) sz f9 t9 (nI q9))] (N, SH v T, moveI (bfsI (remI ((moveF I sz (nI f9) (nI t9) (nI q9)).2) k m 1) sz t9) f9 t9 q9, up2 (yardCpL L (108 + 35 * k) 1) 1 4 ((yardCpL L (108 + 35 * k) 1) 1 4 + (minF (remI ((moveF I sz (nI f9) (nI t9) (nI q9)).2) k m 1) sz f9 t9 (nI q9)).toInt64), Dd)
  refine Ev.iret dX6_shunt_34 rfl ?_
  rw [hcf9, hct9, hcq9]; exact outE_ret f1
theorem c_repair (hX : JXok X) (hd : 7 ≤ d) (hN4 : 396 ≤ N) (hN : N + 1 < BIG) {k m : Nat} (hk : k < 8) (hk9 : I 71 1 = nI k) (hm : m ≤ 8) (hm9 : I 71 2 = nI m) : MT X d 4 24 jdX6_repair [.ref 0, .int c] (N, SH v T, I, L, Dd) (outE (excN (repairFt I c)) N v T (I) L Dd (.inl (some (.int (fo (stM (mendI (remI I k m 1) (slotOf I c).toNatClampNeg)) 20 0 0)), (N, SH v T, mendI (remI I k m 1) (slotOf I c).toNatClampNeg, yardCpL L (108 + 35 * k) 1, Dd)))) := by
  refine MT.mk dvX6_repair.1 ?_
  refine Ev.sg hX sX6_repair_0 (pc' := 5) (ls' := [some (.ref 0), some (.int c)]) (st' := [.int c, .ref 1]) (h' := (N, SH v T, I, L, Dd)) rfl ?_
  refine Ev.callV (As := [.int c]) (rest := []) dvX5_repairFault mkX6_101 rfl rfl dX6_repair_5 (c_repairFault (d := d - 1) hX (by omega)) ⟨by omega, by show 3 + 19 + 40 * _ ≤ 40 * _; omega⟩ (by decide) rfl (Nat.le_of_ble_eq_true rfl) (fun v9 h9 e9 => ?_) (fun E9 h9 e9 => nomatch e9)
  cases e9
  show Ev _ _ _ _ _ _ 8 [some (.ref 0), some (.int c)] [.int (repairFt I c)] (N, SH v T, I, L, Dd)
  refine opt_split (excN (repairFt I c)) (fun E2 f1 => ?_) (fun f1 => ?_)
  · refine Ev.callS (As := [.int (repairFt I c)]) (rest := []) dsX6_refuse mkX6_51 dX6_repair_8 ((c_refuse (d := d - 1) (f := (repairFt I c)) (N := N) (v := v) (T := T) (I := I) (L := L) (Dd := Dd) hX (by omega) hN4 hN).some f1) ⟨by omega, by show 1 + 19 + 40 * _ ≤ 40 * _; omega⟩ ⟨by omega, by omega⟩ rfl (Nat.le_of_ble_eq_true rfl) (fun v9 h9 e9 => by obtain ⟨T9, e9⟩ := e9; cases e9) (fun E9 h9 e9 => ?_)
    obtain ⟨T9, e9⟩ := e9
    cases e9
    refine EvX.out rfl ?_
    exact outE_pass f1
  refine Ev.callS (As := [.int (repairFt I c)]) (rest := []) dsX6_refuse mkX6_51 dX6_repair_8 ((c_refuse (d := d - 1) (f := (repairFt I c)) (N := N) (v := v) (T := T) (I := I) (L := L) (Dd := Dd) hX (by omega) hN4 hN).none f1) ⟨by omega, by show 1 + 19 + 40 * _ ≤ 40 * _; omega⟩ ⟨by omega, by omega⟩ rfl (Nat.le_of_ble_eq_true rfl) (fun v9 h9 e9 => ?_) (fun E9 h9 e9 => nomatch e9)
  cases e9
  show Ev _ _ _ _ _ _ 11 [some (.ref 0), some (.int c)] [] (N, SH v T, I, L, Dd)
  obtain ⟨hs, hs20, hs9⟩ := repair_ok f1
  have hcs : (nI hs).toNatClampNeg = hs := nI_clamp (by omega)
  refine Ev.sg hX sX6_repair_11 (pc' := 19) (ls' := [some (.ref 0), some (.int c)]) (st' := [.ref 1, .ref 71]) (h' := (N, SH v T, I, L, Dd)) rfl ?_
  refine Ev.callV (As := [.ref 1]) (rest := []) dvX1_remember mkX6_55 rfl rfl dX6_repair_19 (c_remember (d := d - 1) (I := I) (L := L) hX (by omega) hk hk9 hm hm9 YS_1) ⟨by omega, by show 3 + 19 + 40 * _ ≤ 40 * _; omega⟩ (by decide) rfl (Nat.le_of_ble_eq_true rfl) (fun v9 h9 e9 => ?_) (fun E9 h9 e9 => nomatch e9)
  cases e9
  show Ev _ _ _ _ _ _ 22 [some (.ref 0), some (.int c)] [] (N, SH v T, remI I k m 1, yardCpL L (108 + 35 * k) 1, Dd)
  refine Ev.sg hX sX6_repair_22 (pc' := 30) (ls' := [some (.ref 0), some (.int c)]) (st' := [.int c, .ref 15]) (h' := (N, SH v T, remI I k m 1, yardCpL L (108 + 35 * k) 1, Dd)) rfl ?_
  refine Ev.callV (As := [.int c]) (rest := []) dvX0_mend mkX6_105 rfl rfl dX6_repair_30 (c_mend (d := d - 1) (I := (remI I k m 1)) (s := hs) hX (by omega) hs20 ((slotOf_congr (remI_lo (by decide))).trans hs9)) ⟨by omega, by show 4 + 19 + 40 * _ ≤ 40 * _; omega⟩ (by decide) rfl (Nat.le_of_ble_eq_true rfl) (fun v9 h9 e9 => ?_) (fun E9 h9 e9 => nomatch e9)
  cases e9
  show Ev _ _ _ _ _ _ 33 [some (.ref 0), some (.int c)] [.int (fo (stM (mendI (remI I k m 1) hs)) 20 0 0)] (N, SH v T, mendI (remI I k m 1) hs, yardCpL L (108 + 35 * k) 1, Dd)
  refine Ev.iret dX6_repair_33 rfl ?_
  rw [hs9, hcs]; exact outE_ret f1
theorem c_depart (hX : JXok X) (hd : 7 ≤ d) (hN4 : 396 ≤ N) (hN : N + 1 < BIG) {k m : Nat} (hk : k < 8) (hk9 : I 71 1 = nI k) (hm : m ≤ 8) (hm9 : I 71 2 = nI m) {sz : Nat} (hsz : sz ≤ 8) (hJ : I 6 0 = nI sz) (hhs : ∀ t, t < 8 → ∃ hg, hg ≤ 20 ∧ I 31 t = nI hg) (hok : excN (trainFt I t dd).1 = none → ∃ q, q ≤ 20 ∧ (trainF (listO (remI (trainFt I t dd).2 k m 1) t) (I 31 t.toNatClampNeg).toNatClampNeg) = nI q ∧ lvOK t.toNatClampNeg q (listO (remI (trainFt I t dd).2 k m 1) t, (yardCpL L (108 + 35 * k) 1) 1 7)) : MT X d 4 24 jdX6_depart [.ref 0, .int t, .int dd] (N, SH v T, I, L, Dd) (outE (excN ((trainFt I t dd).1)) N v T ((trainFt I t dd).2) L Dd (.inl (some (.int ((trainF (listO (remI (trainFt I t dd).2 k m 1) t) (I 31 t.toNatClampNeg).toNatClampNeg))), (N, SH v T, sendI (listO (remI (trainFt I t dd).2 k m 1) t) (yardCpL L (108 + 35 * k) 1) t.toNatClampNeg (trainF (listO (remI (trainFt I t dd).2 k m 1) t) (I 31 t.toNatClampNeg).toNatClampNeg).toNatClampNeg, up2 (yardCpL L (108 + 35 * k) 1) 1 7 (sendU (listO (remI (trainFt I t dd).2 k m 1) t) (yardCpL L (108 + 35 * k) 1) t.toNatClampNeg (trainF (listO (remI (trainFt I t dd).2 k m 1) t) (I 31 t.toNatClampNeg).toNatClampNeg).toNatClampNeg).2, Dd)))) := by
  refine MT.mk dvX6_depart.1 ?_
  refine Ev.sg hX sX6_depart_0 (pc' := 6) (ls' := [some (.ref 0), some (.int t), some (.int dd)]) (st' := [.int dd, .int t, .ref 1]) (h' := (N, SH v T, I, L, Dd)) rfl ?_
  refine Ev.callV (As := [.int t, .int dd]) (rest := []) dvX5_trainFault mkX6_108 rfl rfl dX6_depart_6 (c_trainFault (d := d - 1) (I := I) hX (by omega) hsz hJ hhs) ⟨by omega, by show 4 + 19 + 40 * _ ≤ 40 * _; omega⟩ (by decide) rfl (Nat.le_of_ble_eq_true rfl) (fun v9 h9 e9 => ?_) (fun E9 h9 e9 => nomatch e9)
  cases e9
  show Ev _ _ _ _ _ _ 9 [some (.ref 0), some (.int t), some (.int dd)] [.int ((trainFt I t dd).1)] (N, SH v T, (trainFt I t dd).2, L, Dd)
  refine opt_split (excN ((trainFt I t dd).1)) (fun E2 f1 => ?_) (fun f1 => ?_)
  · refine Ev.callS (As := [.int ((trainFt I t dd).1)]) (rest := []) dsX6_refuse mkX6_51 dX6_depart_9 ((c_refuse (d := d - 1) (f := ((trainFt I t dd).1)) (N := N) (v := v) (T := T) (I := (trainFt I t dd).2) (L := L) (Dd := Dd) hX (by omega) hN4 hN).some f1) ⟨by omega, by show 1 + 19 + 40 * _ ≤ 40 * _; omega⟩ ⟨by omega, by omega⟩ rfl (Nat.le_of_ble_eq_true rfl) (fun v9 h9 e9 => by obtain ⟨T9, e9⟩ := e9; cases e9) (fun E9 h9 e9 => ?_)
    obtain ⟨T9, e9⟩ := e9
    cases e9
    refine EvX.out rfl ?_
    exact outE_pass f1
  refine Ev.callS (As := [.int ((trainFt I t dd).1)]) (rest := []) dsX6_refuse mkX6_51 dX6_depart_9 ((c_refuse (d := d - 1) (f := ((trainFt I t dd).1)) (N := N) (v := v) (T := T) (I := (trainFt I t dd).2) (L := L) (Dd := Dd) hX (by omega) hN4 hN).none f1) ⟨by omega, by show 1 + 19 + 40 * _ ≤ 40 * _; omega⟩ ⟨by omega, by omega⟩ rfl (Nat.le_of_ble_eq_true rfl) (fun v9 h9 e9 => ?_) (fun E9 h9 e9 => nomatch e9)
  cases e9
  show Ev _ _ _ _ _ _ 12 [some (.ref 0), some (.int t), some (.int dd)] [] (N, SH v T, (trainFt I t dd).2, L, Dd)
  obtain ⟨hq, hq1, hq2, hq3⟩ := hok f1
  obtain ⟨f9, hf9, rfl⟩ := hasT_nI hsz hJ (train_ok f1)
  have hcf9 : (nI f9).toNatClampNeg = f9 := nI_clamp (by omega)
  obtain ⟨hg, hg20, hhI⟩ := hhs f9 (by omega)
  rw [hcf9] at hq2 hq3
  have hch : (nI hg).toNatClampNeg = hg := nI_clamp (by omega)
  have hhJ : (remI (trainFt I (nI f9) dd).2 k m 1) 31 f9 = nI hg := (congrFun (remI_lo (by decide)) f9).trans ((congrFun (train_eq 31 (by decide) (by decide) (by decide) (by decide)) f9).trans hhI)
  rw [hhI, hch] at hq2
  have hk9J := (congrFun (train_eq (t := nI f9) (dd := dd) 71 (by decide) (by decide) (by decide) (by decide)) 1).trans hk9
  have hm9J := (congrFun (train_eq (t := nI f9) (dd := dd) 71 (by decide) (by decide) (by decide) (by decide)) 2).trans hm9
  refine Ev.sg hX sX6_depart_12 (pc' := 20) (ls' := [some (.ref 0), some (.int (nI f9)), some (.int dd)]) (st' := [.ref 1, .ref 71]) (h' := (N, SH v T, (trainFt I (nI f9) dd).2, L, Dd)) rfl ?_
  refine Ev.callV (As := [.ref 1]) (rest := []) dvX1_remember mkX6_55 rfl rfl dX6_depart_20 (c_remember (d := d - 1) (I := ((trainFt I (nI f9) dd).2)) (L := L) hX (by omega) hk hk9J hm hm9J YS_1) ⟨by omega, by show 3 + 19 + 40 * _ ≤ 40 * _; omega⟩ (by decide) rfl (Nat.le_of_ble_eq_true rfl) (fun v9 h9 e9 => ?_) (fun E9 h9 e9 => nomatch e9)
  cases e9
  show Ev _ _ _ _ _ _ 23 [some (.ref 0), some (.int (nI f9)), some (.int dd)] [] (N, SH v T, remI ((trainFt I (nI f9) dd).2) k m 1, yardCpL L (108 + 35 * k) 1, Dd)
  refine Ev.sg hX sX6_depart_23 (pc' := 28) (ls' := [some (.ref 0), some (.int (nI f9)), some (.int dd)]) (st' := [.int (nI f9), .ref 1]) (h' := (N, SH v T, remI ((trainFt I (nI f9) dd).2) k m 1, yardCpL L (108 + 35 * k) 1, Dd)) rfl ?_
  refine Ev.callV (As := [.int (nI f9)]) (rest := []) dvX5_sendTrain mkX6_111 rfl rfl dX6_depart_28 (c_sendTrain (d := d - 1) (I := (remI ((trainFt I (nI f9) dd).2) k m 1)) (L := (yardCpL L (108 + 35 * k) 1)) (q := hq) hX (by omega) (by omega) (by omega) hg20 hhJ hq2 hq3) ⟨by omega, by show 4 + 19 + 40 * _ ≤ 40 * _; omega⟩ (by decide) rfl (Nat.le_of_ble_eq_true rfl) (fun v9 h9 e9 => ?_) (fun E9 h9 e9 => nomatch e9)
  cases e9
  show Ev _ _ _ _ _ _ 31 [some (.ref 0), some (.int (nI f9)), some (.int dd)] [.int (nI hq)] (N, SH v T, sendI (listO (remI ((trainFt I (nI f9) dd).2) k m 1) (nI f9)) (yardCpL L (108 + 35 * k) 1) f9 hq, up2 (yardCpL L (108 + 35 * k) 1) 1 7 (sendU (listO (remI ((trainFt I (nI f9) dd).2) k m 1) (nI f9)) (yardCpL L (108 + 35 * k) 1) f9 hq).2, Dd)
  refine Ev.iret dX6_depart_31 rfl ?_
  rw [hcf9, hhI, hch, hq2, show (nI hq).toNatClampNeg = hq from nI_clamp (by omega)]; exact outE_ret f1
end CHG
