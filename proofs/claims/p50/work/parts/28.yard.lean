/-! the yard in use (the object 1): what a call of a change is told, and the questions about tracks -/
section YARD
variable {X : JX} {d N v : Nat} {T : Nat → Option JS} {I : Nat → Nat → Int32} {L : Nat → Nat → Int64} {Dd : Nat → Nat → UInt64} {J : Nat → Nat → Int32} {Q : JR → Prop} {x lo hi t a b c e : Int32}
def isW (x lo hi : Int32) : Prop := lo ≤ x ∧ x ≤ hi
theorem c_isWithin (hX : JXok X) {h : MH} : MT X d 0 0 jdX6_isWithin [.int x, .int lo, .int hi] h (fun R => R = .inl (some (.int (bi (lo ≤ x ∧ x ≤ hi))), h)) := by
  refine MT.mk dsX6_isWithin.1 ?_
  refine Ev.sg hX sX6_isWithin_0 (pc' := 2) (ls' := [some (.int x), some (.int lo), some (.int hi)]) (st' := [.int lo, .int x]) (h' := h) rfl ?_
  refine Ev.icmp_lt (tgt := 14) dX6_isWithin_2 (by decide) (fun b1 => ?_) (fun b1 => ?_)
  · refine Ev.sg hX sX6_isWithin_14 (pc' := 15) (ls' := [some (.int x), some (.int lo), some (.int hi)]) (st' := [.int 0]) (h' := h) rfl ?_
    refine Ev.zret dX6_isWithin_15 rfl ?_ ?_
    · rfl
    simp [bi, Int32.not_le.mpr b1]
  · refine Ev.sg hX sX6_isWithin_5 (pc' := 7) (ls' := [some (.int x), some (.int lo), some (.int hi)]) (st' := [.int hi, .int x]) (h' := h) rfl ?_
    refine Ev.icmp_gt (tgt := 14) dX6_isWithin_7 (by decide) (fun b2 => ?_) (fun b2 => ?_)
    · refine Ev.sg hX sX6_isWithin_14 (pc' := 15) (ls' := [some (.int x), some (.int lo), some (.int hi)]) (st' := [.int 0]) (h' := h) rfl ?_
      refine Ev.zret dX6_isWithin_15 rfl ?_ ?_
      · rfl
      simp [bi, Int32.not_lt.mp b1, Int32.not_le.mpr b2]
    · refine Ev.sg hX sX6_isWithin_10 (pc' := 15) (ls' := [some (.int x), some (.int lo), some (.int hi)]) (st' := [.int 1]) (h' := h) rfl ?_
      refine Ev.zret dX6_isWithin_15 rfl ?_ ?_
      · rfl
      simp [bi, Int32.not_lt.mp b1, Int32.not_lt.mp b2]
abbrev hasT (I : Nat → Nat → Int32) (t : Int32) : Prop := 0 ≤ t ∧ t < I 6 0
theorem c_hasTrack (hX : JXok X) (hd : 0 ≤ d) : MT X d 0 0 jdX5_hasTrack [.ref 1, .int t] (N, SH v T, I, L, Dd) (fun R => R = .inl (some (.int (bi (hasT I t))), (N, SH v T, I, L, Dd))) := by
  refine MT.mk dvX5_hasTrack.1 ?_
  refine Ev.sg hX sX5_hasTrack_0 (pc' := 1) (ls' := [some (.ref 1), some (.int t)]) (st' := [.int t]) (h' := (N, SH v T, I, L, Dd)) rfl ?_
  refine Ev.if_lt (tgt := 19) dX5_hasTrack_1 (by decide) (fun b1 => ?_) (fun b1 => ?_)
  · refine Ev.sg hX sX5_hasTrack_19 (pc' := 20) (ls' := [some (.ref 1), some (.int t)]) (st' := [.int 0]) (h' := (N, SH v T, I, L, Dd)) rfl ?_
    refine Ev.zret dX5_hasTrack_20 rfl ?_ ?_
    · rfl
    simp [bi, Int32.not_le.mpr b1]
  · refine Ev.sg hX sX5_hasTrack_4 (pc' := 12) (ls' := [some (.ref 1), some (.int t)]) (st' := [.int (I 6 0), .int t]) (h' := (N, SH v T, I, L, Dd)) rfl ?_
    refine Ev.icmp_ge (tgt := 19) dX5_hasTrack_12 (by decide) (fun b2 => ?_) (fun b2 => ?_)
    · refine Ev.sg hX sX5_hasTrack_19 (pc' := 20) (ls' := [some (.ref 1), some (.int t)]) (st' := [.int 0]) (h' := (N, SH v T, I, L, Dd)) rfl ?_
      refine Ev.zret dX5_hasTrack_20 rfl ?_ ?_
      · rfl
      simp [bi, Int32.not_lt.mp b1, Int32.not_lt.mpr b2]
    · refine Ev.sg hX sX5_hasTrack_15 (pc' := 20) (ls' := [some (.ref 1), some (.int t)]) (st' := [.int 1]) (h' := (N, SH v T, I, L, Dd)) rfl ?_
      refine Ev.zret dX5_hasTrack_20 rfl ?_ ?_
      · rfl
      simp [bi, Int32.not_lt.mp b1, Int32.not_le.mp b2]
theorem hasT_nI {I : Nat → Nat → Int32} {sz : Nat} (hsz : sz ≤ 8) (hJ : I 6 0 = nI sz) {t : Int32} (h : hasT I t) : ∃ k, k < sz ∧ t = nI k := by
  obtain ⟨h1, h2⟩ := h
  rw [hJ, Int32.lt_iff_toInt_lt, nI_toInt (n := sz) (by omega)] at h2
  rw [Int32.le_iff_toInt_le, Int32.toInt_zero] at h1
  refine ⟨t.toInt.toNat, by omega, ?_⟩
  apply Int32.toInt_inj.mp
  rw [nI_toInt (by omega)]
  omega
theorem c_free (hX : JXok X) (hd : 1 ≤ d) {k : Nat} (hk : k < 8) : MT X d 0 0 jdX5_free [.ref 1, .int (nI k)] (N, SH v T, I, L, Dd) (fun R => R = .inl (some (.int ((I 3 k - I 33 k))), (N, SH v T, I, L, Dd))) := by
  refine MT.mk dvX5_free.1 ?_
  refine Ev.sg hX sX5_free_0 (pc' := 5) (ls' := [some (.ref 1), some (.int (nI k))]) (st' := [.int (nI k), .ref 2]) (h' := (N, SH v T, I, L, Dd)) rfl ?_
  refine Ev.callV (As := [.int (nI k)]) (rest := []) dvX4_get mkX5_64 rfl rfl dX5_free_5 (c_Row_getN (d := d - 1) (h := (N, SH v T, I, L, Dd)) (r := 2) (a := 3) (n := 8) hX rfl rfl (by decide) hk) ⟨by omega, by show 2 + 19 + 40 * _ ≤ 40 * _; omega⟩ (by decide) rfl (Nat.le_of_ble_eq_true rfl) (fun v9 h9 e9 => ?_) (fun E9 h9 e9 => nomatch e9)
  cases e9
  show Ev _ _ _ _ _ _ 8 [some (.ref 1), some (.int (nI k))] [.int (I 3 k)] (N, SH v T, I, L, Dd)
  refine Ev.sg hX sX5_free_8 (pc' := 16) (ls' := [some (.ref 1), some (.int (nI k))]) (st' := [.int (nI k), .ref 32, .int (I 3 k)]) (h' := (N, SH v T, I, L, Dd)) rfl ?_
  refine Ev.callV (As := [.int (nI k)]) (rest := [.int (I 3 k)]) dvX4_get mkX5_64 rfl rfl dX5_free_16 (c_Row_getN (d := d - 1) (h := (N, SH v T, I, L, Dd)) (r := 32) (a := 33) (n := 8) hX rfl rfl (by decide) hk) ⟨by omega, by show 2 + 19 + 40 * _ ≤ 40 * _; omega⟩ (by decide) rfl (Nat.le_of_ble_eq_true rfl) (fun v9 h9 e9 => ?_) (fun E9 h9 e9 => nomatch e9)
  cases e9
  show Ev _ _ _ _ _ _ 19 [some (.ref 1), some (.int (nI k))] [.int (I 33 k), .int (I 3 k)] (N, SH v T, I, L, Dd)
  refine Ev.sg hX sX5_free_19 (pc' := 20) (ls' := [some (.ref 1), some (.int (nI k))]) (st' := [.int ((I 3 k) - (I 33 k))]) (h' := (N, SH v T, I, L, Dd)) rfl ?_
  refine Ev.iret dX5_free_20 rfl ?_
  rfl
def trackF (I : Nat → Nat → Int32) (c e : Int32) : Int32 := if ¬ (10 ≤ c ∧ c ≤ 200) ∨ ¬ (0 ≤ e ∧ e ≤ 5) then 2 else if I 6 0 < 8 then 0 else 3
theorem c_trackFault (hX : JXok X) (hd : 1 ≤ d) : MT X d 0 0 jdX5_trackFault [.ref 1, .int c, .int e] (N, SH v T, I, L, Dd) (fun R => R = .inl (some (.int (trackF I c e)), (N, SH v T, I, L, Dd))) := by
  refine MT.mk dvX5_trackFault.1 ?_
  refine Ev.sg hX sX5_trackFault_0 (pc' := 6) (ls' := [some (.ref 1), some (.int c), some (.int e)]) (st' := [.int 200, .int 10, .int c]) (h' := (N, SH v T, I, L, Dd)) rfl ?_
  refine Ev.callSN (As := [.int c, .int 10, .int 200]) (rest := []) (host := "ClassificationYard") dsX6_isWithin (by decide +kernel) dX5_trackFault_6 (c_isWithin (d := d - 1) hX) ⟨by omega, by show 3 + 19 + 40 * _ ≤ 40 * _; omega⟩ (by decide) rfl (Nat.le_of_ble_eq_true rfl) (fun v9 h9 e9 => ?_) (fun E9 h9 e9 => nomatch e9)
  cases e9
  show Ev _ _ _ _ _ _ 9 [some (.ref 1), some (.int c), some (.int e)] [.int (bi (10 ≤ c ∧ c ≤ 200))] (N, SH v T, I, L, Dd)
  refine Ev.if_eq (tgt := 21) dX5_trackFault_9 (by decide) (fun b1 => ?_) (fun b1 => ?_)
  · refine Ev.sg hX sX5_trackFault_21 (pc' := 22) (ls' := [some (.ref 1), some (.int c), some (.int e)]) (st' := [.int 2]) (h' := (N, SH v T, I, L, Dd)) rfl ?_
    refine Ev.iret dX5_trackFault_22 rfl ?_
    simp [trackF, bi_0.mp b1]
  · refine Ev.sg hX sX5_trackFault_12 (pc' := 15) (ls' := [some (.ref 1), some (.int c), some (.int e)]) (st' := [.int 5, .int 0, .int e]) (h' := (N, SH v T, I, L, Dd)) rfl ?_
    refine Ev.callSN (As := [.int e, .int 0, .int 5]) (rest := []) (host := "ClassificationYard") dsX6_isWithin (by decide +kernel) dX5_trackFault_15 (c_isWithin (d := d - 1) hX) ⟨by omega, by show 3 + 19 + 40 * _ ≤ 40 * _; omega⟩ (by decide) rfl (Nat.le_of_ble_eq_true rfl) (fun v9 h9 e9 => ?_) (fun E9 h9 e9 => nomatch e9)
    cases e9
    show Ev _ _ _ _ _ _ 18 [some (.ref 1), some (.int c), some (.int e)] [.int (bi (0 ≤ e ∧ e ≤ 5))] (N, SH v T, I, L, Dd)
    refine Ev.if_ne (tgt := 23) dX5_trackFault_18 (by decide) (fun b2 => ?_) (fun b2 => ?_)
    · refine Ev.sg hX sX5_trackFault_23 (pc' := 32) (ls' := [some (.ref 1), some (.int c), some (.int e)]) (st' := [.int 8, .int (I 6 0)]) (h' := (N, SH v T, I, L, Dd)) rfl ?_
      refine Ev.icmp_ge (tgt := 39) dX5_trackFault_32 (by decide) (fun b3 => ?_) (fun b3 => ?_)
      · refine Ev.sg hX sX5_trackFault_39 (pc' := 40) (ls' := [some (.ref 1), some (.int c), some (.int e)]) (st' := [.int 3]) (h' := (N, SH v T, I, L, Dd)) rfl ?_
        refine Ev.iret dX5_trackFault_40 rfl ?_
        simp [trackF, bi_1.mp b1, bi_1.mp b2, Int32.not_lt.mpr b3]
      · refine Ev.sg hX sX5_trackFault_35 (pc' := 40) (ls' := [some (.ref 1), some (.int c), some (.int e)]) (st' := [.int 0]) (h' := (N, SH v T, I, L, Dd)) rfl ?_
        refine Ev.iret dX5_trackFault_40 rfl ?_
        simp [trackF, bi_1.mp b1, bi_1.mp b2, Int32.not_le.mp b3]
    · refine Ev.sg hX sX5_trackFault_21 (pc' := 22) (ls' := [some (.ref 1), some (.int c), some (.int e)]) (st' := [.int 2]) (h' := (N, SH v T, I, L, Dd)) rfl ?_
      refine Ev.iret dX5_trackFault_22 rfl ?_
      simp [trackF, bi_1.mp b1, bi_0.mp b2]
def buildI (I : Nat → Nat → Int32) (n : Nat) (c e : Int32) : Nat → Nat → Int32 := up2 (up2 (up2 I 3 n c) 5 n e) 6 0 (nI n + 1)
theorem c_build (hX : JXok X) (hd : 1 ≤ d) {n : Nat} (hn : n < 8) (hJ : I 6 0 = nI n) : MT X d 0 0 jdX5_build [.ref 1, .int c, .int e] (N, SH v T, I, L, Dd) (fun R => R = .inl (some (.int (nI n)), (N, SH v T, buildI I n c e, L, Dd))) := by
  refine MT.mk dvX5_build.1 ?_
  refine Ev.sg hX sX5_build_0 (pc' := 14) (ls' := [some (.ref 1), some (.int c), some (.int e), some (.int (I 6 0))]) (st' := [.int c, .int (I 6 0), .ref 2]) (h' := (N, SH v T, I, L, Dd)) rfl ?_
  refine Ev.callV (As := [.int (I 6 0), .int c]) (rest := []) dvX4_set mkX5_75 rfl rfl dX5_build_14 (c_Row_setE (d := d - 1) (h := (N, SH v T, I, L, Dd)) (r := 2) (a := 3) (n := 8) hX rfl rfl (by decide) hn hJ) ⟨by omega, by show 3 + 19 + 40 * _ ≤ 40 * _; omega⟩ (by decide) rfl (Nat.le_of_ble_eq_true rfl) (fun v9 h9 e9 => ?_) (fun E9 h9 e9 => nomatch e9)
  cases e9
  show Ev _ _ _ _ _ _ 17 [some (.ref 1), some (.int c), some (.int e), some (.int (I 6 0))] [] (N, SH v T, up2 I 3 n c, L, Dd)
  refine Ev.sg hX sX5_build_17 (pc' := 23) (ls' := [some (.ref 1), some (.int c), some (.int e), some (.int (I 6 0))]) (st' := [.int e, .int (I 6 0), .ref 4]) (h' := (N, SH v T, up2 I 3 n c, L, Dd)) rfl ?_
  refine Ev.callV (As := [.int (I 6 0), .int e]) (rest := []) dvX4_set mkX5_75 rfl rfl dX5_build_23 (c_Row_setE (d := d - 1) (h := (N, SH v T, up2 I 3 n c, L, Dd)) (r := 4) (a := 5) (n := 8) hX rfl rfl (by decide) hn hJ) ⟨by omega, by show 3 + 19 + 40 * _ ≤ 40 * _; omega⟩ (by decide) rfl (Nat.le_of_ble_eq_true rfl) (fun v9 h9 e9 => ?_) (fun E9 h9 e9 => nomatch e9)
  cases e9
  show Ev _ _ _ _ _ _ 26 [some (.ref 1), some (.int c), some (.int e), some (.int (I 6 0))] [] (N, SH v T, up2 (up2 I 3 n c) 5 n e, L, Dd)
  refine Ev.sg hX sX5_build_26 (pc' := 40) (ls' := [some (.ref 1), some (.int c), some (.int e), some (.int (I 6 0))]) (st' := [.int (I 6 0)]) (h' := (N, SH v T, up2 (up2 (up2 I 3 n c) 5 n e) 6 0 (((up2 (up2 I 3 n c) 5 n e) 6 0) + 1), L, Dd)) rfl ?_
  refine Ev.iret dX5_build_40 rfl ?_
  simp [buildI, rd2, hJ]
def switchF (I : Nat → Nat → Int32) (a b : Int32) : Int32 := if ¬ (hasT I a ∧ hasT I b) then 1 else if a = b then 2 else if I 8 (a.toNatClampNeg * 8 + b.toNatClampNeg) = 1 then 3 else 0
def cutF (I : Nat → Nat → Int32) (a b : Int32) : Int32 := if ¬ (hasT I a ∧ hasT I b) then 1 else if I 8 (a.toNatClampNeg * 8 + b.toNatClampNeg) = 1 then 0 else 3
theorem c_switchFault (hX : JXok X) (hd : 2 ≤ d) {sz : Nat} (hsz : sz ≤ 8) (hJ : I 6 0 = nI sz) : MT X d 0 0 jdX5_switchFault [.ref 1, .int a, .int b] (N, SH v T, I, L, Dd) (fun R => R = .inl (some (.int (switchF I a b)), (N, SH v T, I, L, Dd))) := by
  refine MT.mk dvX5_switchFault.1 ?_
  refine Ev.sg hX sX5_switchFault_0 (pc' := 2) (ls' := [some (.ref 1), some (.int a), some (.int b)]) (st' := [.int a, .ref 1]) (h' := (N, SH v T, I, L, Dd)) rfl ?_
  refine Ev.callV (As := [.int a]) (rest := []) dvX5_hasTrack mkX5_79 rfl rfl dX5_switchFault_2 (c_hasTrack (d := d - 1) (I := I) hX (Nat.zero_le _)) ⟨by omega, by show 2 + 19 + 40 * _ ≤ 40 * _; omega⟩ (by decide) rfl (Nat.le_of_ble_eq_true rfl) (fun v9 h9 e9 => ?_) (fun E9 h9 e9 => nomatch e9)
  cases e9
  show Ev _ _ _ _ _ _ 5 [some (.ref 1), some (.int a), some (.int b)] [.int (bi (hasT I a))] (N, SH v T, I, L, Dd)
  refine Ev.if_eq (tgt := 16) dX5_switchFault_5 (by decide) (fun b1 => ?_) (fun b1 => ?_)
  · refine Ev.sg hX sX5_switchFault_16 (pc' := 17) (ls' := [some (.ref 1), some (.int a), some (.int b)]) (st' := [.int 1]) (h' := (N, SH v T, I, L, Dd)) rfl ?_
    refine Ev.iret dX5_switchFault_17 rfl ?_
    simp [switchF, bi_0.mp b1]
  · refine Ev.sg hX sX5_switchFault_8 (pc' := 10) (ls' := [some (.ref 1), some (.int a), some (.int b)]) (st' := [.int b, .ref 1]) (h' := (N, SH v T, I, L, Dd)) rfl ?_
    refine Ev.callV (As := [.int b]) (rest := []) dvX5_hasTrack mkX5_79 rfl rfl dX5_switchFault_10 (c_hasTrack (d := d - 1) (I := I) hX (Nat.zero_le _)) ⟨by omega, by show 2 + 19 + 40 * _ ≤ 40 * _; omega⟩ (by decide) rfl (Nat.le_of_ble_eq_true rfl) (fun v9 h9 e9 => ?_) (fun E9 h9 e9 => nomatch e9)
    cases e9
    show Ev _ _ _ _ _ _ 13 [some (.ref 1), some (.int a), some (.int b)] [.int (bi (hasT I b))] (N, SH v T, I, L, Dd)
    refine Ev.if_ne (tgt := 18) dX5_switchFault_13 (by decide) (fun b2 => ?_) (fun b2 => ?_)
    · obtain ⟨f9, hf9, rfl⟩ := hasT_nI hsz hJ (bi_1.mp b1)
      obtain ⟨t9, ht9, rfl⟩ := hasT_nI hsz hJ (bi_1.mp b2)
      have hcf9 : (nI f9).toNatClampNeg = f9 := nI_clamp (by omega)
      have hct9 : (nI t9).toNatClampNeg = t9 := nI_clamp (by omega)
      have htf9 := bi_1.mp b1
      have htt9 := bi_1.mp b2
      refine Ev.sg hX sX5_switchFault_18 (pc' := 20) (ls' := [some (.ref 1), some (.int (nI f9)), some (.int (nI t9))]) (st' := [.int (nI t9), .int (nI f9)]) (h' := (N, SH v T, I, L, Dd)) rfl ?_
      refine Ev.icmp_ne (tgt := 25) dX5_switchFault_20 (by decide) (fun b3 => ?_) (fun b3 => ?_)
      · refine Ev.sg hX sX5_switchFault_25 (pc' := 31) (ls' := [some (.ref 1), some (.int (nI f9)), some (.int (nI t9))]) (st' := [.int (nI t9), .int (nI f9), .ref 6]) (h' := (N, SH v T, I, L, Dd)) rfl ?_
        refine Ev.callV (As := [.int (nI f9), .int (nI t9)]) (rest := []) dvX2_areJoined mkX5_83 rfl rfl dX5_switchFault_31 (c_areJoinedN (d := d - 1) (I := I) hX (by omega) (by omega) (by omega)) ⟨by omega, by show 3 + 19 + 40 * _ ≤ 40 * _; omega⟩ (by decide) rfl (Nat.le_of_ble_eq_true rfl) (fun v9 h9 e9 => ?_) (fun E9 h9 e9 => nomatch e9)
        cases e9
        show Ev _ _ _ _ _ _ 34 [some (.ref 1), some (.int (nI f9)), some (.int (nI t9))] [.int (bi (I 8 (f9 * 8 + t9) = 1))] (N, SH v T, I, L, Dd)
        refine Ev.if_eq (tgt := 41) dX5_switchFault_34 (by decide) (fun b4 => ?_) (fun b4 => ?_)
        · refine Ev.sg hX sX5_switchFault_41 (pc' := 42) (ls' := [some (.ref 1), some (.int (nI f9)), some (.int (nI t9))]) (st' := [.int 0]) (h' := (N, SH v T, I, L, Dd)) rfl ?_
          refine Ev.iret dX5_switchFault_42 rfl ?_
          simp [switchF, bi_1.mp b1, bi_1.mp b2, b3, bi_0.mp b4, hcf9, hct9, htf9, htt9]
        · refine Ev.sg hX sX5_switchFault_37 (pc' := 42) (ls' := [some (.ref 1), some (.int (nI f9)), some (.int (nI t9))]) (st' := [.int 3]) (h' := (N, SH v T, I, L, Dd)) rfl ?_
          refine Ev.iret dX5_switchFault_42 rfl ?_
          simp [switchF, bi_1.mp b1, bi_1.mp b2, b3, bi_1.mp b4, hcf9, hct9, htf9, htt9]
      · refine Ev.sg hX sX5_switchFault_23 (pc' := 24) (ls' := [some (.ref 1), some (.int (nI f9)), some (.int (nI t9))]) (st' := [.int 2]) (h' := (N, SH v T, I, L, Dd)) rfl ?_
        refine Ev.iret dX5_switchFault_24 rfl ?_
        simp [switchF, bi_1.mp b1, bi_1.mp b2, b3, hcf9, hct9, htf9, htt9]
    · refine Ev.sg hX sX5_switchFault_16 (pc' := 17) (ls' := [some (.ref 1), some (.int a), some (.int b)]) (st' := [.int 1]) (h' := (N, SH v T, I, L, Dd)) rfl ?_
      refine Ev.iret dX5_switchFault_17 rfl ?_
      simp [switchF, bi_1.mp b1, bi_0.mp b2]
theorem c_cutFault (hX : JXok X) (hd : 2 ≤ d) {sz : Nat} (hsz : sz ≤ 8) (hJ : I 6 0 = nI sz) : MT X d 0 0 jdX5_cutFault [.ref 1, .int a, .int b] (N, SH v T, I, L, Dd) (fun R => R = .inl (some (.int (cutF I a b)), (N, SH v T, I, L, Dd))) := by
  refine MT.mk dvX5_cutFault.1 ?_
  refine Ev.sg hX sX5_cutFault_0 (pc' := 2) (ls' := [some (.ref 1), some (.int a), some (.int b)]) (st' := [.int a, .ref 1]) (h' := (N, SH v T, I, L, Dd)) rfl ?_
  refine Ev.callV (As := [.int a]) (rest := []) dvX5_hasTrack mkX5_79 rfl rfl dX5_cutFault_2 (c_hasTrack (d := d - 1) (I := I) hX (Nat.zero_le _)) ⟨by omega, by show 2 + 19 + 40 * _ ≤ 40 * _; omega⟩ (by decide) rfl (Nat.le_of_ble_eq_true rfl) (fun v9 h9 e9 => ?_) (fun E9 h9 e9 => nomatch e9)
  cases e9
  show Ev _ _ _ _ _ _ 5 [some (.ref 1), some (.int a), some (.int b)] [.int (bi (hasT I a))] (N, SH v T, I, L, Dd)
  refine Ev.if_eq (tgt := 16) dX5_cutFault_5 (by decide) (fun b1 => ?_) (fun b1 => ?_)
  · refine Ev.sg hX sX5_cutFault_16 (pc' := 17) (ls' := [some (.ref 1), some (.int a), some (.int b)]) (st' := [.int 1]) (h' := (N, SH v T, I, L, Dd)) rfl ?_
    refine Ev.iret dX5_cutFault_17 rfl ?_
    simp [cutF, bi_0.mp b1]
  · refine Ev.sg hX sX5_cutFault_8 (pc' := 10) (ls' := [some (.ref 1), some (.int a), some (.int b)]) (st' := [.int b, .ref 1]) (h' := (N, SH v T, I, L, Dd)) rfl ?_
    refine Ev.callV (As := [.int b]) (rest := []) dvX5_hasTrack mkX5_79 rfl rfl dX5_cutFault_10 (c_hasTrack (d := d - 1) (I := I) hX (Nat.zero_le _)) ⟨by omega, by show 2 + 19 + 40 * _ ≤ 40 * _; omega⟩ (by decide) rfl (Nat.le_of_ble_eq_true rfl) (fun v9 h9 e9 => ?_) (fun E9 h9 e9 => nomatch e9)
    cases e9
    show Ev _ _ _ _ _ _ 13 [some (.ref 1), some (.int a), some (.int b)] [.int (bi (hasT I b))] (N, SH v T, I, L, Dd)
    refine Ev.if_ne (tgt := 18) dX5_cutFault_13 (by decide) (fun b2 => ?_) (fun b2 => ?_)
    · obtain ⟨f9, hf9, rfl⟩ := hasT_nI hsz hJ (bi_1.mp b1)
      obtain ⟨t9, ht9, rfl⟩ := hasT_nI hsz hJ (bi_1.mp b2)
      have hcf9 : (nI f9).toNatClampNeg = f9 := nI_clamp (by omega)
      have hct9 : (nI t9).toNatClampNeg = t9 := nI_clamp (by omega)
      have htf9 := bi_1.mp b1
      have htt9 := bi_1.mp b2
      refine Ev.sg hX sX5_cutFault_18 (pc' := 24) (ls' := [some (.ref 1), some (.int (nI f9)), some (.int (nI t9))]) (st' := [.int (nI t9), .int (nI f9), .ref 6]) (h' := (N, SH v T, I, L, Dd)) rfl ?_
      refine Ev.callV (As := [.int (nI f9), .int (nI t9)]) (rest := []) dvX2_areJoined mkX5_83 rfl rfl dX5_cutFault_24 (c_areJoinedN (d := d - 1) (I := I) hX (by omega) (by omega) (by omega)) ⟨by omega, by show 3 + 19 + 40 * _ ≤ 40 * _; omega⟩ (by decide) rfl (Nat.le_of_ble_eq_true rfl) (fun v9 h9 e9 => ?_) (fun E9 h9 e9 => nomatch e9)
      cases e9
      show Ev _ _ _ _ _ _ 27 [some (.ref 1), some (.int (nI f9)), some (.int (nI t9))] [.int (bi (I 8 (f9 * 8 + t9) = 1))] (N, SH v T, I, L, Dd)
      refine Ev.if_eq (tgt := 34) dX5_cutFault_27 (by decide) (fun b3 => ?_) (fun b3 => ?_)
      · refine Ev.sg hX sX5_cutFault_34 (pc' := 35) (ls' := [some (.ref 1), some (.int (nI f9)), some (.int (nI t9))]) (st' := [.int 3]) (h' := (N, SH v T, I, L, Dd)) rfl ?_
        refine Ev.iret dX5_cutFault_35 rfl ?_
        simp [cutF, bi_1.mp b1, bi_1.mp b2, bi_0.mp b3, hcf9, hct9, htf9, htt9]
      · refine Ev.sg hX sX5_cutFault_30 (pc' := 35) (ls' := [some (.ref 1), some (.int (nI f9)), some (.int (nI t9))]) (st' := [.int 0]) (h' := (N, SH v T, I, L, Dd)) rfl ?_
        refine Ev.iret dX5_cutFault_35 rfl ?_
        simp [cutF, bi_1.mp b1, bi_1.mp b2, bi_1.mp b3, hcf9, hct9, htf9, htt9]
    · refine Ev.sg hX sX5_cutFault_16 (pc' := 17) (ls' := [some (.ref 1), some (.int a), some (.int b)]) (st' := [.int 1]) (h' := (N, SH v T, I, L, Dd)) rfl ?_
      refine Ev.iret dX5_cutFault_17 rfl ?_
      simp [cutF, bi_1.mp b1, bi_0.mp b2]
def carF (I : Nat → Nat → Int32) (t le we de : Int32) : Int32 := if ¬ hasT I t then 1 else if ¬ (5 ≤ le ∧ le ≤ 30) ∨ ¬ (10 ≤ we ∧ we ≤ 90) ∨ ¬ (0 ≤ de ∧ de ≤ 9) then 2 else if ¬ I 15 0 < 20 then 3 else if I 3 t.toNatClampNeg - I 33 t.toNatClampNeg < le then 5 else 0
theorem c_carFault (hX : JXok X) (hd : 2 ≤ d) {sz : Nat} (hsz : sz ≤ 8) (hJ : I 6 0 = nI sz) : MT X d 0 0 jdX5_carFault [.ref 1, .int t, .int a, .int b, .int c] (N, SH v T, I, L, Dd) (fun R => R = .inl (some (.int (carF I t a b c)), (N, SH v T, I, L, Dd))) := by
  refine MT.mk dvX5_carFault.1 ?_
  refine Ev.sg hX sX5_carFault_0 (pc' := 2) (ls' := [some (.ref 1), some (.int t), some (.int a), some (.int b), some (.int c)]) (st' := [.int t, .ref 1]) (h' := (N, SH v T, I, L, Dd)) rfl ?_
  refine Ev.callV (As := [.int t]) (rest := []) dvX5_hasTrack mkX5_79 rfl rfl dX5_carFault_2 (c_hasTrack (d := d - 1) (I := I) hX (Nat.zero_le _)) ⟨by omega, by show 2 + 19 + 40 * _ ≤ 40 * _; omega⟩ (by decide) rfl (Nat.le_of_ble_eq_true rfl) (fun v9 h9 e9 => ?_) (fun E9 h9 e9 => nomatch e9)
  cases e9
  show Ev _ _ _ _ _ _ 5 [some (.ref 1), some (.int t), some (.int a), some (.int b), some (.int c)] [.int (bi (hasT I t))] (N, SH v T, I, L, Dd)
  refine Ev.if_ne (tgt := 10) dX5_carFault_5 (by decide) (fun b1 => ?_) (fun b1 => ?_)
  · obtain ⟨f9, hf9, rfl⟩ := hasT_nI hsz hJ (bi_1.mp b1)
    have hcf9 : (nI f9).toNatClampNeg = f9 := nI_clamp (by omega)
    have htf9 := bi_1.mp b1
    refine Ev.sg hX sX5_carFault_10 (pc' := 14) (ls' := [some (.ref 1), some (.int (nI f9)), some (.int a), some (.int b), some (.int c)]) (st' := [.int 30, .int 5, .int a]) (h' := (N, SH v T, I, L, Dd)) rfl ?_
    refine Ev.callSN (As := [.int a, .int 5, .int 30]) (rest := []) (host := "ClassificationYard") dsX6_isWithin (by decide +kernel) dX5_carFault_14 (c_isWithin (d := d - 1) hX) ⟨by omega, by show 3 + 19 + 40 * _ ≤ 40 * _; omega⟩ (by decide) rfl (Nat.le_of_ble_eq_true rfl) (fun v9 h9 e9 => ?_) (fun E9 h9 e9 => nomatch e9)
    cases e9
    show Ev _ _ _ _ _ _ 17 [some (.ref 1), some (.int (nI f9)), some (.int a), some (.int b), some (.int c)] [.int (bi (5 ≤ a ∧ a ≤ 30))] (N, SH v T, I, L, Dd)
    refine Ev.if_eq (tgt := 42) dX5_carFault_17 (by decide) (fun b2 => ?_) (fun b2 => ?_)
    · refine Ev.sg hX sX5_carFault_42 (pc' := 43) (ls' := [some (.ref 1), some (.int (nI f9)), some (.int a), some (.int b), some (.int c)]) (st' := [.int 2]) (h' := (N, SH v T, I, L, Dd)) rfl ?_
      refine Ev.iret dX5_carFault_43 rfl ?_
      simp [carF, bi_1.mp b1, bi_0.mp b2, hcf9]
    · refine Ev.sg hX sX5_carFault_20 (pc' := 25) (ls' := [some (.ref 1), some (.int (nI f9)), some (.int a), some (.int b), some (.int c)]) (st' := [.int 90, .int 10, .int b]) (h' := (N, SH v T, I, L, Dd)) rfl ?_
      refine Ev.callSN (As := [.int b, .int 10, .int 90]) (rest := []) (host := "ClassificationYard") dsX6_isWithin (by decide +kernel) dX5_carFault_25 (c_isWithin (d := d - 1) hX) ⟨by omega, by show 3 + 19 + 40 * _ ≤ 40 * _; omega⟩ (by decide) rfl (Nat.le_of_ble_eq_true rfl) (fun v9 h9 e9 => ?_) (fun E9 h9 e9 => nomatch e9)
      cases e9
      show Ev _ _ _ _ _ _ 28 [some (.ref 1), some (.int (nI f9)), some (.int a), some (.int b), some (.int c)] [.int (bi (10 ≤ b ∧ b ≤ 90))] (N, SH v T, I, L, Dd)
      refine Ev.if_eq (tgt := 42) dX5_carFault_28 (by decide) (fun b3 => ?_) (fun b3 => ?_)
      · refine Ev.sg hX sX5_carFault_42 (pc' := 43) (ls' := [some (.ref 1), some (.int (nI f9)), some (.int a), some (.int b), some (.int c)]) (st' := [.int 2]) (h' := (N, SH v T, I, L, Dd)) rfl ?_
        refine Ev.iret dX5_carFault_43 rfl ?_
        simp [carF, bi_1.mp b1, bi_1.mp b2, bi_0.mp b3, hcf9]
      · refine Ev.sg hX sX5_carFault_31 (pc' := 36) (ls' := [some (.ref 1), some (.int (nI f9)), some (.int a), some (.int b), some (.int c)]) (st' := [.int 9, .int 0, .int c]) (h' := (N, SH v T, I, L, Dd)) rfl ?_
        refine Ev.callSN (As := [.int c, .int 0, .int 9]) (rest := []) (host := "ClassificationYard") dsX6_isWithin (by decide +kernel) dX5_carFault_36 (c_isWithin (d := d - 1) hX) ⟨by omega, by show 3 + 19 + 40 * _ ≤ 40 * _; omega⟩ (by decide) rfl (Nat.le_of_ble_eq_true rfl) (fun v9 h9 e9 => ?_) (fun E9 h9 e9 => nomatch e9)
        cases e9
        show Ev _ _ _ _ _ _ 39 [some (.ref 1), some (.int (nI f9)), some (.int a), some (.int b), some (.int c)] [.int (bi (0 ≤ c ∧ c ≤ 9))] (N, SH v T, I, L, Dd)
        refine Ev.if_ne (tgt := 44) dX5_carFault_39 (by decide) (fun b4 => ?_) (fun b4 => ?_)
        · refine Ev.sg hX sX5_carFault_44 (pc' := 53) (ls' := [some (.ref 1), some (.int (nI f9)), some (.int a), some (.int b), some (.int c)]) (st' := [.int 20, .int (I 15 0)]) (h' := (N, SH v T, I, L, Dd)) rfl ?_
          refine Ev.icmp_lt (tgt := 58) dX5_carFault_53 (by decide) (fun b5 => ?_) (fun b5 => ?_)
          · refine Ev.sg hX sX5_carFault_58 (pc' := 60) (ls' := [some (.ref 1), some (.int (nI f9)), some (.int a), some (.int b), some (.int c)]) (st' := [.int (nI f9), .ref 1]) (h' := (N, SH v T, I, L, Dd)) rfl ?_
            refine Ev.callV (As := [.int (nI f9)]) (rest := []) dvX5_free mkX5_90 rfl rfl dX5_carFault_60 (c_free (d := d - 1) (I := I) hX (by omega) (by omega)) ⟨by omega, by show 2 + 19 + 40 * _ ≤ 40 * _; omega⟩ (by decide) rfl (Nat.le_of_ble_eq_true rfl) (fun v9 h9 e9 => ?_) (fun E9 h9 e9 => nomatch e9)
            cases e9
            show Ev _ _ _ _ _ _ 63 [some (.ref 1), some (.int (nI f9)), some (.int a), some (.int b), some (.int c)] [.int (I 3 f9 - I 33 f9)] (N, SH v T, I, L, Dd)
            refine Ev.sg hX sX5_carFault_63 (pc' := 64) (ls' := [some (.ref 1), some (.int (nI f9)), some (.int a), some (.int b), some (.int c)]) (st' := [.int a, .int (I 3 f9 - I 33 f9)]) (h' := (N, SH v T, I, L, Dd)) rfl ?_
            refine Ev.icmp_ge (tgt := 71) dX5_carFault_64 (by decide) (fun b6 => ?_) (fun b6 => ?_)
            · refine Ev.sg hX sX5_carFault_71 (pc' := 72) (ls' := [some (.ref 1), some (.int (nI f9)), some (.int a), some (.int b), some (.int c)]) (st' := [.int 0]) (h' := (N, SH v T, I, L, Dd)) rfl ?_
              refine Ev.iret dX5_carFault_72 rfl ?_
              simp [carF, bi_1.mp b1, bi_1.mp b2, bi_1.mp b3, bi_1.mp b4, b5, Int32.not_lt.mpr b6, hcf9]
            · refine Ev.sg hX sX5_carFault_67 (pc' := 72) (ls' := [some (.ref 1), some (.int (nI f9)), some (.int a), some (.int b), some (.int c)]) (st' := [.int 5]) (h' := (N, SH v T, I, L, Dd)) rfl ?_
              refine Ev.iret dX5_carFault_72 rfl ?_
              simp [carF, bi_1.mp b1, bi_1.mp b2, bi_1.mp b3, bi_1.mp b4, b5, Int32.not_le.mp b6, hcf9]
          · refine Ev.sg hX sX5_carFault_56 (pc' := 57) (ls' := [some (.ref 1), some (.int (nI f9)), some (.int a), some (.int b), some (.int c)]) (st' := [.int 3]) (h' := (N, SH v T, I, L, Dd)) rfl ?_
            refine Ev.iret dX5_carFault_57 rfl ?_
            simp [carF, bi_1.mp b1, bi_1.mp b2, bi_1.mp b3, bi_1.mp b4, b5, hcf9]
        · refine Ev.sg hX sX5_carFault_42 (pc' := 43) (ls' := [some (.ref 1), some (.int (nI f9)), some (.int a), some (.int b), some (.int c)]) (st' := [.int 2]) (h' := (N, SH v T, I, L, Dd)) rfl ?_
          refine Ev.iret dX5_carFault_43 rfl ?_
          simp [carF, bi_1.mp b1, bi_1.mp b2, bi_1.mp b3, bi_0.mp b4, hcf9]
  · refine Ev.sg hX sX5_carFault_8 (pc' := 9) (ls' := [some (.ref 1), some (.int t), some (.int a), some (.int b), some (.int c)]) (st' := [.int 1]) (h' := (N, SH v T, I, L, Dd)) rfl ?_
    refine Ev.iret dX5_carFault_9 rfl ?_
    simp [carF, bi_0.mp b1]
def moveF (I : Nat → Nat → Int32) (sz : Nat) (f t n : Int32) : Int32 × (Nat → Nat → Int32) :=
  if ¬ (hasT I f ∧ hasT I t) then (1, I) else if f = t ∨ ¬ (1 ≤ n ∧ n ≤ 9) then (2, I) else if I 31 f.toNatClampNeg < n then (3, I) else
  if stepsF I sz f.toNatClampNeg t.toNatClampNeg = 1000 then (4, bfsI I sz t.toNatClampNeg) else
  (if bfsI I sz t.toNatClampNeg 3 t.toNatClampNeg - bfsI I sz t.toNatClampNeg 33 t.toNatClampNeg < lengthOfLast (bfsI I sz t.toNatClampNeg) f n then 5 else 0, bfsI I sz t.toNatClampNeg)
theorem c_moveFault (hX : JXok X) (hd : 3 ≤ d) {sz : Nat} (hsz : sz ≤ 8) (hJ : I 6 0 = nI sz) : MT X d 0 0 jdX5_moveFault [.ref 1, .int a, .int b, .int c] (N, SH v T, I, L, Dd) (fun R => R = .inl (some (.int ((moveF I sz a b c).1)), (N, SH v T, (moveF I sz a b c).2, L, Dd))) := by
  refine MT.mk dvX5_moveFault.1 ?_
  refine Ev.sg hX sX5_moveFault_0 (pc' := 2) (ls' := [some (.ref 1), some (.int a), some (.int b), some (.int c)]) (st' := [.int a, .ref 1]) (h' := (N, SH v T, I, L, Dd)) rfl ?_
  refine Ev.callV (As := [.int a]) (rest := []) dvX5_hasTrack mkX5_79 rfl rfl dX5_moveFault_2 (c_hasTrack (d := d - 1) (I := I) hX (Nat.zero_le _)) ⟨by omega, by show 2 + 19 + 40 * _ ≤ 40 * _; omega⟩ (by decide) rfl (Nat.le_of_ble_eq_true rfl) (fun v9 h9 e9 => ?_) (fun E9 h9 e9 => nomatch e9)
  cases e9
  show Ev _ _ _ _ _ _ 5 [some (.ref 1), some (.int a), some (.int b), some (.int c)] [.int (bi (hasT I a))] (N, SH v T, I, L, Dd)
  refine Ev.if_eq (tgt := 16) dX5_moveFault_5 (by decide) (fun b1 => ?_) (fun b1 => ?_)
  · refine Ev.sg hX sX5_moveFault_16 (pc' := 17) (ls' := [some (.ref 1), some (.int a), some (.int b), some (.int c)]) (st' := [.int 1]) (h' := (N, SH v T, I, L, Dd)) rfl ?_
    refine Ev.iret dX5_moveFault_17 rfl ?_
    simp [moveF, bi_0.mp b1]
  · refine Ev.sg hX sX5_moveFault_8 (pc' := 10) (ls' := [some (.ref 1), some (.int a), some (.int b), some (.int c)]) (st' := [.int b, .ref 1]) (h' := (N, SH v T, I, L, Dd)) rfl ?_
    refine Ev.callV (As := [.int b]) (rest := []) dvX5_hasTrack mkX5_79 rfl rfl dX5_moveFault_10 (c_hasTrack (d := d - 1) (I := I) hX (Nat.zero_le _)) ⟨by omega, by show 2 + 19 + 40 * _ ≤ 40 * _; omega⟩ (by decide) rfl (Nat.le_of_ble_eq_true rfl) (fun v9 h9 e9 => ?_) (fun E9 h9 e9 => nomatch e9)
    cases e9
    show Ev _ _ _ _ _ _ 13 [some (.ref 1), some (.int a), some (.int b), some (.int c)] [.int (bi (hasT I b))] (N, SH v T, I, L, Dd)
    refine Ev.if_ne (tgt := 18) dX5_moveFault_13 (by decide) (fun b2 => ?_) (fun b2 => ?_)
    · obtain ⟨f9, hf9, rfl⟩ := hasT_nI hsz hJ (bi_1.mp b1)
      obtain ⟨t9, ht9, rfl⟩ := hasT_nI hsz hJ (bi_1.mp b2)
      have hcf9 : (nI f9).toNatClampNeg = f9 := nI_clamp (by omega)
      have hct9 : (nI t9).toNatClampNeg = t9 := nI_clamp (by omega)
      have htf9 := bi_1.mp b1
      have htt9 := bi_1.mp b2
      refine Ev.sg hX sX5_moveFault_18 (pc' := 20) (ls' := [some (.ref 1), some (.int (nI f9)), some (.int (nI t9)), some (.int c)]) (st' := [.int (nI t9), .int (nI f9)]) (h' := (N, SH v T, I, L, Dd)) rfl ?_
      refine Ev.icmp_eq (tgt := 33) dX5_moveFault_20 (by decide) (fun b3 => ?_) (fun b3 => ?_)
      · refine Ev.sg hX sX5_moveFault_33 (pc' := 34) (ls' := [some (.ref 1), some (.int (nI f9)), some (.int (nI t9)), some (.int c)]) (st' := [.int 2]) (h' := (N, SH v T, I, L, Dd)) rfl ?_
        refine Ev.iret dX5_moveFault_34 rfl ?_
        simp [moveF, bi_1.mp b1, bi_1.mp b2, b3, hcf9, hct9, htf9, htt9]
      · refine Ev.sg hX sX5_moveFault_23 (pc' := 27) (ls' := [some (.ref 1), some (.int (nI f9)), some (.int (nI t9)), some (.int c)]) (st' := [.int 9, .int 1, .int c]) (h' := (N, SH v T, I, L, Dd)) rfl ?_
        refine Ev.callSN (As := [.int c, .int 1, .int 9]) (rest := []) (host := "ClassificationYard") dsX6_isWithin (by decide +kernel) dX5_moveFault_27 (c_isWithin (d := d - 1) hX) ⟨by omega, by show 3 + 19 + 40 * _ ≤ 40 * _; omega⟩ (by decide) rfl (Nat.le_of_ble_eq_true rfl) (fun v9 h9 e9 => ?_) (fun E9 h9 e9 => nomatch e9)
        cases e9
        show Ev _ _ _ _ _ _ 30 [some (.ref 1), some (.int (nI f9)), some (.int (nI t9)), some (.int c)] [.int (bi (1 ≤ c ∧ c ≤ 9))] (N, SH v T, I, L, Dd)
        refine Ev.if_ne (tgt := 35) dX5_moveFault_30 (by decide) (fun b4 => ?_) (fun b4 => ?_)
        · refine Ev.sg hX sX5_moveFault_35 (pc' := 43) (ls' := [some (.ref 1), some (.int (nI f9)), some (.int (nI t9)), some (.int c)]) (st' := [.int (nI f9), .ref 30]) (h' := (N, SH v T, I, L, Dd)) rfl ?_
          refine Ev.callV (As := [.int (nI f9)]) (rest := []) dvX4_get mkX5_64 rfl rfl dX5_moveFault_43 (c_Row_getN (d := d - 1) (h := (N, SH v T, I, L, Dd)) (r := 30) (a := 31) (n := 8) hX rfl rfl (by decide) (by omega)) ⟨by omega, by show 2 + 19 + 40 * _ ≤ 40 * _; omega⟩ (by decide) rfl (Nat.le_of_ble_eq_true rfl) (fun v9 h9 e9 => ?_) (fun E9 h9 e9 => nomatch e9)
          cases e9
          show Ev _ _ _ _ _ _ 46 [some (.ref 1), some (.int (nI f9)), some (.int (nI t9)), some (.int c)] [.int (I 31 f9)] (N, SH v T, I, L, Dd)
          refine Ev.sg hX sX5_moveFault_46 (pc' := 47) (ls' := [some (.ref 1), some (.int (nI f9)), some (.int (nI t9)), some (.int c)]) (st' := [.int c, .int (I 31 f9)]) (h' := (N, SH v T, I, L, Dd)) rfl ?_
          refine Ev.icmp_ge (tgt := 52) dX5_moveFault_47 (by decide) (fun b5 => ?_) (fun b5 => ?_)
          · refine Ev.sg hX sX5_moveFault_52 (pc' := 58) (ls' := [some (.ref 1), some (.int (nI f9)), some (.int (nI t9)), some (.int c)]) (st' := [.int (nI t9), .int (nI f9), .ref 6]) (h' := (N, SH v T, I, L, Dd)) rfl ?_
            refine Ev.callV (As := [.int (nI f9), .int (nI t9)]) (rest := []) dvX2_stepsBySearch mkX5_96 rfl rfl dX5_moveFault_58 (c_steps (d := d - 1) (I := I) hX (by omega) (by omega) (by omega) hsz hJ) ⟨by omega, by show 3 + 19 + 40 * _ ≤ 40 * _; omega⟩ (by decide) rfl (Nat.le_of_ble_eq_true rfl) (fun v9 h9 e9 => ?_) (fun E9 h9 e9 => nomatch e9)
            cases e9
            show Ev _ _ _ _ _ _ 61 [some (.ref 1), some (.int (nI f9)), some (.int (nI t9)), some (.int c)] [.int (stepsF I sz f9 t9)] (N, SH v T, bfsI I sz t9, L, Dd)
            refine Ev.sg hX sX5_moveFault_61 (pc' := 64) (ls' := [some (.ref 1), some (.int (nI f9)), some (.int (nI t9)), some (.int c)]) (st' := [.int 1000, .int (stepsF I sz f9 t9)]) (h' := (N, SH v T, bfsI I sz t9, L, Dd)) rfl ?_
            refine Ev.icmp_ne (tgt := 69) dX5_moveFault_64 (by decide) (fun b6 => ?_) (fun b6 => ?_)
            · refine Ev.sg hX sX5_moveFault_69 (pc' := 71) (ls' := [some (.ref 1), some (.int (nI f9)), some (.int (nI t9)), some (.int c)]) (st' := [.int (nI t9), .ref 1]) (h' := (N, SH v T, bfsI I sz t9, L, Dd)) rfl ?_
              refine Ev.callV (As := [.int (nI t9)]) (rest := []) dvX5_free mkX5_90 rfl rfl dX5_moveFault_71 (c_free (d := d - 1) (I := (bfsI I sz t9)) hX (by omega) (by omega)) ⟨by omega, by show 2 + 19 + 40 * _ ≤ 40 * _; omega⟩ (by decide) rfl (Nat.le_of_ble_eq_true rfl) (fun v9 h9 e9 => ?_) (fun E9 h9 e9 => nomatch e9)
              cases e9
              show Ev _ _ _ _ _ _ 74 [some (.ref 1), some (.int (nI f9)), some (.int (nI t9)), some (.int c)] [.int ((bfsI I sz t9) 3 t9 - (bfsI I sz t9) 33 t9)] (N, SH v T, bfsI I sz t9, L, Dd)
              refine Ev.sg hX sX5_moveFault_74 (pc' := 80) (ls' := [some (.ref 1), some (.int (nI f9)), some (.int (nI t9)), some (.int c)]) (st' := [.int c, .int (nI f9), .ref 15, .int ((bfsI I sz t9) 3 t9 - (bfsI I sz t9) 33 t9)]) (h' := (N, SH v T, bfsI I sz t9, L, Dd)) rfl ?_
              refine Ev.callV (As := [.int (nI f9), .int c]) (rest := [.int ((bfsI I sz t9) 3 t9 - (bfsI I sz t9) 33 t9)]) dvX0_lengthOfLast mkX5_100 rfl rfl dX5_moveFault_80 (c_lengthOfLast (d := d - 1) (I := (bfsI I sz t9)) hX (by omega)) ⟨by omega, by show 5 + 19 + 40 * _ ≤ 40 * _; omega⟩ (by decide) rfl (Nat.le_of_ble_eq_true rfl) (fun v9 h9 e9 => ?_) (fun E9 h9 e9 => nomatch e9)
              cases e9
              show Ev _ _ _ _ _ _ 83 [some (.ref 1), some (.int (nI f9)), some (.int (nI t9)), some (.int c)] [.int (lengthOfLast (bfsI I sz t9) (nI f9) c), .int ((bfsI I sz t9) 3 t9 - (bfsI I sz t9) 33 t9)] (N, SH v T, bfsI I sz t9, L, Dd)
              refine Ev.icmp_ge (tgt := 90) dX5_moveFault_83 (by decide) (fun b7 => ?_) (fun b7 => ?_)
              · refine Ev.sg hX sX5_moveFault_90 (pc' := 91) (ls' := [some (.ref 1), some (.int (nI f9)), some (.int (nI t9)), some (.int c)]) (st' := [.int 0]) (h' := (N, SH v T, bfsI I sz t9, L, Dd)) rfl ?_
                refine Ev.iret dX5_moveFault_91 rfl ?_
                simp [moveF, bi_1.mp b1, bi_1.mp b2, b3, bi_1.mp b4, Int32.not_lt.mpr b5, b6, Int32.not_lt.mpr b7, hcf9, hct9, htf9, htt9]
              · refine Ev.sg hX sX5_moveFault_86 (pc' := 91) (ls' := [some (.ref 1), some (.int (nI f9)), some (.int (nI t9)), some (.int c)]) (st' := [.int 5]) (h' := (N, SH v T, bfsI I sz t9, L, Dd)) rfl ?_
                refine Ev.iret dX5_moveFault_91 rfl ?_
                simp [moveF, bi_1.mp b1, bi_1.mp b2, b3, bi_1.mp b4, Int32.not_lt.mpr b5, b6, Int32.not_le.mp b7, hcf9, hct9, htf9, htt9]
            · refine Ev.sg hX sX5_moveFault_67 (pc' := 68) (ls' := [some (.ref 1), some (.int (nI f9)), some (.int (nI t9)), some (.int c)]) (st' := [.int 4]) (h' := (N, SH v T, bfsI I sz t9, L, Dd)) rfl ?_
              refine Ev.iret dX5_moveFault_68 rfl ?_
              simp [moveF, bi_1.mp b1, bi_1.mp b2, b3, bi_1.mp b4, Int32.not_lt.mpr b5, b6, hcf9, hct9, htf9, htt9]
          · refine Ev.sg hX sX5_moveFault_50 (pc' := 51) (ls' := [some (.ref 1), some (.int (nI f9)), some (.int (nI t9)), some (.int c)]) (st' := [.int 3]) (h' := (N, SH v T, I, L, Dd)) rfl ?_
            refine Ev.iret dX5_moveFault_51 rfl ?_
            simp [moveF, bi_1.mp b1, bi_1.mp b2, b3, bi_1.mp b4, Int32.not_le.mp b5, hcf9, hct9, htf9, htt9]
        · refine Ev.sg hX sX5_moveFault_33 (pc' := 34) (ls' := [some (.ref 1), some (.int (nI f9)), some (.int (nI t9)), some (.int c)]) (st' := [.int 2]) (h' := (N, SH v T, I, L, Dd)) rfl ?_
          refine Ev.iret dX5_moveFault_34 rfl ?_
          simp [moveF, bi_1.mp b1, bi_1.mp b2, b3, bi_0.mp b4, hcf9, hct9, htf9, htt9]
    · refine Ev.sg hX sX5_moveFault_16 (pc' := 17) (ls' := [some (.ref 1), some (.int a), some (.int b), some (.int c)]) (st' := [.int 1]) (h' := (N, SH v T, I, L, Dd)) rfl ?_
      refine Ev.iret dX5_moveFault_17 rfl ?_
      simp [moveF, bi_1.mp b1, bi_0.mp b2]
def minF (I : Nat → Nat → Int32) (sz f t : Nat) (n : Int32) : Int32 := 2 + stepsF I sz f t + I 5 t * defectsOfLast I (nI f) n
theorem c_minutes (hX : JXok X) (hd : 3 ≤ d) {f t : Nat} (hf : f < 8) (ht : t < 8) {sz : Nat} (hsz : sz ≤ 8) (hJ : I 6 0 = nI sz) : MT X d 0 0 jdX5_minutesOfMove [.ref 1, .int (nI f), .int (nI t), .int c] (N, SH v T, I, L, Dd) (fun R => R = .inl (some (.int (minF I sz f t c)), (N, SH v T, bfsI I sz t, L, Dd))) := by
  refine MT.mk dvX5_minutesOfMove.1 ?_
  refine Ev.sg hX sX5_minutesOfMove_0 (pc' := 5) (ls' := [some (.ref 1), some (.int (nI f)), some (.int (nI t)), some (.int c), none]) (st' := [.int (nI t), .ref 4]) (h' := (N, SH v T, I, L, Dd)) rfl ?_
  refine Ev.callV (As := [.int (nI t)]) (rest := []) dvX4_get mkX5_64 rfl rfl dX5_minutesOfMove_5 (c_Row_getN (d := d - 1) (h := (N, SH v T, I, L, Dd)) (r := 4) (a := 5) (n := 8) hX rfl rfl (by decide) ht) ⟨by omega, by show 2 + 19 + 40 * _ ≤ 40 * _; omega⟩ (by decide) rfl (Nat.le_of_ble_eq_true rfl) (fun v9 h9 e9 => ?_) (fun E9 h9 e9 => nomatch e9)
  cases e9
  show Ev _ _ _ _ _ _ 8 [some (.ref 1), some (.int (nI f)), some (.int (nI t)), some (.int c), none] [.int (I 5 t)] (N, SH v T, I, L, Dd)
  refine Ev.sg hX sX5_minutesOfMove_8 (pc' := 14) (ls' := [some (.ref 1), some (.int (nI f)), some (.int (nI t)), some (.int c), none]) (st' := [.int c, .int (nI f), .ref 15, .int (I 5 t)]) (h' := (N, SH v T, I, L, Dd)) rfl ?_
  refine Ev.callV (As := [.int (nI f), .int c]) (rest := [.int (I 5 t)]) dvX0_defectsOfLast mkX5_103 rfl rfl dX5_minutesOfMove_14 (c_defectsOfLast (d := d - 1) (I := I) hX (by omega)) ⟨by omega, by show 5 + 19 + 40 * _ ≤ 40 * _; omega⟩ (by decide) rfl (Nat.le_of_ble_eq_true rfl) (fun v9 h9 e9 => ?_) (fun E9 h9 e9 => nomatch e9)
  cases e9
  show Ev _ _ _ _ _ _ 17 [some (.ref 1), some (.int (nI f)), some (.int (nI t)), some (.int c), none] [.int (defectsOfLast I (nI f) c), .int (I 5 t)] (N, SH v T, I, L, Dd)
  refine Ev.sg hX sX5_minutesOfMove_17 (pc' := 27) (ls' := [some (.ref 1), some (.int (nI f)), some (.int (nI t)), some (.int c), some (.int ((I 5 t) * (defectsOfLast I (nI f) c)))]) (st' := [.int (nI t), .int (nI f), .ref 6, .int 2]) (h' := (N, SH v T, I, L, Dd)) rfl ?_
  refine Ev.callV (As := [.int (nI f), .int (nI t)]) (rest := [.int 2]) dvX2_stepsBySearch mkX5_96 rfl rfl dX5_minutesOfMove_27 (c_steps (d := d - 1) (I := I) hX (by omega) hf ht hsz hJ) ⟨by omega, by show 3 + 19 + 40 * _ ≤ 40 * _; omega⟩ (by decide) rfl (Nat.le_of_ble_eq_true rfl) (fun v9 h9 e9 => ?_) (fun E9 h9 e9 => nomatch e9)
  cases e9
  show Ev _ _ _ _ _ _ 30 [some (.ref 1), some (.int (nI f)), some (.int (nI t)), some (.int c), some (.int ((I 5 t) * (defectsOfLast I (nI f) c)))] [.int (stepsF I sz f t), .int 2] (N, SH v T, bfsI I sz t, L, Dd)
  refine Ev.sg hX sX5_minutesOfMove_30 (pc' := 34) (ls' := [some (.ref 1), some (.int (nI f)), some (.int (nI t)), some (.int c), some (.int ((I 5 t) * (defectsOfLast I (nI f) c)))]) (st' := [.int ((2 + (stepsF I sz f t)) + ((I 5 t) * (defectsOfLast I (nI f) c)))]) (h' := (N, SH v T, bfsI I sz t, L, Dd)) rfl ?_
  refine Ev.iret dX5_minutesOfMove_34 rfl ?_
  rfl
end YARD
