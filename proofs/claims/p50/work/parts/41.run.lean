/-! running a program -/
def szOf (I : Nat → Nat → Int32) : Nat := (I 6 0).toNatClampNeg
abbrev HI : Type := Nat → Nat → Int32
def fltK (I : HI) (sz : Nat) (a b c e : Int32) : Nat → Int32 × HI
  | 0 => (trackF I a b, I)
  | 1 => (switchF I a b, I)
  | 2 => (cutF I a b, I)
  | 3 => (carF I a b c e, I)
  | 4 => moveF I sz a b c
  | 5 => (repairFt I a, I)
  | _ => trainFt I a b
def doK (I : HI) (L : Nat → Nat → Int64) (sz : Nat) (a b c e f : Int32) : Nat → HI × (Nat → Nat → Int64)
  | 0 => (buildI I sz a b, L)
  | 1 => (joinI I a b, L)
  | 2 => (partI I a b, L)
  | 3 => (enterI I (freeSlot I).toNatClampNeg a.toNatClampNeg b c e (if f = 1 then 1 else 0), L)
  | 4 => (moveI (bfsI I sz b.toNatClampNeg) a.toNatClampNeg b.toNatClampNeg c.toNatClampNeg, up2 L 1 4 (L 1 4 + (minF I sz a.toNatClampNeg b.toNatClampNeg c).toInt64))
  | 5 => (mendI I (slotOf I a).toNatClampNeg, L)
  | _ => (sendI (listO I a) L a.toNatClampNeg (trainF (listO I a) (I 31 a.toNatClampNeg).toNatClampNeg).toNatClampNeg, up2 L 1 7 (sendU (listO I a) L a.toNatClampNeg (trainF (listO I a) (I 31 a.toNatClampNeg).toNatClampNeg).toNatClampNeg).2)
def doOK (I : HI) (L : Nat → Nat → Int64) (sz : Nat) (a b c : Int32) : Nat → Prop
  | 0 => sz < 8
  | 1 => True
  | 2 => True
  | 3 => (∃ s, s < 20 ∧ freeSlot I = nI s) ∧ hasT I a
  | 4 => hasT I a ∧ hasT I b ∧ (1 ≤ c ∧ c ≤ 9) ∧ mvOK a.toNatClampNeg b.toNatClampNeg c.toNatClampNeg (bfsI I sz b.toNatClampNeg)
  | 5 => ∃ s, s < 20 ∧ slotOf I a = nI s
  | _ => hasT I a ∧ ∃ q, q ≤ 20 ∧ trainF (listO I a) (I 31 a.toNatClampNeg).toNatClampNeg = nI q ∧ lvOK a.toNatClampNeg q (listO I a, L 1 7)
def cV (I : HI) (j i : Nat) : Int32 := I 393 (j * 5 + i)
def fltC (I : HI) (j : Nat) : Int32 × HI := fltK I (szOf I) (cV I j 0) (cV I j 1) (cV I j 2) (cV I j 3) (I 391 j).toNatClampNeg
def doC (I : HI) (L : Nat → Nat → Int64) (j : Nat) : HI × (Nat → Nat → Int64) := doK I L (szOf I) (cV I j 0) (cV I j 1) (cV I j 2) (cV I j 3) (cV I j 4) (I 391 j).toNatClampNeg
def bOK (I : HI) (j : Nat) : Prop := szOf I ≤ 8 ∧ I 6 0 = nI (szOf I) ∧ (∀ t, t < 8 → ∃ hg, hg ≤ 20 ∧ I 31 t = nI hg) ∧ ∃ k, k < 7 ∧ I 391 j = nI k
def rOK (ct k m : Nat) : Nat → Nat → HI → (Nat → Nat → Int64) → Prop
  | 0, _, I, _ => I 388 2 = nI ct ∧ I 71 1 = nI k ∧ I 71 2 = nI m
  | n + 1, j, I, L => I 388 2 = nI ct ∧ bOK I j ∧ ((fltC I j).1 = 0 → bOK (fltC I j).2 j ∧ doOK (fltC I j).2 L (szOf (fltC I j).2) (cV (fltC I j).2 j 0) (cV (fltC I j).2 j 1) (cV (fltC I j).2 j 2) ((fltC I j).2 391 j).toNatClampNeg ∧ rOK ct k m n (j + 1) (doC (fltC I j).2 L j).1 (doC (fltC I j).2 L j).2)
def runL : Nat → Nat → HI → (Nat → Nat → Int64) → Option Nat × HI × (Nat → Nat → Int64)
  | 0, _, I, L => (none, I, L)
  | n + 1, j, I, L => if (fltC I j).1 = 0 then runL n (j + 1) (doC (fltC I j).2 L j).1 (doC (fltC I j).2 L j).2 else (some j, (fltC I j).2, L)
def rnX : Option Nat → Option String
  | some _ => some "java/lang/UnsupportedOperationException"
  | none => none
def rnI (k m : Nat) (I : HI) : Option Nat → HI
  | some j => up2 (yardCpI I 1 36) 0 6 (nI j)
  | none => remI I k m 36
def rnL (k : Nat) (L : Nat → Nat → Int64) : Option Nat → Nat → Nat → Int64
  | some _ => yardCpL L 1 36
  | none => yardCpL L (108 + 35 * k) 36
theorem PI_self {I : HI} {q p vt ct : Nat} (h5 : I 388 5 = nI p) (h6 : I 388 6 = nI vt) (h2 : I 388 2 = nI ct) (h1 : I 388 1 = nI q) : PI I q (p, vt, I 393, ct, I 391) = I := by
  funext a j
  unfold PI
  by_cases ha : a = 388
  · subst ha
    rw [if_pos rfl]
    by_cases hj5 : j = 5
    · rw [if_pos hj5, hj5, h5]
    · rw [if_neg hj5]
      by_cases hj6 : j = 6
      · rw [if_pos hj6, hj6, h6]
      · rw [if_neg hj6]
        by_cases hj2 : j = 2
        · rw [if_pos hj2, hj2, h2]
        · rw [if_neg hj2]
          by_cases hj1 : j = 1
          · rw [if_pos hj1, hj1, h1]
          · rw [if_neg hj1]
  · rw [if_neg ha]
    by_cases h3 : a = 393
    · rw [if_pos h3, h3]
    · rw [if_neg h3]
      by_cases h4 : a = 391
      · rw [if_pos h4, h4]
      · rw [if_neg h4]
section RUN
variable {X : JX} {d N v : Nat} {T : Nat → Option JS} {I : Nat → Nat → Int32} {L : Nat → Nat → Int64} {Dd : Nat → Nat → UInt64} {a b c dd e : Int32} {j sz : Nat}
theorem c_faultOf (hX : JXok X) (hd : 6 ≤ d) (hj : j < 8) {kk : Nat} (hkk : kk < 7) (hk0 : I 391 j = nI kk) {sz : Nat} (hsz : sz ≤ 8) (hJ : I 6 0 = nI sz) (hhs : ∀ t, t < 8 → ∃ hg, hg ≤ 20 ∧ I 31 t = nI hg) : MT X d 0 0 jdX6_faultOfCommand [.ref 0, .int (nI j)] (N, SH v T, I, L, Dd) (fun R => R = .inl (some (.int (fltK I sz (I 393 (j * 5 + 0)) (I 393 (j * 5 + 1)) (I 393 (j * 5 + 2)) (I 393 (j * 5 + 3)) kk).1), (N, SH v T, (fltK I sz (I 393 (j * 5 + 0)) (I 393 (j * 5 + 1)) (I 393 (j * 5 + 2)) (I 393 (j * 5 + 3)) kk).2, L, Dd))) := by
  refine MT.mk dvX6_faultOfCommand.1 ?_
  refine Ev.sg hX sX6_faultOfCommand_0 (pc' := 6) (ls' := [some (.ref 0), some (.int (nI j)), none, none, none]) (st' := [.int 0, .int (nI j), .ref 388]) (h' := (N, SH v T, I, L, Dd)) rfl ?_
  refine Ev.callV (As := [.int (nI j), .int 0]) (rest := []) dvX3_value mkX6_376 rfl rfl dX6_faultOfCommand_6 (c_value (d := d - 1) (a := j) (b := 0) hX (by omega) (by omega)) ⟨by omega, by show 3 + 19 + 40 * _ ≤ 40 * _; omega⟩ (by decide) rfl (Nat.le_of_ble_eq_true rfl) (fun v9 h9 e9 => ?_) (fun E9 h9 e9 => nomatch e9)
  cases e9
  show Ev _ _ _ _ _ _ 9 [some (.ref 0), some (.int (nI j)), none, none, none] [.int (I 393 (j * 5 + 0))] (N, SH v T, I, L, Dd)
  refine Ev.sg hX sX6_faultOfCommand_9 (pc' := 16) (ls' := [some (.ref 0), some (.int (nI j)), some (.int (I 393 (j * 5 + 0))), none, none]) (st' := [.int 1, .int (nI j), .ref 388]) (h' := (N, SH v T, I, L, Dd)) rfl ?_
  refine Ev.callV (As := [.int (nI j), .int 1]) (rest := []) dvX3_value mkX6_376 rfl rfl dX6_faultOfCommand_16 (c_value (d := d - 1) (a := j) (b := 1) hX (by omega) (by omega)) ⟨by omega, by show 3 + 19 + 40 * _ ≤ 40 * _; omega⟩ (by decide) rfl (Nat.le_of_ble_eq_true rfl) (fun v9 h9 e9 => ?_) (fun E9 h9 e9 => nomatch e9)
  cases e9
  show Ev _ _ _ _ _ _ 19 [some (.ref 0), some (.int (nI j)), some (.int (I 393 (j * 5 + 0))), none, none] [.int (I 393 (j * 5 + 1))] (N, SH v T, I, L, Dd)
  refine Ev.sg hX sX6_faultOfCommand_19 (pc' := 26) (ls' := [some (.ref 0), some (.int (nI j)), some (.int (I 393 (j * 5 + 0))), some (.int (I 393 (j * 5 + 1))), none]) (st' := [.int 2, .int (nI j), .ref 388]) (h' := (N, SH v T, I, L, Dd)) rfl ?_
  refine Ev.callV (As := [.int (nI j), .int 2]) (rest := []) dvX3_value mkX6_376 rfl rfl dX6_faultOfCommand_26 (c_value (d := d - 1) (a := j) (b := 2) hX (by omega) (by omega)) ⟨by omega, by show 3 + 19 + 40 * _ ≤ 40 * _; omega⟩ (by decide) rfl (Nat.le_of_ble_eq_true rfl) (fun v9 h9 e9 => ?_) (fun E9 h9 e9 => nomatch e9)
  cases e9
  show Ev _ _ _ _ _ _ 29 [some (.ref 0), some (.int (nI j)), some (.int (I 393 (j * 5 + 0))), some (.int (I 393 (j * 5 + 1))), none] [.int (I 393 (j * 5 + 2))] (N, SH v T, I, L, Dd)
  refine Ev.sg hX sX6_faultOfCommand_29 (pc' := 39) (ls' := [some (.ref 0), some (.int (nI j)), some (.int (I 393 (j * 5 + 0))), some (.int (I 393 (j * 5 + 1))), some (.int (I 393 (j * 5 + 2)))]) (st' := [.int (nI j), .ref 390]) (h' := (N, SH v T, I, L, Dd)) rfl ?_
  refine Ev.callV (As := [.int (nI j)]) (rest := []) dvX4_get mkX6_127 rfl rfl dX6_faultOfCommand_39 (c_Row_getN (d := d - 1) (h := (N, SH v T, I, L, Dd)) (r := 390) (a := 391) (n := 8) hX rfl rfl (by decide) hj) ⟨by omega, by show 2 + 19 + 40 * _ ≤ 40 * _; omega⟩ (by decide) rfl (Nat.le_of_ble_eq_true rfl) (fun v9 h9 e9 => ?_) (fun E9 h9 e9 => nomatch e9)
  cases e9
  show Ev _ _ _ _ _ _ 42 [some (.ref 0), some (.int (nI j)), some (.int (I 393 (j * 5 + 0))), some (.int (I 393 (j * 5 + 1))), some (.int (I 393 (j * 5 + 2)))] [.int (I 391 j)] (N, SH v T, I, L, Dd)
  rw [hk0]
  have hk7 : kk = 0 ∨ kk = 1 ∨ kk = 2 ∨ kk = 3 ∨ kk = 4 ∨ kk = 5 ∨ kk = 6 := by omega
  rcases hk7 with rfl | rfl | rfl | rfl | rfl | rfl | rfl
  · refine Ev.tabIn (tgt := 84) (off := 42) dX6_faultOfCommand_42 (by decide) (by decide) rfl rfl ?_
    refine Ev.sg hX sX6_faultOfCommand_84 (pc' := 90) (ls' := [some (.ref 0), some (.int (nI j)), some (.int (I 393 (j * 5 + 0))), some (.int (I 393 (j * 5 + 1))), some (.int (I 393 (j * 5 + 2)))]) (st' := [.int (I 393 (j * 5 + 1)), .int (I 393 (j * 5 + 0)), .ref 1]) (h' := (N, SH v T, I, L, Dd)) rfl ?_
    refine Ev.callV (As := [.int (I 393 (j * 5 + 0)), .int (I 393 (j * 5 + 1))]) (rest := []) dvX5_trackFault mkX6_47 rfl rfl dX6_faultOfCommand_90 (c_trackFault (d := d - 1) hX (by omega)) ⟨by omega, by show 3 + 19 + 40 * _ ≤ 40 * _; omega⟩ (by decide) rfl (Nat.le_of_ble_eq_true rfl) (fun v9 h9 e9 => ?_) (fun E9 h9 e9 => nomatch e9)
    cases e9
    show Ev _ _ _ _ _ _ 93 [some (.ref 0), some (.int (nI j)), some (.int (I 393 (j * 5 + 0))), some (.int (I 393 (j * 5 + 1))), some (.int (I 393 (j * 5 + 2)))] [.int (trackF I (I 393 (j * 5 + 0)) (I 393 (j * 5 + 1)))] (N, SH v T, I, L, Dd)
    refine Ev.iret dX6_faultOfCommand_93 rfl ?_
    rfl
  · refine Ev.tabIn (tgt := 94) (off := 52) dX6_faultOfCommand_42 (by decide) (by decide) rfl rfl ?_
    refine Ev.sg hX sX6_faultOfCommand_94 (pc' := 100) (ls' := [some (.ref 0), some (.int (nI j)), some (.int (I 393 (j * 5 + 0))), some (.int (I 393 (j * 5 + 1))), some (.int (I 393 (j * 5 + 2)))]) (st' := [.int (I 393 (j * 5 + 1)), .int (I 393 (j * 5 + 0)), .ref 1]) (h' := (N, SH v T, I, L, Dd)) rfl ?_
    refine Ev.callV (As := [.int (I 393 (j * 5 + 0)), .int (I 393 (j * 5 + 1))]) (rest := []) dvX5_switchFault mkX6_62 rfl rfl dX6_faultOfCommand_100 (c_switchFault (d := d - 1) hX (by omega) hsz hJ) ⟨by omega, by show 3 + 19 + 40 * _ ≤ 40 * _; omega⟩ (by decide) rfl (Nat.le_of_ble_eq_true rfl) (fun v9 h9 e9 => ?_) (fun E9 h9 e9 => nomatch e9)
    cases e9
    show Ev _ _ _ _ _ _ 103 [some (.ref 0), some (.int (nI j)), some (.int (I 393 (j * 5 + 0))), some (.int (I 393 (j * 5 + 1))), some (.int (I 393 (j * 5 + 2)))] [.int (switchF I (I 393 (j * 5 + 0)) (I 393 (j * 5 + 1)))] (N, SH v T, I, L, Dd)
    refine Ev.iret dX6_faultOfCommand_103 rfl ?_
    rfl
  · refine Ev.tabIn (tgt := 104) (off := 62) dX6_faultOfCommand_42 (by decide) (by decide) rfl rfl ?_
    refine Ev.sg hX sX6_faultOfCommand_104 (pc' := 110) (ls' := [some (.ref 0), some (.int (nI j)), some (.int (I 393 (j * 5 + 0))), some (.int (I 393 (j * 5 + 1))), some (.int (I 393 (j * 5 + 2)))]) (st' := [.int (I 393 (j * 5 + 1)), .int (I 393 (j * 5 + 0)), .ref 1]) (h' := (N, SH v T, I, L, Dd)) rfl ?_
    refine Ev.callV (As := [.int (I 393 (j * 5 + 0)), .int (I 393 (j * 5 + 1))]) (rest := []) dvX5_cutFault mkX6_74 rfl rfl dX6_faultOfCommand_110 (c_cutFault (d := d - 1) hX (by omega) hsz hJ) ⟨by omega, by show 3 + 19 + 40 * _ ≤ 40 * _; omega⟩ (by decide) rfl (Nat.le_of_ble_eq_true rfl) (fun v9 h9 e9 => ?_) (fun E9 h9 e9 => nomatch e9)
    cases e9
    show Ev _ _ _ _ _ _ 113 [some (.ref 0), some (.int (nI j)), some (.int (I 393 (j * 5 + 0))), some (.int (I 393 (j * 5 + 1))), some (.int (I 393 (j * 5 + 2)))] [.int (cutF I (I 393 (j * 5 + 0)) (I 393 (j * 5 + 1)))] (N, SH v T, I, L, Dd)
    refine Ev.iret dX6_faultOfCommand_113 rfl ?_
    rfl
  · refine Ev.tabIn (tgt := 114) (off := 72) dX6_faultOfCommand_42 (by decide) (by decide) rfl rfl ?_
    refine Ev.sg hX sX6_faultOfCommand_114 (pc' := 128) (ls' := [some (.ref 0), some (.int (nI j)), some (.int (I 393 (j * 5 + 0))), some (.int (I 393 (j * 5 + 1))), some (.int (I 393 (j * 5 + 2)))]) (st' := [.int 3, .int (nI j), .ref 388, .int (I 393 (j * 5 + 2)), .int (I 393 (j * 5 + 1)), .int (I 393 (j * 5 + 0)), .ref 1]) (h' := (N, SH v T, I, L, Dd)) rfl ?_
    refine Ev.callV (As := [.int (nI j), .int 3]) (rest := [.int (I 393 (j * 5 + 2)), .int (I 393 (j * 5 + 1)), .int (I 393 (j * 5 + 0)), .ref 1]) dvX3_value mkX6_376 rfl rfl dX6_faultOfCommand_128 (c_value (d := d - 1) (a := j) (b := 3) hX (by omega) (by omega)) ⟨by omega, by show 3 + 19 + 40 * _ ≤ 40 * _; omega⟩ (by decide) rfl (Nat.le_of_ble_eq_true rfl) (fun v9 h9 e9 => ?_) (fun E9 h9 e9 => nomatch e9)
    cases e9
    show Ev _ _ _ _ _ _ 131 [some (.ref 0), some (.int (nI j)), some (.int (I 393 (j * 5 + 0))), some (.int (I 393 (j * 5 + 1))), some (.int (I 393 (j * 5 + 2)))] [.int (I 393 (j * 5 + 3)), .int (I 393 (j * 5 + 2)), .int (I 393 (j * 5 + 1)), .int (I 393 (j * 5 + 0)), .ref 1] (N, SH v T, I, L, Dd)
    refine Ev.callV (As := [.int (I 393 (j * 5 + 0)), .int (I 393 (j * 5 + 1)), .int (I 393 (j * 5 + 2)), .int (I 393 (j * 5 + 3))]) (rest := []) dvX5_carFault mkX6_80 rfl rfl dX6_faultOfCommand_131 (c_carFault (d := d - 1) hX (by omega) hsz hJ) ⟨by omega, by show 5 + 19 + 40 * _ ≤ 40 * _; omega⟩ (by decide) rfl (Nat.le_of_ble_eq_true rfl) (fun v9 h9 e9 => ?_) (fun E9 h9 e9 => nomatch e9)
    cases e9
    show Ev _ _ _ _ _ _ 134 [some (.ref 0), some (.int (nI j)), some (.int (I 393 (j * 5 + 0))), some (.int (I 393 (j * 5 + 1))), some (.int (I 393 (j * 5 + 2)))] [.int (carF I (I 393 (j * 5 + 0)) (I 393 (j * 5 + 1)) (I 393 (j * 5 + 2)) (I 393 (j * 5 + 3)))] (N, SH v T, I, L, Dd)
    refine Ev.iret dX6_faultOfCommand_134 rfl ?_
    rfl
  · refine Ev.tabIn (tgt := 135) (off := 93) dX6_faultOfCommand_42 (by decide) (by decide) rfl rfl ?_
    refine Ev.sg hX sX6_faultOfCommand_135 (pc' := 143) (ls' := [some (.ref 0), some (.int (nI j)), some (.int (I 393 (j * 5 + 0))), some (.int (I 393 (j * 5 + 1))), some (.int (I 393 (j * 5 + 2)))]) (st' := [.int (I 393 (j * 5 + 2)), .int (I 393 (j * 5 + 1)), .int (I 393 (j * 5 + 0)), .ref 1]) (h' := (N, SH v T, I, L, Dd)) rfl ?_
    refine Ev.callV (As := [.int (I 393 (j * 5 + 0)), .int (I 393 (j * 5 + 1)), .int (I 393 (j * 5 + 2))]) (rest := []) dvX5_moveFault mkX6_94 rfl rfl dX6_faultOfCommand_143 (c_moveFault (d := d - 1) (I := I) hX (by omega) hsz hJ) ⟨by omega, by show 4 + 19 + 40 * _ ≤ 40 * _; omega⟩ (by decide) rfl (Nat.le_of_ble_eq_true rfl) (fun v9 h9 e9 => ?_) (fun E9 h9 e9 => nomatch e9)
    cases e9
    show Ev _ _ _ _ _ _ 146 [some (.ref 0), some (.int (nI j)), some (.int (I 393 (j * 5 + 0))), some (.int (I 393 (j * 5 + 1))), some (.int (I 393 (j * 5 + 2)))] [.int ((moveF I sz (I 393 (j * 5 + 0)) (I 393 (j * 5 + 1)) (I 393 (j * 5 + 2))).1)] (N, SH v T, (moveF I sz (I 393 (j * 5 + 0)) (I 393 (j * 5 + 1)) (I 393 (j * 5 + 2))).2, L, Dd)
    refine Ev.iret dX6_faultOfCommand_146 rfl ?_
    rfl
  · refine Ev.tabIn (tgt := 147) (off := 105) dX6_faultOfCommand_42 (by decide) (by decide) rfl rfl ?_
    refine Ev.sg hX sX6_faultOfCommand_147 (pc' := 152) (ls' := [some (.ref 0), some (.int (nI j)), some (.int (I 393 (j * 5 + 0))), some (.int (I 393 (j * 5 + 1))), some (.int (I 393 (j * 5 + 2)))]) (st' := [.int (I 393 (j * 5 + 0)), .ref 1]) (h' := (N, SH v T, I, L, Dd)) rfl ?_
    refine Ev.callV (As := [.int (I 393 (j * 5 + 0))]) (rest := []) dvX5_repairFault mkX6_101 rfl rfl dX6_faultOfCommand_152 (c_repairFault (d := d - 1) hX (by omega)) ⟨by omega, by show 3 + 19 + 40 * _ ≤ 40 * _; omega⟩ (by decide) rfl (Nat.le_of_ble_eq_true rfl) (fun v9 h9 e9 => ?_) (fun E9 h9 e9 => nomatch e9)
    cases e9
    show Ev _ _ _ _ _ _ 155 [some (.ref 0), some (.int (nI j)), some (.int (I 393 (j * 5 + 0))), some (.int (I 393 (j * 5 + 1))), some (.int (I 393 (j * 5 + 2)))] [.int (repairFt I (I 393 (j * 5 + 0)))] (N, SH v T, I, L, Dd)
    refine Ev.iret dX6_faultOfCommand_155 rfl ?_
    rfl
  · refine Ev.tabIn (tgt := 156) (off := 114) dX6_faultOfCommand_42 (by decide) (by decide) rfl rfl ?_
    refine Ev.sg hX sX6_faultOfCommand_156 (pc' := 162) (ls' := [some (.ref 0), some (.int (nI j)), some (.int (I 393 (j * 5 + 0))), some (.int (I 393 (j * 5 + 1))), some (.int (I 393 (j * 5 + 2)))]) (st' := [.int (I 393 (j * 5 + 1)), .int (I 393 (j * 5 + 0)), .ref 1]) (h' := (N, SH v T, I, L, Dd)) rfl ?_
    refine Ev.callV (As := [.int (I 393 (j * 5 + 0)), .int (I 393 (j * 5 + 1))]) (rest := []) dvX5_trainFault mkX6_108 rfl rfl dX6_faultOfCommand_162 (c_trainFault (d := d - 1) (I := I) hX (by omega) hsz hJ hhs) ⟨by omega, by show 4 + 19 + 40 * _ ≤ 40 * _; omega⟩ (by decide) rfl (Nat.le_of_ble_eq_true rfl) (fun v9 h9 e9 => ?_) (fun E9 h9 e9 => nomatch e9)
    cases e9
    show Ev _ _ _ _ _ _ 165 [some (.ref 0), some (.int (nI j)), some (.int (I 393 (j * 5 + 0))), some (.int (I 393 (j * 5 + 1))), some (.int (I 393 (j * 5 + 2)))] [.int ((trainFt I (I 393 (j * 5 + 0)) (I 393 (j * 5 + 1))).1)] (N, SH v T, (trainFt I (I 393 (j * 5 + 0)) (I 393 (j * 5 + 1))).2, L, Dd)
    refine Ev.iret dX6_faultOfCommand_165 rfl ?_
    rfl
theorem doK_6 {a b c e f : Int32} : doK I L sz a b c e f 6 = (sendI (listO I a) L a.toNatClampNeg (trainF (listO I a) (I 31 a.toNatClampNeg).toNatClampNeg).toNatClampNeg, up2 L 1 7 (sendU (listO I a) L a.toNatClampNeg (trainF (listO I a) (I 31 a.toNatClampNeg).toNatClampNeg).toNatClampNeg).2) := rfl
theorem c_carryOut (hX : JXok X) (hd : 7 ≤ d) (hj : j < 8) {kk : Nat} (hkk : kk < 7) (hk0 : I 391 j = nI kk) {sz : Nat} (hsz : sz ≤ 8) (hJ : I 6 0 = nI sz) (hhs : ∀ t, t < 8 → ∃ hg, hg ≤ 20 ∧ I 31 t = nI hg) (hok : doOK I L sz (I 393 (j * 5 + 0)) (I 393 (j * 5 + 1)) (I 393 (j * 5 + 2)) kk) : MT X d 0 0 jdX6_carryOut [.ref 0, .int (nI j)] (N, SH v T, I, L, Dd) (fun R => R = .inl (none, (N, SH v T, (doK I L sz (I 393 (j * 5 + 0)) (I 393 (j * 5 + 1)) (I 393 (j * 5 + 2)) (I 393 (j * 5 + 3)) (I 393 (j * 5 + 4)) kk).1, (doK I L sz (I 393 (j * 5 + 0)) (I 393 (j * 5 + 1)) (I 393 (j * 5 + 2)) (I 393 (j * 5 + 3)) (I 393 (j * 5 + 4)) kk).2, Dd))) := by
  refine MT.mk dvX6_carryOut.1 ?_
  refine Ev.sg hX sX6_carryOut_0 (pc' := 6) (ls' := [some (.ref 0), some (.int (nI j)), none, none, none, none]) (st' := [.int 0, .int (nI j), .ref 388]) (h' := (N, SH v T, I, L, Dd)) rfl ?_
  refine Ev.callV (As := [.int (nI j), .int 0]) (rest := []) dvX3_value mkX6_376 rfl rfl dX6_carryOut_6 (c_value (d := d - 1) (a := j) (b := 0) hX (by omega) (by omega)) ⟨by omega, by show 3 + 19 + 40 * _ ≤ 40 * _; omega⟩ (by decide) rfl (Nat.le_of_ble_eq_true rfl) (fun v9 h9 e9 => ?_) (fun E9 h9 e9 => nomatch e9)
  cases e9
  show Ev _ _ _ _ _ _ 9 [some (.ref 0), some (.int (nI j)), none, none, none, none] [.int (I 393 (j * 5 + 0))] (N, SH v T, I, L, Dd)
  refine Ev.sg hX sX6_carryOut_9 (pc' := 16) (ls' := [some (.ref 0), some (.int (nI j)), some (.int (I 393 (j * 5 + 0))), none, none, none]) (st' := [.int 1, .int (nI j), .ref 388]) (h' := (N, SH v T, I, L, Dd)) rfl ?_
  refine Ev.callV (As := [.int (nI j), .int 1]) (rest := []) dvX3_value mkX6_376 rfl rfl dX6_carryOut_16 (c_value (d := d - 1) (a := j) (b := 1) hX (by omega) (by omega)) ⟨by omega, by show 3 + 19 + 40 * _ ≤ 40 * _; omega⟩ (by decide) rfl (Nat.le_of_ble_eq_true rfl) (fun v9 h9 e9 => ?_) (fun E9 h9 e9 => nomatch e9)
  cases e9
  show Ev _ _ _ _ _ _ 19 [some (.ref 0), some (.int (nI j)), some (.int (I 393 (j * 5 + 0))), none, none, none] [.int (I 393 (j * 5 + 1))] (N, SH v T, I, L, Dd)
  refine Ev.sg hX sX6_carryOut_19 (pc' := 26) (ls' := [some (.ref 0), some (.int (nI j)), some (.int (I 393 (j * 5 + 0))), some (.int (I 393 (j * 5 + 1))), none, none]) (st' := [.int 2, .int (nI j), .ref 388]) (h' := (N, SH v T, I, L, Dd)) rfl ?_
  refine Ev.callV (As := [.int (nI j), .int 2]) (rest := []) dvX3_value mkX6_376 rfl rfl dX6_carryOut_26 (c_value (d := d - 1) (a := j) (b := 2) hX (by omega) (by omega)) ⟨by omega, by show 3 + 19 + 40 * _ ≤ 40 * _; omega⟩ (by decide) rfl (Nat.le_of_ble_eq_true rfl) (fun v9 h9 e9 => ?_) (fun E9 h9 e9 => nomatch e9)
  cases e9
  show Ev _ _ _ _ _ _ 29 [some (.ref 0), some (.int (nI j)), some (.int (I 393 (j * 5 + 0))), some (.int (I 393 (j * 5 + 1))), none, none] [.int (I 393 (j * 5 + 2))] (N, SH v T, I, L, Dd)
  refine Ev.sg hX sX6_carryOut_29 (pc' := 39) (ls' := [some (.ref 0), some (.int (nI j)), some (.int (I 393 (j * 5 + 0))), some (.int (I 393 (j * 5 + 1))), some (.int (I 393 (j * 5 + 2))), none]) (st' := [.int (nI j), .ref 390]) (h' := (N, SH v T, I, L, Dd)) rfl ?_
  refine Ev.callV (As := [.int (nI j)]) (rest := []) dvX4_get mkX6_127 rfl rfl dX6_carryOut_39 (c_Row_getN (d := d - 1) (h := (N, SH v T, I, L, Dd)) (r := 390) (a := 391) (n := 8) hX rfl rfl (by decide) hj) ⟨by omega, by show 2 + 19 + 40 * _ ≤ 40 * _; omega⟩ (by decide) rfl (Nat.le_of_ble_eq_true rfl) (fun v9 h9 e9 => ?_) (fun E9 h9 e9 => nomatch e9)
  cases e9
  show Ev _ _ _ _ _ _ 42 [some (.ref 0), some (.int (nI j)), some (.int (I 393 (j * 5 + 0))), some (.int (I 393 (j * 5 + 1))), some (.int (I 393 (j * 5 + 2))), none] [.int (I 391 j)] (N, SH v T, I, L, Dd)
  rw [hk0]
  have hk7 : kk = 0 ∨ kk = 1 ∨ kk = 2 ∨ kk = 3 ∨ kk = 4 ∨ kk = 5 ∨ kk = 6 := by omega
  rcases hk7 with rfl | rfl | rfl | rfl | rfl | rfl | rfl
  · refine Ev.tabIn (tgt := 84) (off := 42) dX6_carryOut_42 (by decide) (by decide) rfl rfl ?_
    refine Ev.sg hX sX6_carryOut_84 (pc' := 90) (ls' := [some (.ref 0), some (.int (nI j)), some (.int (I 393 (j * 5 + 0))), some (.int (I 393 (j * 5 + 1))), some (.int (I 393 (j * 5 + 2))), none]) (st' := [.int (I 393 (j * 5 + 1)), .int (I 393 (j * 5 + 0)), .ref 1]) (h' := (N, SH v T, I, L, Dd)) rfl ?_
    refine Ev.callV (As := [.int (I 393 (j * 5 + 0)), .int (I 393 (j * 5 + 1))]) (rest := []) dvX5_build mkX6_59 rfl rfl dX6_carryOut_90 (c_build (d := d - 1) (I := I) (n := sz) hX (by omega) hok hJ) ⟨by omega, by show 4 + 19 + 40 * _ ≤ 40 * _; omega⟩ (by decide) rfl (Nat.le_of_ble_eq_true rfl) (fun v9 h9 e9 => ?_) (fun E9 h9 e9 => nomatch e9)
    cases e9
    show Ev _ _ _ _ _ _ 93 [some (.ref 0), some (.int (nI j)), some (.int (I 393 (j * 5 + 0))), some (.int (I 393 (j * 5 + 1))), some (.int (I 393 (j * 5 + 2))), none] [.int (nI sz)] (N, SH v T, buildI I sz (I 393 (j * 5 + 0)) (I 393 (j * 5 + 1)), L, Dd)
    refine Ev.sg hX sX6_carryOut_93 (pc' := 217) (ls' := [some (.ref 0), some (.int (nI j)), some (.int (I 393 (j * 5 + 0))), some (.int (I 393 (j * 5 + 1))), some (.int (I 393 (j * 5 + 2))), none]) (st' := []) (h' := (N, SH v T, buildI I sz (I 393 (j * 5 + 0)) (I 393 (j * 5 + 1)), L, Dd)) rfl ?_
    refine Ev.vret dX6_carryOut_217 rfl ?_
    rfl
  · refine Ev.tabIn (tgt := 97) (off := 55) dX6_carryOut_42 (by decide) (by decide) rfl rfl ?_
    refine Ev.sg hX sX6_carryOut_97 (pc' := 106) (ls' := [some (.ref 0), some (.int (nI j)), some (.int (I 393 (j * 5 + 0))), some (.int (I 393 (j * 5 + 1))), some (.int (I 393 (j * 5 + 2))), none]) (st' := [.int (I 393 (j * 5 + 1)), .int (I 393 (j * 5 + 0)), .ref 6]) (h' := (N, SH v T, I, L, Dd)) rfl ?_
    refine Ev.callV (As := [.int (I 393 (j * 5 + 0)), .int (I 393 (j * 5 + 1))]) (rest := []) dvX2_join mkX6_69 rfl rfl dX6_carryOut_106 (c_join (d := d - 1) (I := I) hX (by omega)) ⟨by omega, by show 3 + 19 + 40 * _ ≤ 40 * _; omega⟩ (by decide) rfl (Nat.le_of_ble_eq_true rfl) (fun v9 h9 e9 => ?_) (fun E9 h9 e9 => nomatch e9)
    cases e9
    show Ev _ _ _ _ _ _ 109 [some (.ref 0), some (.int (nI j)), some (.int (I 393 (j * 5 + 0))), some (.int (I 393 (j * 5 + 1))), some (.int (I 393 (j * 5 + 2))), none] [.int (I 6 1 + 1)] (N, SH v T, joinI I (I 393 (j * 5 + 0)) (I 393 (j * 5 + 1)), L, Dd)
    refine Ev.sg hX sX6_carryOut_109 (pc' := 217) (ls' := [some (.ref 0), some (.int (nI j)), some (.int (I 393 (j * 5 + 0))), some (.int (I 393 (j * 5 + 1))), some (.int (I 393 (j * 5 + 2))), none]) (st' := []) (h' := (N, SH v T, joinI I (I 393 (j * 5 + 0)) (I 393 (j * 5 + 1)), L, Dd)) rfl ?_
    refine Ev.vret dX6_carryOut_217 rfl ?_
    rfl
  · refine Ev.tabIn (tgt := 113) (off := 71) dX6_carryOut_42 (by decide) (by decide) rfl rfl ?_
    refine Ev.sg hX sX6_carryOut_113 (pc' := 122) (ls' := [some (.ref 0), some (.int (nI j)), some (.int (I 393 (j * 5 + 0))), some (.int (I 393 (j * 5 + 1))), some (.int (I 393 (j * 5 + 2))), none]) (st' := [.int (I 393 (j * 5 + 1)), .int (I 393 (j * 5 + 0)), .ref 6]) (h' := (N, SH v T, I, L, Dd)) rfl ?_
    refine Ev.callV (As := [.int (I 393 (j * 5 + 0)), .int (I 393 (j * 5 + 1))]) (rest := []) dvX2_part mkX6_77 rfl rfl dX6_carryOut_122 (c_part (d := d - 1) (I := I) hX (by omega)) ⟨by omega, by show 3 + 19 + 40 * _ ≤ 40 * _; omega⟩ (by decide) rfl (Nat.le_of_ble_eq_true rfl) (fun v9 h9 e9 => ?_) (fun E9 h9 e9 => nomatch e9)
    cases e9
    show Ev _ _ _ _ _ _ 125 [some (.ref 0), some (.int (nI j)), some (.int (I 393 (j * 5 + 0))), some (.int (I 393 (j * 5 + 1))), some (.int (I 393 (j * 5 + 2))), none] [.int (I 6 1 - 1)] (N, SH v T, partI I (I 393 (j * 5 + 0)) (I 393 (j * 5 + 1)), L, Dd)
    refine Ev.sg hX sX6_carryOut_125 (pc' := 217) (ls' := [some (.ref 0), some (.int (nI j)), some (.int (I 393 (j * 5 + 0))), some (.int (I 393 (j * 5 + 1))), some (.int (I 393 (j * 5 + 2))), none]) (st' := []) (h' := (N, SH v T, partI I (I 393 (j * 5 + 0)) (I 393 (j * 5 + 1)), L, Dd)) rfl ?_
    refine Ev.vret dX6_carryOut_217 rfl ?_
    rfl
  · refine Ev.tabIn (tgt := 129) (off := 87) dX6_carryOut_42 (by decide) (by decide) rfl rfl ?_
    obtain ⟨⟨hs, hs20, hs9⟩, hT⟩ := hok
    obtain ⟨f9, hf9, hv0⟩ := hasT_nI hsz hJ hT
    rw [hv0]
    refine Ev.sg hX sX6_carryOut_129 (pc' := 135) (ls' := [some (.ref 0), some (.int (nI j)), some (.int (nI f9)), some (.int (I 393 (j * 5 + 1))), some (.int (I 393 (j * 5 + 2))), none]) (st' := [.int 4, .int (nI j), .ref 388]) (h' := (N, SH v T, I, L, Dd)) rfl ?_
    refine Ev.callV (As := [.int (nI j), .int 4]) (rest := []) dvX3_value mkX6_376 rfl rfl dX6_carryOut_135 (c_value (d := d - 1) (a := j) (b := 4) hX (by omega) (by omega)) ⟨by omega, by show 3 + 19 + 40 * _ ≤ 40 * _; omega⟩ (by decide) rfl (Nat.le_of_ble_eq_true rfl) (fun v9 h9 e9 => ?_) (fun E9 h9 e9 => nomatch e9)
    cases e9
    show Ev _ _ _ _ _ _ 138 [some (.ref 0), some (.int (nI j)), some (.int (nI f9)), some (.int (I 393 (j * 5 + 1))), some (.int (I 393 (j * 5 + 2))), none] [.int (I 393 (j * 5 + 4))] (N, SH v T, I, L, Dd)
    refine Ev.sg hX sX6_carryOut_138 (pc' := 139) (ls' := [some (.ref 0), some (.int (nI j)), some (.int (nI f9)), some (.int (I 393 (j * 5 + 1))), some (.int (I 393 (j * 5 + 2))), none]) (st' := [.int 1, .int (I 393 (j * 5 + 4))]) (h' := (N, SH v T, I, L, Dd)) rfl ?_
    refine Ev.icmp_ne (tgt := 146) dX6_carryOut_139 (by decide) (fun b1 => ?_) (fun b1 => ?_)
    · refine Ev.sg hX sX6_carryOut_146 (pc' := 147) (ls' := [some (.ref 0), some (.int (nI j)), some (.int (nI f9)), some (.int (I 393 (j * 5 + 1))), some (.int (I 393 (j * 5 + 2))), none]) (st' := [.int 0]) (h' := (N, SH v T, I, L, Dd)) rfl ?_
      refine Ev.sg hX sX6_carryOut_147 (pc' := 166) (ls' := [some (.ref 0), some (.int (nI j)), some (.int (nI f9)), some (.int (I 393 (j * 5 + 1))), some (.int (I 393 (j * 5 + 2))), some (.int 0)]) (st' := [.int 3, .int (nI j), .ref 388, .int (I 393 (j * 5 + 2)), .int (I 393 (j * 5 + 1)), .int (nI f9), .ref 15]) (h' := (N, SH v T, I, L, Dd)) rfl ?_
      refine Ev.callV (As := [.int (nI j), .int 3]) (rest := [.int (I 393 (j * 5 + 2)), .int (I 393 (j * 5 + 1)), .int (nI f9), .ref 15]) dvX3_value mkX6_376 rfl rfl dX6_carryOut_166 (c_value (d := d - 1) (a := j) (b := 3) hX (by omega) (by omega)) ⟨by omega, by show 3 + 19 + 40 * _ ≤ 40 * _; omega⟩ (by decide) rfl (Nat.le_of_ble_eq_true rfl) (fun v9 h9 e9 => ?_) (fun E9 h9 e9 => nomatch e9)
      cases e9
      show Ev _ _ _ _ _ _ 169 [some (.ref 0), some (.int (nI j)), some (.int (nI f9)), some (.int (I 393 (j * 5 + 1))), some (.int (I 393 (j * 5 + 2))), some (.int 0)] [.int (I 393 (j * 5 + 3)), .int (I 393 (j * 5 + 2)), .int (I 393 (j * 5 + 1)), .int (nI f9), .ref 15] (N, SH v T, I, L, Dd)
      refine Ev.sg hX sX6_carryOut_169 (pc' := 171) (ls' := [some (.ref 0), some (.int (nI j)), some (.int (nI f9)), some (.int (I 393 (j * 5 + 1))), some (.int (I 393 (j * 5 + 2))), some (.int 0)]) (st' := [.int 0, .int (I 393 (j * 5 + 3)), .int (I 393 (j * 5 + 2)), .int (I 393 (j * 5 + 1)), .int (nI f9), .ref 15]) (h' := (N, SH v T, I, L, Dd)) rfl ?_
      refine Ev.callV (As := [.int (nI f9), .int (I 393 (j * 5 + 1)), .int (I 393 (j * 5 + 2)), .int (I 393 (j * 5 + 3)), .int 0]) (rest := []) dvX0_enter mkX6_88 rfl rfl dX6_carryOut_171 (c_enter (d := d - 1) (I := I) (s := hs) (t := f9) hX (by omega) hs20 (by omega) (Or.inl rfl) hs9) ⟨by omega, by show 7 + 19 + 40 * _ ≤ 40 * _; omega⟩ (by decide) rfl (Nat.le_of_ble_eq_true rfl) (fun v9 h9 e9 => ?_) (fun E9 h9 e9 => nomatch e9)
      cases e9
      show Ev _ _ _ _ _ _ 174 [some (.ref 0), some (.int (nI j)), some (.int (nI f9)), some (.int (I 393 (j * 5 + 1))), some (.int (I 393 (j * 5 + 2))), some (.int 0)] [.int (I 15 1 + 1)] (N, SH v T, enterI I hs f9 (I 393 (j * 5 + 1)) (I 393 (j * 5 + 2)) (I 393 (j * 5 + 3)) 0, L, Dd)
      refine Ev.sg hX sX6_carryOut_174 (pc' := 217) (ls' := [some (.ref 0), some (.int (nI j)), some (.int (nI f9)), some (.int (I 393 (j * 5 + 1))), some (.int (I 393 (j * 5 + 2))), some (.int 0)]) (st' := []) (h' := (N, SH v T, enterI I hs f9 (I 393 (j * 5 + 1)) (I 393 (j * 5 + 2)) (I 393 (j * 5 + 3)) 0, L, Dd)) rfl ?_
      refine Ev.vret dX6_carryOut_217 rfl ?_
      exact congrArg (fun z => Sum.inl (none, (N, SH v T, z, L, Dd))) (by rw [doK, hs9, show (nI hs).toNatClampNeg = hs from nI_clamp (by omega), show (nI f9).toNatClampNeg = f9 from nI_clamp (by omega), if_neg b1])
    · refine Ev.sg hX sX6_carryOut_142 (pc' := 147) (ls' := [some (.ref 0), some (.int (nI j)), some (.int (nI f9)), some (.int (I 393 (j * 5 + 1))), some (.int (I 393 (j * 5 + 2))), none]) (st' := [.int 1]) (h' := (N, SH v T, I, L, Dd)) rfl ?_
      refine Ev.sg hX sX6_carryOut_147 (pc' := 166) (ls' := [some (.ref 0), some (.int (nI j)), some (.int (nI f9)), some (.int (I 393 (j * 5 + 1))), some (.int (I 393 (j * 5 + 2))), some (.int 1)]) (st' := [.int 3, .int (nI j), .ref 388, .int (I 393 (j * 5 + 2)), .int (I 393 (j * 5 + 1)), .int (nI f9), .ref 15]) (h' := (N, SH v T, I, L, Dd)) rfl ?_
      refine Ev.callV (As := [.int (nI j), .int 3]) (rest := [.int (I 393 (j * 5 + 2)), .int (I 393 (j * 5 + 1)), .int (nI f9), .ref 15]) dvX3_value mkX6_376 rfl rfl dX6_carryOut_166 (c_value (d := d - 1) (a := j) (b := 3) hX (by omega) (by omega)) ⟨by omega, by show 3 + 19 + 40 * _ ≤ 40 * _; omega⟩ (by decide) rfl (Nat.le_of_ble_eq_true rfl) (fun v9 h9 e9 => ?_) (fun E9 h9 e9 => nomatch e9)
      cases e9
      show Ev _ _ _ _ _ _ 169 [some (.ref 0), some (.int (nI j)), some (.int (nI f9)), some (.int (I 393 (j * 5 + 1))), some (.int (I 393 (j * 5 + 2))), some (.int 1)] [.int (I 393 (j * 5 + 3)), .int (I 393 (j * 5 + 2)), .int (I 393 (j * 5 + 1)), .int (nI f9), .ref 15] (N, SH v T, I, L, Dd)
      refine Ev.sg hX sX6_carryOut_169 (pc' := 171) (ls' := [some (.ref 0), some (.int (nI j)), some (.int (nI f9)), some (.int (I 393 (j * 5 + 1))), some (.int (I 393 (j * 5 + 2))), some (.int 1)]) (st' := [.int 1, .int (I 393 (j * 5 + 3)), .int (I 393 (j * 5 + 2)), .int (I 393 (j * 5 + 1)), .int (nI f9), .ref 15]) (h' := (N, SH v T, I, L, Dd)) rfl ?_
      refine Ev.callV (As := [.int (nI f9), .int (I 393 (j * 5 + 1)), .int (I 393 (j * 5 + 2)), .int (I 393 (j * 5 + 3)), .int 1]) (rest := []) dvX0_enter mkX6_88 rfl rfl dX6_carryOut_171 (c_enter (d := d - 1) (I := I) (s := hs) (t := f9) hX (by omega) hs20 (by omega) (Or.inr rfl) hs9) ⟨by omega, by show 7 + 19 + 40 * _ ≤ 40 * _; omega⟩ (by decide) rfl (Nat.le_of_ble_eq_true rfl) (fun v9 h9 e9 => ?_) (fun E9 h9 e9 => nomatch e9)
      cases e9
      show Ev _ _ _ _ _ _ 174 [some (.ref 0), some (.int (nI j)), some (.int (nI f9)), some (.int (I 393 (j * 5 + 1))), some (.int (I 393 (j * 5 + 2))), some (.int 1)] [.int (I 15 1 + 1)] (N, SH v T, enterI I hs f9 (I 393 (j * 5 + 1)) (I 393 (j * 5 + 2)) (I 393 (j * 5 + 3)) 1, L, Dd)
      refine Ev.sg hX sX6_carryOut_174 (pc' := 217) (ls' := [some (.ref 0), some (.int (nI j)), some (.int (nI f9)), some (.int (I 393 (j * 5 + 1))), some (.int (I 393 (j * 5 + 2))), some (.int 1)]) (st' := []) (h' := (N, SH v T, enterI I hs f9 (I 393 (j * 5 + 1)) (I 393 (j * 5 + 2)) (I 393 (j * 5 + 3)) 1, L, Dd)) rfl ?_
      refine Ev.vret dX6_carryOut_217 rfl ?_
      exact congrArg (fun z => Sum.inl (none, (N, SH v T, z, L, Dd))) (by rw [doK, hs9, show (nI hs).toNatClampNeg = hs from nI_clamp (by omega), show (nI f9).toNatClampNeg = f9 from nI_clamp (by omega), if_pos (Classical.not_not.mp (fun z => absurd z (by simpa using b1)))])
  · refine Ev.tabIn (tgt := 178) (off := 136) dX6_carryOut_42 (by decide) (by decide) rfl rfl ?_
    obtain ⟨hT, hT2, hc9, hok9⟩ := hok
    obtain ⟨f9, hf9, hv0⟩ := hasT_nI hsz hJ hT
    obtain ⟨t9, ht9, hv1⟩ := hasT_nI hsz hJ hT2
    obtain ⟨q9, hq9, hv2⟩ := nI_le_of (n := 9) (Int32.le_trans (show (0 : Int32) ≤ 1 by decide) hc9.1) hc9.2 (by decide)
    rw [hv0, hv1, hv2, nI_clamp (by omega), nI_clamp (by omega), nI_clamp (by omega)] at hok9
    rw [hv0, hv1, hv2]
    refine Ev.sg hX sX6_carryOut_178 (pc' := 186) (ls' := [some (.ref 0), some (.int (nI j)), some (.int (nI f9)), some (.int (nI t9)), some (.int (nI q9)), none]) (st' := [.int (nI q9), .int (nI t9), .int (nI f9), .ref 1]) (h' := (N, SH v T, I, L, Dd)) rfl ?_
    refine Ev.callV (As := [.int (nI f9), .int (nI t9), .int (nI q9)]) (rest := []) dvX5_move mkX6_98 rfl rfl dX6_carryOut_186 (c_move (d := d - 1) (I := I) (L := L) (f := f9) (t := t9) (q := q9) hX (by omega) (by omega) (by omega) (by omega) hsz hJ hok9) ⟨by omega, by show 6 + 19 + 40 * _ ≤ 40 * _; omega⟩ (by decide) rfl (Nat.le_of_ble_eq_true rfl) (fun v9 h9 e9 => ?_) (fun E9 h9 e9 => nomatch e9)
    cases e9
    show Ev _ _ _ _ _ _ 189 [some (.ref 0), some (.int (nI j)), some (.int (nI f9)), some (.int (nI t9)), some (.int (nI q9)), none] [.int (minF I sz f9 t9 (nI q9))] (N, SH v T, moveI (bfsI I sz t9) f9 t9 q9, up2 L 1 4 (L 1 4 + (minF I sz f9 t9 (nI q9)).toInt64), Dd)
    refine Ev.sg hX sX6_carryOut_189 (pc' := 217) (ls' := [some (.ref 0), some (.int (nI j)), some (.int (nI f9)), some (.int (nI t9)), some (.int (nI q9)), none]) (st' := []) (h' := (N, SH v T, moveI (bfsI I sz t9) f9 t9 q9, up2 L 1 4 (L 1 4 + (minF I sz f9 t9 (nI q9)).toInt64), Dd)) rfl ?_
    refine Ev.vret dX6_carryOut_217 rfl ?_
    rw [doK, show (nI f9).toNatClampNeg = f9 from nI_clamp (by omega), show (nI t9).toNatClampNeg = t9 from nI_clamp (by omega), show (nI q9).toNatClampNeg = q9 from nI_clamp (by omega)]
  · refine Ev.tabIn (tgt := 193) (off := 151) dX6_carryOut_42 (by decide) (by decide) rfl rfl ?_
    obtain ⟨hs, hs20, hs9⟩ := hok
    refine Ev.sg hX sX6_carryOut_193 (pc' := 201) (ls' := [some (.ref 0), some (.int (nI j)), some (.int (I 393 (j * 5 + 0))), some (.int (I 393 (j * 5 + 1))), some (.int (I 393 (j * 5 + 2))), none]) (st' := [.int (I 393 (j * 5 + 0)), .ref 15]) (h' := (N, SH v T, I, L, Dd)) rfl ?_
    refine Ev.callV (As := [.int (I 393 (j * 5 + 0))]) (rest := []) dvX0_mend mkX6_105 rfl rfl dX6_carryOut_201 (c_mend (d := d - 1) (I := I) (s := hs) hX (by omega) hs20 hs9) ⟨by omega, by show 4 + 19 + 40 * _ ≤ 40 * _; omega⟩ (by decide) rfl (Nat.le_of_ble_eq_true rfl) (fun v9 h9 e9 => ?_) (fun E9 h9 e9 => nomatch e9)
    cases e9
    show Ev _ _ _ _ _ _ 204 [some (.ref 0), some (.int (nI j)), some (.int (I 393 (j * 5 + 0))), some (.int (I 393 (j * 5 + 1))), some (.int (I 393 (j * 5 + 2))), none] [.int (fo (stM (mendI I hs)) 20 0 0)] (N, SH v T, mendI I hs, L, Dd)
    refine Ev.sg hX sX6_carryOut_204 (pc' := 217) (ls' := [some (.ref 0), some (.int (nI j)), some (.int (I 393 (j * 5 + 0))), some (.int (I 393 (j * 5 + 1))), some (.int (I 393 (j * 5 + 2))), none]) (st' := []) (h' := (N, SH v T, mendI I hs, L, Dd)) rfl ?_
    refine Ev.vret dX6_carryOut_217 rfl ?_
    rw [doK, hs9, show (nI hs).toNatClampNeg = hs from nI_clamp (by omega)]
  · refine Ev.tabIn (tgt := 208) (off := 166) dX6_carryOut_42 (by decide) (by decide) rfl rfl ?_
    obtain ⟨hT, hq, hq1, hq2, hq3⟩ := hok
    obtain ⟨f9, hf9, hv0⟩ := hasT_nI hsz hJ hT
    obtain ⟨hg, hg20, hhI⟩ := hhs f9 (by omega)
    rw [hv0, nI_clamp (by omega)] at hq3
    rw [hv0, show (nI f9).toNatClampNeg = f9 from nI_clamp (by omega), hhI, show (nI hg).toNatClampNeg = hg from nI_clamp (by omega)] at hq2
    rw [hv0]
    refine Ev.sg hX sX6_carryOut_208 (pc' := 213) (ls' := [some (.ref 0), some (.int (nI j)), some (.int (nI f9)), some (.int (I 393 (j * 5 + 1))), some (.int (I 393 (j * 5 + 2))), none]) (st' := [.int (nI f9), .ref 1]) (h' := (N, SH v T, I, L, Dd)) rfl ?_
    refine Ev.callV (As := [.int (nI f9)]) (rest := []) dvX5_sendTrain mkX6_111 rfl rfl dX6_carryOut_213 (c_sendTrain (d := d - 1) (I := I) (L := L) (f := f9) (q := hq) hX (by omega) (by omega) (by omega) hg20 hhI hq2 hq3) ⟨by omega, by show 4 + 19 + 40 * _ ≤ 40 * _; omega⟩ (by decide) rfl (Nat.le_of_ble_eq_true rfl) (fun v9 h9 e9 => ?_) (fun E9 h9 e9 => nomatch e9)
    cases e9
    show Ev _ _ _ _ _ _ 216 [some (.ref 0), some (.int (nI j)), some (.int (nI f9)), some (.int (I 393 (j * 5 + 1))), some (.int (I 393 (j * 5 + 2))), none] [.int (nI hq)] (N, SH v T, sendI (listO I (nI f9)) L f9 hq, up2 L 1 7 (sendU (listO I (nI f9)) L f9 hq).2, Dd)
    refine Ev.sg hX sX6_carryOut_216 (pc' := 217) (ls' := [some (.ref 0), some (.int (nI j)), some (.int (nI f9)), some (.int (I 393 (j * 5 + 1))), some (.int (I 393 (j * 5 + 2))), none]) (st' := []) (h' := (N, SH v T, sendI (listO I (nI f9)) L f9 hq, up2 L 1 7 (sendU (listO I (nI f9)) L f9 hq).2, Dd)) rfl ?_
    refine Ev.vret dX6_carryOut_217 rfl ?_
    rw [doK_6, show (nI f9).toNatClampNeg = f9 from nI_clamp (by omega), hhI, show (nI hg).toNatClampNeg = hg from nI_clamp (by omega), hq2, show (nI hq).toNatClampNeg = hq from nI_clamp (by omega)]
theorem c_faultC (hX : JXok X) (hd : 6 ≤ d) (hj : j < 8) (hb : bOK I j) : MT X d 0 0 jdX6_faultOfCommand [.ref 0, .int (nI j)] (N, SH v T, I, L, Dd) (fun R => R = .inl (some (.int (fltC I j).1), (N, SH v T, (fltC I j).2, L, Dd))) := by
  obtain ⟨h1, h2, h3, kk, hkk, hk0⟩ := hb
  have h := c_faultOf (v := v) (N := N) (T := T) (L := L) (Dd := Dd) hX hd hj hkk hk0 h1 h2 h3
  unfold fltC cV
  rw [hk0, show (nI kk).toNatClampNeg = kk from nI_clamp (by omega)]
  exact h
theorem c_carryC (hX : JXok X) (hd : 7 ≤ d) (hj : j < 8) (hb : bOK I j) (hok : doOK I L (szOf I) (cV I j 0) (cV I j 1) (cV I j 2) (I 391 j).toNatClampNeg) : MT X d 0 0 jdX6_carryOut [.ref 0, .int (nI j)] (N, SH v T, I, L, Dd) (fun R => R = .inl (none, (N, SH v T, (doC I L j).1, (doC I L j).2, Dd))) := by
  obtain ⟨h1, h2, h3, kk, hkk, hk0⟩ := hb
  rw [hk0, show (nI kk).toNatClampNeg = kk from nI_clamp (by omega)] at hok
  have h := c_carryOut (v := v) (N := N) (T := T) (L := L) (Dd := Dd) hX hd hj hkk hk0 h1 h2 h3 hok
  unfold doC cV
  rw [hk0, show (nI kk).toNatClampNeg = kk from nI_clamp (by omega)]
  exact h
theorem remI_38 {k m b2 a : Nat} (hk : k < 8) (h : 388 ≤ a) : remI I k m b2 a = I a := by
  rw [remI, up2_out (by omega), up2_out (by omega), yardCpI_out (by omega)]
theorem l_run {k m ct : Nat} {x : Int32} (hX : JXok X) (hd : 8 ≤ d) (hN4 : 396 ≤ N) (hN : N + 1 < BIG) (hk : k < 8) (hm : m ≤ 8) (hct8 : ct ≤ 8) : ∀ (n j : Nat) (I : HI) (L : Nat → Nat → Int64), (j + n = ct ∧ rOK ct k m n j I L) → Ev X (jm jdX6_run) d 4 24 (outE (rnX (runL n j I L).1) N v T (rnI k m (runL n j I L).2.1 (runL n j I L).1) (rnL k (runL n j I L).2.2 (runL n j I L).1) Dd (.inl (some (.int (nI ct)), (N, SH v T, rnI k m (runL n j I L).2.1 (runL n j I L).1, rnL k (runL n j I L).2.2 (runL n j I L).1, Dd)))) 49 [some (.ref 0), some (.int x), some (.int (nI j))] [] (N, SH v T, I, L, Dd) := by
  intro n
  induction n with
  | zero =>
    intro j I L hk9
    obtain ⟨hjn, hz1, hz2, hz3⟩ := hk9
    refine Ev.sg hX sX6_run_49 (pc' := 57) (ls' := [some (.ref 0), some (.int x), some (.int (nI j))]) (st' := [.int (I 388 2), .int (nI j)]) (h' := (N, SH v T, I, L, Dd)) rfl ?_
    rw [hz1]
    refine Ev.icmp_ge (tgt := 106) dX6_run_57 (by decide) (fun b1 => ?_) (fun b1 => ?_)
    · refine Ev.sg hX sX6_run_106 (pc' := 114) (ls' := [some (.ref 0), some (.int x), some (.int (nI j))]) (st' := [.ref 36, .ref 71]) (h' := (N, SH v T, I, L, Dd)) rfl ?_
      refine Ev.callV (As := [.ref 36]) (rest := []) dvX1_remember mkX6_55 rfl rfl dX6_run_114 (c_remember (d := d - 1) (I := I) (L := L) hX (by omega) hk hz2 hm hz3 YS_36) ⟨by omega, by show 3 + 19 + 40 * _ ≤ 40 * _; omega⟩ (by decide) rfl (Nat.le_of_ble_eq_true rfl) (fun v9 h9 e9 => ?_) (fun E9 h9 e9 => nomatch e9)
      cases e9
      show Ev _ _ _ _ _ _ 117 [some (.ref 0), some (.int x), some (.int (nI j))] [] (N, SH v T, remI I k m 36, yardCpL L (108 + 35 * k) 36, Dd)
      refine Ev.sg hX sX6_run_117 (pc' := 124) (ls' := [some (.ref 0), some (.int x), some (.int (nI j))]) (st' := [.int ((remI I k m 36) 388 2)]) (h' := (N, SH v T, remI I k m 36, yardCpL L (108 + 35 * k) 36, Dd)) rfl ?_
      refine Ev.iret dX6_run_124 rfl ?_
      (rw [remI_38 (I := I) (k := k) (m := m) (b2 := 36) hk (show 388 ≤ 388 by decide), hz1]; exact outE_ret rfl)
    · exact absurd ((nI_leI (a := ct) (b := j) (by omega) (by omega)).mpr (by omega)) b1
  | succ n ih =>
    intro j I L hk9
    obtain ⟨hjn, hct, hb, hr3⟩ := hk9
    refine Ev.sg hX sX6_run_49 (pc' := 57) (ls' := [some (.ref 0), some (.int x), some (.int (nI j))]) (st' := [.int (I 388 2), .int (nI j)]) (h' := (N, SH v T, I, L, Dd)) rfl ?_
    rw [hct]
    refine Ev.icmp_ge (tgt := 106) dX6_run_57 (by decide) (fun b1 => ?_) (fun b1 => ?_)
    · exact absurd ((nI_leI (a := ct) (b := j) (by omega) (by omega)).mp b1) (by omega)
    · refine Ev.sg hX sX6_run_60 (pc' := 62) (ls' := [some (.ref 0), some (.int x), some (.int (nI j))]) (st' := [.int (nI j), .ref 0]) (h' := (N, SH v T, I, L, Dd)) rfl ?_
      refine Ev.callV (As := [.int (nI j)]) (rest := []) dvX6_faultOfCommand mkX6_290 rfl rfl dX6_run_62 (c_faultC (d := d - 1) (j := j) hX (by omega) (by omega) hb) ⟨by omega, by show 5 + 19 + 40 * _ ≤ 40 * _; omega⟩ (by decide) rfl (Nat.le_of_ble_eq_true rfl) (fun v9 h9 e9 => ?_) (fun E9 h9 e9 => nomatch e9)
      cases e9
      show Ev _ _ _ _ _ _ 65 [some (.ref 0), some (.int x), some (.int (nI j))] [.int ((fltC I j).1)] (N, SH v T, (fltC I j).2, L, Dd)
      refine Ev.if_eq (tgt := 95) dX6_run_65 (by decide) (fun b2 => ?_) (fun b2 => ?_)
      · obtain ⟨hc, hdo, hrn⟩ := hr3 b2
        refine Ev.sg hX sX6_run_95 (pc' := 97) (ls' := [some (.ref 0), some (.int x), some (.int (nI j))]) (st' := [.int (nI j), .ref 0]) (h' := (N, SH v T, (fltC I j).2, L, Dd)) rfl ?_
        refine Ev.callV (As := [.int (nI j)]) (rest := []) dvX6_carryOut mkX6_298 rfl rfl dX6_run_97 (c_carryC (d := d - 1) (j := j) hX (by omega) (by omega) hc hdo) ⟨by omega, by show 6 + 19 + 40 * _ ≤ 40 * _; omega⟩ (by decide) rfl (Nat.le_of_ble_eq_true rfl) (fun v9 h9 e9 => ?_) (fun E9 h9 e9 => nomatch e9)
        cases e9
        show Ev _ _ _ _ _ _ 100 [some (.ref 0), some (.int x), some (.int (nI j))] [] (N, SH v T, (doC (fltC I j).2 L j).1, (doC (fltC I j).2 L j).2, Dd)
        refine Ev.sg hX sX6_run_100 (pc' := 49) (ls' := [some (.ref 0), some (.int x), some (.int ((nI j) + 1))]) (st' := []) (h' := (N, SH v T, (doC (fltC I j).2 L j).1, (doC (fltC I j).2 L j).2, Dd)) rfl ?_
        rw [nI_1, runL, if_pos b2]
        exact ih (j + 1) _ _ ⟨by omega, hrn⟩
      · refine Ev.sg hX sX6_run_68 (pc' := 76) (ls' := [some (.ref 0), some (.int x), some (.int (nI j))]) (st' := [.ref 36, .ref 1]) (h' := (N, SH v T, (fltC I j).2, L, Dd)) rfl ?_
        refine Ev.callV (As := [.ref 36]) (rest := []) dvX5_copy mkX6_284 rfl rfl dX6_run_76 (c_Yard_copy (d := d - 1) (b := 1) (b2 := 36) (S := SH v T) (I := (fltC I j).2) (L := L) hX (by omega) YS_1 YS_36) ⟨by omega, by show 2 + 19 + 40 * _ ≤ 40 * _; omega⟩ (by decide) rfl (Nat.le_of_ble_eq_true rfl) (fun v9 h9 e9 => ?_) (fun E9 h9 e9 => nomatch e9)
        cases e9
        show Ev _ _ _ _ _ _ 79 [some (.ref 0), some (.int x), some (.int (nI j))] [] (N, SH v T, yardCpI ((fltC I j).2) 1 36, yardCpL L 1 36, Dd)
        refine Ev.sg hX sX6_run_79 (pc' := 84) (ls' := [some (.ref 0), some (.int x), some (.int (nI j))]) (st' := []) (h' := (N, SH v T, up2 (yardCpI ((fltC I j).2) 1 36) 0 6 (nI j), yardCpL L 1 36, Dd)) rfl ?_
        refine Ev.mkSW (E := "java/lang/UnsupportedOperationException") (si := 24) hX je_13 (by decide +kernel) (by decide +kernel) rfl dX6_run_84 (sX6_run_87.dc 0 (q := (87, .dup, 0, 0)) rfl) dX6_run_88 dX6_run_91 (by omega) ⟨by omega, by omega⟩ hN (Nat.le_of_ble_eq_true rfl) ?_
        refine Ev.athrow hX upS_eq rfl dX6_run_94 (EvX.out rfl ?_)
        (rw [runL, if_neg b2]; exact outE_new hN4 rfl)
/-- the heap behind parse and clear -/
def rn1 (I : HI) (q vt : Nat) (V K : Nat → Int32) : HI := up2 (PI I q (paL (I 389) q 60 0 vt V 0 K).2) 388 1 0
/-- the run's loop -/
def rnR (I : HI) (L : Nat → Nat → Int64) (q vt : Nat) (V K : Nat → Int32) : Option Nat × HI × (Nat → Nat → Int64) := runL (paL (I 389) q 60 0 vt V 0 K).2.2.2.2.1 0 (yardCpI (rn1 I q vt V K) 36 1) (yardCpL L 36 1)
theorem paL_1 {tx : Nat → Int32} {q : Nat} : ∀ (n p vt : Nat) (V : Nat → Int32) (ct : Nat) (K : Nat → Int32), 8 * ct ≤ p → p ≤ q → q ≤ 60 → (paL tx q n p vt V ct K).2.2.2.2.1 ≤ 8
  | 0, p, vt, V, ct, K, h1, h2, h3 => by
    show ct ≤ 8
    omega
  | n + 1, p, vt, V, ct, K, h1, h2, h3 => by
    have hr := rcL_ok (tx := tx) (ct := ct) h2 7 0 p vt V rfl h2
    rw [paL]
    split
    · show ct ≤ 8
      omega
    · rename_i h
      have hr2 := hr.2 h
      split
      · show ct + 1 ≤ 8
        omega
      · split
        · exact paL_1 n _ _ _ _ _ (by omega) (by omega) h3
        · show ct + 1 ≤ 8
          omega
def rnRes (N v : Nat) (T : Nat → Option JS) (Dd : Nat → Nat → UInt64) (I : HI) (L : Nat → Nat → Int64) (q vt : Nat) (V K : Nat → Int32) (k m : Nat) : JR → Prop :=
  if (paL (I 389) q 60 0 vt V 0 K).1 = -1 then outE (rnX (rnR I L q vt V K).1) N v T (rnI k m (rnR I L q vt V K).2.1 (rnR I L q vt V K).1) (rnL k (rnR I L q vt V K).2.2 (rnR I L q vt V K).1) Dd (.inl (some (.int (nI (paL (I 389) q 60 0 vt V 0 K).2.2.2.2.1)), (N, SH v T, rnI k m (rnR I L q vt V K).2.1 (rnR I L q vt V K).1, rnL k (rnR I L q vt V K).2.2 (rnR I L q vt V K).1, Dd)))
  else fun R => ∃ sh, R = .inr ("java/lang/IllegalArgumentException", (N + 1, SH v (upS T N sh), up2 (rn1 I q vt V K) 0 5 (paL (I 389) q 60 0 vt V 0 K).1, L, Dd))
theorem c_run {q p vt ct k m : Nat} {V K : Nat → Int32} (hX : JXok X) (hd : 9 ≤ d) (hN4 : 396 ≤ N) (hN : N + 1 < BIG) (hk : k < 8) (hm : m ≤ 8) (hq : q ≤ 60) (hok : (paL (I 389) q 60 0 vt V 0 K).1 = -1 → rOK (paL (I 389) q 60 0 vt V 0 K).2.2.2.2.1 k m (paL (I 389) q 60 0 vt V 0 K).2.2.2.2.1 0 (yardCpI (rn1 I q vt V K) 36 1) (yardCpL L 36 1)) : MT X d 4 24 jdX6_run [.ref 0] (N, SH v T, PI I q (p, vt, V, ct, K), L, Dd) (rnRes N v T Dd I L q vt V K k m) := by
  refine MT.mk dvX6_run.1 ?_
  refine Ev.sg hX sX6_run_0 (pc' := 4) (ls' := [some (.ref 0), none, none]) (st' := [.ref 388]) (h' := (N, SH v T, PI I q (p, vt, V, ct, K), L, Dd)) rfl ?_
  refine Ev.callV (As := []) (rest := []) dvX3_parse mkX6_276 rfl rfl dX6_run_4 (c_parse (d := d - 1) (p := p) (vt := vt) (V := V) (ct := ct) (K := K) hX (by omega) hq) ⟨by omega, by show 2 + 19 + 40 * _ ≤ 40 * _; omega⟩ (by decide) rfl (Nat.le_of_ble_eq_true rfl) (fun v9 h9 e9 => ?_) (fun E9 h9 e9 => nomatch e9)
  cases e9
  show Ev _ _ _ _ _ _ 7 [some (.ref 0), none, none] [.int ((paL (I 389) q 60 0 vt V 0 K).1)] (N, SH v T, PI I q (paL (I 389) q 60 0 vt V 0 K).2, L, Dd)
  refine Ev.sg hX sX6_run_7 (pc' := 12) (ls' := [some (.ref 0), some (.int ((paL (I 389) q 60 0 vt V 0 K).1)), none]) (st' := [.ref 388]) (h' := (N, SH v T, PI I q (paL (I 389) q 60 0 vt V 0 K).2, L, Dd)) rfl ?_
  refine Ev.callV (As := []) (rest := []) dvX3_clear mkX6_279 rfl rfl dX6_run_12 (c_pclear (d := d - 1) (I := (PI I q (paL (I 389) q 60 0 vt V 0 K).2)) hX (by omega)) ⟨by omega, by show 1 + 19 + 40 * _ ≤ 40 * _; omega⟩ (by decide) rfl (Nat.le_of_ble_eq_true rfl) (fun v9 h9 e9 => ?_) (fun E9 h9 e9 => nomatch e9)
  cases e9
  show Ev _ _ _ _ _ _ 15 [some (.ref 0), some (.int ((paL (I 389) q 60 0 vt V 0 K).1)), none] [] (N, SH v T, rn1 I q vt V K, L, Dd)
  refine Ev.sg hX sX6_run_15 (pc' := 17) (ls' := [some (.ref 0), some (.int ((paL (I 389) q 60 0 vt V 0 K).1)), none]) (st' := [.int (-1), .int ((paL (I 389) q 60 0 vt V 0 K).1)]) (h' := (N, SH v T, rn1 I q vt V K, L, Dd)) rfl ?_
  refine Ev.icmp_eq (tgt := 36) dX6_run_17 (by decide) (fun b1 => ?_) (fun b1 => ?_)
  · refine Ev.sg hX sX6_run_36 (pc' := 44) (ls' := [some (.ref 0), some (.int ((paL (I 389) q 60 0 vt V 0 K).1)), none]) (st' := [.ref 1, .ref 36]) (h' := (N, SH v T, rn1 I q vt V K, L, Dd)) rfl ?_
    refine Ev.callV (As := [.ref 1]) (rest := []) dvX5_copy mkX6_284 rfl rfl dX6_run_44 (c_Yard_copy (d := d - 1) (b := 36) (b2 := 1) (S := SH v T) (I := rn1 I q vt V K) (L := L) hX (by omega) YS_36 YS_1) ⟨by omega, by show 2 + 19 + 40 * _ ≤ 40 * _; omega⟩ (by decide) rfl (Nat.le_of_ble_eq_true rfl) (fun v9 h9 e9 => ?_) (fun E9 h9 e9 => nomatch e9)
    cases e9
    show Ev _ _ _ _ _ _ 47 [some (.ref 0), some (.int ((paL (I 389) q 60 0 vt V 0 K).1)), none] [] (N, SH v T, yardCpI (rn1 I q vt V K) 36 1, yardCpL L 36 1, Dd)
    refine Ev.sg hX sX6_run_47 (pc' := 49) (ls' := [some (.ref 0), some (.int ((paL (I 389) q 60 0 vt V 0 K).1)), some (.int 0)]) (st' := []) (h' := (N, SH v T, yardCpI (rn1 I q vt V K) 36 1, yardCpL L 36 1, Dd)) rfl ?_
    rw [rnRes, if_pos b1]
    have hlr := l_run (v := v) (N := N) (T := T) (Dd := Dd) (k := k) (m := m) (ct := (paL (I 389) q 60 0 vt V 0 K).2.2.2.2.1) (x := (paL (I 389) q 60 0 vt V 0 K).1) hX (d := d) (by omega) hN4 hN hk hm (paL_1 60 0 vt V 0 K (Nat.zero_le _) (Nat.zero_le _) hq) (paL (I 389) q 60 0 vt V 0 K).2.2.2.2.1 0 (yardCpI (rn1 I q vt V K) 36 1) (yardCpL L 36 1) ⟨Nat.zero_add _, hok b1⟩
    rw [show nI 0 = 0 from rfl] at hlr
    unfold rnR
    exact hlr
  · refine Ev.sg hX sX6_run_20 (pc' := 25) (ls' := [some (.ref 0), some (.int ((paL (I 389) q 60 0 vt V 0 K).1)), none]) (st' := []) (h' := (N, SH v T, up2 (rn1 I q vt V K) 0 5 ((paL (I 389) q 60 0 vt V 0 K).1), L, Dd)) rfl ?_
    refine Ev.mkSW (E := "java/lang/IllegalArgumentException") (si := 23) hX je_9 (by decide +kernel) (by decide +kernel) rfl dX6_run_25 (sX6_run_28.dc 0 (q := (28, .dup, 0, 0)) rfl) dX6_run_29 dX6_run_32 (by omega) ⟨by omega, by omega⟩ hN (Nat.le_of_ble_eq_true rfl) ?_
    refine Ev.athrow hX upS_eq rfl dX6_run_35 (EvX.out rfl ?_)
    (rw [rnRes, if_neg b1]; exact ⟨_, congrArg (fun z => Sum.inr ("java/lang/IllegalArgumentException", z)) (newS_SH hN4)⟩)
end RUN
