/-! questions about tracks, routes, cars: what they answer -/
theorem trkX_none {I : Nat → Nat → Int32} {t : Int32} (h : trkX I t = none) : hasT I t := by
  unfold trkX at h
  split at h
  · assumption
  · cases h
theorem alD_b {p : Nat → Prop} [DecidablePred p] : ∀ n k, alD p n k = 0 ∨ alD p n k = 1 := by
  intro n
  induction n with
  | zero => intro k; simp [alD]
  | succ n ih =>
    intro k
    rw [alD]
    split
    · exact ih _
    · exact Or.inl rfl
theorem n01 {x : Int32} (h : x = 0 ∨ x = 1) : narrow .boolean (.int x) = .int x := by rcases h with rfl | rfl <;> rfl
def seqX (f : Option String) (I : Nat → Nat → Int32) (k : Option String × Int32 × (Nat → Nat → Int32)) : Option String × Int32 × (Nat → Nat → Int32) := match f with
  | some E => (some E, 0, I)
  | none => k
def outQ (q : Option String × Int32 × (Nat → Nat → Int32)) (N v : Nat) (T : Nat → Option JS) (L : Nat → Nat → Int64) (Dd : Nat → Nat → UInt64) : JR → Prop := outE q.1 N v T q.2.2 L Dd (.inl (some (.int q.2.1), (N, SH v T, q.2.2, L, Dd)))
section OQ
variable {N v : Nat} {T : Nat → Option JS} {J : Nat → Nat → Int32} {L : Nat → Nat → Int64} {Dd : Nat → Nat → UInt64} {q : Option String × Int32 × (Nat → Nat → Int32)} {x : Int32} {E : String} {sh : JS}
theorem outQ_ret (e : q = (none, x, J)) : outQ q N v T L Dd (.inl (some (.int x), (N, SH v T, J, L, Dd))) := by
  subst e
  exact rfl
theorem outQ_new (x : Int32) (e : q = (some E, x, J)) (hN : 396 ≤ N) : outQ q N v T L Dd (.inr (E, newS (N, SH v T, J, L, Dd) sh)) := by
  subst e
  exact outE_new hN rfl
theorem outQ_pass {sh : JS} (x : Int32) (e : q = (some E, x, J)) : outQ q N v T L Dd (.inr (E, (N + 1, SH v (upS T N sh), J, L, Dd))) := by
  subst e
  exact outE_pass rfl
end OQ
section QUE
variable {X : JX} {d N v : Nat} {T : Nat → Option JS} {I : Nat → Nat → Int32} {L : Nat → Nat → Int64} {Dd : Nat → Nat → UInt64} {t c a b : Int32}
def freeQ (I : Nat → Nat → Int32) (t : Int32) : Option String × Int32 × (Nat → Nat → Int32) := seqX (trkX I t) I (none, I 3 t.toNatClampNeg - I 33 t.toNatClampNeg, I)
theorem c_freeLength (hX : JXok X) (hd : 7 ≤ d) (hN4 : 396 ≤ N) (hN : N + 1 < BIG) {sz : Nat} (hsz : sz ≤ 8) (hJ : I 6 0 = nI sz) (hhs : ∀ t, t < 8 → ∃ hg, hg ≤ 20 ∧ I 31 t = nI hg) : MT X d 4 24 jdX6_freeLength [.ref 0, .int t] (N, SH v T, I, L, Dd) (outQ (freeQ I t) N v T L Dd) := by
  refine MT.mk dvX6_freeLength.1 ?_
  refine Ev.sg hX sX6_freeLength_0 (pc' := 2) (ls' := [some (.ref 0), some (.int t)]) (st' := [.int t, .ref 0]) (h' := (N, SH v T, I, L, Dd)) rfl ?_
  refine opt_split (trkX I t) (fun E2 f1 => ?_) (fun f1 => ?_)
  · refine Ev.callV (As := [.int t]) (rest := []) dvX6_requireTrack mkX6_117 rfl rfl dX6_freeLength_2 ((c_requireTrack (d := d - 1) (t := t) (N := N) (v := v) (T := T) (I := I) (L := L) (Dd := Dd) hX (by omega) hN4 hN).some f1) ⟨by omega, by show 2 + 19 + 40 * _ ≤ 40 * _; omega⟩ ⟨by omega, by omega⟩ rfl (Nat.le_of_ble_eq_true rfl) (fun v9 h9 e9 => by obtain ⟨T9, e9⟩ := e9; cases e9) (fun E9 h9 e9 => ?_)
    obtain ⟨T9, e9⟩ := e9
    cases e9
    refine EvX.out rfl ?_
    exact outQ_pass 0 (by simp [freeQ, seqX, f1])
  refine Ev.callV (As := [.int t]) (rest := []) dvX6_requireTrack mkX6_117 rfl rfl dX6_freeLength_2 ((c_requireTrack (d := d - 1) (t := t) (N := N) (v := v) (T := T) (I := I) (L := L) (Dd := Dd) hX (by omega) hN4 hN).none f1) ⟨by omega, by show 2 + 19 + 40 * _ ≤ 40 * _; omega⟩ ⟨by omega, by omega⟩ rfl (Nat.le_of_ble_eq_true rfl) (fun v9 h9 e9 => ?_) (fun E9 h9 e9 => nomatch e9)
  cases e9
  show Ev _ _ _ _ _ _ 5 [some (.ref 0), some (.int t)] [] (N, SH v T, I, L, Dd)
  obtain ⟨f9, hf9, rfl⟩ := hasT_nI hsz hJ (trkX_none f1)
  have hcf9 : (nI f9).toNatClampNeg = f9 := nI_clamp (by omega)
  obtain ⟨hg, hg20, hh⟩ := hhs f9 (by omega)
  have hch : (nI hg).toNatClampNeg = hg := nI_clamp (by omega)
  refine Ev.sg hX sX6_freeLength_5 (pc' := 10) (ls' := [some (.ref 0), some (.int (nI f9))]) (st' := [.int (nI f9), .ref 1]) (h' := (N, SH v T, I, L, Dd)) rfl ?_
  refine Ev.callV (As := [.int (nI f9)]) (rest := []) dvX5_free mkX6_120 rfl rfl dX6_freeLength_10 (c_free (d := d - 1) (I := I) hX (by omega) (by omega)) ⟨by omega, by show 2 + 19 + 40 * _ ≤ 40 * _; omega⟩ (by decide) rfl (Nat.le_of_ble_eq_true rfl) (fun v9 h9 e9 => ?_) (fun E9 h9 e9 => nomatch e9)
  cases e9
  show Ev _ _ _ _ _ _ 13 [some (.ref 0), some (.int (nI f9))] [.int (I 3 f9 - I 33 f9)] (N, SH v T, I, L, Dd)
  refine Ev.iret dX6_freeLength_13 rfl ?_
  exact outQ_ret (by simp [freeQ, seqX, f1, hcf9, hh, hch])
def heightQ (I : Nat → Nat → Int32) (t : Int32) : Option String × Int32 × (Nat → Nat → Int32) := seqX (trkX I t) I (none, I 31 t.toNatClampNeg, I)
theorem c_carsOn (hX : JXok X) (hd : 7 ≤ d) (hN4 : 396 ≤ N) (hN : N + 1 < BIG) {sz : Nat} (hsz : sz ≤ 8) (hJ : I 6 0 = nI sz) (hhs : ∀ t, t < 8 → ∃ hg, hg ≤ 20 ∧ I 31 t = nI hg) : MT X d 4 24 jdX6_carsOn [.ref 0, .int t] (N, SH v T, I, L, Dd) (outQ (heightQ I t) N v T L Dd) := by
  refine MT.mk dvX6_carsOn.1 ?_
  refine Ev.sg hX sX6_carsOn_0 (pc' := 2) (ls' := [some (.ref 0), some (.int t)]) (st' := [.int t, .ref 0]) (h' := (N, SH v T, I, L, Dd)) rfl ?_
  refine opt_split (trkX I t) (fun E2 f1 => ?_) (fun f1 => ?_)
  · refine Ev.callV (As := [.int t]) (rest := []) dvX6_requireTrack mkX6_117 rfl rfl dX6_carsOn_2 ((c_requireTrack (d := d - 1) (t := t) (N := N) (v := v) (T := T) (I := I) (L := L) (Dd := Dd) hX (by omega) hN4 hN).some f1) ⟨by omega, by show 2 + 19 + 40 * _ ≤ 40 * _; omega⟩ ⟨by omega, by omega⟩ rfl (Nat.le_of_ble_eq_true rfl) (fun v9 h9 e9 => by obtain ⟨T9, e9⟩ := e9; cases e9) (fun E9 h9 e9 => ?_)
    obtain ⟨T9, e9⟩ := e9
    cases e9
    refine EvX.out rfl ?_
    exact outQ_pass 0 (by simp [heightQ, seqX, f1])
  refine Ev.callV (As := [.int t]) (rest := []) dvX6_requireTrack mkX6_117 rfl rfl dX6_carsOn_2 ((c_requireTrack (d := d - 1) (t := t) (N := N) (v := v) (T := T) (I := I) (L := L) (Dd := Dd) hX (by omega) hN4 hN).none f1) ⟨by omega, by show 2 + 19 + 40 * _ ≤ 40 * _; omega⟩ ⟨by omega, by omega⟩ rfl (Nat.le_of_ble_eq_true rfl) (fun v9 h9 e9 => ?_) (fun E9 h9 e9 => nomatch e9)
  cases e9
  show Ev _ _ _ _ _ _ 5 [some (.ref 0), some (.int t)] [] (N, SH v T, I, L, Dd)
  obtain ⟨f9, hf9, rfl⟩ := hasT_nI hsz hJ (trkX_none f1)
  have hcf9 : (nI f9).toNatClampNeg = f9 := nI_clamp (by omega)
  refine Ev.sg hX sX6_carsOn_5 (pc' := 16) (ls' := [some (.ref 0), some (.int (nI f9))]) (st' := [.int (nI f9), .ref 30]) (h' := (N, SH v T, I, L, Dd)) rfl ?_
  refine Ev.callV (As := [.int (nI f9)]) (rest := []) dvX4_get mkX6_127 rfl rfl dX6_carsOn_16 (c_Row_getN (d := d - 1) (h := (N, SH v T, I, L, Dd)) (r := 30) (a := 31) (n := 8) hX rfl rfl (by decide) (by omega)) ⟨by omega, by show 2 + 19 + 40 * _ ≤ 40 * _; omega⟩ (by decide) rfl (Nat.le_of_ble_eq_true rfl) (fun v9 h9 e9 => ?_) (fun E9 h9 e9 => nomatch e9)
  cases e9
  show Ev _ _ _ _ _ _ 19 [some (.ref 0), some (.int (nI f9))] [.int (I 31 f9)] (N, SH v T, I, L, Dd)
  refine Ev.iret dX6_carsOn_19 rfl ?_
  exact outQ_ret (by simp [heightQ, seqX, f1, hcf9])
def weightQ (I : Nat → Nat → Int32) (t : Int32) : Option String × Int32 × (Nat → Nat → Int32) := seqX (trkX I t) I (none, weightOf I t, I)
theorem c_weightOnQ (hX : JXok X) (hd : 7 ≤ d) (hN4 : 396 ≤ N) (hN : N + 1 < BIG) {sz : Nat} (hsz : sz ≤ 8) (hJ : I 6 0 = nI sz) (hhs : ∀ t, t < 8 → ∃ hg, hg ≤ 20 ∧ I 31 t = nI hg) : MT X d 4 24 jdX6_weightOn [.ref 0, .int t] (N, SH v T, I, L, Dd) (outQ (weightQ I t) N v T L Dd) := by
  refine MT.mk dvX6_weightOn.1 ?_
  refine Ev.sg hX sX6_weightOn_0 (pc' := 2) (ls' := [some (.ref 0), some (.int t)]) (st' := [.int t, .ref 0]) (h' := (N, SH v T, I, L, Dd)) rfl ?_
  refine opt_split (trkX I t) (fun E2 f1 => ?_) (fun f1 => ?_)
  · refine Ev.callV (As := [.int t]) (rest := []) dvX6_requireTrack mkX6_117 rfl rfl dX6_weightOn_2 ((c_requireTrack (d := d - 1) (t := t) (N := N) (v := v) (T := T) (I := I) (L := L) (Dd := Dd) hX (by omega) hN4 hN).some f1) ⟨by omega, by show 2 + 19 + 40 * _ ≤ 40 * _; omega⟩ ⟨by omega, by omega⟩ rfl (Nat.le_of_ble_eq_true rfl) (fun v9 h9 e9 => by obtain ⟨T9, e9⟩ := e9; cases e9) (fun E9 h9 e9 => ?_)
    obtain ⟨T9, e9⟩ := e9
    cases e9
    refine EvX.out rfl ?_
    exact outQ_pass 0 (by simp [weightQ, seqX, f1])
  refine Ev.callV (As := [.int t]) (rest := []) dvX6_requireTrack mkX6_117 rfl rfl dX6_weightOn_2 ((c_requireTrack (d := d - 1) (t := t) (N := N) (v := v) (T := T) (I := I) (L := L) (Dd := Dd) hX (by omega) hN4 hN).none f1) ⟨by omega, by show 2 + 19 + 40 * _ ≤ 40 * _; omega⟩ ⟨by omega, by omega⟩ rfl (Nat.le_of_ble_eq_true rfl) (fun v9 h9 e9 => ?_) (fun E9 h9 e9 => nomatch e9)
  cases e9
  show Ev _ _ _ _ _ _ 5 [some (.ref 0), some (.int t)] [] (N, SH v T, I, L, Dd)
  refine Ev.sg hX sX6_weightOn_5 (pc' := 13) (ls' := [some (.ref 0), some (.int t)]) (st' := [.int t, .ref 15]) (h' := (N, SH v T, I, L, Dd)) rfl ?_
  refine Ev.callV (As := [.int t]) (rest := []) dvX0_weightOf mkX6_132 rfl rfl dX6_weightOn_13 (c_weightOf (d := d - 1) (I := I) hX (by omega)) ⟨by omega, by show 4 + 19 + 40 * _ ≤ 40 * _; omega⟩ (by decide) rfl (Nat.le_of_ble_eq_true rfl) (fun v9 h9 e9 => ?_) (fun E9 h9 e9 => nomatch e9)
  cases e9
  show Ev _ _ _ _ _ _ 16 [some (.ref 0), some (.int t)] [.int (weightOf I t)] (N, SH v T, I, L, Dd)
  refine Ev.iret dX6_weightOn_16 rfl ?_
  exact outQ_ret (by simp [weightQ, seqX, f1])
def carAtQ (I : Nat → Nat → Int32) (t c : Int32) : Option String × Int32 × (Nat → Nat → Int32) := seqX (trkX I t) I (seqX (if slotAt I t c = -1 then some "java/util/NoSuchElementException" else none) I (none, rg 20 (I 17) (slotAt I t c), I))
theorem c_carAt (hX : JXok X) (hd : 7 ≤ d) (hN4 : 396 ≤ N) (hN : N + 1 < BIG) {sz : Nat} (hsz : sz ≤ 8) (hJ : I 6 0 = nI sz) (hhs : ∀ t, t < 8 → ∃ hg, hg ≤ 20 ∧ I 31 t = nI hg) : MT X d 4 24 jdX6_carAt [.ref 0, .int t, .int c] (N, SH v T, I, L, Dd) (outQ (carAtQ I t c) N v T L Dd) := by
  refine MT.mk dvX6_carAt.1 ?_
  refine Ev.sg hX sX6_carAt_0 (pc' := 2) (ls' := [some (.ref 0), some (.int t), some (.int c), none]) (st' := [.int t, .ref 0]) (h' := (N, SH v T, I, L, Dd)) rfl ?_
  refine opt_split (trkX I t) (fun E2 f1 => ?_) (fun f1 => ?_)
  · refine Ev.callV (As := [.int t]) (rest := []) dvX6_requireTrack mkX6_117 rfl rfl dX6_carAt_2 ((c_requireTrack (d := d - 1) (t := t) (N := N) (v := v) (T := T) (I := I) (L := L) (Dd := Dd) hX (by omega) hN4 hN).some f1) ⟨by omega, by show 2 + 19 + 40 * _ ≤ 40 * _; omega⟩ ⟨by omega, by omega⟩ rfl (Nat.le_of_ble_eq_true rfl) (fun v9 h9 e9 => by obtain ⟨T9, e9⟩ := e9; cases e9) (fun E9 h9 e9 => ?_)
    obtain ⟨T9, e9⟩ := e9
    cases e9
    refine EvX.out rfl ?_
    exact outQ_pass 0 (by simp [carAtQ, seqX, f1])
  refine Ev.callV (As := [.int t]) (rest := []) dvX6_requireTrack mkX6_117 rfl rfl dX6_carAt_2 ((c_requireTrack (d := d - 1) (t := t) (N := N) (v := v) (T := T) (I := I) (L := L) (Dd := Dd) hX (by omega) hN4 hN).none f1) ⟨by omega, by show 2 + 19 + 40 * _ ≤ 40 * _; omega⟩ ⟨by omega, by omega⟩ rfl (Nat.le_of_ble_eq_true rfl) (fun v9 h9 e9 => ?_) (fun E9 h9 e9 => nomatch e9)
  cases e9
  show Ev _ _ _ _ _ _ 5 [some (.ref 0), some (.int t), some (.int c), none] [] (N, SH v T, I, L, Dd)
  refine Ev.sg hX sX6_carAt_5 (pc' := 14) (ls' := [some (.ref 0), some (.int t), some (.int c), none]) (st' := [.int c, .int t, .ref 15]) (h' := (N, SH v T, I, L, Dd)) rfl ?_
  refine Ev.callV (As := [.int t, .int c]) (rest := []) dvX0_slotAt mkX6_135 rfl rfl dX6_carAt_14 (c_slotAt (d := d - 1) (I := I) hX (by omega)) ⟨by omega, by show 4 + 19 + 40 * _ ≤ 40 * _; omega⟩ (by decide) rfl (Nat.le_of_ble_eq_true rfl) (fun v9 h9 e9 => ?_) (fun E9 h9 e9 => nomatch e9)
  cases e9
  show Ev _ _ _ _ _ _ 17 [some (.ref 0), some (.int t), some (.int c), none] [.int (slotAt I t c)] (N, SH v T, I, L, Dd)
  refine Ev.sg hX sX6_carAt_17 (pc' := 20) (ls' := [some (.ref 0), some (.int t), some (.int c), some (.int (slotAt I t c))]) (st' := [.int (-1), .int (slotAt I t c)]) (h' := (N, SH v T, I, L, Dd)) rfl ?_
  refine Ev.icmp_ne (tgt := 33) dX6_carAt_20 (by decide) (fun b3 => ?_) (fun b3 => ?_)
  · refine Ev.sg hX sX6_carAt_33 (pc' := 44) (ls' := [some (.ref 0), some (.int t), some (.int c), some (.int (slotAt I t c))]) (st' := [.int (slotAt I t c), .ref 16]) (h' := (N, SH v T, I, L, Dd)) rfl ?_
    refine Ev.callV (As := [.int (slotAt I t c)]) (rest := []) dvX4_get mkX6_127 rfl rfl dX6_carAt_44 (c_Row_get (d := d - 1) (h := (N, SH v T, I, L, Dd)) (r := 16) (a := 17) (n := 20) hX rfl rfl (by decide)) ⟨by omega, by show 2 + 19 + 40 * _ ≤ 40 * _; omega⟩ (by decide) rfl (Nat.le_of_ble_eq_true rfl) (fun v9 h9 e9 => ?_) (fun E9 h9 e9 => nomatch e9)
    cases e9
    show Ev _ _ _ _ _ _ 47 [some (.ref 0), some (.int t), some (.int c), some (.int (slotAt I t c))] [.int (rg 20 (I 17) (slotAt I t c))] (N, SH v T, I, L, Dd)
    refine Ev.iret dX6_carAt_47 rfl ?_
    exact outQ_ret (by simp [carAtQ, seqX, f1, b3])
  · refine Ev.mkS (E := "java/util/NoSuchElementException") (si := 5) hX je_12 (by decide +kernel) (by decide +kernel) rfl dX6_carAt_23 (sX6_carAt_26.dc 0 (q := (26, .dup, 0, 0)) rfl) dX6_carAt_27 dX6_carAt_29 (by omega) ⟨by omega, by omega⟩ hN (Nat.le_of_ble_eq_true rfl) ?_
    refine Ev.athrow hX upS_eq rfl dX6_carAt_32 (EvX.out rfl ?_)
    exact outQ_new 0 (by simp [carAtQ, seqX, f1, b3]) hN4
def sortedQ (I : Nat → Nat → Int32) (t : Int32) : Option String × Int32 × (Nat → Nat → Int32) := seqX (trkX I t) I (none, nvi (listO I t) (I 31 t.toNatClampNeg).toNatClampNeg, listO I t)
theorem c_isSorted (hX : JXok X) (hd : 7 ≤ d) (hN4 : 396 ≤ N) (hN : N + 1 < BIG) {sz : Nat} (hsz : sz ≤ 8) (hJ : I 6 0 = nI sz) (hhs : ∀ t, t < 8 → ∃ hg, hg ≤ 20 ∧ I 31 t = nI hg) : MT X d 4 24 jdX6_isSorted [.ref 0, .int t] (N, SH v T, I, L, Dd) (outQ (sortedQ I t) N v T L Dd) := by
  refine MT.mk dvX6_isSorted.1 ?_
  refine Ev.sg hX sX6_isSorted_0 (pc' := 2) (ls' := [some (.ref 0), some (.int t)]) (st' := [.int t, .ref 0]) (h' := (N, SH v T, I, L, Dd)) rfl ?_
  refine opt_split (trkX I t) (fun E2 f1 => ?_) (fun f1 => ?_)
  · refine Ev.callV (As := [.int t]) (rest := []) dvX6_requireTrack mkX6_117 rfl rfl dX6_isSorted_2 ((c_requireTrack (d := d - 1) (t := t) (N := N) (v := v) (T := T) (I := I) (L := L) (Dd := Dd) hX (by omega) hN4 hN).some f1) ⟨by omega, by show 2 + 19 + 40 * _ ≤ 40 * _; omega⟩ ⟨by omega, by omega⟩ rfl (Nat.le_of_ble_eq_true rfl) (fun v9 h9 e9 => by obtain ⟨T9, e9⟩ := e9; cases e9) (fun E9 h9 e9 => ?_)
    obtain ⟨T9, e9⟩ := e9
    cases e9
    refine EvX.out rfl ?_
    exact outQ_pass 0 (by simp [sortedQ, seqX, f1])
  refine Ev.callV (As := [.int t]) (rest := []) dvX6_requireTrack mkX6_117 rfl rfl dX6_isSorted_2 ((c_requireTrack (d := d - 1) (t := t) (N := N) (v := v) (T := T) (I := I) (L := L) (Dd := Dd) hX (by omega) hN4 hN).none f1) ⟨by omega, by show 2 + 19 + 40 * _ ≤ 40 * _; omega⟩ ⟨by omega, by omega⟩ rfl (Nat.le_of_ble_eq_true rfl) (fun v9 h9 e9 => ?_) (fun E9 h9 e9 => nomatch e9)
  cases e9
  show Ev _ _ _ _ _ _ 5 [some (.ref 0), some (.int t)] [] (N, SH v T, I, L, Dd)
  obtain ⟨f9, hf9, rfl⟩ := hasT_nI hsz hJ (trkX_none f1)
  have hcf9 : (nI f9).toNatClampNeg = f9 := nI_clamp (by omega)
  obtain ⟨hg, hg20, hh⟩ := hhs f9 (by omega)
  have hch : (nI hg).toNatClampNeg = hg := nI_clamp (by omega)
  refine Ev.sg hX sX6_isSorted_5 (pc' := 13) (ls' := [some (.ref 0), some (.int (nI f9))]) (st' := [.int (nI f9), .ref 15]) (h' := (N, SH v T, I, L, Dd)) rfl ?_
  refine Ev.callV (As := [.int (nI f9)]) (rest := []) dvX0_neverIncrease mkX6_148 rfl rfl dX6_isSorted_13 (c_neverIncrease (d := d - 1) (I := I) hX (by omega) (by omega) hg20 hh) ⟨by omega, by show 4 + 19 + 40 * _ ≤ 40 * _; omega⟩ (by decide) rfl (Nat.le_of_ble_eq_true rfl) (fun v9 h9 e9 => ?_) (fun E9 h9 e9 => nomatch e9)
  cases e9
  show Ev _ _ _ _ _ _ 16 [some (.ref 0), some (.int (nI f9))] [.int (nvi (listO I (nI f9)) hg)] (N, SH v T, listO I (nI f9), L, Dd)
  refine Ev.zret dX6_isSorted_16 rfl ?_ ?_
  · exact n01 (alD_b _ _)
  exact outQ_ret (by simp [sortedQ, seqX, f1, hcf9, hh, hch])
def disQ (I : Nat → Nat → Int32) (t : Int32) : Option String × Int32 × (Nat → Nat → Int32) := seqX (trkX I t) I (none, pairsF (listO I t) (I 31 t.toNatClampNeg).toNatClampNeg, listO I t)
theorem c_disorder (hX : JXok X) (hd : 7 ≤ d) (hN4 : 396 ≤ N) (hN : N + 1 < BIG) {sz : Nat} (hsz : sz ≤ 8) (hJ : I 6 0 = nI sz) (hhs : ∀ t, t < 8 → ∃ hg, hg ≤ 20 ∧ I 31 t = nI hg) : MT X d 4 24 jdX6_disorder [.ref 0, .int t] (N, SH v T, I, L, Dd) (outQ (disQ I t) N v T L Dd) := by
  refine MT.mk dvX6_disorder.1 ?_
  refine Ev.sg hX sX6_disorder_0 (pc' := 2) (ls' := [some (.ref 0), some (.int t)]) (st' := [.int t, .ref 0]) (h' := (N, SH v T, I, L, Dd)) rfl ?_
  refine opt_split (trkX I t) (fun E2 f1 => ?_) (fun f1 => ?_)
  · refine Ev.callV (As := [.int t]) (rest := []) dvX6_requireTrack mkX6_117 rfl rfl dX6_disorder_2 ((c_requireTrack (d := d - 1) (t := t) (N := N) (v := v) (T := T) (I := I) (L := L) (Dd := Dd) hX (by omega) hN4 hN).some f1) ⟨by omega, by show 2 + 19 + 40 * _ ≤ 40 * _; omega⟩ ⟨by omega, by omega⟩ rfl (Nat.le_of_ble_eq_true rfl) (fun v9 h9 e9 => by obtain ⟨T9, e9⟩ := e9; cases e9) (fun E9 h9 e9 => ?_)
    obtain ⟨T9, e9⟩ := e9
    cases e9
    refine EvX.out rfl ?_
    exact outQ_pass 0 (by simp [disQ, seqX, f1])
  refine Ev.callV (As := [.int t]) (rest := []) dvX6_requireTrack mkX6_117 rfl rfl dX6_disorder_2 ((c_requireTrack (d := d - 1) (t := t) (N := N) (v := v) (T := T) (I := I) (L := L) (Dd := Dd) hX (by omega) hN4 hN).none f1) ⟨by omega, by show 2 + 19 + 40 * _ ≤ 40 * _; omega⟩ ⟨by omega, by omega⟩ rfl (Nat.le_of_ble_eq_true rfl) (fun v9 h9 e9 => ?_) (fun E9 h9 e9 => nomatch e9)
  cases e9
  show Ev _ _ _ _ _ _ 5 [some (.ref 0), some (.int t)] [] (N, SH v T, I, L, Dd)
  obtain ⟨f9, hf9, rfl⟩ := hasT_nI hsz hJ (trkX_none f1)
  have hcf9 : (nI f9).toNatClampNeg = f9 := nI_clamp (by omega)
  obtain ⟨hg, hg20, hh⟩ := hhs f9 (by omega)
  have hch : (nI hg).toNatClampNeg = hg := nI_clamp (by omega)
  refine Ev.sg hX sX6_disorder_5 (pc' := 13) (ls' := [some (.ref 0), some (.int (nI f9))]) (st' := [.int (nI f9), .ref 15]) (h' := (N, SH v T, I, L, Dd)) rfl ?_
  refine Ev.callV (As := [.int (nI f9)]) (rest := []) dvX0_pairsOutOfOrder mkX6_152 rfl rfl dX6_disorder_13 (c_pairs (d := d - 1) (I := I) hX (by omega) (by omega) hg20 hh) ⟨by omega, by show 6 + 19 + 40 * _ ≤ 40 * _; omega⟩ (by decide) rfl (Nat.le_of_ble_eq_true rfl) (fun v9 h9 e9 => ?_) (fun E9 h9 e9 => nomatch e9)
  cases e9
  show Ev _ _ _ _ _ _ 16 [some (.ref 0), some (.int (nI f9))] [.int (pairsF (listO I (nI f9)) hg)] (N, SH v T, listO I (nI f9), L, Dd)
  refine Ev.iret dX6_disorder_16 rfl ?_
  exact outQ_ret (by simp [disQ, seqX, f1, hcf9, hh, hch])
def disIQ (I : Nat → Nat → Int32) (t : Int32) : Option String × Int32 × (Nat → Nat → Int32) := seqX (trkX I t) I (none, (shiftsF (listO I t) (I 31 t.toNatClampNeg).toNatClampNeg).2, (shiftsF (listO I t) (I 31 t.toNatClampNeg).toNatClampNeg).1)
theorem c_disorderI (hX : JXok X) (hd : 7 ≤ d) (hN4 : 396 ≤ N) (hN : N + 1 < BIG) {sz : Nat} (hsz : sz ≤ 8) (hJ : I 6 0 = nI sz) (hhs : ∀ t, t < 8 → ∃ hg, hg ≤ 20 ∧ I 31 t = nI hg) : MT X d 4 24 jdX6_disorderByInsertion [.ref 0, .int t] (N, SH v T, I, L, Dd) (outQ (disIQ I t) N v T L Dd) := by
  refine MT.mk dvX6_disorderByInsertion.1 ?_
  refine Ev.sg hX sX6_disorderByInsertion_0 (pc' := 2) (ls' := [some (.ref 0), some (.int t)]) (st' := [.int t, .ref 0]) (h' := (N, SH v T, I, L, Dd)) rfl ?_
  refine opt_split (trkX I t) (fun E2 f1 => ?_) (fun f1 => ?_)
  · refine Ev.callV (As := [.int t]) (rest := []) dvX6_requireTrack mkX6_117 rfl rfl dX6_disorderByInsertion_2 ((c_requireTrack (d := d - 1) (t := t) (N := N) (v := v) (T := T) (I := I) (L := L) (Dd := Dd) hX (by omega) hN4 hN).some f1) ⟨by omega, by show 2 + 19 + 40 * _ ≤ 40 * _; omega⟩ ⟨by omega, by omega⟩ rfl (Nat.le_of_ble_eq_true rfl) (fun v9 h9 e9 => by obtain ⟨T9, e9⟩ := e9; cases e9) (fun E9 h9 e9 => ?_)
    obtain ⟨T9, e9⟩ := e9
    cases e9
    refine EvX.out rfl ?_
    exact outQ_pass 0 (by simp [disIQ, seqX, f1])
  refine Ev.callV (As := [.int t]) (rest := []) dvX6_requireTrack mkX6_117 rfl rfl dX6_disorderByInsertion_2 ((c_requireTrack (d := d - 1) (t := t) (N := N) (v := v) (T := T) (I := I) (L := L) (Dd := Dd) hX (by omega) hN4 hN).none f1) ⟨by omega, by show 2 + 19 + 40 * _ ≤ 40 * _; omega⟩ ⟨by omega, by omega⟩ rfl (Nat.le_of_ble_eq_true rfl) (fun v9 h9 e9 => ?_) (fun E9 h9 e9 => nomatch e9)
  cases e9
  show Ev _ _ _ _ _ _ 5 [some (.ref 0), some (.int t)] [] (N, SH v T, I, L, Dd)
  obtain ⟨f9, hf9, rfl⟩ := hasT_nI hsz hJ (trkX_none f1)
  have hcf9 : (nI f9).toNatClampNeg = f9 := nI_clamp (by omega)
  obtain ⟨hg, hg20, hh⟩ := hhs f9 (by omega)
  have hch : (nI hg).toNatClampNeg = hg := nI_clamp (by omega)
  refine Ev.sg hX sX6_disorderByInsertion_5 (pc' := 13) (ls' := [some (.ref 0), some (.int (nI f9))]) (st' := [.int (nI f9), .ref 15]) (h' := (N, SH v T, I, L, Dd)) rfl ?_
  refine Ev.callV (As := [.int (nI f9)]) (rest := []) dvX0_shiftsOfInsertion mkX6_155 rfl rfl dX6_disorderByInsertion_13 (c_shifts (d := d - 1) (I := I) hX (by omega) (by omega) hg20 hh) ⟨by omega, by show 7 + 19 + 40 * _ ≤ 40 * _; omega⟩ (by decide) rfl (Nat.le_of_ble_eq_true rfl) (fun v9 h9 e9 => ?_) (fun E9 h9 e9 => nomatch e9)
  cases e9
  show Ev _ _ _ _ _ _ 16 [some (.ref 0), some (.int (nI f9))] [.int ((shiftsF (listO I (nI f9)) hg).2)] (N, SH v T, (shiftsF (listO I (nI f9)) hg).1, L, Dd)
  refine Ev.iret dX6_disorderByInsertion_16 rfl ?_
  exact outQ_ret (by simp [disIQ, seqX, f1, hcf9, hh, hch])
def trainQ (I : Nat → Nat → Int32) (t : Int32) : Option String × Int32 × (Nat → Nat → Int32) := seqX (trkX I t) I (none, trainF (listO I t) (I 31 t.toNatClampNeg).toNatClampNeg, listO I t)
theorem c_trainLength (hX : JXok X) (hd : 7 ≤ d) (hN4 : 396 ≤ N) (hN : N + 1 < BIG) {sz : Nat} (hsz : sz ≤ 8) (hJ : I 6 0 = nI sz) (hhs : ∀ t, t < 8 → ∃ hg, hg ≤ 20 ∧ I 31 t = nI hg) : MT X d 4 24 jdX6_trainLength [.ref 0, .int t] (N, SH v T, I, L, Dd) (outQ (trainQ I t) N v T L Dd) := by
  refine MT.mk dvX6_trainLength.1 ?_
  refine Ev.sg hX sX6_trainLength_0 (pc' := 2) (ls' := [some (.ref 0), some (.int t)]) (st' := [.int t, .ref 0]) (h' := (N, SH v T, I, L, Dd)) rfl ?_
  refine opt_split (trkX I t) (fun E2 f1 => ?_) (fun f1 => ?_)
  · refine Ev.callV (As := [.int t]) (rest := []) dvX6_requireTrack mkX6_117 rfl rfl dX6_trainLength_2 ((c_requireTrack (d := d - 1) (t := t) (N := N) (v := v) (T := T) (I := I) (L := L) (Dd := Dd) hX (by omega) hN4 hN).some f1) ⟨by omega, by show 2 + 19 + 40 * _ ≤ 40 * _; omega⟩ ⟨by omega, by omega⟩ rfl (Nat.le_of_ble_eq_true rfl) (fun v9 h9 e9 => by obtain ⟨T9, e9⟩ := e9; cases e9) (fun E9 h9 e9 => ?_)
    obtain ⟨T9, e9⟩ := e9
    cases e9
    refine EvX.out rfl ?_
    exact outQ_pass 0 (by simp [trainQ, seqX, f1])
  refine Ev.callV (As := [.int t]) (rest := []) dvX6_requireTrack mkX6_117 rfl rfl dX6_trainLength_2 ((c_requireTrack (d := d - 1) (t := t) (N := N) (v := v) (T := T) (I := I) (L := L) (Dd := Dd) hX (by omega) hN4 hN).none f1) ⟨by omega, by show 2 + 19 + 40 * _ ≤ 40 * _; omega⟩ ⟨by omega, by omega⟩ rfl (Nat.le_of_ble_eq_true rfl) (fun v9 h9 e9 => ?_) (fun E9 h9 e9 => nomatch e9)
  cases e9
  show Ev _ _ _ _ _ _ 5 [some (.ref 0), some (.int t)] [] (N, SH v T, I, L, Dd)
  obtain ⟨f9, hf9, rfl⟩ := hasT_nI hsz hJ (trkX_none f1)
  have hcf9 : (nI f9).toNatClampNeg = f9 := nI_clamp (by omega)
  obtain ⟨hg, hg20, hh⟩ := hhs f9 (by omega)
  have hch : (nI hg).toNatClampNeg = hg := nI_clamp (by omega)
  refine Ev.sg hX sX6_trainLength_5 (pc' := 13) (ls' := [some (.ref 0), some (.int (nI f9))]) (st' := [.int (nI f9), .ref 15]) (h' := (N, SH v T, I, L, Dd)) rfl ?_
  refine Ev.callV (As := [.int (nI f9)]) (rest := []) dvX0_trainOf mkX6_158 rfl rfl dX6_trainLength_13 (c_trainOf (d := d - 1) (I := I) hX (by omega) (by omega) hg20 hh) ⟨by omega, by show 5 + 19 + 40 * _ ≤ 40 * _; omega⟩ (by decide) rfl (Nat.le_of_ble_eq_true rfl) (fun v9 h9 e9 => ?_) (fun E9 h9 e9 => nomatch e9)
  cases e9
  show Ev _ _ _ _ _ _ 16 [some (.ref 0), some (.int (nI f9))] [.int (trainF (listO I (nI f9)) hg)] (N, SH v T, listO I (nI f9), L, Dd)
  refine Ev.iret dX6_trainLength_16 rfl ?_
  exact outQ_ret (by simp [trainQ, seqX, f1, hcf9, hh, hch])
def tRankQ (I : Nat → Nat → Int32) (sz : Nat) (c : Int32) : Option String × Int32 × (Nat → Nat → Int32) := seqX (if rankedT I sz c = -1 then some "java/util/NoSuchElementException" else none) I (none, rankedT I sz c, I)
theorem c_trackAtRank (hX : JXok X) (hd : 7 ≤ d) (hN4 : 396 ≤ N) (hN : N + 1 < BIG) {sz : Nat} (hsz : sz ≤ 8) (hJ : I 6 0 = nI sz) (hhs : ∀ t, t < 8 → ∃ hg, hg ≤ 20 ∧ I 31 t = nI hg) : MT X d 4 24 jdX6_trackAtRank [.ref 0, .int c] (N, SH v T, I, L, Dd) (outQ (tRankQ I sz c) N v T L Dd) := by
  refine MT.mk dvX6_trackAtRank.1 ?_
  refine Ev.sg hX sX6_trackAtRank_0 (pc' := 5) (ls' := [some (.ref 0), some (.int c), none]) (st' := [.int c, .ref 1]) (h' := (N, SH v T, I, L, Dd)) rfl ?_
  refine Ev.callV (As := [.int c]) (rest := []) dvX5_rankedTrack mkX6_161 rfl rfl dX6_trackAtRank_5 (c_rankedTrack (d := d - 1) (I := I) hX (by omega) hsz hJ) ⟨by omega, by show 3 + 19 + 40 * _ ≤ 40 * _; omega⟩ (by decide) rfl (Nat.le_of_ble_eq_true rfl) (fun v9 h9 e9 => ?_) (fun E9 h9 e9 => nomatch e9)
  cases e9
  show Ev _ _ _ _ _ _ 8 [some (.ref 0), some (.int c), none] [.int (rankedT I sz c)] (N, SH v T, I, L, Dd)
  refine Ev.sg hX sX6_trackAtRank_8 (pc' := 11) (ls' := [some (.ref 0), some (.int c), some (.int (rankedT I sz c))]) (st' := [.int (-1), .int (rankedT I sz c)]) (h' := (N, SH v T, I, L, Dd)) rfl ?_
  refine Ev.icmp_ne (tgt := 24) dX6_trackAtRank_11 (by decide) (fun b1 => ?_) (fun b1 => ?_)
  · refine Ev.sg hX sX6_trackAtRank_24 (pc' := 25) (ls' := [some (.ref 0), some (.int c), some (.int (rankedT I sz c))]) (st' := [.int (rankedT I sz c)]) (h' := (N, SH v T, I, L, Dd)) rfl ?_
    refine Ev.iret dX6_trackAtRank_25 rfl ?_
    exact outQ_ret (by simp [tRankQ, seqX, b1])
  · refine Ev.mkS (E := "java/util/NoSuchElementException") (si := 6) hX je_12 (by decide +kernel) (by decide +kernel) rfl dX6_trackAtRank_14 (sX6_trackAtRank_17.dc 0 (q := (17, .dup, 0, 0)) rfl) dX6_trackAtRank_18 dX6_trackAtRank_20 (by omega) ⟨by omega, by omega⟩ hN (Nat.le_of_ble_eq_true rfl) ?_
    refine Ev.athrow hX upS_eq rfl dX6_trackAtRank_23 (EvX.out rfl ?_)
    exact outQ_new 0 (by simp [tRankQ, seqX, b1]) hN4
def joinedQ (I : Nat → Nat → Int32) (a b : Int32) : Option String × Int32 × (Nat → Nat → Int32) := seqX (trkX I a) I (seqX (trkX I b) I (none, bi (I 8 (a.toNatClampNeg * 8 + b.toNatClampNeg) = 1), I))
theorem c_areConnected (hX : JXok X) (hd : 7 ≤ d) (hN4 : 396 ≤ N) (hN : N + 1 < BIG) {sz : Nat} (hsz : sz ≤ 8) (hJ : I 6 0 = nI sz) (hhs : ∀ t, t < 8 → ∃ hg, hg ≤ 20 ∧ I 31 t = nI hg) : MT X d 4 24 jdX6_areConnected [.ref 0, .int a, .int b] (N, SH v T, I, L, Dd) (outQ (joinedQ I a b) N v T L Dd) := by
  refine MT.mk dvX6_areConnected.1 ?_
  refine Ev.sg hX sX6_areConnected_0 (pc' := 2) (ls' := [some (.ref 0), some (.int a), some (.int b)]) (st' := [.int a, .ref 0]) (h' := (N, SH v T, I, L, Dd)) rfl ?_
  refine opt_split (trkX I a) (fun E2 f1 => ?_) (fun f1 => ?_)
  · refine Ev.callV (As := [.int a]) (rest := []) dvX6_requireTrack mkX6_117 rfl rfl dX6_areConnected_2 ((c_requireTrack (d := d - 1) (t := a) (N := N) (v := v) (T := T) (I := I) (L := L) (Dd := Dd) hX (by omega) hN4 hN).some f1) ⟨by omega, by show 2 + 19 + 40 * _ ≤ 40 * _; omega⟩ ⟨by omega, by omega⟩ rfl (Nat.le_of_ble_eq_true rfl) (fun v9 h9 e9 => by obtain ⟨T9, e9⟩ := e9; cases e9) (fun E9 h9 e9 => ?_)
    obtain ⟨T9, e9⟩ := e9
    cases e9
    refine EvX.out rfl ?_
    exact outQ_pass 0 (by simp [joinedQ, seqX, f1])
  refine Ev.callV (As := [.int a]) (rest := []) dvX6_requireTrack mkX6_117 rfl rfl dX6_areConnected_2 ((c_requireTrack (d := d - 1) (t := a) (N := N) (v := v) (T := T) (I := I) (L := L) (Dd := Dd) hX (by omega) hN4 hN).none f1) ⟨by omega, by show 2 + 19 + 40 * _ ≤ 40 * _; omega⟩ ⟨by omega, by omega⟩ rfl (Nat.le_of_ble_eq_true rfl) (fun v9 h9 e9 => ?_) (fun E9 h9 e9 => nomatch e9)
  cases e9
  show Ev _ _ _ _ _ _ 5 [some (.ref 0), some (.int a), some (.int b)] [] (N, SH v T, I, L, Dd)
  obtain ⟨f9, hf9, rfl⟩ := hasT_nI hsz hJ (trkX_none f1)
  have hcf9 : (nI f9).toNatClampNeg = f9 := nI_clamp (by omega)
  refine Ev.sg hX sX6_areConnected_5 (pc' := 7) (ls' := [some (.ref 0), some (.int (nI f9)), some (.int b)]) (st' := [.int b, .ref 0]) (h' := (N, SH v T, I, L, Dd)) rfl ?_
  refine opt_split (trkX I b) (fun E4 f3 => ?_) (fun f3 => ?_)
  · refine Ev.callV (As := [.int b]) (rest := []) dvX6_requireTrack mkX6_117 rfl rfl dX6_areConnected_7 ((c_requireTrack (d := d - 1) (t := b) (N := N) (v := v) (T := T) (I := I) (L := L) (Dd := Dd) hX (by omega) hN4 hN).some f3) ⟨by omega, by show 2 + 19 + 40 * _ ≤ 40 * _; omega⟩ ⟨by omega, by omega⟩ rfl (Nat.le_of_ble_eq_true rfl) (fun v9 h9 e9 => by obtain ⟨T9, e9⟩ := e9; cases e9) (fun E9 h9 e9 => ?_)
    obtain ⟨T9, e9⟩ := e9
    cases e9
    refine EvX.out rfl ?_
    exact outQ_pass 0 (by simp [joinedQ, seqX, f1, f3, hcf9])
  refine Ev.callV (As := [.int b]) (rest := []) dvX6_requireTrack mkX6_117 rfl rfl dX6_areConnected_7 ((c_requireTrack (d := d - 1) (t := b) (N := N) (v := v) (T := T) (I := I) (L := L) (Dd := Dd) hX (by omega) hN4 hN).none f3) ⟨by omega, by show 2 + 19 + 40 * _ ≤ 40 * _; omega⟩ ⟨by omega, by omega⟩ rfl (Nat.le_of_ble_eq_true rfl) (fun v9 h9 e9 => ?_) (fun E9 h9 e9 => nomatch e9)
  cases e9
  show Ev _ _ _ _ _ _ 10 [some (.ref 0), some (.int (nI f9)), some (.int b)] [] (N, SH v T, I, L, Dd)
  obtain ⟨t9, ht9, rfl⟩ := hasT_nI hsz hJ (trkX_none f3)
  have hct9 : (nI t9).toNatClampNeg = t9 := nI_clamp (by omega)
  refine Ev.sg hX sX6_areConnected_10 (pc' := 19) (ls' := [some (.ref 0), some (.int (nI f9)), some (.int (nI t9))]) (st' := [.int (nI t9), .int (nI f9), .ref 6]) (h' := (N, SH v T, I, L, Dd)) rfl ?_
  refine Ev.callV (As := [.int (nI f9), .int (nI t9)]) (rest := []) dvX2_areJoined mkX6_166 rfl rfl dX6_areConnected_19 (c_areJoinedN (d := d - 1) (I := I) hX (by omega) (by omega) (by omega)) ⟨by omega, by show 3 + 19 + 40 * _ ≤ 40 * _; omega⟩ (by decide) rfl (Nat.le_of_ble_eq_true rfl) (fun v9 h9 e9 => ?_) (fun E9 h9 e9 => nomatch e9)
  cases e9
  show Ev _ _ _ _ _ _ 22 [some (.ref 0), some (.int (nI f9)), some (.int (nI t9))] [.int (bi (I 8 (f9 * 8 + t9) = 1))] (N, SH v T, I, L, Dd)
  refine Ev.zret dX6_areConnected_22 rfl ?_ ?_
  · exact bi_n _
  exact outQ_ret (by simp [joinedQ, seqX, f1, f3, hcf9, hct9])
def routeQ (I : Nat → Nat → Int32) (sz : Nat) (a b : Int32) : Option String × Int32 × (Nat → Nat → Int32) := seqX (trkX I a) I (seqX (trkX I b) I (seqX (routeX (stepsF I sz a.toNatClampNeg b.toNatClampNeg)) (bfsI I sz b.toNatClampNeg) (none, stepsF I sz a.toNatClampNeg b.toNatClampNeg, bfsI I sz b.toNatClampNeg)))
theorem c_routeLength (hX : JXok X) (hd : 7 ≤ d) (hN4 : 396 ≤ N) (hN : N + 1 < BIG) {sz : Nat} (hsz : sz ≤ 8) (hJ : I 6 0 = nI sz) (hhs : ∀ t, t < 8 → ∃ hg, hg ≤ 20 ∧ I 31 t = nI hg) : MT X d 4 24 jdX6_routeLength [.ref 0, .int a, .int b] (N, SH v T, I, L, Dd) (outQ (routeQ I sz a b) N v T L Dd) := by
  refine MT.mk dvX6_routeLength.1 ?_
  refine Ev.sg hX sX6_routeLength_0 (pc' := 2) (ls' := [some (.ref 0), some (.int a), some (.int b)]) (st' := [.int a, .ref 0]) (h' := (N, SH v T, I, L, Dd)) rfl ?_
  refine opt_split (trkX I a) (fun E2 f1 => ?_) (fun f1 => ?_)
  · refine Ev.callV (As := [.int a]) (rest := []) dvX6_requireTrack mkX6_117 rfl rfl dX6_routeLength_2 ((c_requireTrack (d := d - 1) (t := a) (N := N) (v := v) (T := T) (I := I) (L := L) (Dd := Dd) hX (by omega) hN4 hN).some f1) ⟨by omega, by show 2 + 19 + 40 * _ ≤ 40 * _; omega⟩ ⟨by omega, by omega⟩ rfl (Nat.le_of_ble_eq_true rfl) (fun v9 h9 e9 => by obtain ⟨T9, e9⟩ := e9; cases e9) (fun E9 h9 e9 => ?_)
    obtain ⟨T9, e9⟩ := e9
    cases e9
    refine EvX.out rfl ?_
    exact outQ_pass 0 (by simp [routeQ, seqX, f1])
  refine Ev.callV (As := [.int a]) (rest := []) dvX6_requireTrack mkX6_117 rfl rfl dX6_routeLength_2 ((c_requireTrack (d := d - 1) (t := a) (N := N) (v := v) (T := T) (I := I) (L := L) (Dd := Dd) hX (by omega) hN4 hN).none f1) ⟨by omega, by show 2 + 19 + 40 * _ ≤ 40 * _; omega⟩ ⟨by omega, by omega⟩ rfl (Nat.le_of_ble_eq_true rfl) (fun v9 h9 e9 => ?_) (fun E9 h9 e9 => nomatch e9)
  cases e9
  show Ev _ _ _ _ _ _ 5 [some (.ref 0), some (.int a), some (.int b)] [] (N, SH v T, I, L, Dd)
  obtain ⟨f9, hf9, rfl⟩ := hasT_nI hsz hJ (trkX_none f1)
  have hcf9 : (nI f9).toNatClampNeg = f9 := nI_clamp (by omega)
  refine Ev.sg hX sX6_routeLength_5 (pc' := 7) (ls' := [some (.ref 0), some (.int (nI f9)), some (.int b)]) (st' := [.int b, .ref 0]) (h' := (N, SH v T, I, L, Dd)) rfl ?_
  refine opt_split (trkX I b) (fun E4 f3 => ?_) (fun f3 => ?_)
  · refine Ev.callV (As := [.int b]) (rest := []) dvX6_requireTrack mkX6_117 rfl rfl dX6_routeLength_7 ((c_requireTrack (d := d - 1) (t := b) (N := N) (v := v) (T := T) (I := I) (L := L) (Dd := Dd) hX (by omega) hN4 hN).some f3) ⟨by omega, by show 2 + 19 + 40 * _ ≤ 40 * _; omega⟩ ⟨by omega, by omega⟩ rfl (Nat.le_of_ble_eq_true rfl) (fun v9 h9 e9 => by obtain ⟨T9, e9⟩ := e9; cases e9) (fun E9 h9 e9 => ?_)
    obtain ⟨T9, e9⟩ := e9
    cases e9
    refine EvX.out rfl ?_
    exact outQ_pass 0 (by simp [routeQ, seqX, f1, f3, hcf9])
  refine Ev.callV (As := [.int b]) (rest := []) dvX6_requireTrack mkX6_117 rfl rfl dX6_routeLength_7 ((c_requireTrack (d := d - 1) (t := b) (N := N) (v := v) (T := T) (I := I) (L := L) (Dd := Dd) hX (by omega) hN4 hN).none f3) ⟨by omega, by show 2 + 19 + 40 * _ ≤ 40 * _; omega⟩ ⟨by omega, by omega⟩ rfl (Nat.le_of_ble_eq_true rfl) (fun v9 h9 e9 => ?_) (fun E9 h9 e9 => nomatch e9)
  cases e9
  show Ev _ _ _ _ _ _ 10 [some (.ref 0), some (.int (nI f9)), some (.int b)] [] (N, SH v T, I, L, Dd)
  obtain ⟨t9, ht9, rfl⟩ := hasT_nI hsz hJ (trkX_none f3)
  have hct9 : (nI t9).toNatClampNeg = t9 := nI_clamp (by omega)
  refine Ev.sg hX sX6_routeLength_10 (pc' := 19) (ls' := [some (.ref 0), some (.int (nI f9)), some (.int (nI t9))]) (st' := [.int (nI t9), .int (nI f9), .ref 6]) (h' := (N, SH v T, I, L, Dd)) rfl ?_
  refine Ev.callV (As := [.int (nI f9), .int (nI t9)]) (rest := []) dvX2_stepsBySearch mkX6_170 rfl rfl dX6_routeLength_19 (c_steps (d := d - 1) (I := I) hX (by omega) (by omega) (by omega) hsz hJ) ⟨by omega, by show 3 + 19 + 40 * _ ≤ 40 * _; omega⟩ (by decide) rfl (Nat.le_of_ble_eq_true rfl) (fun v9 h9 e9 => ?_) (fun E9 h9 e9 => nomatch e9)
  cases e9
  show Ev _ _ _ _ _ _ 22 [some (.ref 0), some (.int (nI f9)), some (.int (nI t9))] [.int (stepsF I sz f9 t9)] (N, SH v T, bfsI I sz t9, L, Dd)
  refine opt_split (routeX (stepsF I sz f9 t9)) (fun E6 f5 => ?_) (fun f5 => ?_)
  · refine Ev.callS (As := [.int (stepsF I sz f9 t9)]) (rest := []) dsX6_requireRoute mkX6_173 dX6_routeLength_22 ((c_requireRoute (d := d - 1) (f := (stepsF I sz f9 t9)) (N := N) (v := v) (T := T) (I := bfsI I sz t9) (L := L) (Dd := Dd) hX (by omega) hN4 hN).some f5) ⟨by omega, by show 1 + 19 + 40 * _ ≤ 40 * _; omega⟩ ⟨by omega, by omega⟩ rfl (Nat.le_of_ble_eq_true rfl) (fun v9 h9 e9 => by obtain ⟨T9, e9⟩ := e9; cases e9) (fun E9 h9 e9 => ?_)
    obtain ⟨T9, e9⟩ := e9
    cases e9
    refine EvX.out rfl ?_
    exact outQ_pass 0 (by simp [routeQ, seqX, f1, f3, f5, hcf9, hct9])
  refine Ev.callS (As := [.int (stepsF I sz f9 t9)]) (rest := []) dsX6_requireRoute mkX6_173 dX6_routeLength_22 ((c_requireRoute (d := d - 1) (f := (stepsF I sz f9 t9)) (N := N) (v := v) (T := T) (I := bfsI I sz t9) (L := L) (Dd := Dd) hX (by omega) hN4 hN).none f5) ⟨by omega, by show 1 + 19 + 40 * _ ≤ 40 * _; omega⟩ ⟨by omega, by omega⟩ rfl (Nat.le_of_ble_eq_true rfl) (fun v9 h9 e9 => ?_) (fun E9 h9 e9 => nomatch e9)
  cases e9
  show Ev _ _ _ _ _ _ 25 [some (.ref 0), some (.int (nI f9)), some (.int (nI t9))] [.int (stepsF I sz f9 t9)] (N, SH v T, bfsI I sz t9, L, Dd)
  refine Ev.iret dX6_routeLength_25 rfl ?_
  exact outQ_ret (by simp [routeQ, seqX, f1, f3, f5, hcf9, hct9])
def routeMQ (I : Nat → Nat → Int32) (sz : Nat) (a b : Int32) : Option String × Int32 × (Nat → Nat → Int32) := seqX (trkX I a) I (seqX (trkX I b) I (seqX (routeX (matI I sz 14 (a.toNatClampNeg * 8 + b.toNatClampNeg))) (matI I sz) (none, (matI I sz 14 (a.toNatClampNeg * 8 + b.toNatClampNeg)), matI I sz)))
theorem c_routeLengthM (hX : JXok X) (hd : 7 ≤ d) (hN4 : 396 ≤ N) (hN : N + 1 < BIG) {sz : Nat} (hsz : sz ≤ 8) (hJ : I 6 0 = nI sz) (hhs : ∀ t, t < 8 → ∃ hg, hg ≤ 20 ∧ I 31 t = nI hg) : MT X d 4 24 jdX6_routeLengthByMatrix [.ref 0, .int a, .int b] (N, SH v T, I, L, Dd) (outQ (routeMQ I sz a b) N v T L Dd) := by
  refine MT.mk dvX6_routeLengthByMatrix.1 ?_
  refine Ev.sg hX sX6_routeLengthByMatrix_0 (pc' := 2) (ls' := [some (.ref 0), some (.int a), some (.int b)]) (st' := [.int a, .ref 0]) (h' := (N, SH v T, I, L, Dd)) rfl ?_
  refine opt_split (trkX I a) (fun E2 f1 => ?_) (fun f1 => ?_)
  · refine Ev.callV (As := [.int a]) (rest := []) dvX6_requireTrack mkX6_117 rfl rfl dX6_routeLengthByMatrix_2 ((c_requireTrack (d := d - 1) (t := a) (N := N) (v := v) (T := T) (I := I) (L := L) (Dd := Dd) hX (by omega) hN4 hN).some f1) ⟨by omega, by show 2 + 19 + 40 * _ ≤ 40 * _; omega⟩ ⟨by omega, by omega⟩ rfl (Nat.le_of_ble_eq_true rfl) (fun v9 h9 e9 => by obtain ⟨T9, e9⟩ := e9; cases e9) (fun E9 h9 e9 => ?_)
    obtain ⟨T9, e9⟩ := e9
    cases e9
    refine EvX.out rfl ?_
    exact outQ_pass 0 (by simp [routeMQ, seqX, f1])
  refine Ev.callV (As := [.int a]) (rest := []) dvX6_requireTrack mkX6_117 rfl rfl dX6_routeLengthByMatrix_2 ((c_requireTrack (d := d - 1) (t := a) (N := N) (v := v) (T := T) (I := I) (L := L) (Dd := Dd) hX (by omega) hN4 hN).none f1) ⟨by omega, by show 2 + 19 + 40 * _ ≤ 40 * _; omega⟩ ⟨by omega, by omega⟩ rfl (Nat.le_of_ble_eq_true rfl) (fun v9 h9 e9 => ?_) (fun E9 h9 e9 => nomatch e9)
  cases e9
  show Ev _ _ _ _ _ _ 5 [some (.ref 0), some (.int a), some (.int b)] [] (N, SH v T, I, L, Dd)
  obtain ⟨f9, hf9, rfl⟩ := hasT_nI hsz hJ (trkX_none f1)
  have hcf9 : (nI f9).toNatClampNeg = f9 := nI_clamp (by omega)
  refine Ev.sg hX sX6_routeLengthByMatrix_5 (pc' := 7) (ls' := [some (.ref 0), some (.int (nI f9)), some (.int b)]) (st' := [.int b, .ref 0]) (h' := (N, SH v T, I, L, Dd)) rfl ?_
  refine opt_split (trkX I b) (fun E4 f3 => ?_) (fun f3 => ?_)
  · refine Ev.callV (As := [.int b]) (rest := []) dvX6_requireTrack mkX6_117 rfl rfl dX6_routeLengthByMatrix_7 ((c_requireTrack (d := d - 1) (t := b) (N := N) (v := v) (T := T) (I := I) (L := L) (Dd := Dd) hX (by omega) hN4 hN).some f3) ⟨by omega, by show 2 + 19 + 40 * _ ≤ 40 * _; omega⟩ ⟨by omega, by omega⟩ rfl (Nat.le_of_ble_eq_true rfl) (fun v9 h9 e9 => by obtain ⟨T9, e9⟩ := e9; cases e9) (fun E9 h9 e9 => ?_)
    obtain ⟨T9, e9⟩ := e9
    cases e9
    refine EvX.out rfl ?_
    exact outQ_pass 0 (by simp [routeMQ, seqX, f1, f3, hcf9])
  refine Ev.callV (As := [.int b]) (rest := []) dvX6_requireTrack mkX6_117 rfl rfl dX6_routeLengthByMatrix_7 ((c_requireTrack (d := d - 1) (t := b) (N := N) (v := v) (T := T) (I := I) (L := L) (Dd := Dd) hX (by omega) hN4 hN).none f3) ⟨by omega, by show 2 + 19 + 40 * _ ≤ 40 * _; omega⟩ ⟨by omega, by omega⟩ rfl (Nat.le_of_ble_eq_true rfl) (fun v9 h9 e9 => ?_) (fun E9 h9 e9 => nomatch e9)
  cases e9
  show Ev _ _ _ _ _ _ 10 [some (.ref 0), some (.int (nI f9)), some (.int b)] [] (N, SH v T, I, L, Dd)
  obtain ⟨t9, ht9, rfl⟩ := hasT_nI hsz hJ (trkX_none f3)
  have hct9 : (nI t9).toNatClampNeg = t9 := nI_clamp (by omega)
  refine Ev.sg hX sX6_routeLengthByMatrix_10 (pc' := 19) (ls' := [some (.ref 0), some (.int (nI f9)), some (.int (nI t9))]) (st' := [.int (nI t9), .int (nI f9), .ref 6]) (h' := (N, SH v T, I, L, Dd)) rfl ?_
  refine Ev.callV (As := [.int (nI f9), .int (nI t9)]) (rest := []) dvX2_stepsByMatrix mkX6_176 rfl rfl dX6_routeLengthByMatrix_19 (c_stepsByMatrix (d := d - 1) (I := I) hX (by omega) (by omega) (by omega) hsz hJ) ⟨by omega, by show 3 + 19 + 40 * _ ≤ 40 * _; omega⟩ (by decide) rfl (Nat.le_of_ble_eq_true rfl) (fun v9 h9 e9 => ?_) (fun E9 h9 e9 => nomatch e9)
  cases e9
  show Ev _ _ _ _ _ _ 22 [some (.ref 0), some (.int (nI f9)), some (.int (nI t9))] [.int (matI I sz 14 (f9 * 8 + t9))] (N, SH v T, matI I sz, L, Dd)
  refine opt_split (routeX (matI I sz 14 (f9 * 8 + t9))) (fun E6 f5 => ?_) (fun f5 => ?_)
  · refine Ev.callS (As := [.int (matI I sz 14 (f9 * 8 + t9))]) (rest := []) dsX6_requireRoute mkX6_173 dX6_routeLengthByMatrix_22 ((c_requireRoute (d := d - 1) (f := (matI I sz 14 (f9 * 8 + t9))) (N := N) (v := v) (T := T) (I := matI I sz) (L := L) (Dd := Dd) hX (by omega) hN4 hN).some f5) ⟨by omega, by show 1 + 19 + 40 * _ ≤ 40 * _; omega⟩ ⟨by omega, by omega⟩ rfl (Nat.le_of_ble_eq_true rfl) (fun v9 h9 e9 => by obtain ⟨T9, e9⟩ := e9; cases e9) (fun E9 h9 e9 => ?_)
    obtain ⟨T9, e9⟩ := e9
    cases e9
    refine EvX.out rfl ?_
    exact outQ_pass 0 (by simp [routeMQ, seqX, f1, f3, f5, hcf9, hct9])
  refine Ev.callS (As := [.int (matI I sz 14 (f9 * 8 + t9))]) (rest := []) dsX6_requireRoute mkX6_173 dX6_routeLengthByMatrix_22 ((c_requireRoute (d := d - 1) (f := (matI I sz 14 (f9 * 8 + t9))) (N := N) (v := v) (T := T) (I := matI I sz) (L := L) (Dd := Dd) hX (by omega) hN4 hN).none f5) ⟨by omega, by show 1 + 19 + 40 * _ ≤ 40 * _; omega⟩ ⟨by omega, by omega⟩ rfl (Nat.le_of_ble_eq_true rfl) (fun v9 h9 e9 => ?_) (fun E9 h9 e9 => nomatch e9)
  cases e9
  show Ev _ _ _ _ _ _ 25 [some (.ref 0), some (.int (nI f9)), some (.int (nI t9))] [.int (matI I sz 14 (f9 * 8 + t9))] (N, SH v T, matI I sz, L, Dd)
  refine Ev.iret dX6_routeLengthByMatrix_25 rfl ?_
  exact outQ_ret (by simp [routeMQ, seqX, f1, f3, f5, hcf9, hct9])
def trackOfQ (I : Nat → Nat → Int32) (c : Int32) : Option String × Int32 × (Nat → Nat → Int32) := seqX (carX I c) I (none, rg 20 (I 23) (slotOf I c), I)
def destQ (I : Nat → Nat → Int32) (c : Int32) : Option String × Int32 × (Nat → Nat → Int32) := seqX (carX I c) I (none, rg 20 (I 19) (slotOf I c), I)
theorem c_destination (hX : JXok X) (hd : 7 ≤ d) (hN4 : 396 ≤ N) (hN : N + 1 < BIG) : MT X d 4 24 jdX6_destination [.ref 0, .int c] (N, SH v T, I, L, Dd) (outQ (destQ I c) N v T L Dd) := by
  refine MT.mk dvX6_destination.1 ?_
  refine Ev.sg hX sX6_destination_0 (pc' := 12) (ls' := [some (.ref 0), some (.int c)]) (st' := [.int c, .ref 0, .ref 18]) (h' := (N, SH v T, I, L, Dd)) rfl ?_
  refine opt_split (carX I c) (fun E2 f1 => ?_) (fun f1 => ?_)
  · refine Ev.callV (As := [.int c]) (rest := [.ref 18]) dvX6_requireCar mkX6_201 rfl rfl dX6_destination_12 ((c_requireCar (d := d - 1) (c := c) (N := N) (v := v) (T := T) (I := I) (L := L) (Dd := Dd) hX (by omega) hN4 hN).some f1) ⟨by omega, by show 3 + 19 + 40 * _ ≤ 40 * _; omega⟩ ⟨by omega, by omega⟩ rfl (Nat.le_of_ble_eq_true rfl) (fun v9 h9 e9 => by obtain ⟨T9, e9⟩ := e9; cases e9) (fun E9 h9 e9 => ?_)
    obtain ⟨T9, e9⟩ := e9
    cases e9
    refine EvX.out rfl ?_
    exact outQ_pass 0 (by simp [destQ, seqX, f1])
  refine Ev.callV (As := [.int c]) (rest := [.ref 18]) dvX6_requireCar mkX6_201 rfl rfl dX6_destination_12 ((c_requireCar (d := d - 1) (c := c) (N := N) (v := v) (T := T) (I := I) (L := L) (Dd := Dd) hX (by omega) hN4 hN).none f1) ⟨by omega, by show 3 + 19 + 40 * _ ≤ 40 * _; omega⟩ ⟨by omega, by omega⟩ rfl (Nat.le_of_ble_eq_true rfl) (fun v9 h9 e9 => ?_) (fun E9 h9 e9 => nomatch e9)
  cases e9
  show Ev _ _ _ _ _ _ 15 [some (.ref 0), some (.int c)] [.int (slotOf I c), .ref 18] (N, SH v T, I, L, Dd)
  refine Ev.callV (As := [.int (slotOf I c)]) (rest := []) dvX4_get mkX6_127 rfl rfl dX6_destination_15 (c_Row_get (d := d - 1) (h := (N, SH v T, I, L, Dd)) (r := 18) (a := 19) (n := 20) hX rfl rfl (by decide)) ⟨by omega, by show 2 + 19 + 40 * _ ≤ 40 * _; omega⟩ (by decide) rfl (Nat.le_of_ble_eq_true rfl) (fun v9 h9 e9 => ?_) (fun E9 h9 e9 => nomatch e9)
  cases e9
  show Ev _ _ _ _ _ _ 18 [some (.ref 0), some (.int c)] [.int (rg 20 (I 19) (slotOf I c))] (N, SH v T, I, L, Dd)
  refine Ev.iret dX6_destination_18 rfl ?_
  exact outQ_ret (by simp [destQ, seqX, f1])
def defQ (I : Nat → Nat → Int32) (c : Int32) : Option String × Int32 × (Nat → Nat → Int32) := seqX (carX I c) I (none, if rg 20 (I 21) (slotOf I c) = 1 then 1 else 0, I)
theorem c_isDefective (hX : JXok X) (hd : 7 ≤ d) (hN4 : 396 ≤ N) (hN : N + 1 < BIG) : MT X d 4 24 jdX6_isDefective [.ref 0, .int c] (N, SH v T, I, L, Dd) (outQ (defQ I c) N v T L Dd) := by
  refine MT.mk dvX6_isDefective.1 ?_
  refine Ev.sg hX sX6_isDefective_0 (pc' := 12) (ls' := [some (.ref 0), some (.int c)]) (st' := [.int c, .ref 0, .ref 20]) (h' := (N, SH v T, I, L, Dd)) rfl ?_
  refine opt_split (carX I c) (fun E2 f1 => ?_) (fun f1 => ?_)
  · refine Ev.callV (As := [.int c]) (rest := [.ref 20]) dvX6_requireCar mkX6_201 rfl rfl dX6_isDefective_12 ((c_requireCar (d := d - 1) (c := c) (N := N) (v := v) (T := T) (I := I) (L := L) (Dd := Dd) hX (by omega) hN4 hN).some f1) ⟨by omega, by show 3 + 19 + 40 * _ ≤ 40 * _; omega⟩ ⟨by omega, by omega⟩ rfl (Nat.le_of_ble_eq_true rfl) (fun v9 h9 e9 => by obtain ⟨T9, e9⟩ := e9; cases e9) (fun E9 h9 e9 => ?_)
    obtain ⟨T9, e9⟩ := e9
    cases e9
    refine EvX.out rfl ?_
    exact outQ_pass 0 (by simp [defQ, seqX, f1])
  refine Ev.callV (As := [.int c]) (rest := [.ref 20]) dvX6_requireCar mkX6_201 rfl rfl dX6_isDefective_12 ((c_requireCar (d := d - 1) (c := c) (N := N) (v := v) (T := T) (I := I) (L := L) (Dd := Dd) hX (by omega) hN4 hN).none f1) ⟨by omega, by show 3 + 19 + 40 * _ ≤ 40 * _; omega⟩ ⟨by omega, by omega⟩ rfl (Nat.le_of_ble_eq_true rfl) (fun v9 h9 e9 => ?_) (fun E9 h9 e9 => nomatch e9)
  cases e9
  show Ev _ _ _ _ _ _ 15 [some (.ref 0), some (.int c)] [.int (slotOf I c), .ref 20] (N, SH v T, I, L, Dd)
  refine Ev.callV (As := [.int (slotOf I c)]) (rest := []) dvX4_get mkX6_127 rfl rfl dX6_isDefective_15 (c_Row_get (d := d - 1) (h := (N, SH v T, I, L, Dd)) (r := 20) (a := 21) (n := 20) hX rfl rfl (by decide)) ⟨by omega, by show 2 + 19 + 40 * _ ≤ 40 * _; omega⟩ (by decide) rfl (Nat.le_of_ble_eq_true rfl) (fun v9 h9 e9 => ?_) (fun E9 h9 e9 => nomatch e9)
  cases e9
  show Ev _ _ _ _ _ _ 18 [some (.ref 0), some (.int c)] [.int (rg 20 (I 21) (slotOf I c))] (N, SH v T, I, L, Dd)
  refine Ev.sg hX sX6_isDefective_18 (pc' := 19) (ls' := [some (.ref 0), some (.int c)]) (st' := [.int 1, .int (rg 20 (I 21) (slotOf I c))]) (h' := (N, SH v T, I, L, Dd)) rfl ?_
  refine Ev.icmp_ne (tgt := 26) dX6_isDefective_19 (by decide) (fun b3 => ?_) (fun b3 => ?_)
  · refine Ev.sg hX sX6_isDefective_26 (pc' := 27) (ls' := [some (.ref 0), some (.int c)]) (st' := [.int 0]) (h' := (N, SH v T, I, L, Dd)) rfl ?_
    refine Ev.zret dX6_isDefective_27 rfl ?_ ?_
    · rfl
    exact outQ_ret (by simp [defQ, seqX, f1, b3])
  · refine Ev.sg hX sX6_isDefective_22 (pc' := 27) (ls' := [some (.ref 0), some (.int c)]) (st' := [.int 1]) (h' := (N, SH v T, I, L, Dd)) rfl ?_
    refine Ev.zret dX6_isDefective_27 rfl ?_ ?_
    · rfl
    exact outQ_ret (by simp [defQ, seqX, f1, b3])
theorem fnd_or {p : Nat → Prop} [DecidablePred p] : ∀ n k, (fnd p n k = -1 ∧ ∀ i, k ≤ i → i < k + n → ¬ p i) ∨ ∃ j, k ≤ j ∧ j < k + n ∧ p j ∧ fnd p n k = nI j ∧ ∀ i, k ≤ i → i < j → ¬ p i := by
  intro n
  induction n with
  | zero => intro k; exact Or.inl ⟨rfl, fun i h1 h2 => by omega⟩
  | succ n ih =>
    intro k
    rw [fnd]
    by_cases h : p k
    · rw [if_pos h]
      exact Or.inr ⟨k, Nat.le_refl _, by omega, h, rfl, fun i h1 h2 => by omega⟩
    · rw [if_neg h]
      rcases ih (k + 1) with ⟨h1, h2⟩ | ⟨j, h1, h2, h3, h4, h5⟩
      · refine Or.inl ⟨h1, fun i g1 g2 => ?_⟩
        by_cases e : i = k
        · rw [e]; exact h
        · exact h2 i (by omega) (by omega)
      · refine Or.inr ⟨j, by omega, by omega, h3, h4, fun i g1 g2 => ?_⟩
        by_cases e : i = k
        · rw [e]; exact h
        · exact h5 i (by omega) g2
theorem slotOf_or (I : Nat → Nat → Int32) (c : Int32) : slotOf I c = -1 ∨ ∃ k, k < 20 ∧ slotOf I c = nI k := by
  rcases fnd_or (p := fun s => 0 < c ∧ I 17 s = c) 20 0 with ⟨h, -⟩ | ⟨j, -, h1, -, h2, -⟩
  · exact Or.inl h
  · exact Or.inr ⟨j, by omega, h2⟩
def behQ (I : Nat → Nat → Int32) (c : Int32) : Option String × Int32 × (Nat → Nat → Int32) := seqX (carX I c) I (none, rg 8 (I 31) (I 23 (slotOf I c).toNatClampNeg) - 1 - I 25 (slotOf I c).toNatClampNeg, I)
theorem c_carsBehind (hX : JXok X) (hd : 7 ≤ d) (hN4 : 396 ≤ N) (hN : N + 1 < BIG) : MT X d 4 24 jdX6_carsBehind [.ref 0, .int c] (N, SH v T, I, L, Dd) (outQ (behQ I c) N v T L Dd) := by
  refine MT.mk dvX6_carsBehind.1 ?_
  refine Ev.sg hX sX6_carsBehind_0 (pc' := 9) (ls' := [some (.ref 0), some (.int c)]) (st' := [.int c, .ref 0, .ref 15]) (h' := (N, SH v T, I, L, Dd)) rfl ?_
  refine opt_split (carX I c) (fun E2 f1 => ?_) (fun f1 => ?_)
  · refine Ev.callV (As := [.int c]) (rest := [.ref 15]) dvX6_requireCar mkX6_201 rfl rfl dX6_carsBehind_9 ((c_requireCar (d := d - 1) (c := c) (N := N) (v := v) (T := T) (I := I) (L := L) (Dd := Dd) hX (by omega) hN4 hN).some f1) ⟨by omega, by show 3 + 19 + 40 * _ ≤ 40 * _; omega⟩ ⟨by omega, by omega⟩ rfl (Nat.le_of_ble_eq_true rfl) (fun v9 h9 e9 => by obtain ⟨T9, e9⟩ := e9; cases e9) (fun E9 h9 e9 => ?_)
    obtain ⟨T9, e9⟩ := e9
    cases e9
    refine EvX.out rfl ?_
    exact outQ_pass 0 (by simp [behQ, seqX, f1])
  refine Ev.callV (As := [.int c]) (rest := [.ref 15]) dvX6_requireCar mkX6_201 rfl rfl dX6_carsBehind_9 ((c_requireCar (d := d - 1) (c := c) (N := N) (v := v) (T := T) (I := I) (L := L) (Dd := Dd) hX (by omega) hN4 hN).none f1) ⟨by omega, by show 3 + 19 + 40 * _ ≤ 40 * _; omega⟩ ⟨by omega, by omega⟩ rfl (Nat.le_of_ble_eq_true rfl) (fun v9 h9 e9 => ?_) (fun E9 h9 e9 => nomatch e9)
  cases e9
  show Ev _ _ _ _ _ _ 12 [some (.ref 0), some (.int c)] [.int (slotOf I c), .ref 15] (N, SH v T, I, L, Dd)
  obtain ⟨k9, hk9, hs9⟩ := (slotOf_or I c).resolve_left (fun q => by simp [carX, q] at f1)
  rw [hs9]
  have hck : (nI k9).toNatClampNeg = k9 := nI_clamp (by omega)
  refine Ev.callV (As := [.int (nI k9)]) (rest := []) dvX0_behind mkX6_204 rfl rfl dX6_carsBehind_12 (c_behind (d := d - 1) (I := I) hX (by omega) hk9) ⟨by omega, by show 2 + 19 + 40 * _ ≤ 40 * _; omega⟩ (by decide) rfl (Nat.le_of_ble_eq_true rfl) (fun v9 h9 e9 => ?_) (fun E9 h9 e9 => nomatch e9)
  cases e9
  show Ev _ _ _ _ _ _ 15 [some (.ref 0), some (.int c)] [.int (rg 8 (I 31) (I 23 k9) - 1 - I 25 k9)] (N, SH v T, I, L, Dd)
  refine Ev.iret dX6_carsBehind_15 rfl ?_
  exact outQ_ret (by simp [behQ, seqX, f1, hs9, hck])
def forQ (I : Nat → Nat → Int32) (c : Int32) : Option String × Int32 × (Nat → Nat → Int32) := seqX (if 0 ≤ c ∧ c ≤ 9 then none else some "java/lang/IllegalArgumentException") I (none, boundF I c, I)
theorem c_carsFor (hX : JXok X) (hd : 7 ≤ d) (hN4 : 396 ≤ N) (hN : N + 1 < BIG) : MT X d 4 24 jdX6_carsFor [.ref 0, .int c] (N, SH v T, I, L, Dd) (outQ (forQ I c) N v T L Dd) := by
  refine MT.mk dvX6_carsFor.1 ?_
  refine Ev.sg hX sX6_carsFor_0 (pc' := 4) (ls' := [some (.ref 0), some (.int c)]) (st' := [.int 9, .int 0, .int c]) (h' := (N, SH v T, I, L, Dd)) rfl ?_
  refine Ev.callS (As := [.int c, .int 0, .int 9]) (rest := []) dsX6_isWithin mkX6_213 dX6_carsFor_4 (c_isWithin (d := d - 1) hX) ⟨by omega, by show 3 + 19 + 40 * _ ≤ 40 * _; omega⟩ (by decide) rfl (Nat.le_of_ble_eq_true rfl) (fun v9 h9 e9 => ?_) (fun E9 h9 e9 => nomatch e9)
  cases e9
  show Ev _ _ _ _ _ _ 7 [some (.ref 0), some (.int c)] [.int (bi (0 ≤ c ∧ c ≤ 9))] (N, SH v T, I, L, Dd)
  refine Ev.if_ne (tgt := 20) dX6_carsFor_7 (by decide) (fun b1 => ?_) (fun b1 => ?_)
  · refine Ev.sg hX sX6_carsFor_20 (pc' := 28) (ls' := [some (.ref 0), some (.int c)]) (st' := [.int c, .ref 15]) (h' := (N, SH v T, I, L, Dd)) rfl ?_
    refine Ev.callV (As := [.int c]) (rest := []) dvX0_bound mkX6_222 rfl rfl dX6_carsFor_28 (c_bound (d := d - 1) (I := I) hX (by omega)) ⟨by omega, by show 4 + 19 + 40 * _ ≤ 40 * _; omega⟩ (by decide) rfl (Nat.le_of_ble_eq_true rfl) (fun v9 h9 e9 => ?_) (fun E9 h9 e9 => nomatch e9)
    cases e9
    show Ev _ _ _ _ _ _ 31 [some (.ref 0), some (.int c)] [.int (boundF I c)] (N, SH v T, I, L, Dd)
    refine Ev.iret dX6_carsFor_31 rfl ?_
    exact outQ_ret (by simp [forQ, seqX, bi_1.mp b1])
  · refine Ev.mkS (E := "java/lang/IllegalArgumentException") (si := 11) hX je_9 (by decide +kernel) (by decide +kernel) rfl dX6_carsFor_10 (sX6_carsFor_13.dc 0 (q := (13, .dup, 0, 0)) rfl) dX6_carsFor_14 dX6_carsFor_16 (by omega) ⟨by omega, by omega⟩ hN (Nat.le_of_ble_eq_true rfl) ?_
    refine Ev.athrow hX upS_eq rfl dX6_carsFor_19 (EvX.out rfl ?_)
    exact outQ_new 0 (by simp [forQ, seqX, bi_0.mp b1]) hN4
def cRankQ (I : Nat → Nat → Int32) (c : Int32) : Option String × Int32 × (Nat → Nat → Int32) := seqX (if rankedSlot I c = -1 then some "java/util/NoSuchElementException" else none) I (none, rg 20 (I 17) (rankedSlot I c), I)
theorem c_carAtRank (hX : JXok X) (hd : 7 ≤ d) (hN4 : 396 ≤ N) (hN : N + 1 < BIG) : MT X d 4 24 jdX6_carAtRank [.ref 0, .int c] (N, SH v T, I, L, Dd) (outQ (cRankQ I c) N v T L Dd) := by
  refine MT.mk dvX6_carAtRank.1 ?_
  refine Ev.sg hX sX6_carAtRank_0 (pc' := 8) (ls' := [some (.ref 0), some (.int c), none]) (st' := [.int c, .ref 15]) (h' := (N, SH v T, I, L, Dd)) rfl ?_
  refine Ev.callV (As := [.int c]) (rest := []) dvX0_rankedSlot mkX6_225 rfl rfl dX6_carAtRank_8 (c_rankedSlot (d := d - 1) (I := I) hX (by omega)) ⟨by omega, by show 3 + 19 + 40 * _ ≤ 40 * _; omega⟩ (by decide) rfl (Nat.le_of_ble_eq_true rfl) (fun v9 h9 e9 => ?_) (fun E9 h9 e9 => nomatch e9)
  cases e9
  show Ev _ _ _ _ _ _ 11 [some (.ref 0), some (.int c), none] [.int (rankedSlot I c)] (N, SH v T, I, L, Dd)
  refine Ev.sg hX sX6_carAtRank_11 (pc' := 14) (ls' := [some (.ref 0), some (.int c), some (.int (rankedSlot I c))]) (st' := [.int (-1), .int (rankedSlot I c)]) (h' := (N, SH v T, I, L, Dd)) rfl ?_
  refine Ev.icmp_ne (tgt := 27) dX6_carAtRank_14 (by decide) (fun b1 => ?_) (fun b1 => ?_)
  · refine Ev.sg hX sX6_carAtRank_27 (pc' := 38) (ls' := [some (.ref 0), some (.int c), some (.int (rankedSlot I c))]) (st' := [.int (rankedSlot I c), .ref 16]) (h' := (N, SH v T, I, L, Dd)) rfl ?_
    refine Ev.callV (As := [.int (rankedSlot I c)]) (rest := []) dvX4_get mkX6_127 rfl rfl dX6_carAtRank_38 (c_Row_get (d := d - 1) (h := (N, SH v T, I, L, Dd)) (r := 16) (a := 17) (n := 20) hX rfl rfl (by decide)) ⟨by omega, by show 2 + 19 + 40 * _ ≤ 40 * _; omega⟩ (by decide) rfl (Nat.le_of_ble_eq_true rfl) (fun v9 h9 e9 => ?_) (fun E9 h9 e9 => nomatch e9)
    cases e9
    show Ev _ _ _ _ _ _ 41 [some (.ref 0), some (.int c), some (.int (rankedSlot I c))] [.int (rg 20 (I 17) (rankedSlot I c))] (N, SH v T, I, L, Dd)
    refine Ev.iret dX6_carAtRank_41 rfl ?_
    exact outQ_ret (by simp [cRankQ, seqX, b1])
  · refine Ev.mkS (E := "java/util/NoSuchElementException") (si := 12) hX je_12 (by decide +kernel) (by decide +kernel) rfl dX6_carAtRank_17 (sX6_carAtRank_20.dc 0 (q := (20, .dup, 0, 0)) rfl) dX6_carAtRank_21 dX6_carAtRank_23 (by omega) ⟨by omega, by omega⟩ hN (Nat.le_of_ble_eq_true rfl) ?_
    refine Ev.athrow hX upS_eq rfl dX6_carAtRank_26 (EvX.out rfl ?_)
    exact outQ_new 0 (by simp [cRankQ, seqX, b1]) hN4
def errorPositionQ (I : Nat → Nat → Int32) : Option String × Int32 × (Nat → Nat → Int32) := seqX (if I 0 5 = -1 then some "java/util/NoSuchElementException" else none) I (none, I 0 5, I)
theorem c_errorPosition (hX : JXok X) (hd : 7 ≤ d) (hN4 : 396 ≤ N) (hN : N + 1 < BIG) : MT X d 4 24 jdX6_errorPosition [.ref 0] (N, SH v T, I, L, Dd) (outQ (errorPositionQ I) N v T L Dd) := by
  refine MT.mk dvX6_errorPosition.1 ?_
  refine Ev.sg hX sX6_errorPosition_0 (pc' := 5) (ls' := [some (.ref 0)]) (st' := [.int (-1), .int (I 0 5)]) (h' := (N, SH v T, I, L, Dd)) rfl ?_
  refine Ev.icmp_ne (tgt := 19) dX6_errorPosition_5 (by decide) (fun b1 => ?_) (fun b1 => ?_)
  · refine Ev.sg hX sX6_errorPosition_19 (pc' := 23) (ls' := [some (.ref 0)]) (st' := [.int (I 0 5)]) (h' := (N, SH v T, I, L, Dd)) rfl ?_
    refine Ev.iret dX6_errorPosition_23 rfl ?_
    exact outQ_ret (by simp [errorPositionQ, seqX, b1])
  · refine Ev.mkSW (E := "java/util/NoSuchElementException") (si := 25) hX je_12 (by decide +kernel) (by decide +kernel) rfl dX6_errorPosition_8 (sX6_errorPosition_11.dc 0 (q := (11, .dup, 0, 0)) rfl) dX6_errorPosition_12 dX6_errorPosition_15 (by omega) ⟨by omega, by omega⟩ hN (Nat.le_of_ble_eq_true rfl) ?_
    refine Ev.athrow hX upS_eq rfl dX6_errorPosition_18 (EvX.out rfl ?_)
    exact outQ_new 0 (by simp [errorPositionQ, seqX, b1]) hN4
def failedCommandQ (I : Nat → Nat → Int32) : Option String × Int32 × (Nat → Nat → Int32) := seqX (if I 0 6 = -1 then some "java/util/NoSuchElementException" else none) I (none, I 0 6, I)
theorem c_failedCommand (hX : JXok X) (hd : 7 ≤ d) (hN4 : 396 ≤ N) (hN : N + 1 < BIG) : MT X d 4 24 jdX6_failedCommand [.ref 0] (N, SH v T, I, L, Dd) (outQ (failedCommandQ I) N v T L Dd) := by
  refine MT.mk dvX6_failedCommand.1 ?_
  refine Ev.sg hX sX6_failedCommand_0 (pc' := 5) (ls' := [some (.ref 0)]) (st' := [.int (-1), .int (I 0 6)]) (h' := (N, SH v T, I, L, Dd)) rfl ?_
  refine Ev.icmp_ne (tgt := 19) dX6_failedCommand_5 (by decide) (fun b1 => ?_) (fun b1 => ?_)
  · refine Ev.sg hX sX6_failedCommand_19 (pc' := 23) (ls' := [some (.ref 0)]) (st' := [.int (I 0 6)]) (h' := (N, SH v T, I, L, Dd)) rfl ?_
    refine Ev.iret dX6_failedCommand_23 rfl ?_
    exact outQ_ret (by simp [failedCommandQ, seqX, b1])
  · refine Ev.mkSW (E := "java/util/NoSuchElementException") (si := 26) hX je_12 (by decide +kernel) (by decide +kernel) rfl dX6_failedCommand_8 (sX6_failedCommand_11.dc 0 (q := (11, .dup, 0, 0)) rfl) dX6_failedCommand_12 dX6_failedCommand_15 (by omega) ⟨by omega, by omega⟩ hN (Nat.le_of_ble_eq_true rfl) ?_
    refine Ev.athrow hX upS_eq rfl dX6_failedCommand_18 (EvX.out rfl ?_)
    exact outQ_new 0 (by simp [failedCommandQ, seqX, b1]) hN4
theorem c_trackCount (hX : JXok X) (hd : 0 ≤ d) : MT X d 0 0 jdX6_trackCount [.ref 0] (N, SH v T, I, L, Dd) (fun R => R = .inl (some (.int (I 6 0)), (N, SH v T, I, L, Dd))) := by
  refine MT.mk dvX6_trackCount.1 ?_
  refine Ev.sg hX sX6_trackCount_0 (pc' := 10) (ls' := [some (.ref 0)]) (st' := [.int (I 6 0)]) (h' := (N, SH v T, I, L, Dd)) rfl ?_
  refine Ev.iret dX6_trackCount_10 rfl ?_
  rfl
theorem c_carCount (hX : JXok X) (hd : 0 ≤ d) : MT X d 0 0 jdX6_carCount [.ref 0] (N, SH v T, I, L, Dd) (fun R => R = .inl (some (.int (I 15 0)), (N, SH v T, I, L, Dd))) := by
  refine MT.mk dvX6_carCount.1 ?_
  refine Ev.sg hX sX6_carCount_0 (pc' := 10) (ls' := [some (.ref 0)]) (st' := [.int (I 15 0)]) (h' := (N, SH v T, I, L, Dd)) rfl ?_
  refine Ev.iret dX6_carCount_10 rfl ?_
  rfl
theorem c_moveCount (hX : JXok X) (hd : 0 ≤ d) : MT X d 0 0 jdX6_moveCount [.ref 0] (N, SH v T, I, L, Dd) (fun R => R = .inl (some (.int (I 1 5)), (N, SH v T, I, L, Dd))) := by
  refine MT.mk dvX6_moveCount.1 ?_
  refine Ev.sg hX sX6_moveCount_0 (pc' := 7) (ls' := [some (.ref 0)]) (st' := [.int (I 1 5)]) (h' := (N, SH v T, I, L, Dd)) rfl ?_
  refine Ev.iret dX6_moveCount_7 rfl ?_
  rfl
theorem c_departedCars (hX : JXok X) (hd : 0 ≤ d) : MT X d 0 0 jdX6_departedCars [.ref 0] (N, SH v T, I, L, Dd) (fun R => R = .inl (some (.int (I 1 6)), (N, SH v T, I, L, Dd))) := by
  refine MT.mk dvX6_departedCars.1 ?_
  refine Ev.sg hX sX6_departedCars_0 (pc' := 7) (ls' := [some (.ref 0)]) (st' := [.int (I 1 6)]) (h' := (N, SH v T, I, L, Dd)) rfl ?_
  refine Ev.iret dX6_departedCars_7 rfl ?_
  rfl
theorem c_time (hX : JXok X) (hd : 0 ≤ d) : MT X d 0 0 jdX6_time [.ref 0] (N, SH v T, I, L, Dd) (fun R => R = .inl (some (.long (L 1 4)), (N, SH v T, I, L, Dd))) := by
  refine MT.mk dvX6_time.1 ?_
  refine Ev.sg hX sX6_time_0 (pc' := 7) (ls' := [some (.ref 0)]) (st' := [.long (L 1 4)]) (h' := (N, SH v T, I, L, Dd)) rfl ?_
  refine Ev.lret dX6_time_7 rfl ?_
  rfl
theorem c_departedWeight (hX : JXok X) (hd : 0 ≤ d) : MT X d 0 0 jdX6_departedWeight [.ref 0] (N, SH v T, I, L, Dd) (fun R => R = .inl (some (.long (L 1 7)), (N, SH v T, I, L, Dd))) := by
  refine MT.mk dvX6_departedWeight.1 ?_
  refine Ev.sg hX sX6_departedWeight_0 (pc' := 7) (ls' := [some (.ref 0)]) (st' := [.long (L 1 7)]) (h' := (N, SH v T, I, L, Dd)) rfl ?_
  refine Ev.lret dX6_departedWeight_7 rfl ?_
  rfl
theorem c_isInYard (hX : JXok X) (hd : 2 ≤ d) : MT X d 0 0 jdX6_isInYard [.ref 0, .int c] (N, SH v T, I, L, Dd) (fun R => R = .inl (some (.int (bi (slotOf I c ≠ -1))), (N, SH v T, I, L, Dd))) := by
  refine MT.mk dvX6_isInYard.1 ?_
  refine Ev.sg hX sX6_isInYard_0 (pc' := 8) (ls' := [some (.ref 0), some (.int c)]) (st' := [.int c, .ref 15]) (h' := (N, SH v T, I, L, Dd)) rfl ?_
  refine Ev.callV (As := [.int c]) (rest := []) dvX0_slotOf mkX6_195 rfl rfl dX6_isInYard_8 (c_slotOf (d := d - 1) (I := I) hX (by omega)) ⟨by omega, by show 3 + 19 + 40 * _ ≤ 40 * _; omega⟩ (by decide) rfl (Nat.le_of_ble_eq_true rfl) (fun v9 h9 e9 => ?_) (fun E9 h9 e9 => nomatch e9)
  cases e9
  show Ev _ _ _ _ _ _ 11 [some (.ref 0), some (.int c)] [.int (slotOf I c)] (N, SH v T, I, L, Dd)
  refine Ev.sg hX sX6_isInYard_11 (pc' := 12) (ls' := [some (.ref 0), some (.int c)]) (st' := [.int (-1), .int (slotOf I c)]) (h' := (N, SH v T, I, L, Dd)) rfl ?_
  refine Ev.icmp_eq (tgt := 19) dX6_isInYard_12 (by decide) (fun b1 => ?_) (fun b1 => ?_)
  · refine Ev.sg hX sX6_isInYard_19 (pc' := 20) (ls' := [some (.ref 0), some (.int c)]) (st' := [.int 0]) (h' := (N, SH v T, I, L, Dd)) rfl ?_
    refine Ev.zret dX6_isInYard_20 rfl ?_ ?_
    · rfl
    simp [bi, b1]
  · refine Ev.sg hX sX6_isInYard_15 (pc' := 20) (ls' := [some (.ref 0), some (.int c)]) (st' := [.int 1]) (h' := (N, SH v T, I, L, Dd)) rfl ?_
    refine Ev.zret dX6_isInYard_20 rfl ?_ ?_
    · rfl
    simp [bi, b1]
end QUE
