/-! the cars, of the yard in use (the object 15) -/
/-- the first place from k on, among n, with p; -1 without one -/
def fnd (p : Nat → Prop) [DecidablePred p] : Nat → Nat → Int32
  | 0, _ => -1
  | n + 1, k => if p k then nI k else fnd p n (k + 1)
/-- n steps from k on, from a -/
def fo {α : Type} (f : Nat → α → α) : Nat → Nat → α → α
  | 0, _, a => a
  | n + 1, k, a => fo f n (k + 1) (f k a)
def bi (p : Prop) [Decidable p] : Int32 := if p then 1 else 0
theorem bi_0 {p : Prop} [Decidable p] : bi p = 0 ↔ ¬ p := by by_cases h : p <;> simp [bi, h]
theorem bi_1 {p : Prop} [Decidable p] : ¬ bi p = 0 ↔ p := by by_cases h : p <;> simp [bi, h]
theorem bi_n (p : Prop) [Decidable p] : narrow .boolean (.int (bi p)) = .int (bi p) := by by_cases h : p <;> simp [bi, h, narrow]
section CARS
variable {X : JX} {d N v : Nat} {T : Nat → Option JS} {I : Nat → Nat → Int32} {L : Nat → Nat → Int64} {Dd : Nat → Nat → UInt64}
theorem l_slotAt (hX : JXok X) (hd : 1 ≤ d) {t pl : Int32} : ∀ (n k : Nat), n + k = 20 → Ev X (jm jdX0_slotAt) d 0 0 (fun R => R = .inl (some (.int (fnd (fun s => I 23 s = t ∧ I 25 s = pl) n k)), (N, SH v T, I, L, Dd))) 2 [some (.ref 15), some (.int t), some (.int pl), some (.int (nI k))] [] (N, SH v T, I, L, Dd) := by
  intro n
  induction n with
  | zero =>
    intro k hk
    refine Ev.sg hX sX0_slotAt_2 (pc' := 5) (ls' := [some (.ref 15), some (.int t), some (.int pl), some (.int (nI k))]) (st' := [.int 20, .int (nI k)]) (h' := (N, SH v T, I, L, Dd)) rfl ?_
    refine Ev.icmp_ge (tgt := 40) dX0_slotAt_5 (by decide) (fun b1 => ?_) (fun b1 => ?_)
    · refine Ev.sg hX sX0_slotAt_40 (pc' := 41) (ls' := [some (.ref 15), some (.int t), some (.int pl), some (.int (nI k))]) (st' := [.int (-1)]) (h' := (N, SH v T, I, L, Dd)) rfl ?_
      refine Ev.iret dX0_slotAt_41 rfl ?_
      rfl
    · exact absurd (((nI_leI (a := 20) (b := k) (by decide) (by omega)).mpr (by omega))) b1
  | succ n ih =>
    intro k hk
    refine Ev.sg hX sX0_slotAt_2 (pc' := 5) (ls' := [some (.ref 15), some (.int t), some (.int pl), some (.int (nI k))]) (st' := [.int 20, .int (nI k)]) (h' := (N, SH v T, I, L, Dd)) rfl ?_
    refine Ev.icmp_ge (tgt := 40) dX0_slotAt_5 (by decide) (fun b1 => ?_) (fun b1 => ?_)
    · exact absurd (((nI_leI (a := 20) (b := k) (by decide) (by omega)).mp b1)) (by omega)
    · refine Ev.sg hX sX0_slotAt_8 (pc' := 13) (ls' := [some (.ref 15), some (.int t), some (.int pl), some (.int (nI k))]) (st' := [.int (nI k), .ref 22]) (h' := (N, SH v T, I, L, Dd)) rfl ?_
      refine Ev.callV (As := [.int (nI k)]) (rest := []) dvX4_get mkX0_61 rfl rfl dX0_slotAt_13 (c_Row_getN (d := d - 1) (h := (N, SH v T, I, L, Dd)) (r := 22) (a := 23) (n := 20) hX rfl rfl (by decide) (by omega)) ⟨by omega, by show 2 + 19 + 40 * _ ≤ 40 * _; omega⟩ (by decide) rfl (Nat.le_of_ble_eq_true rfl) (fun v9 h9 e9 => ?_) (fun E9 h9 e9 => nomatch e9)
      cases e9
      show Ev _ _ _ _ _ _ 16 [some (.ref 15), some (.int t), some (.int pl), some (.int (nI k))] [.int (I 23 k)] (N, SH v T, I, L, Dd)
      refine Ev.sg hX sX0_slotAt_16 (pc' := 17) (ls' := [some (.ref 15), some (.int t), some (.int pl), some (.int (nI k))]) (st' := [.int t, .int (I 23 k)]) (h' := (N, SH v T, I, L, Dd)) rfl ?_
      refine Ev.icmp_ne (tgt := 34) dX0_slotAt_17 (by decide) (fun b2 => ?_) (fun b2 => ?_)
      · refine Ev.sg hX sX0_slotAt_34 (pc' := 2) (ls' := [some (.ref 15), some (.int t), some (.int pl), some (.int ((nI k) + 1))]) (st' := []) (h' := (N, SH v T, I, L, Dd)) rfl ?_
        rw [nI_1, fnd, if_neg (fun q => b2 q.1)]
        exact ih (k + 1) (by omega)
      · refine Ev.sg hX sX0_slotAt_20 (pc' := 25) (ls' := [some (.ref 15), some (.int t), some (.int pl), some (.int (nI k))]) (st' := [.int (nI k), .ref 24]) (h' := (N, SH v T, I, L, Dd)) rfl ?_
        refine Ev.callV (As := [.int (nI k)]) (rest := []) dvX4_get mkX0_61 rfl rfl dX0_slotAt_25 (c_Row_getN (d := d - 1) (h := (N, SH v T, I, L, Dd)) (r := 24) (a := 25) (n := 20) hX rfl rfl (by decide) (by omega)) ⟨by omega, by show 2 + 19 + 40 * _ ≤ 40 * _; omega⟩ (by decide) rfl (Nat.le_of_ble_eq_true rfl) (fun v9 h9 e9 => ?_) (fun E9 h9 e9 => nomatch e9)
        cases e9
        show Ev _ _ _ _ _ _ 28 [some (.ref 15), some (.int t), some (.int pl), some (.int (nI k))] [.int (I 25 k)] (N, SH v T, I, L, Dd)
        refine Ev.sg hX sX0_slotAt_28 (pc' := 29) (ls' := [some (.ref 15), some (.int t), some (.int pl), some (.int (nI k))]) (st' := [.int pl, .int (I 25 k)]) (h' := (N, SH v T, I, L, Dd)) rfl ?_
        refine Ev.icmp_ne (tgt := 34) dX0_slotAt_29 (by decide) (fun b3 => ?_) (fun b3 => ?_)
        · refine Ev.sg hX sX0_slotAt_34 (pc' := 2) (ls' := [some (.ref 15), some (.int t), some (.int pl), some (.int ((nI k) + 1))]) (st' := []) (h' := (N, SH v T, I, L, Dd)) rfl ?_
          rw [nI_1, fnd, if_neg (fun q => b3 q.2)]
          exact ih (k + 1) (by omega)
        · refine Ev.sg hX sX0_slotAt_32 (pc' := 33) (ls' := [some (.ref 15), some (.int t), some (.int pl), some (.int (nI k))]) (st' := [.int (nI k)]) (h' := (N, SH v T, I, L, Dd)) rfl ?_
          refine Ev.iret dX0_slotAt_33 rfl ?_
          rw [fnd, if_pos ⟨b2, b3⟩]
def slotAt (I : Nat → Nat → Int32) (t pl : Int32) : Int32 := fnd (fun s => I 23 s = t ∧ I 25 s = pl) 20 0
theorem c_slotAt (hX : JXok X) (hd : 1 ≤ d) {t pl : Int32} : MT X d 0 0 jdX0_slotAt [.ref 15, .int t, .int pl] (N, SH v T, I, L, Dd) (fun R => R = .inl (some (.int (slotAt I t pl)), (N, SH v T, I, L, Dd))) := by
  refine MT.mk dvX0_slotAt.1 ?_
  refine Ev.sg hX sX0_slotAt_0 (pc' := 2) (ls' := [some (.ref 15), some (.int t), some (.int pl), some (.int 0)]) (st' := []) (h' := (N, SH v T, I, L, Dd)) rfl ?_
  exact l_slotAt hX hd 20 0 rfl
theorem fnd_no {p : Nat → Prop} [DecidablePred p] (h : ∀ k, ¬ p k) : ∀ n k, fnd p n k = -1
  | 0, _ => rfl
  | n + 1, k => by rw [fnd, if_neg (h k)]; exact fnd_no h n (k + 1)
theorem l_slotOf (hX : JXok X) (hd : 1 ≤ d) {c : Int32} : ∀ (n k : Nat), n + k = 20 → Ev X (jm jdX0_slotOf) d 0 0 (fun R => R = .inl (some (.int (fnd (fun s => 0 < c ∧ I 17 s = c) n k)), (N, SH v T, I, L, Dd))) 2 [some (.ref 15), some (.int c), some (.int (nI k))] [] (N, SH v T, I, L, Dd) := by
  intro n
  induction n with
  | zero =>
    intro k hk
    refine Ev.sg hX sX0_slotOf_2 (pc' := 5) (ls' := [some (.ref 15), some (.int c), some (.int (nI k))]) (st' := [.int 20, .int (nI k)]) (h' := (N, SH v T, I, L, Dd)) rfl ?_
    refine Ev.icmp_ge (tgt := 32) dX0_slotOf_5 (by decide) (fun b1 => ?_) (fun b1 => ?_)
    · refine Ev.sg hX sX0_slotOf_32 (pc' := 33) (ls' := [some (.ref 15), some (.int c), some (.int (nI k))]) (st' := [.int (-1)]) (h' := (N, SH v T, I, L, Dd)) rfl ?_
      refine Ev.iret dX0_slotOf_33 rfl ?_
      rfl
    · exact absurd (((nI_leI (a := 20) (b := k) (by decide) (by omega)).mpr (by omega))) b1
  | succ n ih =>
    intro k hk
    refine Ev.sg hX sX0_slotOf_2 (pc' := 5) (ls' := [some (.ref 15), some (.int c), some (.int (nI k))]) (st' := [.int 20, .int (nI k)]) (h' := (N, SH v T, I, L, Dd)) rfl ?_
    refine Ev.icmp_ge (tgt := 32) dX0_slotOf_5 (by decide) (fun b1 => ?_) (fun b1 => ?_)
    · exact absurd ((nI_leI (a := 20) (b := k) (by decide) (by omega)).mp b1) (by omega)
    · refine Ev.sg hX sX0_slotOf_8 (pc' := 9) (ls' := [some (.ref 15), some (.int c), some (.int (nI k))]) (st' := [.int c]) (h' := (N, SH v T, I, L, Dd)) rfl ?_
      refine Ev.if_le (tgt := 32) dX0_slotOf_9 (by decide) (fun b2 => ?_) (fun b2 => ?_)
      · refine Ev.sg hX sX0_slotOf_32 (pc' := 33) (ls' := [some (.ref 15), some (.int c), some (.int (nI k))]) (st' := [.int (-1)]) (h' := (N, SH v T, I, L, Dd)) rfl ?_
        refine Ev.iret dX0_slotOf_33 rfl ?_
        rw [fnd_no (fun j q => absurd q.1 (Int32.not_lt.mpr b2))]
      · refine Ev.sg hX sX0_slotOf_12 (pc' := 17) (ls' := [some (.ref 15), some (.int c), some (.int (nI k))]) (st' := [.int (nI k), .ref 16]) (h' := (N, SH v T, I, L, Dd)) rfl ?_
        refine Ev.callV (As := [.int (nI k)]) (rest := []) dvX4_get mkX0_61 rfl rfl dX0_slotOf_17 (c_Row_getN (d := d - 1) (h := (N, SH v T, I, L, Dd)) (r := 16) (a := 17) (n := 20) hX rfl rfl (by decide) (by omega)) ⟨by omega, by show 2 + 19 + 40 * _ ≤ 40 * _; omega⟩ (by decide) rfl (Nat.le_of_ble_eq_true rfl) (fun v9 h9 e9 => ?_) (fun E9 h9 e9 => nomatch e9)
        cases e9
        show Ev _ _ _ _ _ _ 20 [some (.ref 15), some (.int c), some (.int (nI k))] [.int (I 17 k)] (N, SH v T, I, L, Dd)
        refine Ev.sg hX sX0_slotOf_20 (pc' := 21) (ls' := [some (.ref 15), some (.int c), some (.int (nI k))]) (st' := [.int c, .int (I 17 k)]) (h' := (N, SH v T, I, L, Dd)) rfl ?_
        refine Ev.icmp_ne (tgt := 26) dX0_slotOf_21 (by decide) (fun b3 => ?_) (fun b3 => ?_)
        · refine Ev.sg hX sX0_slotOf_26 (pc' := 2) (ls' := [some (.ref 15), some (.int c), some (.int ((nI k) + 1))]) (st' := []) (h' := (N, SH v T, I, L, Dd)) rfl ?_
          rw [nI_1, fnd, if_neg (fun q => b3 q.2)]
          exact ih (k + 1) (by omega)
        · refine Ev.sg hX sX0_slotOf_24 (pc' := 25) (ls' := [some (.ref 15), some (.int c), some (.int (nI k))]) (st' := [.int (nI k)]) (h' := (N, SH v T, I, L, Dd)) rfl ?_
          refine Ev.iret dX0_slotOf_25 rfl ?_
          rw [fnd, if_pos ⟨Int32.not_le.mp b2, b3⟩]
def slotOf (I : Nat → Nat → Int32) (c : Int32) : Int32 := fnd (fun s => 0 < c ∧ I 17 s = c) 20 0
theorem c_slotOf (hX : JXok X) (hd : 1 ≤ d) {c : Int32} : MT X d 0 0 jdX0_slotOf [.ref 15, .int c] (N, SH v T, I, L, Dd) (fun R => R = .inl (some (.int (slotOf I c)), (N, SH v T, I, L, Dd))) := by
  refine MT.mk dvX0_slotOf.1 ?_
  refine Ev.sg hX sX0_slotOf_0 (pc' := 2) (ls' := [some (.ref 15), some (.int c), some (.int 0)]) (st' := []) (h' := (N, SH v T, I, L, Dd)) rfl ?_
  exact l_slotOf hX hd 20 0 rfl
theorem c_isTaken (hX : JXok X) (hd : 1 ≤ d) {k : Nat} (hk : k < 20) : MT X d 0 0 jdX0_isTaken [.ref 15, .int (nI k)] (N, SH v T, I, L, Dd) (fun R => R = .inl (some (.int (bi (I 17 k ≠ 0))), (N, SH v T, I, L, Dd))) := by
  refine MT.mk dvX0_isTaken.1 ?_
  refine Ev.sg hX sX0_isTaken_0 (pc' := 5) (ls' := [some (.ref 15), some (.int (nI k))]) (st' := [.int (nI k), .ref 16]) (h' := (N, SH v T, I, L, Dd)) rfl ?_
  refine Ev.callV (As := [.int (nI k)]) (rest := []) dvX4_get mkX0_61 rfl rfl dX0_isTaken_5 (c_Row_getN (d := d - 1) (h := (N, SH v T, I, L, Dd)) (r := 16) (a := 17) (n := 20) hX rfl rfl (by decide) hk) ⟨by omega, by show 2 + 19 + 40 * _ ≤ 40 * _; omega⟩ (by decide) rfl (Nat.le_of_ble_eq_true rfl) (fun v9 h9 e9 => ?_) (fun E9 h9 e9 => nomatch e9)
  cases e9
  show Ev _ _ _ _ _ _ 8 [some (.ref 15), some (.int (nI k))] [.int (I 17 k)] (N, SH v T, I, L, Dd)
  refine Ev.if_eq (tgt := 15) dX0_isTaken_8 (by decide) (fun b1 => ?_) (fun b1 => ?_)
  · refine Ev.sg hX sX0_isTaken_15 (pc' := 16) (ls' := [some (.ref 15), some (.int (nI k))]) (st' := [.int 0]) (h' := (N, SH v T, I, L, Dd)) rfl ?_
    refine Ev.zret dX0_isTaken_16 rfl ?_ ?_
    · rfl
    rw [show bi (I 17 k ≠ 0) = 0 from by simp [bi, b1]]
  · refine Ev.sg hX sX0_isTaken_11 (pc' := 16) (ls' := [some (.ref 15), some (.int (nI k))]) (st' := [.int 1]) (h' := (N, SH v T, I, L, Dd)) rfl ?_
    refine Ev.zret dX0_isTaken_16 rfl ?_ ?_
    · rfl
    rw [show bi (I 17 k ≠ 0) = 1 from by simp [bi, b1]]
theorem l_freeSlot (hX : JXok X) (hd : 2 ≤ d) : ∀ (n k : Nat), n + k = 20 → Ev X (jm jdX0_freeSlot) d 0 0 (fun R => R = .inl (some (.int (fnd (fun s => I 17 s = 0) n k)), (N, SH v T, I, L, Dd))) 2 [some (.ref 15), some (.int (nI k))] [] (N, SH v T, I, L, Dd) := by
  intro n
  induction n with
  | zero =>
    intro k hk
    refine Ev.sg hX sX0_freeSlot_2 (pc' := 5) (ls' := [some (.ref 15), some (.int (nI k))]) (st' := [.int 20, .int (nI k)]) (h' := (N, SH v T, I, L, Dd)) rfl ?_
    refine Ev.icmp_ge (tgt := 24) dX0_freeSlot_5 (by decide) (fun b1 => ?_) (fun b1 => ?_)
    · refine Ev.sg hX sX0_freeSlot_24 (pc' := 25) (ls' := [some (.ref 15), some (.int (nI k))]) (st' := [.int (-1)]) (h' := (N, SH v T, I, L, Dd)) rfl ?_
      refine Ev.iret dX0_freeSlot_25 rfl ?_
      rfl
    · exact absurd (((nI_leI (a := 20) (b := k) (by decide) (by omega)).mpr (by omega))) b1
  | succ n ih =>
    intro k hk
    refine Ev.sg hX sX0_freeSlot_2 (pc' := 5) (ls' := [some (.ref 15), some (.int (nI k))]) (st' := [.int 20, .int (nI k)]) (h' := (N, SH v T, I, L, Dd)) rfl ?_
    refine Ev.icmp_ge (tgt := 24) dX0_freeSlot_5 (by decide) (fun b1 => ?_) (fun b1 => ?_)
    · exact absurd (((nI_leI (a := 20) (b := k) (by decide) (by omega)).mp b1)) (by omega)
    · refine Ev.sg hX sX0_freeSlot_8 (pc' := 10) (ls' := [some (.ref 15), some (.int (nI k))]) (st' := [.int (nI k), .ref 15]) (h' := (N, SH v T, I, L, Dd)) rfl ?_
      refine Ev.callV (As := [.int (nI k)]) (rest := []) dvX0_isTaken mkX0_65 rfl rfl dX0_freeSlot_10 (c_isTaken (d := d - 1) (I := I) hX (by omega) (by omega)) ⟨by omega, by show 2 + 19 + 40 * _ ≤ 40 * _; omega⟩ (by decide) rfl (Nat.le_of_ble_eq_true rfl) (fun v9 h9 e9 => ?_) (fun E9 h9 e9 => nomatch e9)
      cases e9
      show Ev _ _ _ _ _ _ 13 [some (.ref 15), some (.int (nI k))] [.int (bi (I 17 k ≠ 0))] (N, SH v T, I, L, Dd)
      refine Ev.if_ne (tgt := 18) dX0_freeSlot_13 (by decide) (fun b2 => ?_) (fun b2 => ?_)
      · refine Ev.sg hX sX0_freeSlot_18 (pc' := 2) (ls' := [some (.ref 15), some (.int ((nI k) + 1))]) (st' := []) (h' := (N, SH v T, I, L, Dd)) rfl ?_
        rw [nI_1, fnd, if_neg (bi_1.mp b2)]
        exact ih (k + 1) (by omega)
      · refine Ev.sg hX sX0_freeSlot_16 (pc' := 17) (ls' := [some (.ref 15), some (.int (nI k))]) (st' := [.int (nI k)]) (h' := (N, SH v T, I, L, Dd)) rfl ?_
        refine Ev.iret dX0_freeSlot_17 rfl ?_
        rw [fnd, if_pos (Decidable.of_not_not (bi_0.mp b2))]
def freeSlot (I : Nat → Nat → Int32) : Int32 := fnd (fun s => I 17 s = 0) 20 0
theorem c_freeSlot (hX : JXok X) (hd : 2 ≤ d) : MT X d 0 0 jdX0_freeSlot [.ref 15] (N, SH v T, I, L, Dd) (fun R => R = .inl (some (.int (freeSlot I)), (N, SH v T, I, L, Dd))) := by
  refine MT.mk dvX0_freeSlot.1 ?_
  refine Ev.sg hX sX0_freeSlot_0 (pc' := 2) (ls' := [some (.ref 15), some (.int 0)]) (st' := []) (h' := (N, SH v T, I, L, Dd)) rfl ?_
  exact l_freeSlot hX hd 20 0 rfl
def stW (I : Nat → Nat → Int32) (t : Int32) (k : Nat) (a : Int32) : Int32 := if I 23 k = t then a + I 29 k else a
theorem l_weightOf (hX : JXok X) (hd : 1 ≤ d) {t : Int32} : ∀ (n k : Nat) (a : Int32), n + k = 20 → Ev X (jm jdX0_weightOf) d 0 0 (fun R => R = .inl (some (.int (fo (stW I t) n k a)), (N, SH v T, I, L, Dd))) 4 [some (.ref 15), some (.int t), some (.int a), some (.int (nI k))] [] (N, SH v T, I, L, Dd) := by
  intro n
  induction n with
  | zero =>
    intro k a hk
    refine Ev.sg hX sX0_weightOf_4 (pc' := 7) (ls' := [some (.ref 15), some (.int t), some (.int a), some (.int (nI k))]) (st' := [.int 20, .int (nI k)]) (h' := (N, SH v T, I, L, Dd)) rfl ?_
    refine Ev.icmp_ge (tgt := 39) dX0_weightOf_7 (by decide) (fun b1 => ?_) (fun b1 => ?_)
    · refine Ev.sg hX sX0_weightOf_39 (pc' := 40) (ls' := [some (.ref 15), some (.int t), some (.int a), some (.int (nI k))]) (st' := [.int a]) (h' := (N, SH v T, I, L, Dd)) rfl ?_
      refine Ev.iret dX0_weightOf_40 rfl ?_
      rfl
    · exact absurd (((nI_leI (a := 20) (b := k) (by decide) (by omega)).mpr (by omega))) b1
  | succ n ih =>
    intro k a hk
    refine Ev.sg hX sX0_weightOf_4 (pc' := 7) (ls' := [some (.ref 15), some (.int t), some (.int a), some (.int (nI k))]) (st' := [.int 20, .int (nI k)]) (h' := (N, SH v T, I, L, Dd)) rfl ?_
    refine Ev.icmp_ge (tgt := 39) dX0_weightOf_7 (by decide) (fun b1 => ?_) (fun b1 => ?_)
    · exact absurd (((nI_leI (a := 20) (b := k) (by decide) (by omega)).mp b1)) (by omega)
    · refine Ev.sg hX sX0_weightOf_10 (pc' := 15) (ls' := [some (.ref 15), some (.int t), some (.int a), some (.int (nI k))]) (st' := [.int (nI k), .ref 22]) (h' := (N, SH v T, I, L, Dd)) rfl ?_
      refine Ev.callV (As := [.int (nI k)]) (rest := []) dvX4_get mkX0_61 rfl rfl dX0_weightOf_15 (c_Row_getN (d := d - 1) (h := (N, SH v T, I, L, Dd)) (r := 22) (a := 23) (n := 20) hX rfl rfl (by decide) (by omega)) ⟨by omega, by show 2 + 19 + 40 * _ ≤ 40 * _; omega⟩ (by decide) rfl (Nat.le_of_ble_eq_true rfl) (fun v9 h9 e9 => ?_) (fun E9 h9 e9 => nomatch e9)
      cases e9
      show Ev _ _ _ _ _ _ 18 [some (.ref 15), some (.int t), some (.int a), some (.int (nI k))] [.int (I 23 k)] (N, SH v T, I, L, Dd)
      refine Ev.sg hX sX0_weightOf_18 (pc' := 19) (ls' := [some (.ref 15), some (.int t), some (.int a), some (.int (nI k))]) (st' := [.int t, .int (I 23 k)]) (h' := (N, SH v T, I, L, Dd)) rfl ?_
      refine Ev.icmp_ne (tgt := 33) dX0_weightOf_19 (by decide) (fun b2 => ?_) (fun b2 => ?_)
      · refine Ev.sg hX sX0_weightOf_33 (pc' := 4) (ls' := [some (.ref 15), some (.int t), some (.int a), some (.int ((nI k) + 1))]) (st' := []) (h' := (N, SH v T, I, L, Dd)) rfl ?_
        rw [nI_1, fo, show stW I t k a = a from if_neg b2]
        exact ih (k + 1) _ (by omega)
      · refine Ev.sg hX sX0_weightOf_22 (pc' := 28) (ls' := [some (.ref 15), some (.int t), some (.int a), some (.int (nI k))]) (st' := [.int (nI k), .ref 28, .int a]) (h' := (N, SH v T, I, L, Dd)) rfl ?_
        refine Ev.callV (As := [.int (nI k)]) (rest := [.int a]) dvX4_get mkX0_61 rfl rfl dX0_weightOf_28 (c_Row_getN (d := d - 1) (h := (N, SH v T, I, L, Dd)) (r := 28) (a := 29) (n := 20) hX rfl rfl (by decide) (by omega)) ⟨by omega, by show 2 + 19 + 40 * _ ≤ 40 * _; omega⟩ (by decide) rfl (Nat.le_of_ble_eq_true rfl) (fun v9 h9 e9 => ?_) (fun E9 h9 e9 => nomatch e9)
        cases e9
        show Ev _ _ _ _ _ _ 31 [some (.ref 15), some (.int t), some (.int a), some (.int (nI k))] [.int (I 29 k), .int a] (N, SH v T, I, L, Dd)
        refine Ev.sg hX sX0_weightOf_31 (pc' := 33) (ls' := [some (.ref 15), some (.int t), some (.int (a + (I 29 k))), some (.int (nI k))]) (st' := []) (h' := (N, SH v T, I, L, Dd)) rfl ?_
        refine Ev.sg hX sX0_weightOf_33 (pc' := 4) (ls' := [some (.ref 15), some (.int t), some (.int (a + (I 29 k))), some (.int ((nI k) + 1))]) (st' := []) (h' := (N, SH v T, I, L, Dd)) rfl ?_
        rw [nI_1, fo, show stW I t k a = a + (I 29 k) from if_pos b2]
        exact ih (k + 1) _ (by omega)
def weightOf (I : Nat → Nat → Int32) (t : Int32) : Int32 := fo (stW I t) 20 0 0
theorem c_weightOf (hX : JXok X) (hd : 1 ≤ d) {t : Int32} : MT X d 0 0 jdX0_weightOf [.ref 15, .int t] (N, SH v T, I, L, Dd) (fun R => R = .inl (some (.int (weightOf I t)), (N, SH v T, I, L, Dd))) := by
  refine MT.mk dvX0_weightOf.1 ?_
  refine Ev.sg hX sX0_weightOf_0 (pc' := 4) (ls' := [some (.ref 15), some (.int t), some (.int 0), some (.int 0)]) (st' := []) (h' := (N, SH v T, I, L, Dd)) rfl ?_
  exact l_weightOf hX hd 20 0 0 rfl
theorem c_behind (hX : JXok X) (hd : 1 ≤ d) {k : Nat} (hk : k < 20) : MT X d 0 0 jdX0_behind [.ref 15, .int (nI k)] (N, SH v T, I, L, Dd) (fun R => R = .inl (some (.int ((rg 8 (I 31) (I 23 k) - 1 - I 25 k))), (N, SH v T, I, L, Dd))) := by
  refine MT.mk dvX0_behind.1 ?_
  refine Ev.sg hX sX0_behind_0 (pc' := 9) (ls' := [some (.ref 15), some (.int (nI k))]) (st' := [.int (nI k), .ref 22, .ref 30]) (h' := (N, SH v T, I, L, Dd)) rfl ?_
  refine Ev.callV (As := [.int (nI k)]) (rest := [.ref 30]) dvX4_get mkX0_61 rfl rfl dX0_behind_9 (c_Row_getN (d := d - 1) (h := (N, SH v T, I, L, Dd)) (r := 22) (a := 23) (n := 20) hX rfl rfl (by decide) hk) ⟨by omega, by show 2 + 19 + 40 * _ ≤ 40 * _; omega⟩ (by decide) rfl (Nat.le_of_ble_eq_true rfl) (fun v9 h9 e9 => ?_) (fun E9 h9 e9 => nomatch e9)
  cases e9
  show Ev _ _ _ _ _ _ 12 [some (.ref 15), some (.int (nI k))] [.int (I 23 k), .ref 30] (N, SH v T, I, L, Dd)
  refine Ev.callV (As := [.int (I 23 k)]) (rest := []) dvX4_get mkX0_61 rfl rfl dX0_behind_12 (c_Row_get (d := d - 1) (h := (N, SH v T, I, L, Dd)) (r := 30) (a := 31) (n := 8) hX rfl rfl (by decide)) ⟨by omega, by show 2 + 19 + 40 * _ ≤ 40 * _; omega⟩ (by decide) rfl (Nat.le_of_ble_eq_true rfl) (fun v9 h9 e9 => ?_) (fun E9 h9 e9 => nomatch e9)
  cases e9
  show Ev _ _ _ _ _ _ 15 [some (.ref 15), some (.int (nI k))] [.int (rg 8 (I 31) (I 23 k))] (N, SH v T, I, L, Dd)
  refine Ev.sg hX sX0_behind_15 (pc' := 22) (ls' := [some (.ref 15), some (.int (nI k))]) (st' := [.int (nI k), .ref 24, .int ((rg 8 (I 31) (I 23 k)) - 1)]) (h' := (N, SH v T, I, L, Dd)) rfl ?_
  refine Ev.callV (As := [.int (nI k)]) (rest := [.int ((rg 8 (I 31) (I 23 k)) - 1)]) dvX4_get mkX0_61 rfl rfl dX0_behind_22 (c_Row_getN (d := d - 1) (h := (N, SH v T, I, L, Dd)) (r := 24) (a := 25) (n := 20) hX rfl rfl (by decide) hk) ⟨by omega, by show 2 + 19 + 40 * _ ≤ 40 * _; omega⟩ (by decide) rfl (Nat.le_of_ble_eq_true rfl) (fun v9 h9 e9 => ?_) (fun E9 h9 e9 => nomatch e9)
  cases e9
  show Ev _ _ _ _ _ _ 25 [some (.ref 15), some (.int (nI k))] [.int (I 25 k), .int ((rg 8 (I 31) (I 23 k)) - 1)] (N, SH v T, I, L, Dd)
  refine Ev.sg hX sX0_behind_25 (pc' := 26) (ls' := [some (.ref 15), some (.int (nI k))]) (st' := [.int (((rg 8 (I 31) (I 23 k)) - 1) - (I 25 k))]) (h' := (N, SH v T, I, L, Dd)) rfl ?_
  refine Ev.iret dX0_behind_26 rfl ?_
  rfl
def stL (I : Nat → Nat → Int32) (t c : Int32) (k : Nat) (a : Int32) : Int32 := if I 23 k = t ∧ rg 8 (I 31) (I 23 k) - 1 - I 25 k < c then a + I 27 k else a
theorem l_lengthOfLast (hX : JXok X) (hd : 2 ≤ d) {t c : Int32} : ∀ (n k : Nat) (a : Int32), n + k = 20 → Ev X (jm jdX0_lengthOfLast) d 0 0 (fun R => R = .inl (some (.int (fo (stL I t c) n k a)), (N, SH v T, I, L, Dd))) 5 [some (.ref 15), some (.int t), some (.int c), some (.int a), some (.int (nI k))] [] (N, SH v T, I, L, Dd) := by
  intro n
  induction n with
  | zero =>
    intro k a hk
    refine Ev.sg hX sX0_lengthOfLast_5 (pc' := 9) (ls' := [some (.ref 15), some (.int t), some (.int c), some (.int a), some (.int (nI k))]) (st' := [.int 20, .int (nI k)]) (h' := (N, SH v T, I, L, Dd)) rfl ?_
    refine Ev.icmp_ge (tgt := 53) dX0_lengthOfLast_9 (by decide) (fun b1 => ?_) (fun b1 => ?_)
    · refine Ev.sg hX sX0_lengthOfLast_53 (pc' := 54) (ls' := [some (.ref 15), some (.int t), some (.int c), some (.int a), some (.int (nI k))]) (st' := [.int a]) (h' := (N, SH v T, I, L, Dd)) rfl ?_
      refine Ev.iret dX0_lengthOfLast_54 rfl ?_
      rfl
    · exact absurd (((nI_leI (a := 20) (b := k) (by decide) (by omega)).mpr (by omega))) b1
  | succ n ih =>
    intro k a hk
    refine Ev.sg hX sX0_lengthOfLast_5 (pc' := 9) (ls' := [some (.ref 15), some (.int t), some (.int c), some (.int a), some (.int (nI k))]) (st' := [.int 20, .int (nI k)]) (h' := (N, SH v T, I, L, Dd)) rfl ?_
    refine Ev.icmp_ge (tgt := 53) dX0_lengthOfLast_9 (by decide) (fun b1 => ?_) (fun b1 => ?_)
    · exact absurd (((nI_leI (a := 20) (b := k) (by decide) (by omega)).mp b1)) (by omega)
    · refine Ev.sg hX sX0_lengthOfLast_12 (pc' := 18) (ls' := [some (.ref 15), some (.int t), some (.int c), some (.int a), some (.int (nI k))]) (st' := [.int (nI k), .ref 22]) (h' := (N, SH v T, I, L, Dd)) rfl ?_
      refine Ev.callV (As := [.int (nI k)]) (rest := []) dvX4_get mkX0_61 rfl rfl dX0_lengthOfLast_18 (c_Row_getN (d := d - 1) (h := (N, SH v T, I, L, Dd)) (r := 22) (a := 23) (n := 20) hX rfl rfl (by decide) (by omega)) ⟨by omega, by show 2 + 19 + 40 * _ ≤ 40 * _; omega⟩ (by decide) rfl (Nat.le_of_ble_eq_true rfl) (fun v9 h9 e9 => ?_) (fun E9 h9 e9 => nomatch e9)
      cases e9
      show Ev _ _ _ _ _ _ 21 [some (.ref 15), some (.int t), some (.int c), some (.int a), some (.int (nI k))] [.int (I 23 k)] (N, SH v T, I, L, Dd)
      refine Ev.sg hX sX0_lengthOfLast_21 (pc' := 22) (ls' := [some (.ref 15), some (.int t), some (.int c), some (.int a), some (.int (nI k))]) (st' := [.int t, .int (I 23 k)]) (h' := (N, SH v T, I, L, Dd)) rfl ?_
      refine Ev.icmp_ne (tgt := 47) dX0_lengthOfLast_22 (by decide) (fun b2 => ?_) (fun b2 => ?_)
      · refine Ev.sg hX sX0_lengthOfLast_47 (pc' := 5) (ls' := [some (.ref 15), some (.int t), some (.int c), some (.int a), some (.int ((nI k) + 1))]) (st' := []) (h' := (N, SH v T, I, L, Dd)) rfl ?_
        rw [nI_1, fo, show stL I t c k a = a from if_neg (fun z => b2 z.1)]
        exact ih (k + 1) _ (by omega)
      · refine Ev.sg hX sX0_lengthOfLast_25 (pc' := 28) (ls' := [some (.ref 15), some (.int t), some (.int c), some (.int a), some (.int (nI k))]) (st' := [.int (nI k), .ref 15]) (h' := (N, SH v T, I, L, Dd)) rfl ?_
        refine Ev.callV (As := [.int (nI k)]) (rest := []) dvX0_behind mkX0_93 rfl rfl dX0_lengthOfLast_28 (c_behind (d := d - 1) (I := I) hX (by omega) (by omega)) ⟨by omega, by show 2 + 19 + 40 * _ ≤ 40 * _; omega⟩ (by decide) rfl (Nat.le_of_ble_eq_true rfl) (fun v9 h9 e9 => ?_) (fun E9 h9 e9 => nomatch e9)
        cases e9
        show Ev _ _ _ _ _ _ 31 [some (.ref 15), some (.int t), some (.int c), some (.int a), some (.int (nI k))] [.int (rg 8 (I 31) (I 23 k) - 1 - I 25 k)] (N, SH v T, I, L, Dd)
        refine Ev.sg hX sX0_lengthOfLast_31 (pc' := 32) (ls' := [some (.ref 15), some (.int t), some (.int c), some (.int a), some (.int (nI k))]) (st' := [.int c, .int (rg 8 (I 31) (I 23 k) - 1 - I 25 k)]) (h' := (N, SH v T, I, L, Dd)) rfl ?_
        refine Ev.icmp_ge (tgt := 47) dX0_lengthOfLast_32 (by decide) (fun b3 => ?_) (fun b3 => ?_)
        · refine Ev.sg hX sX0_lengthOfLast_47 (pc' := 5) (ls' := [some (.ref 15), some (.int t), some (.int c), some (.int a), some (.int ((nI k) + 1))]) (st' := []) (h' := (N, SH v T, I, L, Dd)) rfl ?_
          rw [nI_1, fo, show stL I t c k a = a from if_neg (fun z => absurd z.2 (Int32.not_lt.mpr b3))]
          exact ih (k + 1) _ (by omega)
        · refine Ev.sg hX sX0_lengthOfLast_35 (pc' := 42) (ls' := [some (.ref 15), some (.int t), some (.int c), some (.int a), some (.int (nI k))]) (st' := [.int (nI k), .ref 26, .int a]) (h' := (N, SH v T, I, L, Dd)) rfl ?_
          refine Ev.callV (As := [.int (nI k)]) (rest := [.int a]) dvX4_get mkX0_61 rfl rfl dX0_lengthOfLast_42 (c_Row_getN (d := d - 1) (h := (N, SH v T, I, L, Dd)) (r := 26) (a := 27) (n := 20) hX rfl rfl (by decide) (by omega)) ⟨by omega, by show 2 + 19 + 40 * _ ≤ 40 * _; omega⟩ (by decide) rfl (Nat.le_of_ble_eq_true rfl) (fun v9 h9 e9 => ?_) (fun E9 h9 e9 => nomatch e9)
          cases e9
          show Ev _ _ _ _ _ _ 45 [some (.ref 15), some (.int t), some (.int c), some (.int a), some (.int (nI k))] [.int (I 27 k), .int a] (N, SH v T, I, L, Dd)
          refine Ev.sg hX sX0_lengthOfLast_45 (pc' := 47) (ls' := [some (.ref 15), some (.int t), some (.int c), some (.int (a + (I 27 k))), some (.int (nI k))]) (st' := []) (h' := (N, SH v T, I, L, Dd)) rfl ?_
          refine Ev.sg hX sX0_lengthOfLast_47 (pc' := 5) (ls' := [some (.ref 15), some (.int t), some (.int c), some (.int (a + (I 27 k))), some (.int ((nI k) + 1))]) (st' := []) (h' := (N, SH v T, I, L, Dd)) rfl ?_
          rw [nI_1, fo, show stL I t c k a = a + (I 27 k) from if_pos ⟨b2, Int32.not_le.mp b3⟩]
          exact ih (k + 1) _ (by omega)
def lengthOfLast (I : Nat → Nat → Int32) (t c : Int32) : Int32 := fo (stL I t c) 20 0 0
theorem c_lengthOfLast (hX : JXok X) (hd : 2 ≤ d) {t c : Int32} : MT X d 0 0 jdX0_lengthOfLast [.ref 15, .int t, .int c] (N, SH v T, I, L, Dd) (fun R => R = .inl (some (.int (lengthOfLast I t c)), (N, SH v T, I, L, Dd))) := by
  refine MT.mk dvX0_lengthOfLast.1 ?_
  refine Ev.sg hX sX0_lengthOfLast_0 (pc' := 5) (ls' := [some (.ref 15), some (.int t), some (.int c), some (.int 0), some (.int 0)]) (st' := []) (h' := (N, SH v T, I, L, Dd)) rfl ?_
  exact l_lengthOfLast hX hd 20 0 0 rfl
def stD (I : Nat → Nat → Int32) (t c : Int32) (k : Nat) (a : Int32) : Int32 := if I 23 k = t ∧ rg 8 (I 31) (I 23 k) - 1 - I 25 k < c then a + I 21 k else a
theorem l_defectsOfLast (hX : JXok X) (hd : 2 ≤ d) {t c : Int32} : ∀ (n k : Nat) (a : Int32), n + k = 20 → Ev X (jm jdX0_defectsOfLast) d 0 0 (fun R => R = .inl (some (.int (fo (stD I t c) n k a)), (N, SH v T, I, L, Dd))) 5 [some (.ref 15), some (.int t), some (.int c), some (.int a), some (.int (nI k))] [] (N, SH v T, I, L, Dd) := by
  intro n
  induction n with
  | zero =>
    intro k a hk
    refine Ev.sg hX sX0_defectsOfLast_5 (pc' := 9) (ls' := [some (.ref 15), some (.int t), some (.int c), some (.int a), some (.int (nI k))]) (st' := [.int 20, .int (nI k)]) (h' := (N, SH v T, I, L, Dd)) rfl ?_
    refine Ev.icmp_ge (tgt := 53) dX0_defectsOfLast_9 (by decide) (fun b1 => ?_) (fun b1 => ?_)
    · refine Ev.sg hX sX0_defectsOfLast_53 (pc' := 54) (ls' := [some (.ref 15), some (.int t), some (.int c), some (.int a), some (.int (nI k))]) (st' := [.int a]) (h' := (N, SH v T, I, L, Dd)) rfl ?_
      refine Ev.iret dX0_defectsOfLast_54 rfl ?_
      rfl
    · exact absurd (((nI_leI (a := 20) (b := k) (by decide) (by omega)).mpr (by omega))) b1
  | succ n ih =>
    intro k a hk
    refine Ev.sg hX sX0_defectsOfLast_5 (pc' := 9) (ls' := [some (.ref 15), some (.int t), some (.int c), some (.int a), some (.int (nI k))]) (st' := [.int 20, .int (nI k)]) (h' := (N, SH v T, I, L, Dd)) rfl ?_
    refine Ev.icmp_ge (tgt := 53) dX0_defectsOfLast_9 (by decide) (fun b1 => ?_) (fun b1 => ?_)
    · exact absurd (((nI_leI (a := 20) (b := k) (by decide) (by omega)).mp b1)) (by omega)
    · refine Ev.sg hX sX0_defectsOfLast_12 (pc' := 18) (ls' := [some (.ref 15), some (.int t), some (.int c), some (.int a), some (.int (nI k))]) (st' := [.int (nI k), .ref 22]) (h' := (N, SH v T, I, L, Dd)) rfl ?_
      refine Ev.callV (As := [.int (nI k)]) (rest := []) dvX4_get mkX0_61 rfl rfl dX0_defectsOfLast_18 (c_Row_getN (d := d - 1) (h := (N, SH v T, I, L, Dd)) (r := 22) (a := 23) (n := 20) hX rfl rfl (by decide) (by omega)) ⟨by omega, by show 2 + 19 + 40 * _ ≤ 40 * _; omega⟩ (by decide) rfl (Nat.le_of_ble_eq_true rfl) (fun v9 h9 e9 => ?_) (fun E9 h9 e9 => nomatch e9)
      cases e9
      show Ev _ _ _ _ _ _ 21 [some (.ref 15), some (.int t), some (.int c), some (.int a), some (.int (nI k))] [.int (I 23 k)] (N, SH v T, I, L, Dd)
      refine Ev.sg hX sX0_defectsOfLast_21 (pc' := 22) (ls' := [some (.ref 15), some (.int t), some (.int c), some (.int a), some (.int (nI k))]) (st' := [.int t, .int (I 23 k)]) (h' := (N, SH v T, I, L, Dd)) rfl ?_
      refine Ev.icmp_ne (tgt := 47) dX0_defectsOfLast_22 (by decide) (fun b2 => ?_) (fun b2 => ?_)
      · refine Ev.sg hX sX0_defectsOfLast_47 (pc' := 5) (ls' := [some (.ref 15), some (.int t), some (.int c), some (.int a), some (.int ((nI k) + 1))]) (st' := []) (h' := (N, SH v T, I, L, Dd)) rfl ?_
        rw [nI_1, fo, show stD I t c k a = a from if_neg (fun z => b2 z.1)]
        exact ih (k + 1) _ (by omega)
      · refine Ev.sg hX sX0_defectsOfLast_25 (pc' := 28) (ls' := [some (.ref 15), some (.int t), some (.int c), some (.int a), some (.int (nI k))]) (st' := [.int (nI k), .ref 15]) (h' := (N, SH v T, I, L, Dd)) rfl ?_
        refine Ev.callV (As := [.int (nI k)]) (rest := []) dvX0_behind mkX0_93 rfl rfl dX0_defectsOfLast_28 (c_behind (d := d - 1) (I := I) hX (by omega) (by omega)) ⟨by omega, by show 2 + 19 + 40 * _ ≤ 40 * _; omega⟩ (by decide) rfl (Nat.le_of_ble_eq_true rfl) (fun v9 h9 e9 => ?_) (fun E9 h9 e9 => nomatch e9)
        cases e9
        show Ev _ _ _ _ _ _ 31 [some (.ref 15), some (.int t), some (.int c), some (.int a), some (.int (nI k))] [.int (rg 8 (I 31) (I 23 k) - 1 - I 25 k)] (N, SH v T, I, L, Dd)
        refine Ev.sg hX sX0_defectsOfLast_31 (pc' := 32) (ls' := [some (.ref 15), some (.int t), some (.int c), some (.int a), some (.int (nI k))]) (st' := [.int c, .int (rg 8 (I 31) (I 23 k) - 1 - I 25 k)]) (h' := (N, SH v T, I, L, Dd)) rfl ?_
        refine Ev.icmp_ge (tgt := 47) dX0_defectsOfLast_32 (by decide) (fun b3 => ?_) (fun b3 => ?_)
        · refine Ev.sg hX sX0_defectsOfLast_47 (pc' := 5) (ls' := [some (.ref 15), some (.int t), some (.int c), some (.int a), some (.int ((nI k) + 1))]) (st' := []) (h' := (N, SH v T, I, L, Dd)) rfl ?_
          rw [nI_1, fo, show stD I t c k a = a from if_neg (fun z => absurd z.2 (Int32.not_lt.mpr b3))]
          exact ih (k + 1) _ (by omega)
        · refine Ev.sg hX sX0_defectsOfLast_35 (pc' := 42) (ls' := [some (.ref 15), some (.int t), some (.int c), some (.int a), some (.int (nI k))]) (st' := [.int (nI k), .ref 20, .int a]) (h' := (N, SH v T, I, L, Dd)) rfl ?_
          refine Ev.callV (As := [.int (nI k)]) (rest := [.int a]) dvX4_get mkX0_61 rfl rfl dX0_defectsOfLast_42 (c_Row_getN (d := d - 1) (h := (N, SH v T, I, L, Dd)) (r := 20) (a := 21) (n := 20) hX rfl rfl (by decide) (by omega)) ⟨by omega, by show 2 + 19 + 40 * _ ≤ 40 * _; omega⟩ (by decide) rfl (Nat.le_of_ble_eq_true rfl) (fun v9 h9 e9 => ?_) (fun E9 h9 e9 => nomatch e9)
          cases e9
          show Ev _ _ _ _ _ _ 45 [some (.ref 15), some (.int t), some (.int c), some (.int a), some (.int (nI k))] [.int (I 21 k), .int a] (N, SH v T, I, L, Dd)
          refine Ev.sg hX sX0_defectsOfLast_45 (pc' := 47) (ls' := [some (.ref 15), some (.int t), some (.int c), some (.int (a + (I 21 k))), some (.int (nI k))]) (st' := []) (h' := (N, SH v T, I, L, Dd)) rfl ?_
          refine Ev.sg hX sX0_defectsOfLast_47 (pc' := 5) (ls' := [some (.ref 15), some (.int t), some (.int c), some (.int (a + (I 21 k))), some (.int ((nI k) + 1))]) (st' := []) (h' := (N, SH v T, I, L, Dd)) rfl ?_
          rw [nI_1, fo, show stD I t c k a = a + (I 21 k) from if_pos ⟨b2, Int32.not_le.mp b3⟩]
          exact ih (k + 1) _ (by omega)
def defectsOfLast (I : Nat → Nat → Int32) (t c : Int32) : Int32 := fo (stD I t c) 20 0 0
theorem c_defectsOfLast (hX : JXok X) (hd : 2 ≤ d) {t c : Int32} : MT X d 0 0 jdX0_defectsOfLast [.ref 15, .int t, .int c] (N, SH v T, I, L, Dd) (fun R => R = .inl (some (.int (defectsOfLast I t c)), (N, SH v T, I, L, Dd))) := by
  refine MT.mk dvX0_defectsOfLast.1 ?_
  refine Ev.sg hX sX0_defectsOfLast_0 (pc' := 5) (ls' := [some (.ref 15), some (.int t), some (.int c), some (.int 0), some (.int 0)]) (st' := []) (h' := (N, SH v T, I, L, Dd)) rfl ?_
  exact l_defectsOfLast hX hd 20 0 0 rfl
def stB (I : Nat → Nat → Int32) (t : Int32) (k : Nat) (a : Int32) : Int32 := if I 17 k ≠ 0 ∧ I 19 k = t then a + 1 else a
def pushI (I : Nat → Nat → Int32) (s t : Nat) : Nat → Nat → Int32 := up2 (up2 (up2 (up2 I 23 s (nI t)) 25 s (I 31 t)) 31 t (I 31 t + 1)) 33 t (I 33 t + I 27 s)
theorem c_push (hX : JXok X) (hd : 2 ≤ d) {s t : Nat} (hs : s < 20) (ht : t < 8) : MT X d 0 0 jdX0_push [.ref 15, .int (nI s), .int (nI t)] (N, SH v T, I, L, Dd) (fun R => R = .inl (none, (N, SH v T, pushI I s t, L, Dd))) := by
  refine MT.mk dvX0_push.1 ?_
  refine Ev.sg hX sX0_push_0 (pc' := 6) (ls' := [some (.ref 15), some (.int (nI s)), some (.int (nI t))]) (st' := [.int (nI t), .int (nI s), .ref 22]) (h' := (N, SH v T, I, L, Dd)) rfl ?_
  refine Ev.callV (As := [.int (nI s), .int (nI t)]) (rest := []) dvX4_set mkX0_73 rfl rfl dX0_push_6 (c_Row_setN (d := d - 1) (h := (N, SH v T, I, L, Dd)) (r := 22) (a := 23) (n := 20) hX rfl rfl (by decide) hs) ⟨by omega, by show 3 + 19 + 40 * _ ≤ 40 * _; omega⟩ (by decide) rfl (Nat.le_of_ble_eq_true rfl) (fun v9 h9 e9 => ?_) (fun E9 h9 e9 => nomatch e9)
  cases e9
  show Ev _ _ _ _ _ _ 9 [some (.ref 15), some (.int (nI s)), some (.int (nI t))] [] (N, SH v T, up2 I 23 s (nI t), L, Dd)
  refine Ev.sg hX sX0_push_9 (pc' := 19) (ls' := [some (.ref 15), some (.int (nI s)), some (.int (nI t))]) (st' := [.int (nI t), .ref 30, .int (nI s), .ref 24]) (h' := (N, SH v T, up2 I 23 s (nI t), L, Dd)) rfl ?_
  refine Ev.callV (As := [.int (nI t)]) (rest := [.int (nI s), .ref 24]) dvX4_get mkX0_61 rfl rfl dX0_push_19 (c_Row_getN (d := d - 1) (h := (N, SH v T, up2 I 23 s (nI t), L, Dd)) (r := 30) (a := 31) (n := 8) hX rfl rfl (by decide) ht) ⟨by omega, by show 2 + 19 + 40 * _ ≤ 40 * _; omega⟩ (by decide) rfl (Nat.le_of_ble_eq_true rfl) (fun v9 h9 e9 => ?_) (fun E9 h9 e9 => nomatch e9)
  cases e9
  show Ev _ _ _ _ _ _ 22 [some (.ref 15), some (.int (nI s)), some (.int (nI t))] [.int ((up2 I 23 s (nI t)) 31 t), .int (nI s), .ref 24] (N, SH v T, up2 I 23 s (nI t), L, Dd)
  refine Ev.callV (As := [.int (nI s), .int ((up2 I 23 s (nI t)) 31 t)]) (rest := []) dvX4_set mkX0_73 rfl rfl dX0_push_22 (c_Row_setN (d := d - 1) (h := (N, SH v T, up2 I 23 s (nI t), L, Dd)) (r := 24) (a := 25) (n := 20) hX rfl rfl (by decide) hs) ⟨by omega, by show 3 + 19 + 40 * _ ≤ 40 * _; omega⟩ (by decide) rfl (Nat.le_of_ble_eq_true rfl) (fun v9 h9 e9 => ?_) (fun E9 h9 e9 => nomatch e9)
  cases e9
  show Ev _ _ _ _ _ _ 25 [some (.ref 15), some (.int (nI s)), some (.int (nI t))] [] (N, SH v T, up2 (up2 I 23 s (nI t)) 25 s ((up2 I 23 s (nI t)) 31 t), L, Dd)
  refine Ev.sg hX sX0_push_25 (pc' := 31) (ls' := [some (.ref 15), some (.int (nI s)), some (.int (nI t))]) (st' := [.int 1, .int (nI t), .ref 30]) (h' := (N, SH v T, up2 (up2 I 23 s (nI t)) 25 s ((up2 I 23 s (nI t)) 31 t), L, Dd)) rfl ?_
  refine Ev.callV (As := [.int (nI t), .int 1]) (rest := []) dvX4_increase mkX0_83 rfl rfl dX0_push_31 (c_Row_incN (d := d - 1) (h := (N, SH v T, up2 (up2 I 23 s (nI t)) 25 s ((up2 I 23 s (nI t)) 31 t), L, Dd)) (r := 30) (a := 31) (n := 8) hX rfl rfl (by decide) ht (by omega)) ⟨by omega, by show 3 + 19 + 40 * _ ≤ 40 * _; omega⟩ (by decide) rfl (Nat.le_of_ble_eq_true rfl) (fun v9 h9 e9 => ?_) (fun E9 h9 e9 => nomatch e9)
  cases e9
  show Ev _ _ _ _ _ _ 34 [some (.ref 15), some (.int (nI s)), some (.int (nI t))] [] (N, SH v T, up2 (up2 (up2 I 23 s (nI t)) 25 s ((up2 I 23 s (nI t)) 31 t)) 31 t ((up2 (up2 I 23 s (nI t)) 25 s ((up2 I 23 s (nI t)) 31 t)) 31 t + 1), L, Dd)
  refine Ev.sg hX sX0_push_34 (pc' := 44) (ls' := [some (.ref 15), some (.int (nI s)), some (.int (nI t))]) (st' := [.int (nI s), .ref 26, .int (nI t), .ref 32]) (h' := (N, SH v T, up2 (up2 (up2 I 23 s (nI t)) 25 s ((up2 I 23 s (nI t)) 31 t)) 31 t ((up2 (up2 I 23 s (nI t)) 25 s ((up2 I 23 s (nI t)) 31 t)) 31 t + 1), L, Dd)) rfl ?_
  refine Ev.callV (As := [.int (nI s)]) (rest := [.int (nI t), .ref 32]) dvX4_get mkX0_61 rfl rfl dX0_push_44 (c_Row_getN (d := d - 1) (h := (N, SH v T, up2 (up2 (up2 I 23 s (nI t)) 25 s ((up2 I 23 s (nI t)) 31 t)) 31 t ((up2 (up2 I 23 s (nI t)) 25 s ((up2 I 23 s (nI t)) 31 t)) 31 t + 1), L, Dd)) (r := 26) (a := 27) (n := 20) hX rfl rfl (by decide) hs) ⟨by omega, by show 2 + 19 + 40 * _ ≤ 40 * _; omega⟩ (by decide) rfl (Nat.le_of_ble_eq_true rfl) (fun v9 h9 e9 => ?_) (fun E9 h9 e9 => nomatch e9)
  cases e9
  show Ev _ _ _ _ _ _ 47 [some (.ref 15), some (.int (nI s)), some (.int (nI t))] [.int ((up2 (up2 (up2 I 23 s (nI t)) 25 s ((up2 I 23 s (nI t)) 31 t)) 31 t ((up2 (up2 I 23 s (nI t)) 25 s ((up2 I 23 s (nI t)) 31 t)) 31 t + 1)) 27 s), .int (nI t), .ref 32] (N, SH v T, up2 (up2 (up2 I 23 s (nI t)) 25 s ((up2 I 23 s (nI t)) 31 t)) 31 t ((up2 (up2 I 23 s (nI t)) 25 s ((up2 I 23 s (nI t)) 31 t)) 31 t + 1), L, Dd)
  refine Ev.callV (As := [.int (nI t), .int ((up2 (up2 (up2 I 23 s (nI t)) 25 s ((up2 I 23 s (nI t)) 31 t)) 31 t ((up2 (up2 I 23 s (nI t)) 25 s ((up2 I 23 s (nI t)) 31 t)) 31 t + 1)) 27 s)]) (rest := []) dvX4_increase mkX0_83 rfl rfl dX0_push_47 (c_Row_incN (d := d - 1) (h := (N, SH v T, up2 (up2 (up2 I 23 s (nI t)) 25 s ((up2 I 23 s (nI t)) 31 t)) 31 t ((up2 (up2 I 23 s (nI t)) 25 s ((up2 I 23 s (nI t)) 31 t)) 31 t + 1), L, Dd)) (r := 32) (a := 33) (n := 8) hX rfl rfl (by decide) ht (by omega)) ⟨by omega, by show 3 + 19 + 40 * _ ≤ 40 * _; omega⟩ (by decide) rfl (Nat.le_of_ble_eq_true rfl) (fun v9 h9 e9 => ?_) (fun E9 h9 e9 => nomatch e9)
  cases e9
  show Ev _ _ _ _ _ _ 50 [some (.ref 15), some (.int (nI s)), some (.int (nI t))] [] (N, SH v T, up2 (up2 (up2 (up2 I 23 s (nI t)) 25 s ((up2 I 23 s (nI t)) 31 t)) 31 t ((up2 (up2 I 23 s (nI t)) 25 s ((up2 I 23 s (nI t)) 31 t)) 31 t + 1)) 33 t ((up2 (up2 (up2 I 23 s (nI t)) 25 s ((up2 I 23 s (nI t)) 31 t)) 31 t ((up2 (up2 I 23 s (nI t)) 25 s ((up2 I 23 s (nI t)) 31 t)) 31 t + 1)) 33 t + ((up2 (up2 (up2 I 23 s (nI t)) 25 s ((up2 I 23 s (nI t)) 31 t)) 31 t ((up2 (up2 I 23 s (nI t)) 25 s ((up2 I 23 s (nI t)) 31 t)) 31 t + 1)) 27 s)), L, Dd)
  refine Ev.vret dX0_push_50 rfl ?_
  simp [rd2, pushI]
def popI (I : Nat → Nat → Int32) (s t : Nat) : Nat → Nat → Int32 := up2 (up2 I 31 t (I 31 t + -1)) 33 t (I 33 t + -I 27 s)
theorem c_pop (hX : JXok X) (hd : 2 ≤ d) {s t : Nat} (hs : s < 20) (ht : t < 8) (hz : slotAt I (nI t) (I 31 t - 1) = nI s) : MT X d 0 0 jdX0_pop [.ref 15, .int (nI t)] (N, SH v T, I, L, Dd) (fun R => R = .inl (some (.int (nI s)), (N, SH v T, popI I s t, L, Dd))) := by
  refine MT.mk dvX0_pop.1 ?_
  refine Ev.sg hX sX0_pop_0 (pc' := 7) (ls' := [some (.ref 15), some (.int (nI t)), none]) (st' := [.int (nI t), .ref 30, .int (nI t), .ref 15]) (h' := (N, SH v T, I, L, Dd)) rfl ?_
  refine Ev.callV (As := [.int (nI t)]) (rest := [.int (nI t), .ref 15]) dvX4_get mkX0_61 rfl rfl dX0_pop_7 (c_Row_getN (d := d - 1) (h := (N, SH v T, I, L, Dd)) (r := 30) (a := 31) (n := 8) hX rfl rfl (by decide) ht) ⟨by omega, by show 2 + 19 + 40 * _ ≤ 40 * _; omega⟩ (by decide) rfl (Nat.le_of_ble_eq_true rfl) (fun v9 h9 e9 => ?_) (fun E9 h9 e9 => nomatch e9)
  cases e9
  show Ev _ _ _ _ _ _ 10 [some (.ref 15), some (.int (nI t)), none] [.int (I 31 t), .int (nI t), .ref 15] (N, SH v T, I, L, Dd)
  refine Ev.sg hX sX0_pop_10 (pc' := 12) (ls' := [some (.ref 15), some (.int (nI t)), none]) (st' := [.int ((I 31 t) - 1), .int (nI t), .ref 15]) (h' := (N, SH v T, I, L, Dd)) rfl ?_
  refine Ev.callV (As := [.int (nI t), .int ((I 31 t) - 1)]) (rest := []) dvX0_slotAt mkX0_86 rfl rfl dX0_pop_12 (c_slotAt (d := d - 1) hX (by omega)) ⟨by omega, by show 4 + 19 + 40 * _ ≤ 40 * _; omega⟩ (by decide) rfl (Nat.le_of_ble_eq_true rfl) (fun v9 h9 e9 => ?_) (fun E9 h9 e9 => nomatch e9)
  cases e9
  show Ev _ _ _ _ _ _ 15 [some (.ref 15), some (.int (nI t)), none] [.int (slotAt I (nI t) (I 31 t - 1))] (N, SH v T, I, L, Dd)
  rw [hz]
  refine Ev.sg hX sX0_pop_15 (pc' := 22) (ls' := [some (.ref 15), some (.int (nI t)), some (.int (nI s))]) (st' := [.int (-1), .int (nI t), .ref 30]) (h' := (N, SH v T, I, L, Dd)) rfl ?_
  refine Ev.callV (As := [.int (nI t), .int (-1)]) (rest := []) dvX4_increase mkX0_83 rfl rfl dX0_pop_22 (c_Row_incN (d := d - 1) (h := (N, SH v T, I, L, Dd)) (r := 30) (a := 31) (n := 8) hX rfl rfl (by decide) ht (by omega)) ⟨by omega, by show 3 + 19 + 40 * _ ≤ 40 * _; omega⟩ (by decide) rfl (Nat.le_of_ble_eq_true rfl) (fun v9 h9 e9 => ?_) (fun E9 h9 e9 => nomatch e9)
  cases e9
  show Ev _ _ _ _ _ _ 25 [some (.ref 15), some (.int (nI t)), some (.int (nI s))] [] (N, SH v T, up2 I 31 t (I 31 t + (-1)), L, Dd)
  refine Ev.sg hX sX0_pop_25 (pc' := 35) (ls' := [some (.ref 15), some (.int (nI t)), some (.int (nI s))]) (st' := [.int (nI s), .ref 26, .int (nI t), .ref 32]) (h' := (N, SH v T, up2 I 31 t (I 31 t + (-1)), L, Dd)) rfl ?_
  refine Ev.callV (As := [.int (nI s)]) (rest := [.int (nI t), .ref 32]) dvX4_get mkX0_61 rfl rfl dX0_pop_35 (c_Row_getN (d := d - 1) (h := (N, SH v T, up2 I 31 t (I 31 t + (-1)), L, Dd)) (r := 26) (a := 27) (n := 20) hX rfl rfl (by decide) hs) ⟨by omega, by show 2 + 19 + 40 * _ ≤ 40 * _; omega⟩ (by decide) rfl (Nat.le_of_ble_eq_true rfl) (fun v9 h9 e9 => ?_) (fun E9 h9 e9 => nomatch e9)
  cases e9
  show Ev _ _ _ _ _ _ 38 [some (.ref 15), some (.int (nI t)), some (.int (nI s))] [.int ((up2 I 31 t (I 31 t + (-1))) 27 s), .int (nI t), .ref 32] (N, SH v T, up2 I 31 t (I 31 t + (-1)), L, Dd)
  refine Ev.sg hX sX0_pop_38 (pc' := 39) (ls' := [some (.ref 15), some (.int (nI t)), some (.int (nI s))]) (st' := [.int (-((up2 I 31 t (I 31 t + (-1))) 27 s)), .int (nI t), .ref 32]) (h' := (N, SH v T, up2 I 31 t (I 31 t + (-1)), L, Dd)) rfl ?_
  refine Ev.callV (As := [.int (nI t), .int (-((up2 I 31 t (I 31 t + (-1))) 27 s))]) (rest := []) dvX4_increase mkX0_83 rfl rfl dX0_pop_39 (c_Row_incN (d := d - 1) (h := (N, SH v T, up2 I 31 t (I 31 t + (-1)), L, Dd)) (r := 32) (a := 33) (n := 8) hX rfl rfl (by decide) ht (by omega)) ⟨by omega, by show 3 + 19 + 40 * _ ≤ 40 * _; omega⟩ (by decide) rfl (Nat.le_of_ble_eq_true rfl) (fun v9 h9 e9 => ?_) (fun E9 h9 e9 => nomatch e9)
  cases e9
  show Ev _ _ _ _ _ _ 42 [some (.ref 15), some (.int (nI t)), some (.int (nI s))] [] (N, SH v T, up2 (up2 I 31 t (I 31 t + (-1))) 33 t ((up2 I 31 t (I 31 t + (-1))) 33 t + (-((up2 I 31 t (I 31 t + (-1))) 27 s))), L, Dd)
  refine Ev.sg hX sX0_pop_42 (pc' := 43) (ls' := [some (.ref 15), some (.int (nI t)), some (.int (nI s))]) (st' := [.int (nI s)]) (h' := (N, SH v T, up2 (up2 I 31 t (I 31 t + (-1))) 33 t ((up2 I 31 t (I 31 t + (-1))) 33 t + (-((up2 I 31 t (I 31 t + (-1))) 27 s))), L, Dd)) rfl ?_
  refine Ev.iret dX0_pop_43 rfl ?_
  simp [rd2, popI]
theorem c_moveLast (hX : JXok X) (hd : 3 ≤ d) {s t u : Nat} (hs : s < 20) (ht : t < 8) (hu : u < 8) (hz : slotAt I (nI t) (I 31 t - 1) = nI s) : MT X d 0 0 jdX0_moveLast [.ref 15, .int (nI t), .int (nI u)] (N, SH v T, I, L, Dd) (fun R => R = .inl (none, (N, SH v T, pushI (popI I s t) s u, L, Dd))) := by
  refine MT.mk dvX0_moveLast.1 ?_
  refine Ev.sg hX sX0_moveLast_0 (pc' := 3) (ls' := [some (.ref 15), some (.int (nI t)), some (.int (nI u))]) (st' := [.int (nI t), .ref 15, .ref 15]) (h' := (N, SH v T, I, L, Dd)) rfl ?_
  refine Ev.callV (As := [.int (nI t)]) (rest := [.ref 15]) dvX0_pop mkX0_80 rfl rfl dX0_moveLast_3 (c_pop (d := d - 1) (I := I) hX (by omega) hs ht hz) ⟨by omega, by show 3 + 19 + 40 * _ ≤ 40 * _; omega⟩ (by decide) rfl (Nat.le_of_ble_eq_true rfl) (fun v9 h9 e9 => ?_) (fun E9 h9 e9 => nomatch e9)
  cases e9
  show Ev _ _ _ _ _ _ 6 [some (.ref 15), some (.int (nI t)), some (.int (nI u))] [.int (nI s), .ref 15] (N, SH v T, popI I s t, L, Dd)
  refine Ev.sg hX sX0_moveLast_6 (pc' := 7) (ls' := [some (.ref 15), some (.int (nI t)), some (.int (nI u))]) (st' := [.int (nI u), .int (nI s), .ref 15]) (h' := (N, SH v T, popI I s t, L, Dd)) rfl ?_
  refine Ev.callV (As := [.int (nI s), .int (nI u)]) (rest := []) dvX0_push mkX0_77 rfl rfl dX0_moveLast_7 (c_push (d := d - 1) (I := (popI I s t)) hX (by omega) hs hu) ⟨by omega, by show 3 + 19 + 40 * _ ≤ 40 * _; omega⟩ (by decide) rfl (Nat.le_of_ble_eq_true rfl) (fun v9 h9 e9 => ?_) (fun E9 h9 e9 => nomatch e9)
  cases e9
  show Ev _ _ _ _ _ _ 10 [some (.ref 15), some (.int (nI t)), some (.int (nI u))] [] (N, SH v T, pushI (popI I s t) s u, L, Dd)
  refine Ev.vret dX0_moveLast_10 rfl ?_
  rfl
def leaveI (I : Nat → Nat → Int32) (s t : Nat) : Nat → Nat → Int32 := up2 (up2 (up2 (popI I s t) 17 s 0) 23 s (-1)) 15 0 (I 15 0 - 1)
theorem c_leave (hX : JXok X) (hd : 3 ≤ d) {s t : Nat} (hs : s < 20) (ht : t < 8) (hz : slotAt I (nI t) (I 31 t - 1) = nI s) : MT X d 0 0 jdX0_leave [.ref 15, .int (nI t)] (N, SH v T, I, L, Dd) (fun R => R = .inl (some (.int (I 29 s)), (N, SH v T, leaveI I s t, L, Dd))) := by
  refine MT.mk dvX0_leave.1 ?_
  refine Ev.sg hX sX0_leave_0 (pc' := 2) (ls' := [some (.ref 15), some (.int (nI t)), none]) (st' := [.int (nI t), .ref 15]) (h' := (N, SH v T, I, L, Dd)) rfl ?_
  refine Ev.callV (As := [.int (nI t)]) (rest := []) dvX0_pop mkX0_80 rfl rfl dX0_leave_2 (c_pop (d := d - 1) (I := I) hX (by omega) hs ht hz) ⟨by omega, by show 3 + 19 + 40 * _ ≤ 40 * _; omega⟩ (by decide) rfl (Nat.le_of_ble_eq_true rfl) (fun v9 h9 e9 => ?_) (fun E9 h9 e9 => nomatch e9)
  cases e9
  show Ev _ _ _ _ _ _ 5 [some (.ref 15), some (.int (nI t)), none] [.int (nI s)] (N, SH v T, popI I s t, L, Dd)
  refine Ev.sg hX sX0_leave_5 (pc' := 12) (ls' := [some (.ref 15), some (.int (nI t)), some (.int (nI s))]) (st' := [.int 0, .int (nI s), .ref 16]) (h' := (N, SH v T, popI I s t, L, Dd)) rfl ?_
  refine Ev.callV (As := [.int (nI s), .int 0]) (rest := []) dvX4_set mkX0_73 rfl rfl dX0_leave_12 (c_Row_setN (d := d - 1) (h := (N, SH v T, popI I s t, L, Dd)) (r := 16) (a := 17) (n := 20) hX rfl rfl (by decide) hs) ⟨by omega, by show 3 + 19 + 40 * _ ≤ 40 * _; omega⟩ (by decide) rfl (Nat.le_of_ble_eq_true rfl) (fun v9 h9 e9 => ?_) (fun E9 h9 e9 => nomatch e9)
  cases e9
  show Ev _ _ _ _ _ _ 15 [some (.ref 15), some (.int (nI t)), some (.int (nI s))] [] (N, SH v T, up2 (popI I s t) 17 s 0, L, Dd)
  refine Ev.sg hX sX0_leave_15 (pc' := 21) (ls' := [some (.ref 15), some (.int (nI t)), some (.int (nI s))]) (st' := [.int (-1), .int (nI s), .ref 22]) (h' := (N, SH v T, up2 (popI I s t) 17 s 0, L, Dd)) rfl ?_
  refine Ev.callV (As := [.int (nI s), .int (-1)]) (rest := []) dvX4_set mkX0_73 rfl rfl dX0_leave_21 (c_Row_setN (d := d - 1) (h := (N, SH v T, up2 (popI I s t) 17 s 0, L, Dd)) (r := 22) (a := 23) (n := 20) hX rfl rfl (by decide) hs) ⟨by omega, by show 3 + 19 + 40 * _ ≤ 40 * _; omega⟩ (by decide) rfl (Nat.le_of_ble_eq_true rfl) (fun v9 h9 e9 => ?_) (fun E9 h9 e9 => nomatch e9)
  cases e9
  show Ev _ _ _ _ _ _ 24 [some (.ref 15), some (.int (nI t)), some (.int (nI s))] [] (N, SH v T, up2 (up2 (popI I s t) 17 s 0) 23 s (-1), L, Dd)
  refine Ev.sg hX sX0_leave_24 (pc' := 39) (ls' := [some (.ref 15), some (.int (nI t)), some (.int (nI s))]) (st' := [.int (nI s), .ref 28]) (h' := (N, SH v T, up2 (up2 (up2 (popI I s t) 17 s 0) 23 s (-1)) 15 0 (((up2 (up2 (popI I s t) 17 s 0) 23 s (-1)) 15 0) - 1), L, Dd)) rfl ?_
  refine Ev.callV (As := [.int (nI s)]) (rest := []) dvX4_get mkX0_61 rfl rfl dX0_leave_39 (c_Row_getN (d := d - 1) (h := (N, SH v T, up2 (up2 (up2 (popI I s t) 17 s 0) 23 s (-1)) 15 0 (((up2 (up2 (popI I s t) 17 s 0) 23 s (-1)) 15 0) - 1), L, Dd)) (r := 28) (a := 29) (n := 20) hX rfl rfl (by decide) hs) ⟨by omega, by show 2 + 19 + 40 * _ ≤ 40 * _; omega⟩ (by decide) rfl (Nat.le_of_ble_eq_true rfl) (fun v9 h9 e9 => ?_) (fun E9 h9 e9 => nomatch e9)
  cases e9
  show Ev _ _ _ _ _ _ 42 [some (.ref 15), some (.int (nI t)), some (.int (nI s))] [.int ((up2 (up2 (up2 (popI I s t) 17 s 0) 23 s (-1)) 15 0 (((up2 (up2 (popI I s t) 17 s 0) 23 s (-1)) 15 0) - 1)) 29 s)] (N, SH v T, up2 (up2 (up2 (popI I s t) 17 s 0) 23 s (-1)) 15 0 (((up2 (up2 (popI I s t) 17 s 0) 23 s (-1)) 15 0) - 1), L, Dd)
  refine Ev.iret dX0_leave_42 rfl ?_
  simp [rd2, leaveI, popI]
def enterI (I : Nat → Nat → Int32) (s t : Nat) (le we de : Int32) (b : Int32) : Nat → Nat → Int32 := pushI (up2 (up2 (up2 (up2 (up2 (up2 (up2 I 15 1 (I 15 1 + 1)) 15 0 (I 15 0 + 1)) 17 s (I 15 1 + 1)) 27 s le) 29 s we) 19 s de) 21 s b) s t
theorem c_enter (hX : JXok X) (hd : 3 ≤ d) {s t : Nat} {le we de b : Int32} (hs : s < 20) (ht : t < 8) (hb : b = 0 ∨ b = 1) (hz : freeSlot I = nI s) : MT X d 0 0 jdX0_enter [.ref 15, .int (nI t), .int le, .int we, .int de, .int b] (N, SH v T, I, L, Dd) (fun R => R = .inl (some (.int (I 15 1 + 1)), (N, SH v T, enterI I s t le we de b, L, Dd))) := by
  refine MT.mk dvX0_enter.1 ?_
  refine Ev.sg hX sX0_enter_0 (pc' := 1) (ls' := [some (.ref 15), some (.int (nI t)), some (.int le), some (.int we), some (.int de), some (.int b), none]) (st' := [.ref 15]) (h' := (N, SH v T, I, L, Dd)) rfl ?_
  refine Ev.callV (As := []) (rest := []) dvX0_freeSlot mkX0_69 rfl rfl dX0_enter_1 (c_freeSlot (d := d - 1) hX (by omega)) ⟨by omega, by show 2 + 19 + 40 * _ ≤ 40 * _; omega⟩ (by decide) rfl (Nat.le_of_ble_eq_true rfl) (fun v9 h9 e9 => ?_) (fun E9 h9 e9 => nomatch e9)
  cases e9
  show Ev _ _ _ _ _ _ 4 [some (.ref 15), some (.int (nI t)), some (.int le), some (.int we), some (.int de), some (.int b), none] [.int (freeSlot I)] (N, SH v T, I, L, Dd)
  rw [hz]
  refine Ev.sg hX sX0_enter_4 (pc' := 36) (ls' := [some (.ref 15), some (.int (nI t)), some (.int le), some (.int we), some (.int de), some (.int b), some (.int (nI s))]) (st' := [.int ((up2 (up2 I 15 1 ((I 15 1) + 1)) 15 0 (((up2 I 15 1 ((I 15 1) + 1)) 15 0) + 1)) 15 1), .int (nI s), .ref 16]) (h' := (N, SH v T, up2 (up2 I 15 1 ((I 15 1) + 1)) 15 0 (((up2 I 15 1 ((I 15 1) + 1)) 15 0) + 1), L, Dd)) rfl ?_
  refine Ev.callV (As := [.int (nI s), .int ((up2 (up2 I 15 1 ((I 15 1) + 1)) 15 0 (((up2 I 15 1 ((I 15 1) + 1)) 15 0) + 1)) 15 1)]) (rest := []) dvX4_set mkX0_73 rfl rfl dX0_enter_36 (c_Row_setN (d := d - 1) (h := (N, SH v T, up2 (up2 I 15 1 ((I 15 1) + 1)) 15 0 (((up2 I 15 1 ((I 15 1) + 1)) 15 0) + 1), L, Dd)) (r := 16) (a := 17) (n := 20) hX rfl rfl (by decide) hs) ⟨by omega, by show 3 + 19 + 40 * _ ≤ 40 * _; omega⟩ (by decide) rfl (Nat.le_of_ble_eq_true rfl) (fun v9 h9 e9 => ?_) (fun E9 h9 e9 => nomatch e9)
  cases e9
  show Ev _ _ _ _ _ _ 39 [some (.ref 15), some (.int (nI t)), some (.int le), some (.int we), some (.int de), some (.int b), some (.int (nI s))] [] (N, SH v T, up2 (up2 (up2 I 15 1 ((I 15 1) + 1)) 15 0 (((up2 I 15 1 ((I 15 1) + 1)) 15 0) + 1)) 17 s ((up2 (up2 I 15 1 ((I 15 1) + 1)) 15 0 (((up2 I 15 1 ((I 15 1) + 1)) 15 0) + 1)) 15 1), L, Dd)
  refine Ev.sg hX sX0_enter_39 (pc' := 46) (ls' := [some (.ref 15), some (.int (nI t)), some (.int le), some (.int we), some (.int de), some (.int b), some (.int (nI s))]) (st' := [.int le, .int (nI s), .ref 26]) (h' := (N, SH v T, up2 (up2 (up2 I 15 1 ((I 15 1) + 1)) 15 0 (((up2 I 15 1 ((I 15 1) + 1)) 15 0) + 1)) 17 s ((up2 (up2 I 15 1 ((I 15 1) + 1)) 15 0 (((up2 I 15 1 ((I 15 1) + 1)) 15 0) + 1)) 15 1), L, Dd)) rfl ?_
  refine Ev.callV (As := [.int (nI s), .int le]) (rest := []) dvX4_set mkX0_73 rfl rfl dX0_enter_46 (c_Row_setN (d := d - 1) (h := (N, SH v T, up2 (up2 (up2 I 15 1 ((I 15 1) + 1)) 15 0 (((up2 I 15 1 ((I 15 1) + 1)) 15 0) + 1)) 17 s ((up2 (up2 I 15 1 ((I 15 1) + 1)) 15 0 (((up2 I 15 1 ((I 15 1) + 1)) 15 0) + 1)) 15 1), L, Dd)) (r := 26) (a := 27) (n := 20) hX rfl rfl (by decide) hs) ⟨by omega, by show 3 + 19 + 40 * _ ≤ 40 * _; omega⟩ (by decide) rfl (Nat.le_of_ble_eq_true rfl) (fun v9 h9 e9 => ?_) (fun E9 h9 e9 => nomatch e9)
  cases e9
  show Ev _ _ _ _ _ _ 49 [some (.ref 15), some (.int (nI t)), some (.int le), some (.int we), some (.int de), some (.int b), some (.int (nI s))] [] (N, SH v T, up2 (up2 (up2 (up2 I 15 1 ((I 15 1) + 1)) 15 0 (((up2 I 15 1 ((I 15 1) + 1)) 15 0) + 1)) 17 s ((up2 (up2 I 15 1 ((I 15 1) + 1)) 15 0 (((up2 I 15 1 ((I 15 1) + 1)) 15 0) + 1)) 15 1)) 27 s le, L, Dd)
  refine Ev.sg hX sX0_enter_49 (pc' := 56) (ls' := [some (.ref 15), some (.int (nI t)), some (.int le), some (.int we), some (.int de), some (.int b), some (.int (nI s))]) (st' := [.int we, .int (nI s), .ref 28]) (h' := (N, SH v T, up2 (up2 (up2 (up2 I 15 1 ((I 15 1) + 1)) 15 0 (((up2 I 15 1 ((I 15 1) + 1)) 15 0) + 1)) 17 s ((up2 (up2 I 15 1 ((I 15 1) + 1)) 15 0 (((up2 I 15 1 ((I 15 1) + 1)) 15 0) + 1)) 15 1)) 27 s le, L, Dd)) rfl ?_
  refine Ev.callV (As := [.int (nI s), .int we]) (rest := []) dvX4_set mkX0_73 rfl rfl dX0_enter_56 (c_Row_setN (d := d - 1) (h := (N, SH v T, up2 (up2 (up2 (up2 I 15 1 ((I 15 1) + 1)) 15 0 (((up2 I 15 1 ((I 15 1) + 1)) 15 0) + 1)) 17 s ((up2 (up2 I 15 1 ((I 15 1) + 1)) 15 0 (((up2 I 15 1 ((I 15 1) + 1)) 15 0) + 1)) 15 1)) 27 s le, L, Dd)) (r := 28) (a := 29) (n := 20) hX rfl rfl (by decide) hs) ⟨by omega, by show 3 + 19 + 40 * _ ≤ 40 * _; omega⟩ (by decide) rfl (Nat.le_of_ble_eq_true rfl) (fun v9 h9 e9 => ?_) (fun E9 h9 e9 => nomatch e9)
  cases e9
  show Ev _ _ _ _ _ _ 59 [some (.ref 15), some (.int (nI t)), some (.int le), some (.int we), some (.int de), some (.int b), some (.int (nI s))] [] (N, SH v T, up2 (up2 (up2 (up2 (up2 I 15 1 ((I 15 1) + 1)) 15 0 (((up2 I 15 1 ((I 15 1) + 1)) 15 0) + 1)) 17 s ((up2 (up2 I 15 1 ((I 15 1) + 1)) 15 0 (((up2 I 15 1 ((I 15 1) + 1)) 15 0) + 1)) 15 1)) 27 s le) 29 s we, L, Dd)
  refine Ev.sg hX sX0_enter_59 (pc' := 67) (ls' := [some (.ref 15), some (.int (nI t)), some (.int le), some (.int we), some (.int de), some (.int b), some (.int (nI s))]) (st' := [.int de, .int (nI s), .ref 18]) (h' := (N, SH v T, up2 (up2 (up2 (up2 (up2 I 15 1 ((I 15 1) + 1)) 15 0 (((up2 I 15 1 ((I 15 1) + 1)) 15 0) + 1)) 17 s ((up2 (up2 I 15 1 ((I 15 1) + 1)) 15 0 (((up2 I 15 1 ((I 15 1) + 1)) 15 0) + 1)) 15 1)) 27 s le) 29 s we, L, Dd)) rfl ?_
  refine Ev.callV (As := [.int (nI s), .int de]) (rest := []) dvX4_set mkX0_73 rfl rfl dX0_enter_67 (c_Row_setN (d := d - 1) (h := (N, SH v T, up2 (up2 (up2 (up2 (up2 I 15 1 ((I 15 1) + 1)) 15 0 (((up2 I 15 1 ((I 15 1) + 1)) 15 0) + 1)) 17 s ((up2 (up2 I 15 1 ((I 15 1) + 1)) 15 0 (((up2 I 15 1 ((I 15 1) + 1)) 15 0) + 1)) 15 1)) 27 s le) 29 s we, L, Dd)) (r := 18) (a := 19) (n := 20) hX rfl rfl (by decide) hs) ⟨by omega, by show 3 + 19 + 40 * _ ≤ 40 * _; omega⟩ (by decide) rfl (Nat.le_of_ble_eq_true rfl) (fun v9 h9 e9 => ?_) (fun E9 h9 e9 => nomatch e9)
  cases e9
  show Ev _ _ _ _ _ _ 70 [some (.ref 15), some (.int (nI t)), some (.int le), some (.int we), some (.int de), some (.int b), some (.int (nI s))] [] (N, SH v T, up2 (up2 (up2 (up2 (up2 (up2 I 15 1 ((I 15 1) + 1)) 15 0 (((up2 I 15 1 ((I 15 1) + 1)) 15 0) + 1)) 17 s ((up2 (up2 I 15 1 ((I 15 1) + 1)) 15 0 (((up2 I 15 1 ((I 15 1) + 1)) 15 0) + 1)) 15 1)) 27 s le) 29 s we) 19 s de, L, Dd)
  refine Ev.sg hX sX0_enter_70 (pc' := 78) (ls' := [some (.ref 15), some (.int (nI t)), some (.int le), some (.int we), some (.int de), some (.int b), some (.int (nI s))]) (st' := [.int b, .int (nI s), .ref 20]) (h' := (N, SH v T, up2 (up2 (up2 (up2 (up2 (up2 I 15 1 ((I 15 1) + 1)) 15 0 (((up2 I 15 1 ((I 15 1) + 1)) 15 0) + 1)) 17 s ((up2 (up2 I 15 1 ((I 15 1) + 1)) 15 0 (((up2 I 15 1 ((I 15 1) + 1)) 15 0) + 1)) 15 1)) 27 s le) 29 s we) 19 s de, L, Dd)) rfl ?_
  refine Ev.if_eq (tgt := 85) dX0_enter_78 (by decide) (fun b1 => ?_) (fun b1 => ?_)
  · refine Ev.sg hX sX0_enter_85 (pc' := 86) (ls' := [some (.ref 15), some (.int (nI t)), some (.int le), some (.int we), some (.int de), some (.int b), some (.int (nI s))]) (st' := [.int 0, .int (nI s), .ref 20]) (h' := (N, SH v T, up2 (up2 (up2 (up2 (up2 (up2 I 15 1 ((I 15 1) + 1)) 15 0 (((up2 I 15 1 ((I 15 1) + 1)) 15 0) + 1)) 17 s ((up2 (up2 I 15 1 ((I 15 1) + 1)) 15 0 (((up2 I 15 1 ((I 15 1) + 1)) 15 0) + 1)) 15 1)) 27 s le) 29 s we) 19 s de, L, Dd)) rfl ?_
    refine Ev.callV (As := [.int (nI s), .int 0]) (rest := []) dvX4_set mkX0_73 rfl rfl dX0_enter_86 (c_Row_setN (d := d - 1) (h := (N, SH v T, up2 (up2 (up2 (up2 (up2 (up2 I 15 1 ((I 15 1) + 1)) 15 0 (((up2 I 15 1 ((I 15 1) + 1)) 15 0) + 1)) 17 s ((up2 (up2 I 15 1 ((I 15 1) + 1)) 15 0 (((up2 I 15 1 ((I 15 1) + 1)) 15 0) + 1)) 15 1)) 27 s le) 29 s we) 19 s de, L, Dd)) (r := 20) (a := 21) (n := 20) hX rfl rfl (by decide) hs) ⟨by omega, by show 3 + 19 + 40 * _ ≤ 40 * _; omega⟩ (by decide) rfl (Nat.le_of_ble_eq_true rfl) (fun v9 h9 e9 => ?_) (fun E9 h9 e9 => nomatch e9)
    cases e9
    show Ev _ _ _ _ _ _ 89 [some (.ref 15), some (.int (nI t)), some (.int le), some (.int we), some (.int de), some (.int b), some (.int (nI s))] [] (N, SH v T, up2 (up2 (up2 (up2 (up2 (up2 (up2 I 15 1 ((I 15 1) + 1)) 15 0 (((up2 I 15 1 ((I 15 1) + 1)) 15 0) + 1)) 17 s ((up2 (up2 I 15 1 ((I 15 1) + 1)) 15 0 (((up2 I 15 1 ((I 15 1) + 1)) 15 0) + 1)) 15 1)) 27 s le) 29 s we) 19 s de) 21 s 0, L, Dd)
    refine Ev.sg hX sX0_enter_89 (pc' := 93) (ls' := [some (.ref 15), some (.int (nI t)), some (.int le), some (.int we), some (.int de), some (.int b), some (.int (nI s))]) (st' := [.int (nI t), .int (nI s), .ref 15]) (h' := (N, SH v T, up2 (up2 (up2 (up2 (up2 (up2 (up2 I 15 1 ((I 15 1) + 1)) 15 0 (((up2 I 15 1 ((I 15 1) + 1)) 15 0) + 1)) 17 s ((up2 (up2 I 15 1 ((I 15 1) + 1)) 15 0 (((up2 I 15 1 ((I 15 1) + 1)) 15 0) + 1)) 15 1)) 27 s le) 29 s we) 19 s de) 21 s 0, L, Dd)) rfl ?_
    refine Ev.callV (As := [.int (nI s), .int (nI t)]) (rest := []) dvX0_push mkX0_77 rfl rfl dX0_enter_93 (c_push (d := d - 1) (I := (up2 (up2 (up2 (up2 (up2 (up2 (up2 I 15 1 ((I 15 1) + 1)) 15 0 (((up2 I 15 1 ((I 15 1) + 1)) 15 0) + 1)) 17 s ((up2 (up2 I 15 1 ((I 15 1) + 1)) 15 0 (((up2 I 15 1 ((I 15 1) + 1)) 15 0) + 1)) 15 1)) 27 s le) 29 s we) 19 s de) 21 s 0)) hX (by omega) hs ht) ⟨by omega, by show 3 + 19 + 40 * _ ≤ 40 * _; omega⟩ (by decide) rfl (Nat.le_of_ble_eq_true rfl) (fun v9 h9 e9 => ?_) (fun E9 h9 e9 => nomatch e9)
    cases e9
    show Ev _ _ _ _ _ _ 96 [some (.ref 15), some (.int (nI t)), some (.int le), some (.int we), some (.int de), some (.int b), some (.int (nI s))] [] (N, SH v T, pushI (up2 (up2 (up2 (up2 (up2 (up2 (up2 I 15 1 ((I 15 1) + 1)) 15 0 (((up2 I 15 1 ((I 15 1) + 1)) 15 0) + 1)) 17 s ((up2 (up2 I 15 1 ((I 15 1) + 1)) 15 0 (((up2 I 15 1 ((I 15 1) + 1)) 15 0) + 1)) 15 1)) 27 s le) 29 s we) 19 s de) 21 s 0) s t, L, Dd)
    refine Ev.sg hX sX0_enter_96 (pc' := 100) (ls' := [some (.ref 15), some (.int (nI t)), some (.int le), some (.int we), some (.int de), some (.int b), some (.int (nI s))]) (st' := [.int ((pushI (up2 (up2 (up2 (up2 (up2 (up2 (up2 I 15 1 ((I 15 1) + 1)) 15 0 (((up2 I 15 1 ((I 15 1) + 1)) 15 0) + 1)) 17 s ((up2 (up2 I 15 1 ((I 15 1) + 1)) 15 0 (((up2 I 15 1 ((I 15 1) + 1)) 15 0) + 1)) 15 1)) 27 s le) 29 s we) 19 s de) 21 s 0) s t) 15 1)]) (h' := (N, SH v T, pushI (up2 (up2 (up2 (up2 (up2 (up2 (up2 I 15 1 ((I 15 1) + 1)) 15 0 (((up2 I 15 1 ((I 15 1) + 1)) 15 0) + 1)) 17 s ((up2 (up2 I 15 1 ((I 15 1) + 1)) 15 0 (((up2 I 15 1 ((I 15 1) + 1)) 15 0) + 1)) 15 1)) 27 s le) 29 s we) 19 s de) 21 s 0) s t, L, Dd)) rfl ?_
    refine Ev.iret dX0_enter_100 rfl ?_
    (have eb : b = 0 := b1; subst eb; simp [rd2, enterI, pushI])
  · refine Ev.sg hX sX0_enter_81 (pc' := 86) (ls' := [some (.ref 15), some (.int (nI t)), some (.int le), some (.int we), some (.int de), some (.int b), some (.int (nI s))]) (st' := [.int 1, .int (nI s), .ref 20]) (h' := (N, SH v T, up2 (up2 (up2 (up2 (up2 (up2 I 15 1 ((I 15 1) + 1)) 15 0 (((up2 I 15 1 ((I 15 1) + 1)) 15 0) + 1)) 17 s ((up2 (up2 I 15 1 ((I 15 1) + 1)) 15 0 (((up2 I 15 1 ((I 15 1) + 1)) 15 0) + 1)) 15 1)) 27 s le) 29 s we) 19 s de, L, Dd)) rfl ?_
    refine Ev.callV (As := [.int (nI s), .int 1]) (rest := []) dvX4_set mkX0_73 rfl rfl dX0_enter_86 (c_Row_setN (d := d - 1) (h := (N, SH v T, up2 (up2 (up2 (up2 (up2 (up2 I 15 1 ((I 15 1) + 1)) 15 0 (((up2 I 15 1 ((I 15 1) + 1)) 15 0) + 1)) 17 s ((up2 (up2 I 15 1 ((I 15 1) + 1)) 15 0 (((up2 I 15 1 ((I 15 1) + 1)) 15 0) + 1)) 15 1)) 27 s le) 29 s we) 19 s de, L, Dd)) (r := 20) (a := 21) (n := 20) hX rfl rfl (by decide) hs) ⟨by omega, by show 3 + 19 + 40 * _ ≤ 40 * _; omega⟩ (by decide) rfl (Nat.le_of_ble_eq_true rfl) (fun v9 h9 e9 => ?_) (fun E9 h9 e9 => nomatch e9)
    cases e9
    show Ev _ _ _ _ _ _ 89 [some (.ref 15), some (.int (nI t)), some (.int le), some (.int we), some (.int de), some (.int b), some (.int (nI s))] [] (N, SH v T, up2 (up2 (up2 (up2 (up2 (up2 (up2 I 15 1 ((I 15 1) + 1)) 15 0 (((up2 I 15 1 ((I 15 1) + 1)) 15 0) + 1)) 17 s ((up2 (up2 I 15 1 ((I 15 1) + 1)) 15 0 (((up2 I 15 1 ((I 15 1) + 1)) 15 0) + 1)) 15 1)) 27 s le) 29 s we) 19 s de) 21 s 1, L, Dd)
    refine Ev.sg hX sX0_enter_89 (pc' := 93) (ls' := [some (.ref 15), some (.int (nI t)), some (.int le), some (.int we), some (.int de), some (.int b), some (.int (nI s))]) (st' := [.int (nI t), .int (nI s), .ref 15]) (h' := (N, SH v T, up2 (up2 (up2 (up2 (up2 (up2 (up2 I 15 1 ((I 15 1) + 1)) 15 0 (((up2 I 15 1 ((I 15 1) + 1)) 15 0) + 1)) 17 s ((up2 (up2 I 15 1 ((I 15 1) + 1)) 15 0 (((up2 I 15 1 ((I 15 1) + 1)) 15 0) + 1)) 15 1)) 27 s le) 29 s we) 19 s de) 21 s 1, L, Dd)) rfl ?_
    refine Ev.callV (As := [.int (nI s), .int (nI t)]) (rest := []) dvX0_push mkX0_77 rfl rfl dX0_enter_93 (c_push (d := d - 1) (I := (up2 (up2 (up2 (up2 (up2 (up2 (up2 I 15 1 ((I 15 1) + 1)) 15 0 (((up2 I 15 1 ((I 15 1) + 1)) 15 0) + 1)) 17 s ((up2 (up2 I 15 1 ((I 15 1) + 1)) 15 0 (((up2 I 15 1 ((I 15 1) + 1)) 15 0) + 1)) 15 1)) 27 s le) 29 s we) 19 s de) 21 s 1)) hX (by omega) hs ht) ⟨by omega, by show 3 + 19 + 40 * _ ≤ 40 * _; omega⟩ (by decide) rfl (Nat.le_of_ble_eq_true rfl) (fun v9 h9 e9 => ?_) (fun E9 h9 e9 => nomatch e9)
    cases e9
    show Ev _ _ _ _ _ _ 96 [some (.ref 15), some (.int (nI t)), some (.int le), some (.int we), some (.int de), some (.int b), some (.int (nI s))] [] (N, SH v T, pushI (up2 (up2 (up2 (up2 (up2 (up2 (up2 I 15 1 ((I 15 1) + 1)) 15 0 (((up2 I 15 1 ((I 15 1) + 1)) 15 0) + 1)) 17 s ((up2 (up2 I 15 1 ((I 15 1) + 1)) 15 0 (((up2 I 15 1 ((I 15 1) + 1)) 15 0) + 1)) 15 1)) 27 s le) 29 s we) 19 s de) 21 s 1) s t, L, Dd)
    refine Ev.sg hX sX0_enter_96 (pc' := 100) (ls' := [some (.ref 15), some (.int (nI t)), some (.int le), some (.int we), some (.int de), some (.int b), some (.int (nI s))]) (st' := [.int ((pushI (up2 (up2 (up2 (up2 (up2 (up2 (up2 I 15 1 ((I 15 1) + 1)) 15 0 (((up2 I 15 1 ((I 15 1) + 1)) 15 0) + 1)) 17 s ((up2 (up2 I 15 1 ((I 15 1) + 1)) 15 0 (((up2 I 15 1 ((I 15 1) + 1)) 15 0) + 1)) 15 1)) 27 s le) 29 s we) 19 s de) 21 s 1) s t) 15 1)]) (h' := (N, SH v T, pushI (up2 (up2 (up2 (up2 (up2 (up2 (up2 I 15 1 ((I 15 1) + 1)) 15 0 (((up2 I 15 1 ((I 15 1) + 1)) 15 0) + 1)) 17 s ((up2 (up2 I 15 1 ((I 15 1) + 1)) 15 0 (((up2 I 15 1 ((I 15 1) + 1)) 15 0) + 1)) 15 1)) 27 s le) 29 s we) 19 s de) 21 s 1) s t, L, Dd)) rfl ?_
    refine Ev.iret dX0_enter_100 rfl ?_
    (have eb : b = 1 := (hb.resolve_left b1); subst eb; simp [rd2, enterI, pushI])
end CARS
