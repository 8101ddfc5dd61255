/-! the cars, of the yard in use (the object 15) -/
/-- the first place from k on, among n, with p; -1 without one -/
def fnd (p : Nat → Prop) [DecidablePred p] : Nat → Nat → Int32
  | 0, _ => -1
  | n + 1, k => if p k then nI k else fnd p n (k + 1)
/-- a sum over n places from k on, from an accumulator -/
def sm (f : Nat → Int32) : Nat → Nat → Int32 → Int32
  | 0, _, a => a
  | n + 1, k, a => sm f n (k + 1) (a + f k)
section CARS
variable {X : JX} {d N v : Nat} {T : Nat → Option JS} {I : Nat → Nat → Int32} {L : Nat → Nat → Int64} {Dd : Nat → Nat → UInt64}
theorem l_slotAt (hX : JXok X) (hd : 1 ≤ d) {t pl : Int32} : ∀ (n k : Nat), n + k = 20 → Ev X (jm jdX0_slotAt) d 0 0 (fun R => R = .inl (some (.int (fnd (fun s => I 23 s = t ∧ I 25 s = pl) n k)), (N, SH v T, I, L, Dd))) 2 [some (.ref 15), some (.int t), some (.int pl), some (.int (nI k))] [] (N, SH v T, I, L, Dd) := by
  intro n
  induction n with
  | zero =>
    intro k hk
    obtain rfl : k = 20 := by omega
    refine Ev.sg hX sX0_slotAt_2 (pc' := 5) (ls' := [some (.ref 15), some (.int t), some (.int pl), some (.int (nI 20))]) (st' := [.int 20, .int (nI 20)]) (h' := (N, SH v T, I, L, Dd)) rfl ?_
    refine Ev.icmp_ge (tgt := 40) dX0_slotAt_5 (by decide) (fun b1 => ?_) (fun b1 => ?_)
    · refine Ev.sg hX sX0_slotAt_40 (pc' := 41) (ls' := [some (.ref 15), some (.int t), some (.int pl), some (.int (nI 20))]) (st' := [.int (-1)]) (h' := (N, SH v T, I, L, Dd)) rfl ?_
      refine Ev.iret dX0_slotAt_41 rfl ?_
      rfl
    · exact absurd ((nI_leI (a := 20) (b := 20) (by decide) (by omega)).mpr (by omega)) b1
  | succ n ih =>
    intro k hk
    refine Ev.sg hX sX0_slotAt_2 (pc' := 5) (ls' := [some (.ref 15), some (.int t), some (.int pl), some (.int (nI k))]) (st' := [.int 20, .int (nI k)]) (h' := (N, SH v T, I, L, Dd)) rfl ?_
    refine Ev.icmp_ge (tgt := 40) dX0_slotAt_5 (by decide) (fun b1 => ?_) (fun b1 => ?_)
    · exact absurd ((nI_leI (a := 20) (b := k) (by decide) (by omega)).mp b1) (by omega)
    · refine Ev.sg hX sX0_slotAt_8 (pc' := 13) (ls' := [some (.ref 15), some (.int t), some (.int pl), some (.int (nI k))]) (st' := [.int (nI k), .ref 22]) (h' := (N, SH v T, I, L, Dd)) rfl ?_
      refine Ev.callV (As := [.int (nI k)]) (rest := []) dvX4_get mkX0_61 rfl rfl dX0_slotAt_13 (c_Row_getN (d := d - 1) (h := (N, SH v T, I, L, Dd)) (r := 22) (a := 23) (n := 20) hX rfl rfl (by decide) (by omega)) ⟨by omega, by show 2 + 19 + 40 * _ ≤ 40 * _; omega⟩ (by decide) rfl (Nat.le_of_ble_eq_true rfl) (fun v9 h9 e9 => ?_) (fun E9 h9 e9 => nomatch e9)
      cases e9
      show Ev _ _ _ _ _ _ 16 [some (.ref 15), some (.int t), some (.int pl), some (.int (nI k))] [.int (I 23 k)] (N, SH v T, I, L, Dd)
      refine Ev.sg hX sX0_slotAt_16 (pc' := 17) (ls' := [some (.ref 15), some (.int t), some (.int pl), some (.int (nI k))]) (st' := [.int t, .int (I 23 k)]) (h' := (N, SH v T, I, L, Dd)) rfl ?_
      refine Ev.icmp_ne (tgt := 34) dX0_slotAt_17 (by decide) (fun b2 => ?_) (fun b2 => ?_)
      · refine Ev.sg hX sX0_slotAt_34 (pc' := 2) (ls' := [some (.ref 15), some (.int t), some (.int pl), some (.int ((nI k) + 1))]) (st' := []) (h' := (N, SH v T, I, L, Dd)) rfl ?_
        rw [nI_1, fnd, if_neg (fun q => b2 q.1)]
        exact ih (k + 1) (by omega)
      · refine Ev.sg hX sX0_slotAt_20 (pc' := 25) (ls' := [some (.ref 15), some (.int t), some (.int pl), some (.int (nI k))]) (st' := [.int (nI k), .ref 24]) (h' := (N, SH v T, I, L, Dd)) rfl ?_
        refine Ev.callV (As := [.int (nI k)]) (rest := []) dvX4_get mkX0_61 rfl rfl dX0_slotAt_25 (c_Row_getN (d := d - 1) (h := (N, SH v T, I, L, Dd)) (r := 24) (a := 25) (n := 20) hX rfl rfl (by decide) (by omega)) ⟨by omega, by show 2 + 19 + 40 * _ ≤ 40 * _; omega⟩ (by decide) rfl (Nat.le_of_ble_eq_true rfl) (fun v9 h9 e9 => ?_) (fun E9 h9 e9 => nomatch e9)
        cases e9
        show Ev _ _ _ _ _ _ 28 [some (.ref 15), some (.int t), some (.int pl), some (.int (nI k))] [.int (I 25 k)] (N, SH v T, I, L, Dd)
        refine Ev.sg hX sX0_slotAt_28 (pc' := 29) (ls' := [some (.ref 15), some (.int t), some (.int pl), some (.int (nI k))]) (st' := [.int pl, .int (I 25 k)]) (h' := (N, SH v T, I, L, Dd)) rfl ?_
        refine Ev.icmp_ne (tgt := 34) dX0_slotAt_29 (by decide) (fun b3 => ?_) (fun b3 => ?_)
        · refine Ev.sg hX sX0_slotAt_34 (pc' := 2) (ls' := [some (.ref 15), some (.int t), some (.int pl), some (.int ((nI k) + 1))]) (st' := []) (h' := (N, SH v T, I, L, Dd)) rfl ?_
          rw [nI_1, fnd, if_neg (fun q => b3 q.2)]
          exact ih (k + 1) (by omega)
        · refine Ev.sg hX sX0_slotAt_32 (pc' := 33) (ls' := [some (.ref 15), some (.int t), some (.int pl), some (.int (nI k))]) (st' := [.int (nI k)]) (h' := (N, SH v T, I, L, Dd)) rfl ?_
          refine Ev.iret dX0_slotAt_33 rfl ?_
          rw [fnd, if_pos ⟨b2, b3⟩]
def slotAt (I : Nat → Nat → Int32) (t pl : Int32) : Int32 := fnd (fun s => I 23 s = t ∧ I 25 s = pl) 20 0
theorem c_slotAt (hX : JXok X) (hd : 1 ≤ d) {t pl : Int32} : MT X d 0 0 jdX0_slotAt [.ref 15, .int t, .int pl] (N, SH v T, I, L, Dd) (fun R => R = .inl (some (.int (slotAt I t pl)), (N, SH v T, I, L, Dd))) := by
  refine MT.mk dvX0_slotAt.1 ?_
  refine Ev.sg hX sX0_slotAt_0 (pc' := 2) (ls' := [some (.ref 15), some (.int t), some (.int pl), some (.int 0)]) (st' := []) (h' := (N, SH v T, I, L, Dd)) rfl ?_
  exact l_slotAt hX hd 20 0 rfl
end CARS
