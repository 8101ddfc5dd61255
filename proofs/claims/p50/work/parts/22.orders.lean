/-! the cars: orders and ranks -/
section CARS2
variable {X : JX} {d N v : Nat} {T : Nat → Option JS} {I : Nat → Nat → Int32} {L : Nat → Nat → Int64} {Dd : Nat → Nat → UInt64}
theorem l_bound (hX : JXok X) (hd : 2 ≤ d) {t : Int32} : ∀ (n k : Nat) (a : Int32), n + k = 20 → Ev X (jm jdX0_bound) d 0 0 (fun R => R = .inl (some (.int (fo (stB I t) n k a)), (N, SH v T, I, L, Dd))) 4 [some (.ref 15), some (.int t), some (.int a), some (.int (nI k))] [] (N, SH v T, I, L, Dd) := by
  intro n
  induction n with
  | zero =>
    intro k a hk
    refine Ev.sg hX sX0_bound_4 (pc' := 7) (ls' := [some (.ref 15), some (.int t), some (.int a), some (.int (nI k))]) (st' := [.int 20, .int (nI k)]) (h' := (N, SH v T, I, L, Dd)) rfl ?_
    refine Ev.icmp_ge (tgt := 39) dX0_bound_7 (by decide) (fun b1 => ?_) (fun b1 => ?_)
    · refine Ev.sg hX sX0_bound_39 (pc' := 40) (ls' := [some (.ref 15), some (.int t), some (.int a), some (.int (nI k))]) (st' := [.int a]) (h' := (N, SH v T, I, L, Dd)) rfl ?_
      refine Ev.iret dX0_bound_40 rfl ?_
      rfl
    · exact absurd (((nI_leI (a := 20) (b := k) (by decide) (by omega)).mpr (by omega))) b1
  | succ n ih =>
    intro k a hk
    refine Ev.sg hX sX0_bound_4 (pc' := 7) (ls' := [some (.ref 15), some (.int t), some (.int a), some (.int (nI k))]) (st' := [.int 20, .int (nI k)]) (h' := (N, SH v T, I, L, Dd)) rfl ?_
    refine Ev.icmp_ge (tgt := 39) dX0_bound_7 (by decide) (fun b1 => ?_) (fun b1 => ?_)
    · exact absurd (((nI_leI (a := 20) (b := k) (by decide) (by omega)).mp b1)) (by omega)
    · refine Ev.sg hX sX0_bound_10 (pc' := 12) (ls' := [some (.ref 15), some (.int t), some (.int a), some (.int (nI k))]) (st' := [.int (nI k), .ref 15]) (h' := (N, SH v T, I, L, Dd)) rfl ?_
      refine Ev.callV (As := [.int (nI k)]) (rest := []) dvX0_isTaken mkX0_65 rfl rfl dX0_bound_12 (c_isTaken (d := d - 1) (I := I) hX (by omega) (by omega)) ⟨by omega, by show 2 + 19 + 40 * _ ≤ 40 * _; omega⟩ (by decide) rfl (Nat.le_of_ble_eq_true rfl) (fun v9 h9 e9 => ?_) (fun E9 h9 e9 => nomatch e9)
      cases e9
      show Ev _ _ _ _ _ _ 15 [some (.ref 15), some (.int t), some (.int a), some (.int (nI k))] [.int (bi (I 17 k ≠ 0))] (N, SH v T, I, L, Dd)
      refine Ev.if_eq (tgt := 33) dX0_bound_15 (by decide) (fun b2 => ?_) (fun b2 => ?_)
      · refine Ev.sg hX sX0_bound_33 (pc' := 4) (ls' := [some (.ref 15), some (.int t), some (.int a), some (.int ((nI k) + 1))]) (st' := []) (h' := (N, SH v T, I, L, Dd)) rfl ?_
        rw [nI_1, fo, show stB I t k a = a from if_neg (fun z => bi_0.mp b2 z.1)]
        exact ih (k + 1) _ (by omega)
      · refine Ev.sg hX sX0_bound_18 (pc' := 23) (ls' := [some (.ref 15), some (.int t), some (.int a), some (.int (nI k))]) (st' := [.int (nI k), .ref 18]) (h' := (N, SH v T, I, L, Dd)) rfl ?_
        refine Ev.callV (As := [.int (nI k)]) (rest := []) dvX4_get mkX0_61 rfl rfl dX0_bound_23 (c_Row_getN (d := d - 1) (h := (N, SH v T, I, L, Dd)) (r := 18) (a := 19) (n := 20) hX rfl rfl (by decide) (by omega)) ⟨by omega, by show 2 + 19 + 40 * _ ≤ 40 * _; omega⟩ (by decide) rfl (Nat.le_of_ble_eq_true rfl) (fun v9 h9 e9 => ?_) (fun E9 h9 e9 => nomatch e9)
        cases e9
        show Ev _ _ _ _ _ _ 26 [some (.ref 15), some (.int t), some (.int a), some (.int (nI k))] [.int (I 19 k)] (N, SH v T, I, L, Dd)
        refine Ev.sg hX sX0_bound_26 (pc' := 27) (ls' := [some (.ref 15), some (.int t), some (.int a), some (.int (nI k))]) (st' := [.int t, .int (I 19 k)]) (h' := (N, SH v T, I, L, Dd)) rfl ?_
        refine Ev.icmp_ne (tgt := 33) dX0_bound_27 (by decide) (fun b3 => ?_) (fun b3 => ?_)
        · refine Ev.sg hX sX0_bound_33 (pc' := 4) (ls' := [some (.ref 15), some (.int t), some (.int a), some (.int ((nI k) + 1))]) (st' := []) (h' := (N, SH v T, I, L, Dd)) rfl ?_
          rw [nI_1, fo, show stB I t k a = a from if_neg (fun z => b3 z.2)]
          exact ih (k + 1) _ (by omega)
        · refine Ev.sg hX sX0_bound_30 (pc' := 33) (ls' := [some (.ref 15), some (.int t), some (.int (a + 1)), some (.int (nI k))]) (st' := []) (h' := (N, SH v T, I, L, Dd)) rfl ?_
          refine Ev.sg hX sX0_bound_33 (pc' := 4) (ls' := [some (.ref 15), some (.int t), some (.int (a + 1)), some (.int ((nI k) + 1))]) (st' := []) (h' := (N, SH v T, I, L, Dd)) rfl ?_
          rw [nI_1, fo, show stB I t k a = a + 1 from if_pos ⟨bi_1.mp b2, b3⟩]
          exact ih (k + 1) _ (by omega)
def boundF (I : Nat → Nat → Int32) (t : Int32) : Int32 := fo (stB I t) 20 0 0
theorem c_bound (hX : JXok X) (hd : 2 ≤ d) {t : Int32} : MT X d 0 0 jdX0_bound [.ref 15, .int t] (N, SH v T, I, L, Dd) (fun R => R = .inl (some (.int (boundF I t)), (N, SH v T, I, L, Dd))) := by
  refine MT.mk dvX0_bound.1 ?_
  refine Ev.sg hX sX0_bound_0 (pc' := 4) (ls' := [some (.ref 15), some (.int t), some (.int 0), some (.int 0)]) (st' := []) (h' := (N, SH v T, I, L, Dd)) rfl ?_
  exact l_bound hX hd 20 0 0 rfl
def stO (t : Int32) (k : Nat) (J : Nat → Nat → Int32) : Nat → Nat → Int32 := if J 23 k = t then upr J 35 20 (J 25 k) (J 19 k) else J
theorem l_listDest (hX : JXok X) (hd : 1 ≤ d) {t : Int32} : ∀ (n k : Nat) (J : Nat → Nat → Int32), n + k = 20 → Ev X (jm jdX0_listDestinations) d 0 0 (fun R => R = .inl (some (.int (rg 8 (fo (stO t) n k J 31) t)), (N, SH v T, fo (stO t) n k J, L, Dd))) 2 [some (.ref 15), some (.int t), some (.int (nI k))] [] (N, SH v T, J, L, Dd) := by
  intro n
  induction n with
  | zero =>
    intro k J hk
    refine Ev.sg hX sX0_listDestinations_2 (pc' := 5) (ls' := [some (.ref 15), some (.int t), some (.int (nI k))]) (st' := [.int 20, .int (nI k)]) (h' := (N, SH v T, J, L, Dd)) rfl ?_
    refine Ev.icmp_ge (tgt := 49) dX0_listDestinations_5 (by decide) (fun b1 => ?_) (fun b1 => ?_)
    · refine Ev.sg hX sX0_listDestinations_49 (pc' := 54) (ls' := [some (.ref 15), some (.int t), some (.int (nI k))]) (st' := [.int t, .ref 30]) (h' := (N, SH v T, J, L, Dd)) rfl ?_
      refine Ev.callV (As := [.int t]) (rest := []) dvX4_get mkX0_61 rfl rfl dX0_listDestinations_54 (c_Row_get (d := d - 1) (h := (N, SH v T, J, L, Dd)) (r := 30) (a := 31) (n := 8) hX rfl rfl (by decide)) ⟨by omega, by show 2 + 19 + 40 * _ ≤ 40 * _; omega⟩ (by decide) rfl (Nat.le_of_ble_eq_true rfl) (fun v9 h9 e9 => ?_) (fun E9 h9 e9 => nomatch e9)
      cases e9
      show Ev _ _ _ _ _ _ 57 [some (.ref 15), some (.int t), some (.int (nI k))] [.int (rg 8 (J 31) t)] (N, SH v T, J, L, Dd)
      refine Ev.iret dX0_listDestinations_57 rfl ?_
      rfl
    · exact absurd (((nI_leI (a := 20) (b := k) (by decide) (by omega)).mpr (by omega))) b1
  | succ n ih =>
    intro k J hk
    refine Ev.sg hX sX0_listDestinations_2 (pc' := 5) (ls' := [some (.ref 15), some (.int t), some (.int (nI k))]) (st' := [.int 20, .int (nI k)]) (h' := (N, SH v T, J, L, Dd)) rfl ?_
    refine Ev.icmp_ge (tgt := 49) dX0_listDestinations_5 (by decide) (fun b1 => ?_) (fun b1 => ?_)
    · exact absurd (((nI_leI (a := 20) (b := k) (by decide) (by omega)).mp b1)) (by omega)
    · refine Ev.sg hX sX0_listDestinations_8 (pc' := 13) (ls' := [some (.ref 15), some (.int t), some (.int (nI k))]) (st' := [.int (nI k), .ref 22]) (h' := (N, SH v T, J, L, Dd)) rfl ?_
      refine Ev.callV (As := [.int (nI k)]) (rest := []) dvX4_get mkX0_61 rfl rfl dX0_listDestinations_13 (c_Row_getN (d := d - 1) (h := (N, SH v T, J, L, Dd)) (r := 22) (a := 23) (n := 20) hX rfl rfl (by decide) (by omega)) ⟨by omega, by show 2 + 19 + 40 * _ ≤ 40 * _; omega⟩ (by decide) rfl (Nat.le_of_ble_eq_true rfl) (fun v9 h9 e9 => ?_) (fun E9 h9 e9 => nomatch e9)
      cases e9
      show Ev _ _ _ _ _ _ 16 [some (.ref 15), some (.int t), some (.int (nI k))] [.int (J 23 k)] (N, SH v T, J, L, Dd)
      refine Ev.sg hX sX0_listDestinations_16 (pc' := 17) (ls' := [some (.ref 15), some (.int t), some (.int (nI k))]) (st' := [.int t, .int (J 23 k)]) (h' := (N, SH v T, J, L, Dd)) rfl ?_
      refine Ev.icmp_ne (tgt := 43) dX0_listDestinations_17 (by decide) (fun b2 => ?_) (fun b2 => ?_)
      · refine Ev.sg hX sX0_listDestinations_43 (pc' := 2) (ls' := [some (.ref 15), some (.int t), some (.int ((nI k) + 1))]) (st' := []) (h' := (N, SH v T, J, L, Dd)) rfl ?_
        rw [nI_1, fo, show stO t k J = J from if_neg b2]
        exact ih (k + 1) _ (by omega)
      · refine Ev.sg hX sX0_listDestinations_20 (pc' := 29) (ls' := [some (.ref 15), some (.int t), some (.int (nI k))]) (st' := [.int (nI k), .ref 24, .ref 34]) (h' := (N, SH v T, J, L, Dd)) rfl ?_
        refine Ev.callV (As := [.int (nI k)]) (rest := [.ref 34]) dvX4_get mkX0_61 rfl rfl dX0_listDestinations_29 (c_Row_getN (d := d - 1) (h := (N, SH v T, J, L, Dd)) (r := 24) (a := 25) (n := 20) hX rfl rfl (by decide) (by omega)) ⟨by omega, by show 2 + 19 + 40 * _ ≤ 40 * _; omega⟩ (by decide) rfl (Nat.le_of_ble_eq_true rfl) (fun v9 h9 e9 => ?_) (fun E9 h9 e9 => nomatch e9)
        cases e9
        show Ev _ _ _ _ _ _ 32 [some (.ref 15), some (.int t), some (.int (nI k))] [.int (J 25 k), .ref 34] (N, SH v T, J, L, Dd)
        refine Ev.sg hX sX0_listDestinations_32 (pc' := 37) (ls' := [some (.ref 15), some (.int t), some (.int (nI k))]) (st' := [.int (nI k), .ref 18, .int (J 25 k), .ref 34]) (h' := (N, SH v T, J, L, Dd)) rfl ?_
        refine Ev.callV (As := [.int (nI k)]) (rest := [.int (J 25 k), .ref 34]) dvX4_get mkX0_61 rfl rfl dX0_listDestinations_37 (c_Row_getN (d := d - 1) (h := (N, SH v T, J, L, Dd)) (r := 18) (a := 19) (n := 20) hX rfl rfl (by decide) (by omega)) ⟨by omega, by show 2 + 19 + 40 * _ ≤ 40 * _; omega⟩ (by decide) rfl (Nat.le_of_ble_eq_true rfl) (fun v9 h9 e9 => ?_) (fun E9 h9 e9 => nomatch e9)
        cases e9
        show Ev _ _ _ _ _ _ 40 [some (.ref 15), some (.int t), some (.int (nI k))] [.int (J 19 k), .int (J 25 k), .ref 34] (N, SH v T, J, L, Dd)
        refine Ev.callV (As := [.int (J 25 k), .int (J 19 k)]) (rest := []) dvX4_set mkX0_73 rfl rfl dX0_listDestinations_40 (c_Row_setX (d := d - 1) (r := 34) (a := 35) (n := 20) hX rfl rfl (by decide)) ⟨by omega, by show 3 + 19 + 40 * _ ≤ 40 * _; omega⟩ (by decide) rfl (Nat.le_of_ble_eq_true rfl) (fun v9 h9 e9 => ?_) (fun E9 h9 e9 => nomatch e9)
        cases e9
        show Ev _ _ _ _ _ _ 43 [some (.ref 15), some (.int t), some (.int (nI k))] [] (N, SH v T, upr J 35 20 (J 25 k) (J 19 k), L, Dd)
        refine Ev.sg hX sX0_listDestinations_43 (pc' := 2) (ls' := [some (.ref 15), some (.int t), some (.int ((nI k) + 1))]) (st' := []) (h' := (N, SH v T, upr J 35 20 (J 25 k) (J 19 k), L, Dd)) rfl ?_
        rw [nI_1, fo, show stO t k J = upr J 35 20 (J 25 k) (J 19 k) from if_pos b2]
        exact ih (k + 1) _ (by omega)
def listO (I : Nat → Nat → Int32) (t : Int32) : Nat → Nat → Int32 := fo (stO t) 20 0 I
theorem c_listDest0 (hX : JXok X) (hd : 1 ≤ d) {t : Int32} : MT X d 0 0 jdX0_listDestinations [.ref 15, .int t] (N, SH v T, I, L, Dd) (fun R => R = .inl (some (.int (rg 8 (listO I t 31) t)), (N, SH v T, listO I t, L, Dd))) := by
  refine MT.mk dvX0_listDestinations.1 ?_
  refine Ev.sg hX sX0_listDestinations_0 (pc' := 2) (ls' := [some (.ref 15), some (.int t), some (.int 0)]) (st' := []) (h' := (N, SH v T, I, L, Dd)) rfl ?_
  exact l_listDest hX hd 20 0 I rfl
theorem fo_inv {α : Type} {P : α → Prop} {f : Nat → α → α} (h : ∀ k a, P a → P (f k a)) : ∀ n k a, P a → P (fo f n k a)
  | 0, _, _, ha => ha
  | n + 1, k, a, ha => fo_inv h n (k + 1) _ (h k a ha)
theorem upr_ne {I : Nat → Nat → Int32} {a n b : Nat} {i x : Int32} (hb : b ≠ a) : upr I a n i x b = I b := by
  unfold upr
  split
  · exact up2_ne hb
  · rfl
theorem listO_ne {I : Nat → Nat → Int32} {t : Int32} {b : Nat} (hb : b ≠ 35) : listO I t b = I b := by
  refine fo_inv (P := fun J => J b = I b) (fun k J hJ => ?_) 20 0 I rfl
  unfold stO
  split
  · rw [upr_ne hb]; exact hJ
  · exact hJ
theorem c_listDest (hX : JXok X) (hd : 1 ≤ d) {t hg : Nat} (ht : t < 8) (hh : I 31 t = nI hg) : MT X d 0 0 jdX0_listDestinations [.ref 15, .int (nI t)] (N, SH v T, I, L, Dd) (fun R => R = .inl (some (.int (nI hg)), (N, SH v T, listO I (nI t), L, Dd))) :=
  (c_listDest0 hX hd).to (by rw [listO_ne (by decide), rg_nI ht (by decide), hh])
/-- p at every place from k on, among n -/
def alD (p : Nat → Prop) [DecidablePred p] : Nat → Nat → Int32
  | 0, _ => 1
  | n + 1, k => if p k then alD p n (k + 1) else 0
theorem nI_m1 {k : Nat} (h : 1 ≤ k) : nI k - 1 = nI (k - 1) := by obtain ⟨j, rfl⟩ : ∃ j, k = j + 1 := ⟨k - 1, by omega⟩; exact nI_pred j
theorem l_nvi (hX : JXok X) (hd : 1 ≤ d) {t : Nat} {J : Nat → Nat → Int32} {hg : Nat} (hg20 : hg ≤ 20) : ∀ (n k : Nat), hg - k = n ∧ k ≤ 100 ∧ 1 ≤ k → Ev X (jm jdX0_neverIncrease) d 0 0 (fun R => R = .inl (some (.int (alD (fun s => J 35 s ≤ J 35 (s - 1)) n k)), (N, SH v T, J, L, Dd))) 8 [some (.ref 15), some (.int (nI t)), some (.int (nI hg)), some (.int (nI k))] [] (N, SH v T, J, L, Dd) := by
  intro n
  induction n with
  | zero =>
    intro k hk
    refine Ev.sg hX sX0_neverIncrease_8 (pc' := 10) (ls' := [some (.ref 15), some (.int (nI t)), some (.int (nI hg)), some (.int (nI k))]) (st' := [.int (nI hg), .int (nI k)]) (h' := (N, SH v T, J, L, Dd)) rfl ?_
    refine Ev.icmp_ge (tgt := 42) dX0_neverIncrease_10 (by decide) (fun b1 => ?_) (fun b1 => ?_)
    · refine Ev.sg hX sX0_neverIncrease_42 (pc' := 43) (ls' := [some (.ref 15), some (.int (nI t)), some (.int (nI hg)), some (.int (nI k))]) (st' := [.int 1]) (h' := (N, SH v T, J, L, Dd)) rfl ?_
      refine Ev.zret dX0_neverIncrease_43 rfl ?_ ?_
      · rfl
      rfl
    · exact absurd (((nI_leI (a := hg) (b := k) (by omega) (by omega)).mpr (by omega))) b1
  | succ n ih =>
    intro k hk
    refine Ev.sg hX sX0_neverIncrease_8 (pc' := 10) (ls' := [some (.ref 15), some (.int (nI t)), some (.int (nI hg)), some (.int (nI k))]) (st' := [.int (nI hg), .int (nI k)]) (h' := (N, SH v T, J, L, Dd)) rfl ?_
    refine Ev.icmp_ge (tgt := 42) dX0_neverIncrease_10 (by decide) (fun b1 => ?_) (fun b1 => ?_)
    · exact absurd (((nI_leI (a := hg) (b := k) (by omega) (by omega)).mp b1)) (by omega)
    · refine Ev.sg hX sX0_neverIncrease_13 (pc' := 18) (ls' := [some (.ref 15), some (.int (nI t)), some (.int (nI hg)), some (.int (nI k))]) (st' := [.int (nI k), .ref 34]) (h' := (N, SH v T, J, L, Dd)) rfl ?_
      refine Ev.callV (As := [.int (nI k)]) (rest := []) dvX4_get mkX0_61 rfl rfl dX0_neverIncrease_18 (c_Row_getN (d := d - 1) (h := (N, SH v T, J, L, Dd)) (r := 34) (a := 35) (n := 20) hX rfl rfl (by decide) (by omega)) ⟨by omega, by show 2 + 19 + 40 * _ ≤ 40 * _; omega⟩ (by decide) rfl (Nat.le_of_ble_eq_true rfl) (fun v9 h9 e9 => ?_) (fun E9 h9 e9 => nomatch e9)
      cases e9
      show Ev _ _ _ _ _ _ 21 [some (.ref 15), some (.int (nI t)), some (.int (nI hg)), some (.int (nI k))] [.int (J 35 k)] (N, SH v T, J, L, Dd)
      refine Ev.sg hX sX0_neverIncrease_21 (pc' := 28) (ls' := [some (.ref 15), some (.int (nI t)), some (.int (nI hg)), some (.int (nI k))]) (st' := [.int ((nI k) - 1), .ref 34, .int (J 35 k)]) (h' := (N, SH v T, J, L, Dd)) rfl ?_
      refine Ev.callV (As := [.int ((nI k) - 1)]) (rest := [.int (J 35 k)]) dvX4_get mkX0_61 rfl rfl dX0_neverIncrease_28 (c_Row_getE (d := d - 1) (h := (N, SH v T, J, L, Dd)) (r := 34) (a := 35) (n := 20) hX rfl rfl (by decide) (by omega) (nI_m1 (by omega))) ⟨by omega, by show 2 + 19 + 40 * _ ≤ 40 * _; omega⟩ (by decide) rfl (Nat.le_of_ble_eq_true rfl) (fun v9 h9 e9 => ?_) (fun E9 h9 e9 => nomatch e9)
      cases e9
      show Ev _ _ _ _ _ _ 31 [some (.ref 15), some (.int (nI t)), some (.int (nI hg)), some (.int (nI k))] [.int (J 35 (k - 1)), .int (J 35 k)] (N, SH v T, J, L, Dd)
      refine Ev.icmp_le (tgt := 36) dX0_neverIncrease_31 (by decide) (fun b2 => ?_) (fun b2 => ?_)
      · refine Ev.sg hX sX0_neverIncrease_36 (pc' := 8) (ls' := [some (.ref 15), some (.int (nI t)), some (.int (nI hg)), some (.int ((nI k) + 1))]) (st' := []) (h' := (N, SH v T, J, L, Dd)) rfl ?_
        rw [nI_1, alD, if_pos b2]
        exact ih (k + 1) ⟨by omega, by omega, by omega⟩
      · refine Ev.sg hX sX0_neverIncrease_34 (pc' := 35) (ls' := [some (.ref 15), some (.int (nI t)), some (.int (nI hg)), some (.int (nI k))]) (st' := [.int 0]) (h' := (N, SH v T, J, L, Dd)) rfl ?_
        refine Ev.zret dX0_neverIncrease_35 rfl ?_ ?_
        · rfl
        rw [alD, if_neg b2]
def nvi (J : Nat → Nat → Int32) (hg : Nat) : Int32 := alD (fun s => J 35 s ≤ J 35 (s - 1)) (hg - 1) 1
theorem c_neverIncrease (hX : JXok X) (hd : 2 ≤ d) {t hg : Nat} (ht : t < 8) (hg20 : hg ≤ 20) (hh : I 31 t = nI hg) : MT X d 0 0 jdX0_neverIncrease [.ref 15, .int (nI t)] (N, SH v T, I, L, Dd) (fun R => R = .inl (some (.int (nvi (listO I (nI t)) hg)), (N, SH v T, listO I (nI t), L, Dd))) := by
  refine MT.mk dvX0_neverIncrease.1 ?_
  refine Ev.sg hX sX0_neverIncrease_0 (pc' := 2) (ls' := [some (.ref 15), some (.int (nI t)), none, none]) (st' := [.int (nI t), .ref 15]) (h' := (N, SH v T, I, L, Dd)) rfl ?_
  refine Ev.callV (As := [.int (nI t)]) (rest := []) dvX0_listDestinations mkX0_96 rfl rfl dX0_neverIncrease_2 (c_listDest (d := d - 1) (I := I) hX (by omega) ht hh) ⟨by omega, by show 3 + 19 + 40 * _ ≤ 40 * _; omega⟩ (by decide) rfl (Nat.le_of_ble_eq_true rfl) (fun v9 h9 e9 => ?_) (fun E9 h9 e9 => nomatch e9)
  cases e9
  show Ev _ _ _ _ _ _ 5 [some (.ref 15), some (.int (nI t)), none, none] [.int (nI hg)] (N, SH v T, listO I (nI t), L, Dd)
  refine Ev.sg hX sX0_neverIncrease_5 (pc' := 8) (ls' := [some (.ref 15), some (.int (nI t)), some (.int (nI hg)), some (.int 1)]) (st' := []) (h' := (N, SH v T, listO I (nI t), L, Dd)) rfl ?_
  exact l_nvi hX (by omega) hg20 (hg - 1) 1 ⟨rfl, by omega, by omega⟩
def rkb (I : Nat → Nat → Int32) (i j : Nat) : Bool := if I 19 i = I 19 j then (if I 29 i = I 29 j then decide (I 17 i < I 17 j) else decide (I 29 j < I 29 i)) else decide (I 19 i < I 19 j)
theorem c_ranksBefore (hX : JXok X) (hd : 1 ≤ d) {i j : Nat} (hi : i < 20) (hj : j < 20) : MT X d 0 0 jdX0_ranksBefore [.ref 15, .int (nI i), .int (nI j)] (N, SH v T, I, L, Dd) (fun R => R = .inl (some (.int (bi (rkb I i j = true))), (N, SH v T, I, L, Dd))) := by
  refine MT.mk dvX0_ranksBefore.1 ?_
  refine Ev.sg hX sX0_ranksBefore_0 (pc' := 5) (ls' := [some (.ref 15), some (.int (nI i)), some (.int (nI j))]) (st' := [.int (nI i), .ref 18]) (h' := (N, SH v T, I, L, Dd)) rfl ?_
  refine Ev.callV (As := [.int (nI i)]) (rest := []) dvX4_get mkX0_61 rfl rfl dX0_ranksBefore_5 (c_Row_getN (d := d - 1) (h := (N, SH v T, I, L, Dd)) (r := 18) (a := 19) (n := 20) hX rfl rfl (by decide) hi) ⟨by omega, by show 2 + 19 + 40 * _ ≤ 40 * _; omega⟩ (by decide) rfl (Nat.le_of_ble_eq_true rfl) (fun v9 h9 e9 => ?_) (fun E9 h9 e9 => nomatch e9)
  cases e9
  show Ev _ _ _ _ _ _ 8 [some (.ref 15), some (.int (nI i)), some (.int (nI j))] [.int (I 19 i)] (N, SH v T, I, L, Dd)
  refine Ev.sg hX sX0_ranksBefore_8 (pc' := 13) (ls' := [some (.ref 15), some (.int (nI i)), some (.int (nI j))]) (st' := [.int (nI j), .ref 18, .int (I 19 i)]) (h' := (N, SH v T, I, L, Dd)) rfl ?_
  refine Ev.callV (As := [.int (nI j)]) (rest := [.int (I 19 i)]) dvX4_get mkX0_61 rfl rfl dX0_ranksBefore_13 (c_Row_getN (d := d - 1) (h := (N, SH v T, I, L, Dd)) (r := 18) (a := 19) (n := 20) hX rfl rfl (by decide) hj) ⟨by omega, by show 2 + 19 + 40 * _ ≤ 40 * _; omega⟩ (by decide) rfl (Nat.le_of_ble_eq_true rfl) (fun v9 h9 e9 => ?_) (fun E9 h9 e9 => nomatch e9)
  cases e9
  show Ev _ _ _ _ _ _ 16 [some (.ref 15), some (.int (nI i)), some (.int (nI j))] [.int (I 19 j), .int (I 19 i)] (N, SH v T, I, L, Dd)
  refine Ev.icmp_eq (tgt := 44) dX0_ranksBefore_16 (by decide) (fun b1 => ?_) (fun b1 => ?_)
  · refine Ev.sg hX sX0_ranksBefore_44 (pc' := 49) (ls' := [some (.ref 15), some (.int (nI i)), some (.int (nI j))]) (st' := [.int (nI i), .ref 28]) (h' := (N, SH v T, I, L, Dd)) rfl ?_
    refine Ev.callV (As := [.int (nI i)]) (rest := []) dvX4_get mkX0_61 rfl rfl dX0_ranksBefore_49 (c_Row_getN (d := d - 1) (h := (N, SH v T, I, L, Dd)) (r := 28) (a := 29) (n := 20) hX rfl rfl (by decide) hi) ⟨by omega, by show 2 + 19 + 40 * _ ≤ 40 * _; omega⟩ (by decide) rfl (Nat.le_of_ble_eq_true rfl) (fun v9 h9 e9 => ?_) (fun E9 h9 e9 => nomatch e9)
    cases e9
    show Ev _ _ _ _ _ _ 52 [some (.ref 15), some (.int (nI i)), some (.int (nI j))] [.int (I 29 i)] (N, SH v T, I, L, Dd)
    refine Ev.sg hX sX0_ranksBefore_52 (pc' := 57) (ls' := [some (.ref 15), some (.int (nI i)), some (.int (nI j))]) (st' := [.int (nI j), .ref 28, .int (I 29 i)]) (h' := (N, SH v T, I, L, Dd)) rfl ?_
    refine Ev.callV (As := [.int (nI j)]) (rest := [.int (I 29 i)]) dvX4_get mkX0_61 rfl rfl dX0_ranksBefore_57 (c_Row_getN (d := d - 1) (h := (N, SH v T, I, L, Dd)) (r := 28) (a := 29) (n := 20) hX rfl rfl (by decide) hj) ⟨by omega, by show 2 + 19 + 40 * _ ≤ 40 * _; omega⟩ (by decide) rfl (Nat.le_of_ble_eq_true rfl) (fun v9 h9 e9 => ?_) (fun E9 h9 e9 => nomatch e9)
    cases e9
    show Ev _ _ _ _ _ _ 60 [some (.ref 15), some (.int (nI i)), some (.int (nI j))] [.int (I 29 j), .int (I 29 i)] (N, SH v T, I, L, Dd)
    refine Ev.icmp_eq (tgt := 88) dX0_ranksBefore_60 (by decide) (fun b2 => ?_) (fun b2 => ?_)
    · refine Ev.sg hX sX0_ranksBefore_88 (pc' := 93) (ls' := [some (.ref 15), some (.int (nI i)), some (.int (nI j))]) (st' := [.int (nI i), .ref 16]) (h' := (N, SH v T, I, L, Dd)) rfl ?_
      refine Ev.callV (As := [.int (nI i)]) (rest := []) dvX4_get mkX0_61 rfl rfl dX0_ranksBefore_93 (c_Row_getN (d := d - 1) (h := (N, SH v T, I, L, Dd)) (r := 16) (a := 17) (n := 20) hX rfl rfl (by decide) hi) ⟨by omega, by show 2 + 19 + 40 * _ ≤ 40 * _; omega⟩ (by decide) rfl (Nat.le_of_ble_eq_true rfl) (fun v9 h9 e9 => ?_) (fun E9 h9 e9 => nomatch e9)
      cases e9
      show Ev _ _ _ _ _ _ 96 [some (.ref 15), some (.int (nI i)), some (.int (nI j))] [.int (I 17 i)] (N, SH v T, I, L, Dd)
      refine Ev.sg hX sX0_ranksBefore_96 (pc' := 101) (ls' := [some (.ref 15), some (.int (nI i)), some (.int (nI j))]) (st' := [.int (nI j), .ref 16, .int (I 17 i)]) (h' := (N, SH v T, I, L, Dd)) rfl ?_
      refine Ev.callV (As := [.int (nI j)]) (rest := [.int (I 17 i)]) dvX4_get mkX0_61 rfl rfl dX0_ranksBefore_101 (c_Row_getN (d := d - 1) (h := (N, SH v T, I, L, Dd)) (r := 16) (a := 17) (n := 20) hX rfl rfl (by decide) hj) ⟨by omega, by show 2 + 19 + 40 * _ ≤ 40 * _; omega⟩ (by decide) rfl (Nat.le_of_ble_eq_true rfl) (fun v9 h9 e9 => ?_) (fun E9 h9 e9 => nomatch e9)
      cases e9
      show Ev _ _ _ _ _ _ 104 [some (.ref 15), some (.int (nI i)), some (.int (nI j))] [.int (I 17 j), .int (I 17 i)] (N, SH v T, I, L, Dd)
      refine Ev.icmp_ge (tgt := 111) dX0_ranksBefore_104 (by decide) (fun b3 => ?_) (fun b3 => ?_)
      · refine Ev.sg hX sX0_ranksBefore_111 (pc' := 112) (ls' := [some (.ref 15), some (.int (nI i)), some (.int (nI j))]) (st' := [.int 0]) (h' := (N, SH v T, I, L, Dd)) rfl ?_
        refine Ev.zret dX0_ranksBefore_112 rfl ?_ ?_
        · rfl
        simp [bi, rkb, b1, b2, Int32.not_lt.mpr b3]
      · refine Ev.sg hX sX0_ranksBefore_107 (pc' := 112) (ls' := [some (.ref 15), some (.int (nI i)), some (.int (nI j))]) (st' := [.int 1]) (h' := (N, SH v T, I, L, Dd)) rfl ?_
        refine Ev.zret dX0_ranksBefore_112 rfl ?_ ?_
        · rfl
        simp [bi, rkb, b1, b2, Int32.not_le.mp b3]
    · refine Ev.sg hX sX0_ranksBefore_63 (pc' := 68) (ls' := [some (.ref 15), some (.int (nI i)), some (.int (nI j))]) (st' := [.int (nI i), .ref 28]) (h' := (N, SH v T, I, L, Dd)) rfl ?_
      refine Ev.callV (As := [.int (nI i)]) (rest := []) dvX4_get mkX0_61 rfl rfl dX0_ranksBefore_68 (c_Row_getN (d := d - 1) (h := (N, SH v T, I, L, Dd)) (r := 28) (a := 29) (n := 20) hX rfl rfl (by decide) hi) ⟨by omega, by show 2 + 19 + 40 * _ ≤ 40 * _; omega⟩ (by decide) rfl (Nat.le_of_ble_eq_true rfl) (fun v9 h9 e9 => ?_) (fun E9 h9 e9 => nomatch e9)
      cases e9
      show Ev _ _ _ _ _ _ 71 [some (.ref 15), some (.int (nI i)), some (.int (nI j))] [.int (I 29 i)] (N, SH v T, I, L, Dd)
      refine Ev.sg hX sX0_ranksBefore_71 (pc' := 76) (ls' := [some (.ref 15), some (.int (nI i)), some (.int (nI j))]) (st' := [.int (nI j), .ref 28, .int (I 29 i)]) (h' := (N, SH v T, I, L, Dd)) rfl ?_
      refine Ev.callV (As := [.int (nI j)]) (rest := [.int (I 29 i)]) dvX4_get mkX0_61 rfl rfl dX0_ranksBefore_76 (c_Row_getN (d := d - 1) (h := (N, SH v T, I, L, Dd)) (r := 28) (a := 29) (n := 20) hX rfl rfl (by decide) hj) ⟨by omega, by show 2 + 19 + 40 * _ ≤ 40 * _; omega⟩ (by decide) rfl (Nat.le_of_ble_eq_true rfl) (fun v9 h9 e9 => ?_) (fun E9 h9 e9 => nomatch e9)
      cases e9
      show Ev _ _ _ _ _ _ 79 [some (.ref 15), some (.int (nI i)), some (.int (nI j))] [.int (I 29 j), .int (I 29 i)] (N, SH v T, I, L, Dd)
      refine Ev.icmp_le (tgt := 86) dX0_ranksBefore_79 (by decide) (fun b4 => ?_) (fun b4 => ?_)
      · refine Ev.sg hX sX0_ranksBefore_86 (pc' := 87) (ls' := [some (.ref 15), some (.int (nI i)), some (.int (nI j))]) (st' := [.int 0]) (h' := (N, SH v T, I, L, Dd)) rfl ?_
        refine Ev.zret dX0_ranksBefore_87 rfl ?_ ?_
        · rfl
        simp [bi, rkb, b1, b2, Int32.not_lt.mpr b4]
      · refine Ev.sg hX sX0_ranksBefore_82 (pc' := 87) (ls' := [some (.ref 15), some (.int (nI i)), some (.int (nI j))]) (st' := [.int 1]) (h' := (N, SH v T, I, L, Dd)) rfl ?_
        refine Ev.zret dX0_ranksBefore_87 rfl ?_ ?_
        · rfl
        simp [bi, rkb, b1, b2, Int32.not_le.mp b4]
  · refine Ev.sg hX sX0_ranksBefore_19 (pc' := 24) (ls' := [some (.ref 15), some (.int (nI i)), some (.int (nI j))]) (st' := [.int (nI i), .ref 18]) (h' := (N, SH v T, I, L, Dd)) rfl ?_
    refine Ev.callV (As := [.int (nI i)]) (rest := []) dvX4_get mkX0_61 rfl rfl dX0_ranksBefore_24 (c_Row_getN (d := d - 1) (h := (N, SH v T, I, L, Dd)) (r := 18) (a := 19) (n := 20) hX rfl rfl (by decide) hi) ⟨by omega, by show 2 + 19 + 40 * _ ≤ 40 * _; omega⟩ (by decide) rfl (Nat.le_of_ble_eq_true rfl) (fun v9 h9 e9 => ?_) (fun E9 h9 e9 => nomatch e9)
    cases e9
    show Ev _ _ _ _ _ _ 27 [some (.ref 15), some (.int (nI i)), some (.int (nI j))] [.int (I 19 i)] (N, SH v T, I, L, Dd)
    refine Ev.sg hX sX0_ranksBefore_27 (pc' := 32) (ls' := [some (.ref 15), some (.int (nI i)), some (.int (nI j))]) (st' := [.int (nI j), .ref 18, .int (I 19 i)]) (h' := (N, SH v T, I, L, Dd)) rfl ?_
    refine Ev.callV (As := [.int (nI j)]) (rest := [.int (I 19 i)]) dvX4_get mkX0_61 rfl rfl dX0_ranksBefore_32 (c_Row_getN (d := d - 1) (h := (N, SH v T, I, L, Dd)) (r := 18) (a := 19) (n := 20) hX rfl rfl (by decide) hj) ⟨by omega, by show 2 + 19 + 40 * _ ≤ 40 * _; omega⟩ (by decide) rfl (Nat.le_of_ble_eq_true rfl) (fun v9 h9 e9 => ?_) (fun E9 h9 e9 => nomatch e9)
    cases e9
    show Ev _ _ _ _ _ _ 35 [some (.ref 15), some (.int (nI i)), some (.int (nI j))] [.int (I 19 j), .int (I 19 i)] (N, SH v T, I, L, Dd)
    refine Ev.icmp_ge (tgt := 42) dX0_ranksBefore_35 (by decide) (fun b5 => ?_) (fun b5 => ?_)
    · refine Ev.sg hX sX0_ranksBefore_42 (pc' := 43) (ls' := [some (.ref 15), some (.int (nI i)), some (.int (nI j))]) (st' := [.int 0]) (h' := (N, SH v T, I, L, Dd)) rfl ?_
      refine Ev.zret dX0_ranksBefore_43 rfl ?_ ?_
      · rfl
      simp [bi, rkb, b1, Int32.not_lt.mpr b5]
    · refine Ev.sg hX sX0_ranksBefore_38 (pc' := 43) (ls' := [some (.ref 15), some (.int (nI i)), some (.int (nI j))]) (st' := [.int 1]) (h' := (N, SH v T, I, L, Dd)) rfl ?_
      refine Ev.zret dX0_ranksBefore_43 rfl ?_ ?_
      · rfl
      simp [bi, rkb, b1, Int32.not_le.mp b5]
def stR (I : Nat → Nat → Int32) (s k : Nat) (a : Int32) : Int32 := if I 17 k ≠ 0 ∧ rkb I k s = true then a + 1 else a
theorem l_rankOf (hX : JXok X) (hd : 2 ≤ d) {s : Nat} (hs : s < 20) : ∀ (n k : Nat) (a : Int32), n + k = 20 → Ev X (jm jdX0_rankOf) d 0 0 (fun R => R = .inl (some (.int (fo (stR I s) n k a)), (N, SH v T, I, L, Dd))) 4 [some (.ref 15), some (.int (nI s)), some (.int a), some (.int (nI k))] [] (N, SH v T, I, L, Dd) := by
  intro n
  induction n with
  | zero =>
    intro k a hk
    refine Ev.sg hX sX0_rankOf_4 (pc' := 7) (ls' := [some (.ref 15), some (.int (nI s)), some (.int a), some (.int (nI k))]) (st' := [.int 20, .int (nI k)]) (h' := (N, SH v T, I, L, Dd)) rfl ?_
    refine Ev.icmp_ge (tgt := 36) dX0_rankOf_7 (by decide) (fun b1 => ?_) (fun b1 => ?_)
    · refine Ev.sg hX sX0_rankOf_36 (pc' := 37) (ls' := [some (.ref 15), some (.int (nI s)), some (.int a), some (.int (nI k))]) (st' := [.int a]) (h' := (N, SH v T, I, L, Dd)) rfl ?_
      refine Ev.iret dX0_rankOf_37 rfl ?_
      rfl
    · exact absurd (((nI_leI (a := 20) (b := k) (by decide) (by omega)).mpr (by omega))) b1
  | succ n ih =>
    intro k a hk
    refine Ev.sg hX sX0_rankOf_4 (pc' := 7) (ls' := [some (.ref 15), some (.int (nI s)), some (.int a), some (.int (nI k))]) (st' := [.int 20, .int (nI k)]) (h' := (N, SH v T, I, L, Dd)) rfl ?_
    refine Ev.icmp_ge (tgt := 36) dX0_rankOf_7 (by decide) (fun b1 => ?_) (fun b1 => ?_)
    · exact absurd (((nI_leI (a := 20) (b := k) (by decide) (by omega)).mp b1)) (by omega)
    · refine Ev.sg hX sX0_rankOf_10 (pc' := 12) (ls' := [some (.ref 15), some (.int (nI s)), some (.int a), some (.int (nI k))]) (st' := [.int (nI k), .ref 15]) (h' := (N, SH v T, I, L, Dd)) rfl ?_
      refine Ev.callV (As := [.int (nI k)]) (rest := []) dvX0_isTaken mkX0_65 rfl rfl dX0_rankOf_12 (c_isTaken (d := d - 1) (I := I) hX (by omega) (by omega)) ⟨by omega, by show 2 + 19 + 40 * _ ≤ 40 * _; omega⟩ (by decide) rfl (Nat.le_of_ble_eq_true rfl) (fun v9 h9 e9 => ?_) (fun E9 h9 e9 => nomatch e9)
      cases e9
      show Ev _ _ _ _ _ _ 15 [some (.ref 15), some (.int (nI s)), some (.int a), some (.int (nI k))] [.int (bi (I 17 k ≠ 0))] (N, SH v T, I, L, Dd)
      refine Ev.if_eq (tgt := 30) dX0_rankOf_15 (by decide) (fun b2 => ?_) (fun b2 => ?_)
      · refine Ev.sg hX sX0_rankOf_30 (pc' := 4) (ls' := [some (.ref 15), some (.int (nI s)), some (.int a), some (.int ((nI k) + 1))]) (st' := []) (h' := (N, SH v T, I, L, Dd)) rfl ?_
        rw [nI_1, fo, show stR I s k a = a from if_neg (fun z => bi_0.mp b2 z.1)]
        exact ih (k + 1) _ (by omega)
      · refine Ev.sg hX sX0_rankOf_18 (pc' := 21) (ls' := [some (.ref 15), some (.int (nI s)), some (.int a), some (.int (nI k))]) (st' := [.int (nI s), .int (nI k), .ref 15]) (h' := (N, SH v T, I, L, Dd)) rfl ?_
        refine Ev.callV (As := [.int (nI k), .int (nI s)]) (rest := []) dvX0_ranksBefore mkX0_102 rfl rfl dX0_rankOf_21 (c_ranksBefore (d := d - 1) hX (by omega) (by omega) hs) ⟨by omega, by show 3 + 19 + 40 * _ ≤ 40 * _; omega⟩ (by decide) rfl (Nat.le_of_ble_eq_true rfl) (fun v9 h9 e9 => ?_) (fun E9 h9 e9 => nomatch e9)
        cases e9
        show Ev _ _ _ _ _ _ 24 [some (.ref 15), some (.int (nI s)), some (.int a), some (.int (nI k))] [.int (bi (rkb I k s = true))] (N, SH v T, I, L, Dd)
        refine Ev.if_eq (tgt := 30) dX0_rankOf_24 (by decide) (fun b3 => ?_) (fun b3 => ?_)
        · refine Ev.sg hX sX0_rankOf_30 (pc' := 4) (ls' := [some (.ref 15), some (.int (nI s)), some (.int a), some (.int ((nI k) + 1))]) (st' := []) (h' := (N, SH v T, I, L, Dd)) rfl ?_
          rw [nI_1, fo, show stR I s k a = a from if_neg (fun z => bi_0.mp b3 z.2)]
          exact ih (k + 1) _ (by omega)
        · refine Ev.sg hX sX0_rankOf_27 (pc' := 30) (ls' := [some (.ref 15), some (.int (nI s)), some (.int (a + 1)), some (.int (nI k))]) (st' := []) (h' := (N, SH v T, I, L, Dd)) rfl ?_
          refine Ev.sg hX sX0_rankOf_30 (pc' := 4) (ls' := [some (.ref 15), some (.int (nI s)), some (.int (a + 1)), some (.int ((nI k) + 1))]) (st' := []) (h' := (N, SH v T, I, L, Dd)) rfl ?_
          rw [nI_1, fo, show stR I s k a = a + 1 from if_pos ⟨bi_1.mp b2, bi_1.mp b3⟩]
          exact ih (k + 1) _ (by omega)
def rankOfC (I : Nat → Nat → Int32) (s : Nat) : Int32 := fo (stR I s) 20 0 0
theorem c_rankOfC (hX : JXok X) (hd : 2 ≤ d) {s : Nat} (hs : s < 20) : MT X d 0 0 jdX0_rankOf [.ref 15, .int (nI s)] (N, SH v T, I, L, Dd) (fun R => R = .inl (some (.int (rankOfC I s)), (N, SH v T, I, L, Dd))) := by
  refine MT.mk dvX0_rankOf.1 ?_
  refine Ev.sg hX sX0_rankOf_0 (pc' := 4) (ls' := [some (.ref 15), some (.int (nI s)), some (.int 0), some (.int 0)]) (st' := []) (h' := (N, SH v T, I, L, Dd)) rfl ?_
  exact l_rankOf hX hd hs 20 0 0 rfl
theorem l_rankedSlot (hX : JXok X) (hd : 3 ≤ d) {r : Int32} : ∀ (n k : Nat), n + k = 20 → Ev X (jm jdX0_rankedSlot) d 0 0 (fun R => R = .inl (some (.int (fnd (fun s => I 17 s ≠ 0 ∧ rankOfC I s = r) n k)), (N, SH v T, I, L, Dd))) 2 [some (.ref 15), some (.int r), some (.int (nI k))] [] (N, SH v T, I, L, Dd) := by
  intro n
  induction n with
  | zero =>
    intro k hk
    refine Ev.sg hX sX0_rankedSlot_2 (pc' := 5) (ls' := [some (.ref 15), some (.int r), some (.int (nI k))]) (st' := [.int 20, .int (nI k)]) (h' := (N, SH v T, I, L, Dd)) rfl ?_
    refine Ev.icmp_ge (tgt := 33) dX0_rankedSlot_5 (by decide) (fun b1 => ?_) (fun b1 => ?_)
    · refine Ev.sg hX sX0_rankedSlot_33 (pc' := 34) (ls' := [some (.ref 15), some (.int r), some (.int (nI k))]) (st' := [.int (-1)]) (h' := (N, SH v T, I, L, Dd)) rfl ?_
      refine Ev.iret dX0_rankedSlot_34 rfl ?_
      rfl
    · exact absurd (((nI_leI (a := 20) (b := k) (by decide) (by omega)).mpr (by omega))) b1
  | succ n ih =>
    intro k hk
    refine Ev.sg hX sX0_rankedSlot_2 (pc' := 5) (ls' := [some (.ref 15), some (.int r), some (.int (nI k))]) (st' := [.int 20, .int (nI k)]) (h' := (N, SH v T, I, L, Dd)) rfl ?_
    refine Ev.icmp_ge (tgt := 33) dX0_rankedSlot_5 (by decide) (fun b1 => ?_) (fun b1 => ?_)
    · exact absurd (((nI_leI (a := 20) (b := k) (by decide) (by omega)).mp b1)) (by omega)
    · refine Ev.sg hX sX0_rankedSlot_8 (pc' := 10) (ls' := [some (.ref 15), some (.int r), some (.int (nI k))]) (st' := [.int (nI k), .ref 15]) (h' := (N, SH v T, I, L, Dd)) rfl ?_
      refine Ev.callV (As := [.int (nI k)]) (rest := []) dvX0_isTaken mkX0_65 rfl rfl dX0_rankedSlot_10 (c_isTaken (d := d - 1) (I := I) hX (by omega) (by omega)) ⟨by omega, by show 2 + 19 + 40 * _ ≤ 40 * _; omega⟩ (by decide) rfl (Nat.le_of_ble_eq_true rfl) (fun v9 h9 e9 => ?_) (fun E9 h9 e9 => nomatch e9)
      cases e9
      show Ev _ _ _ _ _ _ 13 [some (.ref 15), some (.int r), some (.int (nI k))] [.int (bi (I 17 k ≠ 0))] (N, SH v T, I, L, Dd)
      refine Ev.if_eq (tgt := 27) dX0_rankedSlot_13 (by decide) (fun b2 => ?_) (fun b2 => ?_)
      · refine Ev.sg hX sX0_rankedSlot_27 (pc' := 2) (ls' := [some (.ref 15), some (.int r), some (.int ((nI k) + 1))]) (st' := []) (h' := (N, SH v T, I, L, Dd)) rfl ?_
        rw [nI_1, fnd, if_neg (fun z => bi_0.mp b2 z.1)]
        exact ih (k + 1) (by omega)
      · refine Ev.sg hX sX0_rankedSlot_16 (pc' := 18) (ls' := [some (.ref 15), some (.int r), some (.int (nI k))]) (st' := [.int (nI k), .ref 15]) (h' := (N, SH v T, I, L, Dd)) rfl ?_
        refine Ev.callV (As := [.int (nI k)]) (rest := []) dvX0_rankOf mkX0_99 rfl rfl dX0_rankedSlot_18 (c_rankOfC (d := d - 1) hX (by omega) (by omega)) ⟨by omega, by show 4 + 19 + 40 * _ ≤ 40 * _; omega⟩ (by decide) rfl (Nat.le_of_ble_eq_true rfl) (fun v9 h9 e9 => ?_) (fun E9 h9 e9 => nomatch e9)
        cases e9
        show Ev _ _ _ _ _ _ 21 [some (.ref 15), some (.int r), some (.int (nI k))] [.int (rankOfC I k)] (N, SH v T, I, L, Dd)
        refine Ev.sg hX sX0_rankedSlot_21 (pc' := 22) (ls' := [some (.ref 15), some (.int r), some (.int (nI k))]) (st' := [.int r, .int (rankOfC I k)]) (h' := (N, SH v T, I, L, Dd)) rfl ?_
        refine Ev.icmp_ne (tgt := 27) dX0_rankedSlot_22 (by decide) (fun b3 => ?_) (fun b3 => ?_)
        · refine Ev.sg hX sX0_rankedSlot_27 (pc' := 2) (ls' := [some (.ref 15), some (.int r), some (.int ((nI k) + 1))]) (st' := []) (h' := (N, SH v T, I, L, Dd)) rfl ?_
          rw [nI_1, fnd, if_neg (fun z => b3 z.2)]
          exact ih (k + 1) (by omega)
        · refine Ev.sg hX sX0_rankedSlot_25 (pc' := 26) (ls' := [some (.ref 15), some (.int r), some (.int (nI k))]) (st' := [.int (nI k)]) (h' := (N, SH v T, I, L, Dd)) rfl ?_
          refine Ev.iret dX0_rankedSlot_26 rfl ?_
          rw [fnd, if_pos ⟨bi_1.mp b2, b3⟩]
def rankedSlot (I : Nat → Nat → Int32) (r : Int32) : Int32 := fnd (fun s => I 17 s ≠ 0 ∧ rankOfC I s = r) 20 0
theorem c_rankedSlot (hX : JXok X) (hd : 3 ≤ d) {r : Int32} : MT X d 0 0 jdX0_rankedSlot [.ref 15, .int r] (N, SH v T, I, L, Dd) (fun R => R = .inl (some (.int (rankedSlot I r)), (N, SH v T, I, L, Dd))) := by
  refine MT.mk dvX0_rankedSlot.1 ?_
  refine Ev.sg hX sX0_rankedSlot_0 (pc' := 2) (ls' := [some (.ref 15), some (.int r), some (.int 0)]) (st' := []) (h' := (N, SH v T, I, L, Dd)) rfl ?_
  exact l_rankedSlot hX hd 20 0 rfl
end CARS2
