/-! the cars: pairs, shifts, trains, mending -/
theorem Ev.drop {X : JX} {M : JM} {d mc ms : Nat} {Q : JR → Prop} {pc : Nat} {ls : List (Option Value)} {st : List Value} {h : MH} (i : Nat) (k : Ev X M d mc ms Q pc (ls.set i none) st h) : Ev X M d mc ms Q pc ls st h := by
  intro p ev R s m args below meth c H locs cells slots lsA hB hK hH hS hL hR
  refine k p ev R s m args below meth c H locs cells slots lsA hB hK hH hS ⟨hL.1, by rw [List.length_set]; exact hL.2.1, hL.2.2.1, fun j w hj => ?_⟩ hR
  by_cases e : i = j
  · subst e
    rw [List.getElem?_set] at hj
    split at hj
    · split at hj <;> simp at hj
    · exact hL.2.2.2 _ w hj
  · rw [List.getElem?_set_ne e] at hj
    exact hL.2.2.2 j w hj
theorem add_m1 (x : Int32) : x + (-1) = x - 1 := (Int32.sub_eq_add_neg x 1).symm
section CARS3
variable {X : JX} {d N v : Nat} {T : Nat → Option JS} {I : Nat → Nat → Int32} {L : Nat → Nat → Int64} {Dd : Nat → Nat → UInt64} {Q : JR → Prop} {J : Nat → Nat → Int32} {t hg p : Nat}
def stP (J : Nat → Nat → Int32) (p k : Nat) (a : Int32) : Int32 := if J 35 p < J 35 k then a + 1 else a
def stPP (J : Nat → Nat → Int32) (hg k : Nat) (a : Int32) : Int32 := fo (stP J k) (hg - (k + 1)) (k + 1) a
theorem l_pairs_in (hX : JXok X) (hd : 1 ≤ d) (hg20 : hg ≤ 20) (hp : p < hg) {fin : Int32} (kk : Ev X (jm jdX0_pairsOutOfOrder) d 0 0 Q 59 [some (.ref 15), some (.int (nI t)), some (.int (nI hg)), some (.int fin), some (.int (nI p)), some (.int (nI hg))] [] (N, SH v T, J, L, Dd)) : ∀ (n k : Nat) (a : Int32), hg - k = n ∧ k ≤ hg → fo (stP J p) n k a = fin → Ev X (jm jdX0_pairsOutOfOrder) d 0 0 Q 23 [some (.ref 15), some (.int (nI t)), some (.int (nI hg)), some (.int a), some (.int (nI p)), some (.int (nI k))] [] (N, SH v T, J, L, Dd) := by
  intro n
  induction n with
  | zero =>
    intro k a hk hfin
    refine Ev.sg hX sX0_pairsOutOfOrder_23 (pc' := 26) (ls' := [some (.ref 15), some (.int (nI t)), some (.int (nI hg)), some (.int a), some (.int (nI p)), some (.int (nI k))]) (st' := [.int (nI hg), .int (nI k)]) (h' := (N, SH v T, J, L, Dd)) rfl ?_
    refine Ev.icmp_ge (tgt := 59) dX0_pairsOutOfOrder_26 (by decide) (fun b1 => ?_) (fun b1 => ?_)
    · obtain rfl : k = hg := by omega
      exact (show a = fin from hfin) ▸ kk
    · exact absurd (((nI_leI (a := hg) (b := k) (by omega) (by omega)).mpr (by omega))) b1
  | succ n ih =>
    intro k a hk hfin
    refine Ev.sg hX sX0_pairsOutOfOrder_23 (pc' := 26) (ls' := [some (.ref 15), some (.int (nI t)), some (.int (nI hg)), some (.int a), some (.int (nI p)), some (.int (nI k))]) (st' := [.int (nI hg), .int (nI k)]) (h' := (N, SH v T, J, L, Dd)) rfl ?_
    refine Ev.icmp_ge (tgt := 59) dX0_pairsOutOfOrder_26 (by decide) (fun b1 => ?_) (fun b1 => ?_)
    · exact absurd (((nI_leI (a := hg) (b := k) (by omega) (by omega)).mp b1)) (by omega)
    · refine Ev.sg hX sX0_pairsOutOfOrder_29 (pc' := 35) (ls' := [some (.ref 15), some (.int (nI t)), some (.int (nI hg)), some (.int a), some (.int (nI p)), some (.int (nI k))]) (st' := [.int (nI k), .ref 34]) (h' := (N, SH v T, J, L, Dd)) rfl ?_
      refine Ev.callV (As := [.int (nI k)]) (rest := []) dvX4_get mkX0_61 rfl rfl dX0_pairsOutOfOrder_35 (c_Row_getN (d := d - 1) (h := (N, SH v T, J, L, Dd)) (r := 34) (a := 35) (n := 20) hX rfl rfl (by decide) (by omega)) ⟨by omega, by show 2 + 19 + 40 * _ ≤ 40 * _; omega⟩ (by decide) rfl (Nat.le_of_ble_eq_true rfl) (fun v9 h9 e9 => ?_) (fun E9 h9 e9 => nomatch e9)
      cases e9
      show Ev _ _ _ _ _ _ 38 [some (.ref 15), some (.int (nI t)), some (.int (nI hg)), some (.int a), some (.int (nI p)), some (.int (nI k))] [.int (J 35 k)] (N, SH v T, J, L, Dd)
      refine Ev.sg hX sX0_pairsOutOfOrder_38 (pc' := 44) (ls' := [some (.ref 15), some (.int (nI t)), some (.int (nI hg)), some (.int a), some (.int (nI p)), some (.int (nI k))]) (st' := [.int (nI p), .ref 34, .int (J 35 k)]) (h' := (N, SH v T, J, L, Dd)) rfl ?_
      refine Ev.callV (As := [.int (nI p)]) (rest := [.int (J 35 k)]) dvX4_get mkX0_61 rfl rfl dX0_pairsOutOfOrder_44 (c_Row_getN (d := d - 1) (h := (N, SH v T, J, L, Dd)) (r := 34) (a := 35) (n := 20) hX rfl rfl (by decide) (by omega)) ⟨by omega, by show 2 + 19 + 40 * _ ≤ 40 * _; omega⟩ (by decide) rfl (Nat.le_of_ble_eq_true rfl) (fun v9 h9 e9 => ?_) (fun E9 h9 e9 => nomatch e9)
      cases e9
      show Ev _ _ _ _ _ _ 47 [some (.ref 15), some (.int (nI t)), some (.int (nI hg)), some (.int a), some (.int (nI p)), some (.int (nI k))] [.int (J 35 p), .int (J 35 k)] (N, SH v T, J, L, Dd)
      refine Ev.icmp_le (tgt := 53) dX0_pairsOutOfOrder_47 (by decide) (fun b2 => ?_) (fun b2 => ?_)
      · refine Ev.sg hX sX0_pairsOutOfOrder_53 (pc' := 23) (ls' := [some (.ref 15), some (.int (nI t)), some (.int (nI hg)), some (.int a), some (.int (nI p)), some (.int ((nI k) + 1))]) (st' := []) (h' := (N, SH v T, J, L, Dd)) rfl ?_
        rw [nI_1]
        refine ih (k + 1) _ ⟨by omega, by omega⟩ ?_
        rw [← hfin, fo, show stP J p k a = a from if_neg (Int32.not_lt.mpr b2)]
      · refine Ev.sg hX sX0_pairsOutOfOrder_50 (pc' := 53) (ls' := [some (.ref 15), some (.int (nI t)), some (.int (nI hg)), some (.int (a + 1)), some (.int (nI p)), some (.int (nI k))]) (st' := []) (h' := (N, SH v T, J, L, Dd)) rfl ?_
        refine Ev.sg hX sX0_pairsOutOfOrder_53 (pc' := 23) (ls' := [some (.ref 15), some (.int (nI t)), some (.int (nI hg)), some (.int (a + 1)), some (.int (nI p)), some (.int ((nI k) + 1))]) (st' := []) (h' := (N, SH v T, J, L, Dd)) rfl ?_
        rw [nI_1]
        refine ih (k + 1) _ ⟨by omega, by omega⟩ ?_
        rw [← hfin, fo, show stP J p k a = a + 1 from if_pos (Int32.not_le.mp b2)]
theorem l_pairs (hX : JXok X) (hd : 1 ≤ d) (hg20 : hg ≤ 20) : ∀ (n k : Nat) (a : Int32), hg - k = n ∧ k ≤ hg → Ev X (jm jdX0_pairsOutOfOrder) d 0 0 (fun R => R = .inl (some (.int (fo (stPP J hg) n k a)), (N, SH v T, J, L, Dd))) 11 [some (.ref 15), some (.int (nI t)), some (.int (nI hg)), some (.int a), some (.int (nI k)), none] [] (N, SH v T, J, L, Dd) := by
  intro n
  induction n with
  | zero =>
    intro k a hk
    refine Ev.sg hX sX0_pairsOutOfOrder_11 (pc' := 14) (ls' := [some (.ref 15), some (.int (nI t)), some (.int (nI hg)), some (.int a), some (.int (nI k)), none]) (st' := [.int (nI hg), .int (nI k)]) (h' := (N, SH v T, J, L, Dd)) rfl ?_
    refine Ev.icmp_ge (tgt := 65) dX0_pairsOutOfOrder_14 (by decide) (fun b1 => ?_) (fun b1 => ?_)
    · refine Ev.sg hX sX0_pairsOutOfOrder_65 (pc' := 66) (ls' := [some (.ref 15), some (.int (nI t)), some (.int (nI hg)), some (.int a), some (.int (nI k)), none]) (st' := [.int a]) (h' := (N, SH v T, J, L, Dd)) rfl ?_
      refine Ev.iret dX0_pairsOutOfOrder_66 rfl ?_
      rfl
    · exact absurd (((nI_leI (a := hg) (b := k) (by omega) (by omega)).mpr (by omega))) b1
  | succ n ih =>
    intro k a hk
    refine Ev.sg hX sX0_pairsOutOfOrder_11 (pc' := 14) (ls' := [some (.ref 15), some (.int (nI t)), some (.int (nI hg)), some (.int a), some (.int (nI k)), none]) (st' := [.int (nI hg), .int (nI k)]) (h' := (N, SH v T, J, L, Dd)) rfl ?_
    refine Ev.icmp_ge (tgt := 65) dX0_pairsOutOfOrder_14 (by decide) (fun b1 => ?_) (fun b1 => ?_)
    · exact absurd (((nI_leI (a := hg) (b := k) (by omega) (by omega)).mp b1)) (by omega)
    · refine Ev.sg hX sX0_pairsOutOfOrder_17 (pc' := 23) (ls' := [some (.ref 15), some (.int (nI t)), some (.int (nI hg)), some (.int a), some (.int (nI k)), some (.int ((nI k) + 1))]) (st' := []) (h' := (N, SH v T, J, L, Dd)) rfl ?_
      rw [nI_1]
      refine l_pairs_in hX hd hg20 (by omega) (fin := fo (stP J k) (hg - (k + 1)) (k + 1) a) ?_ (hg - (k + 1)) (k + 1) a ⟨by omega, by omega⟩ rfl
      refine Ev.sg hX sX0_pairsOutOfOrder_59 (pc' := 11) (ls' := [some (.ref 15), some (.int (nI t)), some (.int (nI hg)), some (.int (fo (stP J k) (hg - (k + 1)) (k + 1) a)), some (.int ((nI k) + 1)), some (.int (nI hg))]) (st' := []) (h' := (N, SH v T, J, L, Dd)) rfl ?_
      rw [nI_1, fo]
      exact Ev.drop 5 (ih (k + 1) _ ⟨by omega, by omega⟩)
def pairsF (J : Nat → Nat → Int32) (hg : Nat) : Int32 := fo (stPP J hg) hg 0 0
theorem c_pairs (hX : JXok X) (hd : 2 ≤ d) {t hg : Nat} (ht : t < 8) (hg20 : hg ≤ 20) (hh : I 31 t = nI hg) : MT X d 0 0 jdX0_pairsOutOfOrder [.ref 15, .int (nI t)] (N, SH v T, I, L, Dd) (fun R => R = .inl (some (.int (pairsF (listO I (nI t)) hg)), (N, SH v T, listO I (nI t), L, Dd))) := by
  refine MT.mk dvX0_pairsOutOfOrder.1 ?_
  refine Ev.sg hX sX0_pairsOutOfOrder_0 (pc' := 2) (ls' := [some (.ref 15), some (.int (nI t)), none, none, none, none]) (st' := [.int (nI t), .ref 15]) (h' := (N, SH v T, I, L, Dd)) rfl ?_
  refine Ev.callV (As := [.int (nI t)]) (rest := []) dvX0_listDestinations mkX0_96 rfl rfl dX0_pairsOutOfOrder_2 (c_listDest (d := d - 1) (I := I) hX (by omega) ht hh) ⟨by omega, by show 3 + 19 + 40 * _ ≤ 40 * _; omega⟩ (by decide) rfl (Nat.le_of_ble_eq_true rfl) (fun v9 h9 e9 => ?_) (fun E9 h9 e9 => nomatch e9)
  cases e9
  show Ev _ _ _ _ _ _ 5 [some (.ref 15), some (.int (nI t)), none, none, none, none] [.int (nI hg)] (N, SH v T, listO I (nI t), L, Dd)
  refine Ev.sg hX sX0_pairsOutOfOrder_5 (pc' := 11) (ls' := [some (.ref 15), some (.int (nI t)), some (.int (nI hg)), some (.int 0), some (.int 0), none]) (st' := []) (h' := (N, SH v T, listO I (nI t), L, Dd)) rfl ?_
  exact l_pairs hX (by omega) hg20 hg 0 0 ⟨rfl, by omega⟩
def trF (J : Nat → Nat → Int32) (hg : Nat) : Nat → Int32 → Int32
  | 0, a => a
  | q + 1, a => if J 35 q = J 35 (hg - 1) then trF J hg q (a + 1) else a
theorem l_train (hX : JXok X) (hd : 1 ≤ d) (hg20 : hg ≤ 20) : ∀ (q : Nat) (a : Int32), q ≤ hg → Ev X (jm jdX0_trainOf) d 0 0 (fun R => R = .inl (some (.int (trF J hg q a)), (N, SH v T, J, L, Dd))) 13 [some (.ref 15), some (.int (nI t)), some (.int (nI hg)), some (.int a), some (.int (nI q - 1))] [] (N, SH v T, J, L, Dd) := by
  intro q
  induction q with
  | zero =>
    intro a hq
    refine Ev.sg hX sX0_trainOf_13 (pc' := 15) (ls' := [some (.ref 15), some (.int (nI t)), some (.int (nI hg)), some (.int a), some (.int (nI 0 - 1))]) (st' := [.int (nI 0 - 1)]) (h' := (N, SH v T, J, L, Dd)) rfl ?_
    refine Ev.if_lt (tgt := 49) dX0_trainOf_15 (by decide) (fun b1 => ?_) (fun b1 => ?_)
    · refine Ev.sg hX sX0_trainOf_49 (pc' := 50) (ls' := [some (.ref 15), some (.int (nI t)), some (.int (nI hg)), some (.int a), some (.int (nI 0 - 1))]) (st' := [.int a]) (h' := (N, SH v T, J, L, Dd)) rfl ?_
      refine Ev.iret dX0_trainOf_50 rfl ?_
      rfl
    · exact absurd (by decide) b1
  | succ q ih =>
    intro a hq
    rw [nI_pred]
    refine Ev.sg hX sX0_trainOf_13 (pc' := 15) (ls' := [some (.ref 15), some (.int (nI t)), some (.int (nI hg)), some (.int a), some (.int (nI q))]) (st' := [.int (nI q)]) (h' := (N, SH v T, J, L, Dd)) rfl ?_
    refine Ev.if_lt (tgt := 49) dX0_trainOf_15 (by decide) (fun b1 => ?_) (fun b1 => ?_)
    · exact absurd b1 (nI_pos (by omega))
    · refine Ev.sg hX sX0_trainOf_18 (pc' := 24) (ls' := [some (.ref 15), some (.int (nI t)), some (.int (nI hg)), some (.int a), some (.int (nI q))]) (st' := [.int (nI q), .ref 34]) (h' := (N, SH v T, J, L, Dd)) rfl ?_
      refine Ev.callV (As := [.int (nI q)]) (rest := []) dvX4_get mkX0_61 rfl rfl dX0_trainOf_24 (c_Row_getN (d := d - 1) (h := (N, SH v T, J, L, Dd)) (r := 34) (a := 35) (n := 20) hX rfl rfl (by decide) (by omega)) ⟨by omega, by show 2 + 19 + 40 * _ ≤ 40 * _; omega⟩ (by decide) rfl (Nat.le_of_ble_eq_true rfl) (fun v9 h9 e9 => ?_) (fun E9 h9 e9 => nomatch e9)
      cases e9
      show Ev _ _ _ _ _ _ 27 [some (.ref 15), some (.int (nI t)), some (.int (nI hg)), some (.int a), some (.int (nI q))] [.int (J 35 q)] (N, SH v T, J, L, Dd)
      refine Ev.sg hX sX0_trainOf_27 (pc' := 34) (ls' := [some (.ref 15), some (.int (nI t)), some (.int (nI hg)), some (.int a), some (.int (nI q))]) (st' := [.int ((nI hg) - 1), .ref 34, .int (J 35 q)]) (h' := (N, SH v T, J, L, Dd)) rfl ?_
      refine Ev.callV (As := [.int ((nI hg) - 1)]) (rest := [.int (J 35 q)]) dvX4_get mkX0_61 rfl rfl dX0_trainOf_34 (c_Row_getE (d := d - 1) (h := (N, SH v T, J, L, Dd)) (r := 34) (a := 35) (n := 20) hX rfl rfl (by decide) (by omega) (nI_m1 (by omega))) ⟨by omega, by show 2 + 19 + 40 * _ ≤ 40 * _; omega⟩ (by decide) rfl (Nat.le_of_ble_eq_true rfl) (fun v9 h9 e9 => ?_) (fun E9 h9 e9 => nomatch e9)
      cases e9
      show Ev _ _ _ _ _ _ 37 [some (.ref 15), some (.int (nI t)), some (.int (nI hg)), some (.int a), some (.int (nI q))] [.int (J 35 (hg - 1)), .int (J 35 q)] (N, SH v T, J, L, Dd)
      refine Ev.icmp_ne (tgt := 49) dX0_trainOf_37 (by decide) (fun b2 => ?_) (fun b2 => ?_)
      · refine Ev.sg hX sX0_trainOf_49 (pc' := 50) (ls' := [some (.ref 15), some (.int (nI t)), some (.int (nI hg)), some (.int a), some (.int (nI q))]) (st' := [.int a]) (h' := (N, SH v T, J, L, Dd)) rfl ?_
        refine Ev.iret dX0_trainOf_50 rfl ?_
        rw [trF, if_neg b2]
      · refine Ev.sg hX sX0_trainOf_40 (pc' := 13) (ls' := [some (.ref 15), some (.int (nI t)), some (.int (nI hg)), some (.int (a + 1)), some (.int ((nI q) + (-1)))]) (st' := []) (h' := (N, SH v T, J, L, Dd)) rfl ?_
        rw [add_m1, trF, if_pos b2]
        exact ih _ (by omega)
def trainF (J : Nat → Nat → Int32) (hg : Nat) : Int32 := trF J hg hg 0
theorem c_trainOf (hX : JXok X) (hd : 2 ≤ d) {t hg : Nat} (ht : t < 8) (hg20 : hg ≤ 20) (hh : I 31 t = nI hg) : MT X d 0 0 jdX0_trainOf [.ref 15, .int (nI t)] (N, SH v T, I, L, Dd) (fun R => R = .inl (some (.int (trainF (listO I (nI t)) hg)), (N, SH v T, listO I (nI t), L, Dd))) := by
  refine MT.mk dvX0_trainOf.1 ?_
  refine Ev.sg hX sX0_trainOf_0 (pc' := 2) (ls' := [some (.ref 15), some (.int (nI t)), none, none, none]) (st' := [.int (nI t), .ref 15]) (h' := (N, SH v T, I, L, Dd)) rfl ?_
  refine Ev.callV (As := [.int (nI t)]) (rest := []) dvX0_listDestinations mkX0_96 rfl rfl dX0_trainOf_2 (c_listDest (d := d - 1) (I := I) hX (by omega) ht hh) ⟨by omega, by show 3 + 19 + 40 * _ ≤ 40 * _; omega⟩ (by decide) rfl (Nat.le_of_ble_eq_true rfl) (fun v9 h9 e9 => ?_) (fun E9 h9 e9 => nomatch e9)
  cases e9
  show Ev _ _ _ _ _ _ 5 [some (.ref 15), some (.int (nI t)), none, none, none] [.int (nI hg)] (N, SH v T, listO I (nI t), L, Dd)
  refine Ev.sg hX sX0_trainOf_5 (pc' := 13) (ls' := [some (.ref 15), some (.int (nI t)), some (.int (nI hg)), some (.int 0), some (.int ((nI hg) - 1))]) (st' := []) (h' := (N, SH v T, listO I (nI t), L, Dd)) rfl ?_
  exact l_train hX (by omega) hg20 hg 0 (Nat.le_refl _)
def stM (I : Nat → Nat → Int32) (k : Nat) (a : Int32) : Int32 := if I 17 k ≠ 0 then a + I 21 k else a
theorem l_mend (hX : JXok X) (hd : 2 ≤ d) {c : Int32} : ∀ (n k : Nat) (a : Int32), n + k = 20 → Ev X (jm jdX0_mend) d 0 0 (fun R => R = .inl (some (.int (fo (stM J) n k a)), (N, SH v T, J, L, Dd))) 17 [some (.ref 15), some (.int c), some (.int a), some (.int (nI k))] [] (N, SH v T, J, L, Dd) := by
  intro n
  induction n with
  | zero =>
    intro k a hk
    refine Ev.sg hX sX0_mend_17 (pc' := 20) (ls' := [some (.ref 15), some (.int c), some (.int a), some (.int (nI k))]) (st' := [.int 20, .int (nI k)]) (h' := (N, SH v T, J, L, Dd)) rfl ?_
    refine Ev.icmp_ge (tgt := 48) dX0_mend_20 (by decide) (fun b1 => ?_) (fun b1 => ?_)
    · refine Ev.sg hX sX0_mend_48 (pc' := 49) (ls' := [some (.ref 15), some (.int c), some (.int a), some (.int (nI k))]) (st' := [.int a]) (h' := (N, SH v T, J, L, Dd)) rfl ?_
      refine Ev.iret dX0_mend_49 rfl ?_
      rfl
    · exact absurd (((nI_leI (a := 20) (b := k) (by decide) (by omega)).mpr (by omega))) b1
  | succ n ih =>
    intro k a hk
    refine Ev.sg hX sX0_mend_17 (pc' := 20) (ls' := [some (.ref 15), some (.int c), some (.int a), some (.int (nI k))]) (st' := [.int 20, .int (nI k)]) (h' := (N, SH v T, J, L, Dd)) rfl ?_
    refine Ev.icmp_ge (tgt := 48) dX0_mend_20 (by decide) (fun b1 => ?_) (fun b1 => ?_)
    · exact absurd (((nI_leI (a := 20) (b := k) (by decide) (by omega)).mp b1)) (by omega)
    · refine Ev.sg hX sX0_mend_23 (pc' := 25) (ls' := [some (.ref 15), some (.int c), some (.int a), some (.int (nI k))]) (st' := [.int (nI k), .ref 15]) (h' := (N, SH v T, J, L, Dd)) rfl ?_
      refine Ev.callV (As := [.int (nI k)]) (rest := []) dvX0_isTaken mkX0_65 rfl rfl dX0_mend_25 (c_isTaken (d := d - 1) (I := J) hX (by omega) (by omega)) ⟨by omega, by show 2 + 19 + 40 * _ ≤ 40 * _; omega⟩ (by decide) rfl (Nat.le_of_ble_eq_true rfl) (fun v9 h9 e9 => ?_) (fun E9 h9 e9 => nomatch e9)
      cases e9
      show Ev _ _ _ _ _ _ 28 [some (.ref 15), some (.int c), some (.int a), some (.int (nI k))] [.int (bi (J 17 k ≠ 0))] (N, SH v T, J, L, Dd)
      refine Ev.if_eq (tgt := 42) dX0_mend_28 (by decide) (fun b2 => ?_) (fun b2 => ?_)
      · refine Ev.sg hX sX0_mend_42 (pc' := 17) (ls' := [some (.ref 15), some (.int c), some (.int a), some (.int ((nI k) + 1))]) (st' := []) (h' := (N, SH v T, J, L, Dd)) rfl ?_
        rw [nI_1, fo, show stM J k a = a from if_neg (bi_0.mp b2)]
        exact ih (k + 1) _ (by omega)
      · refine Ev.sg hX sX0_mend_31 (pc' := 37) (ls' := [some (.ref 15), some (.int c), some (.int a), some (.int (nI k))]) (st' := [.int (nI k), .ref 20, .int a]) (h' := (N, SH v T, J, L, Dd)) rfl ?_
        refine Ev.callV (As := [.int (nI k)]) (rest := [.int a]) dvX4_get mkX0_61 rfl rfl dX0_mend_37 (c_Row_getN (d := d - 1) (h := (N, SH v T, J, L, Dd)) (r := 20) (a := 21) (n := 20) hX rfl rfl (by decide) (by omega)) ⟨by omega, by show 2 + 19 + 40 * _ ≤ 40 * _; omega⟩ (by decide) rfl (Nat.le_of_ble_eq_true rfl) (fun v9 h9 e9 => ?_) (fun E9 h9 e9 => nomatch e9)
        cases e9
        show Ev _ _ _ _ _ _ 40 [some (.ref 15), some (.int c), some (.int a), some (.int (nI k))] [.int (J 21 k), .int a] (N, SH v T, J, L, Dd)
        refine Ev.sg hX sX0_mend_40 (pc' := 42) (ls' := [some (.ref 15), some (.int c), some (.int (a + (J 21 k))), some (.int (nI k))]) (st' := []) (h' := (N, SH v T, J, L, Dd)) rfl ?_
        refine Ev.sg hX sX0_mend_42 (pc' := 17) (ls' := [some (.ref 15), some (.int c), some (.int (a + (J 21 k))), some (.int ((nI k) + 1))]) (st' := []) (h' := (N, SH v T, J, L, Dd)) rfl ?_
        rw [nI_1, fo, show stM J k a = a + (J 21 k) from if_pos (bi_1.mp b2)]
        exact ih (k + 1) _ (by omega)
def mendI (I : Nat → Nat → Int32) (s : Nat) : Nat → Nat → Int32 := up2 I 21 s 0
theorem c_mend (hX : JXok X) (hd : 2 ≤ d) {c : Int32} {s : Nat} (hs : s < 20) (hz : slotOf I c = nI s) : MT X d 0 0 jdX0_mend [.ref 15, .int c] (N, SH v T, I, L, Dd) (fun R => R = .inl (some (.int (fo (stM (mendI I s)) 20 0 0)), (N, SH v T, mendI I s, L, Dd))) := by
  refine MT.mk dvX0_mend.1 ?_
  refine Ev.sg hX sX0_mend_0 (pc' := 6) (ls' := [some (.ref 15), some (.int c), none, none]) (st' := [.int c, .ref 15, .ref 20]) (h' := (N, SH v T, I, L, Dd)) rfl ?_
  refine Ev.callV (As := [.int c]) (rest := [.ref 20]) dvX0_slotOf mkX0_90 rfl rfl dX0_mend_6 (c_slotOf (d := d - 1) hX (by omega)) ⟨by omega, by show 3 + 19 + 40 * _ ≤ 40 * _; omega⟩ (by decide) rfl (Nat.le_of_ble_eq_true rfl) (fun v9 h9 e9 => ?_) (fun E9 h9 e9 => nomatch e9)
  cases e9
  show Ev _ _ _ _ _ _ 9 [some (.ref 15), some (.int c), none, none] [.int (slotOf I c), .ref 20] (N, SH v T, I, L, Dd)
  rw [hz]
  refine Ev.sg hX sX0_mend_9 (pc' := 10) (ls' := [some (.ref 15), some (.int c), none, none]) (st' := [.int 0, .int (nI s), .ref 20]) (h' := (N, SH v T, I, L, Dd)) rfl ?_
  refine Ev.callV (As := [.int (nI s), .int 0]) (rest := []) dvX4_set mkX0_73 rfl rfl dX0_mend_10 (c_Row_setN (d := d - 1) (h := (N, SH v T, I, L, Dd)) (r := 20) (a := 21) (n := 20) hX rfl rfl (by decide) hs) ⟨by omega, by show 3 + 19 + 40 * _ ≤ 40 * _; omega⟩ (by decide) rfl (Nat.le_of_ble_eq_true rfl) (fun v9 h9 e9 => ?_) (fun E9 h9 e9 => nomatch e9)
  cases e9
  show Ev _ _ _ _ _ _ 13 [some (.ref 15), some (.int c), none, none] [] (N, SH v T, up2 I 21 s 0, L, Dd)
  refine Ev.sg hX sX0_mend_13 (pc' := 17) (ls' := [some (.ref 15), some (.int c), some (.int 0), some (.int 0)]) (st' := []) (h' := (N, SH v T, up2 I 21 s 0, L, Dd)) rfl ?_
  exact l_mend hX hd 20 0 0 rfl
def insF (x : Int32) : Nat → (Nat → Nat → Int32) → Int32 → Nat × (Nat → Nat → Int32) × Int32
  | 0, J, c => (0, J, c)
  | g + 1, J, c => if J 35 g < x then insF x g (up2 J 35 (g + 1) (J 35 g)) (c + 1) else (g + 1, J, c)
theorem insF_le (x : Int32) : ∀ (g : Nat) (J : Nat → Nat → Int32) (c : Int32), (insF x g J c).1 ≤ g
  | 0, _, _ => Nat.le_refl _
  | g + 1, J, c => by
    rw [insF]
    split
    · exact Nat.le_succ_of_le (insF_le x g _ _)
    · exact Nat.le_refl _
theorem l_ins (hX : JXok X) (hd : 1 ≤ d) {x : Int32} : ∀ (g : Nat) (J : Nat → Nat → Int32) (c : Int32), g < 20 → (∀ r, r = insF x g J c → Ev X (jm jdX0_shiftsOfInsertion) d 0 0 Q 82 [some (.ref 15), some (.int (nI t)), some (.int (nI hg)), some (.int r.2.2), some (.int (nI p)), some (.int x), some (.int (nI r.1))] [] (N, SH v T, r.2.1, L, Dd)) → Ev X (jm jdX0_shiftsOfInsertion) d 0 0 Q 32 [some (.ref 15), some (.int (nI t)), some (.int (nI hg)), some (.int c), some (.int (nI p)), some (.int x), some (.int (nI g))] [] (N, SH v T, J, L, Dd) := by
  intro g
  induction g with
  | zero =>
    intro J c hgl kk
    refine Ev.sg hX sX0_shiftsOfInsertion_32 (pc' := 34) (ls' := [some (.ref 15), some (.int (nI t)), some (.int (nI hg)), some (.int c), some (.int (nI p)), some (.int x), some (.int (nI 0))]) (st' := [.int (nI 0)]) (h' := (N, SH v T, J, L, Dd)) rfl ?_
    refine Ev.if_le (tgt := 82) dX0_shiftsOfInsertion_34 (by decide) (fun b1 => ?_) (fun b1 => ?_)
    · exact kk _ rfl
    · exact absurd (by decide) b1
  | succ g ih =>
    intro J c hgl kk
    refine Ev.sg hX sX0_shiftsOfInsertion_32 (pc' := 34) (ls' := [some (.ref 15), some (.int (nI t)), some (.int (nI hg)), some (.int c), some (.int (nI p)), some (.int x), some (.int (nI (g + 1)))]) (st' := [.int (nI (g + 1))]) (h' := (N, SH v T, J, L, Dd)) rfl ?_
    refine Ev.if_le (tgt := 82) dX0_shiftsOfInsertion_34 (by decide) (fun b1 => ?_) (fun b1 => ?_)
    · exact absurd b1 (nI_nle (by omega) (by omega))
    · refine Ev.sg hX sX0_shiftsOfInsertion_37 (pc' := 45) (ls' := [some (.ref 15), some (.int (nI t)), some (.int (nI hg)), some (.int c), some (.int (nI p)), some (.int x), some (.int (nI (g + 1)))]) (st' := [.int ((nI (g + 1)) - 1), .ref 34]) (h' := (N, SH v T, J, L, Dd)) rfl ?_
      refine Ev.callV (As := [.int ((nI (g + 1)) - 1)]) (rest := []) dvX4_get mkX0_61 rfl rfl dX0_shiftsOfInsertion_45 (c_Row_getE (d := d - 1) (h := (N, SH v T, J, L, Dd)) (r := 34) (a := 35) (n := 20) hX rfl rfl (by decide) (by omega) (nI_pred g)) ⟨by omega, by show 2 + 19 + 40 * _ ≤ 40 * _; omega⟩ (by decide) rfl (Nat.le_of_ble_eq_true rfl) (fun v9 h9 e9 => ?_) (fun E9 h9 e9 => nomatch e9)
      cases e9
      show Ev _ _ _ _ _ _ 48 [some (.ref 15), some (.int (nI t)), some (.int (nI hg)), some (.int c), some (.int (nI p)), some (.int x), some (.int (nI (g + 1)))] [.int (J 35 g)] (N, SH v T, J, L, Dd)
      refine Ev.sg hX sX0_shiftsOfInsertion_48 (pc' := 50) (ls' := [some (.ref 15), some (.int (nI t)), some (.int (nI hg)), some (.int c), some (.int (nI p)), some (.int x), some (.int (nI (g + 1)))]) (st' := [.int x, .int (J 35 g)]) (h' := (N, SH v T, J, L, Dd)) rfl ?_
      refine Ev.icmp_ge (tgt := 82) dX0_shiftsOfInsertion_50 (by decide) (fun b2 => ?_) (fun b2 => ?_)
      · exact kk _ (by rw [insF, if_neg (Int32.not_lt.mpr b2)])
      · refine Ev.sg hX sX0_shiftsOfInsertion_53 (pc' := 67) (ls' := [some (.ref 15), some (.int (nI t)), some (.int (nI hg)), some (.int c), some (.int (nI p)), some (.int x), some (.int (nI (g + 1)))]) (st' := [.int ((nI (g + 1)) - 1), .ref 34, .int (nI (g + 1)), .ref 34]) (h' := (N, SH v T, J, L, Dd)) rfl ?_
        refine Ev.callV (As := [.int ((nI (g + 1)) - 1)]) (rest := [.int (nI (g + 1)), .ref 34]) dvX4_get mkX0_61 rfl rfl dX0_shiftsOfInsertion_67 (c_Row_getE (d := d - 1) (h := (N, SH v T, J, L, Dd)) (r := 34) (a := 35) (n := 20) hX rfl rfl (by decide) (by omega) (nI_pred g)) ⟨by omega, by show 2 + 19 + 40 * _ ≤ 40 * _; omega⟩ (by decide) rfl (Nat.le_of_ble_eq_true rfl) (fun v9 h9 e9 => ?_) (fun E9 h9 e9 => nomatch e9)
        cases e9
        show Ev _ _ _ _ _ _ 70 [some (.ref 15), some (.int (nI t)), some (.int (nI hg)), some (.int c), some (.int (nI p)), some (.int x), some (.int (nI (g + 1)))] [.int (J 35 g), .int (nI (g + 1)), .ref 34] (N, SH v T, J, L, Dd)
        refine Ev.callV (As := [.int (nI (g + 1)), .int (J 35 g)]) (rest := []) dvX4_set mkX0_73 rfl rfl dX0_shiftsOfInsertion_70 (c_Row_setN (d := d - 1) (h := (N, SH v T, J, L, Dd)) (r := 34) (a := 35) (n := 20) hX rfl rfl (by decide) (by omega)) ⟨by omega, by show 3 + 19 + 40 * _ ≤ 40 * _; omega⟩ (by decide) rfl (Nat.le_of_ble_eq_true rfl) (fun v9 h9 e9 => ?_) (fun E9 h9 e9 => nomatch e9)
        cases e9
        show Ev _ _ _ _ _ _ 73 [some (.ref 15), some (.int (nI t)), some (.int (nI hg)), some (.int c), some (.int (nI p)), some (.int x), some (.int (nI (g + 1)))] [] (N, SH v T, up2 J 35 (g + 1) (J 35 g), L, Dd)
        refine Ev.sg hX sX0_shiftsOfInsertion_73 (pc' := 32) (ls' := [some (.ref 15), some (.int (nI t)), some (.int (nI hg)), some (.int (c + 1)), some (.int (nI p)), some (.int x), some (.int ((nI (g + 1)) + (-1)))]) (st' := []) (h' := (N, SH v T, up2 J 35 (g + 1) (J 35 g), L, Dd)) rfl ?_
        rw [pk_m1]
        refine ih _ _ (by omega) (fun r hr => kk r ?_)
        rw [hr, insF, if_pos (Int32.not_le.mp b2)]
def stS (k : Nat) (u : (Nat → Nat → Int32) × Int32) : (Nat → Nat → Int32) × Int32 := (up2 (insF (u.1 35 k) k u.1 u.2).2.1 35 (insF (u.1 35 k) k u.1 u.2).1 (u.1 35 k), (insF (u.1 35 k) k u.1 u.2).2.2)
theorem l_shifts (hX : JXok X) (hd : 1 ≤ d) (hg20 : hg ≤ 20) : ∀ (n k : Nat) (u : (Nat → Nat → Int32) × Int32), hg - k = n ∧ k ≤ 100 → Ev X (jm jdX0_shiftsOfInsertion) d 0 0 (fun R => R = .inl (some (.int ((fo stS n k u).2)), (N, SH v T, (fo stS n k u).1, L, Dd))) 11 [some (.ref 15), some (.int (nI t)), some (.int (nI hg)), some (.int u.2), some (.int (nI k)), none, none] [] (N, SH v T, u.1, L, Dd) := by
  intro n
  induction n with
  | zero =>
    intro k u hk
    refine Ev.sg hX sX0_shiftsOfInsertion_11 (pc' := 14) (ls' := [some (.ref 15), some (.int (nI t)), some (.int (nI hg)), some (.int u.2), some (.int (nI k)), none, none]) (st' := [.int (nI hg), .int (nI k)]) (h' := (N, SH v T, u.1, L, Dd)) rfl ?_
    refine Ev.icmp_ge (tgt := 99) dX0_shiftsOfInsertion_14 (by decide) (fun b1 => ?_) (fun b1 => ?_)
    · refine Ev.sg hX sX0_shiftsOfInsertion_99 (pc' := 100) (ls' := [some (.ref 15), some (.int (nI t)), some (.int (nI hg)), some (.int u.2), some (.int (nI k)), none, none]) (st' := [.int u.2]) (h' := (N, SH v T, u.1, L, Dd)) rfl ?_
      refine Ev.iret dX0_shiftsOfInsertion_100 rfl ?_
      rfl
    · exact absurd (((nI_leI (a := hg) (b := k) (by omega) (by omega)).mpr (by omega))) b1
  | succ n ih =>
    intro k u hk
    refine Ev.sg hX sX0_shiftsOfInsertion_11 (pc' := 14) (ls' := [some (.ref 15), some (.int (nI t)), some (.int (nI hg)), some (.int u.2), some (.int (nI k)), none, none]) (st' := [.int (nI hg), .int (nI k)]) (h' := (N, SH v T, u.1, L, Dd)) rfl ?_
    refine Ev.icmp_ge (tgt := 99) dX0_shiftsOfInsertion_14 (by decide) (fun b1 => ?_) (fun b1 => ?_)
    · exact absurd (((nI_leI (a := hg) (b := k) (by omega) (by omega)).mp b1)) (by omega)
    · refine Ev.sg hX sX0_shiftsOfInsertion_17 (pc' := 23) (ls' := [some (.ref 15), some (.int (nI t)), some (.int (nI hg)), some (.int u.2), some (.int (nI k)), none, none]) (st' := [.int (nI k), .ref 34]) (h' := (N, SH v T, u.1, L, Dd)) rfl ?_
      refine Ev.callV (As := [.int (nI k)]) (rest := []) dvX4_get mkX0_61 rfl rfl dX0_shiftsOfInsertion_23 (c_Row_getN (d := d - 1) (h := (N, SH v T, u.1, L, Dd)) (r := 34) (a := 35) (n := 20) hX rfl rfl (by decide) (by omega)) ⟨by omega, by show 2 + 19 + 40 * _ ≤ 40 * _; omega⟩ (by decide) rfl (Nat.le_of_ble_eq_true rfl) (fun v9 h9 e9 => ?_) (fun E9 h9 e9 => nomatch e9)
      cases e9
      show Ev _ _ _ _ _ _ 26 [some (.ref 15), some (.int (nI t)), some (.int (nI hg)), some (.int u.2), some (.int (nI k)), none, none] [.int (u.1 35 k)] (N, SH v T, u.1, L, Dd)
      refine Ev.sg hX sX0_shiftsOfInsertion_26 (pc' := 32) (ls' := [some (.ref 15), some (.int (nI t)), some (.int (nI hg)), some (.int u.2), some (.int (nI k)), some (.int (u.1 35 k)), some (.int (nI k))]) (st' := []) (h' := (N, SH v T, u.1, L, Dd)) rfl ?_
      refine l_ins hX hd k u.1 u.2 (by omega) (fun r hr => ?_)
      have hr1 : r.1 < 20 := by rw [hr]; exact Nat.lt_of_le_of_lt (insF_le _ _ _ _) (by omega)
      refine Ev.sg hX sX0_shiftsOfInsertion_82 (pc' := 90) (ls' := [some (.ref 15), some (.int (nI t)), some (.int (nI hg)), some (.int r.2.2), some (.int (nI k)), some (.int (u.1 35 k)), some (.int (nI r.1))]) (st' := [.int (u.1 35 k), .int (nI r.1), .ref 34]) (h' := (N, SH v T, r.2.1, L, Dd)) rfl ?_
      refine Ev.callV (As := [.int (nI r.1), .int (u.1 35 k)]) (rest := []) dvX4_set mkX0_73 rfl rfl dX0_shiftsOfInsertion_90 (c_Row_setN (d := d - 1) (h := (N, SH v T, r.2.1, L, Dd)) (r := 34) (a := 35) (n := 20) hX rfl rfl (by decide) hr1) ⟨by omega, by show 3 + 19 + 40 * _ ≤ 40 * _; omega⟩ (by decide) rfl (Nat.le_of_ble_eq_true rfl) (fun v9 h9 e9 => ?_) (fun E9 h9 e9 => nomatch e9)
      cases e9
      show Ev _ _ _ _ _ _ 93 [some (.ref 15), some (.int (nI t)), some (.int (nI hg)), some (.int r.2.2), some (.int (nI k)), some (.int (u.1 35 k)), some (.int (nI r.1))] [] (N, SH v T, up2 r.2.1 35 r.1 (u.1 35 k), L, Dd)
      refine Ev.sg hX sX0_shiftsOfInsertion_93 (pc' := 11) (ls' := [some (.ref 15), some (.int (nI t)), some (.int (nI hg)), some (.int r.2.2), some (.int ((nI k) + 1)), some (.int (u.1 35 k)), some (.int (nI r.1))]) (st' := []) (h' := (N, SH v T, up2 r.2.1 35 r.1 (u.1 35 k), L, Dd)) rfl ?_
      rw [nI_1, fo]
      refine Ev.drop 5 (Ev.drop 6 ?_)
      have e9 := ih (k + 1) (stS k u) ⟨by omega, by omega⟩
      rw [show stS k u = (up2 r.2.1 35 r.1 (u.1 35 k), r.2.2) from by rw [hr]; rfl] at e9 ⊢
      exact e9
def shiftsF (J : Nat → Nat → Int32) (hg : Nat) : (Nat → Nat → Int32) × Int32 := fo stS (hg - 1) 1 (J, 0)
theorem c_shifts (hX : JXok X) (hd : 2 ≤ d) {t hg : Nat} (ht : t < 8) (hg20 : hg ≤ 20) (hh : I 31 t = nI hg) : MT X d 0 0 jdX0_shiftsOfInsertion [.ref 15, .int (nI t)] (N, SH v T, I, L, Dd) (fun R => R = .inl (some (.int ((shiftsF (listO I (nI t)) hg).2)), (N, SH v T, (shiftsF (listO I (nI t)) hg).1, L, Dd))) := by
  refine MT.mk dvX0_shiftsOfInsertion.1 ?_
  refine Ev.sg hX sX0_shiftsOfInsertion_0 (pc' := 2) (ls' := [some (.ref 15), some (.int (nI t)), none, none, none, none, none]) (st' := [.int (nI t), .ref 15]) (h' := (N, SH v T, I, L, Dd)) rfl ?_
  refine Ev.callV (As := [.int (nI t)]) (rest := []) dvX0_listDestinations mkX0_96 rfl rfl dX0_shiftsOfInsertion_2 (c_listDest (d := d - 1) (I := I) hX (by omega) ht hh) ⟨by omega, by show 3 + 19 + 40 * _ ≤ 40 * _; omega⟩ (by decide) rfl (Nat.le_of_ble_eq_true rfl) (fun v9 h9 e9 => ?_) (fun E9 h9 e9 => nomatch e9)
  cases e9
  show Ev _ _ _ _ _ _ 5 [some (.ref 15), some (.int (nI t)), none, none, none, none, none] [.int (nI hg)] (N, SH v T, listO I (nI t), L, Dd)
  refine Ev.sg hX sX0_shiftsOfInsertion_5 (pc' := 11) (ls' := [some (.ref 15), some (.int (nI t)), some (.int (nI hg)), some (.int 0), some (.int 1), none, none]) (st' := []) (h' := (N, SH v T, listO I (nI t), L, Dd)) rfl ?_
  unfold shiftsF
  generalize listO I (nI t) = J9
  exact l_shifts hX (by omega) hg20 (hg - 1) 1 (J9, 0) ⟨rfl, by omega⟩
end CARS3
