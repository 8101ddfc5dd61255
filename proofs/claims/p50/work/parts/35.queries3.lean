/-! nearestFreeTrack, the yard's check, floats, programs' first methods, undo, save, restore -/
section QU3
variable {X : JX} {d N v : Nat} {T : Nat → Option JS} {I : Nat → Nat → Int32} {L : Nat → Nat → Int64} {Dd : Nat → Nat → UInt64} {t c a b : Int32}
def nearU (I : Nat → Nat → Int32) (sz f : Nat) : (Nat → Nat → Int32) × Int32 × Int32 := fo (stNr sz f) sz 0 (I, -1, 0)
theorem c_nearestFor (hX : JXok X) (hd : 4 ≤ d) {f sz : Nat} (hf : f < 8) (hsz : sz ≤ 8) (hJ : I 6 0 = nI sz) : MT X d 0 0 jdX5_nearestFor [.ref 1, .int (nI f)] (N, SH v T, I, L, Dd) (fun R => R = .inl (some (.int ((nearU I sz f).2.1)), (N, SH v T, (nearU I sz f).1, L, Dd))) := by
  refine MT.mk dvX5_nearestFor.1 ?_
  refine Ev.sg hX sX5_nearestFor_0 (pc' := 7) (ls' := [some (.ref 1), some (.int (nI f)), some (.int (-1)), some (.int 0), some (.int 0), none]) (st' := []) (h' := (N, SH v T, I, L, Dd)) rfl ?_
  exact l_near hX hd hf hsz sz 0 I (-1) 0 ⟨rfl, hJ, Or.inl rfl⟩
def nearQ (I : Nat → Nat → Int32) (sz : Nat) (t : Int32) : Option String × Int32 × (Nat → Nat → Int32) := seqX (trkX I t) I (seqX (if (nearU I sz t.toNatClampNeg).2.1 = -1 then some "java/util/NoSuchElementException" else none) (nearU I sz t.toNatClampNeg).1 (none, (nearU I sz t.toNatClampNeg).2.1, (nearU I sz t.toNatClampNeg).1))
theorem c_nearestFree (hX : JXok X) (hd : 7 ≤ d) (hN4 : 396 ≤ N) (hN : N + 1 < BIG) {sz : Nat} (hsz : sz ≤ 8) (hJ : I 6 0 = nI sz) : MT X d 4 24 jdX6_nearestFreeTrack [.ref 0, .int t] (N, SH v T, I, L, Dd) (outQ (nearQ I sz t) N v T L Dd) := by
  refine MT.mk dvX6_nearestFreeTrack.1 ?_
  refine Ev.sg hX sX6_nearestFreeTrack_0 (pc' := 2) (ls' := [some (.ref 0), some (.int t), none]) (st' := [.int t, .ref 0]) (h' := (N, SH v T, I, L, Dd)) rfl ?_
  refine opt_split (trkX I t) (fun E2 f1 => ?_) (fun f1 => ?_)
  · refine Ev.callV (As := [.int t]) (rest := []) dvX6_requireTrack mkX6_117 rfl rfl dX6_nearestFreeTrack_2 ((c_requireTrack (d := d - 1) (t := t) (N := N) (v := v) (T := T) (I := I) (L := L) (Dd := Dd) hX (by omega) hN4 hN).some f1) ⟨by omega, by show 2 + 19 + 40 * _ ≤ 40 * _; omega⟩ ⟨by omega, by omega⟩ rfl (Nat.le_of_ble_eq_true rfl) (fun v9 h9 e9 => by obtain ⟨T9, e9⟩ := e9; cases e9) (fun E9 h9 e9 => ?_)
    obtain ⟨T9, e9⟩ := e9
    cases e9
    refine EvX.out rfl ?_
    exact outQ_pass 0 (by simp [nearQ, seqX, f1])
  refine Ev.callV (As := [.int t]) (rest := []) dvX6_requireTrack mkX6_117 rfl rfl dX6_nearestFreeTrack_2 ((c_requireTrack (d := d - 1) (t := t) (N := N) (v := v) (T := T) (I := I) (L := L) (Dd := Dd) hX (by omega) hN4 hN).none f1) ⟨by omega, by show 2 + 19 + 40 * _ ≤ 40 * _; omega⟩ ⟨by omega, by omega⟩ rfl (Nat.le_of_ble_eq_true rfl) (fun v9 h9 e9 => ?_) (fun E9 h9 e9 => nomatch e9)
  cases e9
  show Ev _ _ _ _ _ _ 5 [some (.ref 0), some (.int t), none] [] (N, SH v T, I, L, Dd)
  obtain ⟨f9, hf9, rfl⟩ := hasT_nI hsz hJ (trkX_none f1)
  have hcf9 : (nI f9).toNatClampNeg = f9 := nI_clamp (by omega)
  refine Ev.sg hX sX6_nearestFreeTrack_5 (pc' := 10) (ls' := [some (.ref 0), some (.int (nI f9)), none]) (st' := [.int (nI f9), .ref 1]) (h' := (N, SH v T, I, L, Dd)) rfl ?_
  refine Ev.callV (As := [.int (nI f9)]) (rest := []) dvX5_nearestFor mkX6_187 rfl rfl dX6_nearestFreeTrack_10 (c_nearestFor (d := d - 1) (I := I) hX (by omega) (by omega) hsz hJ) ⟨by omega, by show 6 + 19 + 40 * _ ≤ 40 * _; omega⟩ (by decide) rfl (Nat.le_of_ble_eq_true rfl) (fun v9 h9 e9 => ?_) (fun E9 h9 e9 => nomatch e9)
  cases e9
  show Ev _ _ _ _ _ _ 13 [some (.ref 0), some (.int (nI f9)), none] [.int ((nearU I sz f9).2.1)] (N, SH v T, (nearU I sz f9).1, L, Dd)
  refine Ev.sg hX sX6_nearestFreeTrack_13 (pc' := 16) (ls' := [some (.ref 0), some (.int (nI f9)), some (.int ((nearU I sz f9).2.1))]) (st' := [.int (-1), .int ((nearU I sz f9).2.1)]) (h' := (N, SH v T, (nearU I sz f9).1, L, Dd)) rfl ?_
  refine Ev.icmp_ne (tgt := 29) dX6_nearestFreeTrack_16 (by decide) (fun b3 => ?_) (fun b3 => ?_)
  · refine Ev.sg hX sX6_nearestFreeTrack_29 (pc' := 30) (ls' := [some (.ref 0), some (.int (nI f9)), some (.int ((nearU I sz f9).2.1))]) (st' := [.int ((nearU I sz f9).2.1)]) (h' := (N, SH v T, (nearU I sz f9).1, L, Dd)) rfl ?_
    refine Ev.iret dX6_nearestFreeTrack_30 rfl ?_
    exact outQ_ret (by simp [nearQ, seqX, f1, b3, hcf9])
  · refine Ev.mkS (E := "java/util/NoSuchElementException") (si := 9) hX je_12 (by decide +kernel) (by decide +kernel) rfl dX6_nearestFreeTrack_19 (sX6_nearestFreeTrack_22.dc 0 (q := (22, .dup, 0, 0)) rfl) dX6_nearestFreeTrack_23 dX6_nearestFreeTrack_25 (by omega) ⟨by omega, by omega⟩ hN (Nat.le_of_ble_eq_true rfl) ?_
    refine Ev.athrow hX upS_eq rfl dX6_nearestFreeTrack_28 (EvX.out rfl ?_)
    exact outQ_new 0 (by simp [nearQ, seqX, f1, b3, hcf9]) hN4
def soundF : Nat → Nat → (Nat → Nat → Int32) → Int32 × (Nat → Nat → Int32)
  | 0, _, J => (1, J)
  | n + 1, t, J =>
    if pairsF (listO J (nI t)) (J 31 t).toNatClampNeg = (shiftsF (listO (listO J (nI t)) (nI t)) (J 31 t).toNatClampNeg).2 then
      (if nvi (listO (shiftsF (listO (listO J (nI t)) (nI t)) (J 31 t).toNatClampNeg).1 (nI t)) (J 31 t).toNatClampNeg = (if pairsF (listO J (nI t)) (J 31 t).toNatClampNeg = 0 then 1 else 0) then
        (if listO (shiftsF (listO (listO J (nI t)) (nI t)) (J 31 t).toNatClampNeg).1 (nI t) 3 t < listO (shiftsF (listO (listO J (nI t)) (nI t)) (J 31 t).toNatClampNeg).1 (nI t) 33 t then (0, listO (shiftsF (listO (listO J (nI t)) (nI t)) (J 31 t).toNatClampNeg).1 (nI t))
         else soundF n (t + 1) (listO (shiftsF (listO (listO J (nI t)) (nI t)) (J 31 t).toNatClampNeg).1 (nI t)))
       else (0, listO (shiftsF (listO (listO J (nI t)) (nI t)) (J 31 t).toNatClampNeg).1 (nI t)))
    else (0, (shiftsF (listO (listO J (nI t)) (nI t)) (J 31 t).toNatClampNeg).1)
theorem l_sound (hX : JXok X) (hd : 4 ≤ d) {sz : Nat} (hsz : sz ≤ 8) (hJ : I 6 0 = nI sz) (hhs : ∀ t, t < 8 → ∃ hg, hg ≤ 20 ∧ I 31 t = nI hg) : ∀ (n k : Nat) (J : Nat → Nat → Int32), (n + k = sz ∧ eqS J I) → Ev X (jm jdX5_tracksAreSound) d 0 0 (fun R => R = .inl (some (.int ((soundF n k J).1)), (N, SH v T, (soundF n k J).2, L, Dd))) 2 [some (.ref 1), some (.int (nI k)), none] [] (N, SH v T, J, L, Dd) := by
  intro n
  induction n with
  | zero =>
    intro k J hk
    obtain ⟨hk, he⟩ := hk
    have hJ : J 6 0 = nI sz := (congrFun (he 6 (by decide) (by decide) (by decide) (by decide)) 0).trans hJ
    refine Ev.sg hX sX5_tracksAreSound_2 (pc' := 10) (ls' := [some (.ref 1), some (.int (nI k)), none]) (st' := [.int (J 6 0), .int (nI k)]) (h' := (N, SH v T, J, L, Dd)) rfl ?_
    rw [hJ]
    refine Ev.icmp_ge (tgt := 84) dX5_tracksAreSound_10 (by decide) (fun b1 => ?_) (fun b1 => ?_)
    · refine Ev.sg hX sX5_tracksAreSound_84 (pc' := 85) (ls' := [some (.ref 1), some (.int (nI k)), none]) (st' := [.int 1]) (h' := (N, SH v T, J, L, Dd)) rfl ?_
      refine Ev.zret dX5_tracksAreSound_85 rfl ?_ ?_
      · rfl
      rfl
    · exact absurd (((nI_leI (a := sz) (b := k) (by omega) (by omega)).mpr (by omega))) b1
  | succ n ih =>
    intro k J hk
    obtain ⟨hk, he⟩ := hk
    have hJ : J 6 0 = nI sz := (congrFun (he 6 (by decide) (by decide) (by decide) (by decide)) 0).trans hJ
    refine Ev.sg hX sX5_tracksAreSound_2 (pc' := 10) (ls' := [some (.ref 1), some (.int (nI k)), none]) (st' := [.int (J 6 0), .int (nI k)]) (h' := (N, SH v T, J, L, Dd)) rfl ?_
    rw [hJ]
    refine Ev.icmp_ge (tgt := 84) dX5_tracksAreSound_10 (by decide) (fun b1 => ?_) (fun b1 => ?_)
    · exact absurd (((nI_leI (a := sz) (b := k) (by omega) (by omega)).mp b1)) (by omega)
    · obtain ⟨hg, hg20, hhI⟩ := hhs k (by omega)
      have hh : J 31 k = nI hg := (congrFun (he 31 (by decide) (by decide) (by decide) (by decide)) k).trans hhI
      have hch : (J 31 k).toNatClampNeg = hg := by rw [hh]; exact nI_clamp (by omega)
      refine Ev.sg hX sX5_tracksAreSound_13 (pc' := 18) (ls' := [some (.ref 1), some (.int (nI k)), none]) (st' := [.int (nI k), .ref 15]) (h' := (N, SH v T, J, L, Dd)) rfl ?_
      refine Ev.callV (As := [.int (nI k)]) (rest := []) dvX0_pairsOutOfOrder mkX5_140 rfl rfl dX5_tracksAreSound_18 (c_pairs (d := d - 1) (I := J) hX (by omega) (by omega) hg20 ((congrFun ((eqS.rf J) 31 (by decide) (by decide) (by decide) (by decide)) k).trans hh)) ⟨by omega, by show 6 + 19 + 40 * _ ≤ 40 * _; omega⟩ (by decide) rfl (Nat.le_of_ble_eq_true rfl) (fun v9 h9 e9 => ?_) (fun E9 h9 e9 => nomatch e9)
      cases e9
      show Ev _ _ _ _ _ _ 21 [some (.ref 1), some (.int (nI k)), none] [.int (pairsF (listO J (nI k)) hg)] (N, SH v T, listO J (nI k), L, Dd)
      refine Ev.sg hX sX5_tracksAreSound_21 (pc' := 28) (ls' := [some (.ref 1), some (.int (nI k)), some (.int (pairsF (listO J (nI k)) hg))]) (st' := [.int (nI k), .ref 15, .int (pairsF (listO J (nI k)) hg)]) (h' := (N, SH v T, listO J (nI k), L, Dd)) rfl ?_
      refine Ev.callV (As := [.int (nI k)]) (rest := [.int (pairsF (listO J (nI k)) hg)]) dvX0_shiftsOfInsertion mkX5_143 rfl rfl dX5_tracksAreSound_28 (c_shifts (d := d - 1) (I := (listO J (nI k))) hX (by omega) (by omega) hg20 ((congrFun ((listO_eq.tr (eqS.rf J)) 31 (by decide) (by decide) (by decide) (by decide)) k).trans hh)) ⟨by omega, by show 7 + 19 + 40 * _ ≤ 40 * _; omega⟩ (by decide) rfl (Nat.le_of_ble_eq_true rfl) (fun v9 h9 e9 => ?_) (fun E9 h9 e9 => nomatch e9)
      cases e9
      show Ev _ _ _ _ _ _ 31 [some (.ref 1), some (.int (nI k)), some (.int (pairsF (listO J (nI k)) hg))] [.int ((shiftsF (listO (listO J (nI k)) (nI k)) hg).2), .int (pairsF (listO J (nI k)) hg)] (N, SH v T, (shiftsF (listO (listO J (nI k)) (nI k)) hg).1, L, Dd)
      refine Ev.icmp_ne (tgt := 76) dX5_tracksAreSound_31 (by decide) (fun b2 => ?_) (fun b2 => ?_)
      · refine Ev.sg hX sX5_tracksAreSound_76 (pc' := 77) (ls' := [some (.ref 1), some (.int (nI k)), some (.int (pairsF (listO J (nI k)) hg))]) (st' := [.int 0]) (h' := (N, SH v T, (shiftsF (listO (listO J (nI k)) (nI k)) hg).1, L, Dd)) rfl ?_
        refine Ev.zret dX5_tracksAreSound_77 rfl ?_ ?_
        · rfl
        simp [soundF, hch, b2]
      · refine Ev.sg hX sX5_tracksAreSound_34 (pc' := 39) (ls' := [some (.ref 1), some (.int (nI k)), some (.int (pairsF (listO J (nI k)) hg))]) (st' := [.int (nI k), .ref 15]) (h' := (N, SH v T, (shiftsF (listO (listO J (nI k)) (nI k)) hg).1, L, Dd)) rfl ?_
        refine Ev.callV (As := [.int (nI k)]) (rest := []) dvX0_neverIncrease mkX5_146 rfl rfl dX5_tracksAreSound_39 (c_neverIncrease (d := d - 1) (I := ((shiftsF (listO (listO J (nI k)) (nI k)) hg).1)) hX (by omega) (by omega) hg20 ((congrFun ((shifts_eq (listO_eq.tr (listO_eq.tr (eqS.rf J)))) 31 (by decide) (by decide) (by decide) (by decide)) k).trans hh)) ⟨by omega, by show 4 + 19 + 40 * _ ≤ 40 * _; omega⟩ (by decide) rfl (Nat.le_of_ble_eq_true rfl) (fun v9 h9 e9 => ?_) (fun E9 h9 e9 => nomatch e9)
        cases e9
        show Ev _ _ _ _ _ _ 42 [some (.ref 1), some (.int (nI k)), some (.int (pairsF (listO J (nI k)) hg))] [.int (nvi (listO ((shiftsF (listO (listO J (nI k)) (nI k)) hg).1) (nI k)) hg)] (N, SH v T, listO ((shiftsF (listO (listO J (nI k)) (nI k)) hg).1) (nI k), L, Dd)
        have eJ3 : eqS (listO ((shiftsF (listO (listO J (nI k)) (nI k)) hg).1) (nI k)) J := (listO_eq.tr (shifts_eq (listO_eq.tr (listO_eq.tr (eqS.rf J)))))
        generalize hJ3 : listO ((shiftsF (listO (listO J (nI k)) (nI k)) hg).1) (nI k) = J3 at eJ3 ⊢
        refine Ev.sg hX sX5_tracksAreSound_42 (pc' := 43) (ls' := [some (.ref 1), some (.int (nI k)), some (.int (pairsF (listO J (nI k)) hg))]) (st' := [.int (pairsF (listO J (nI k)) hg), .int (nvi J3 hg)]) (h' := (N, SH v T, J3, L, Dd)) rfl ?_
        refine Ev.if_ne (tgt := 50) dX5_tracksAreSound_43 (by decide) (fun b3 => ?_) (fun b3 => ?_)
        · refine Ev.sg hX sX5_tracksAreSound_50 (pc' := 51) (ls' := [some (.ref 1), some (.int (nI k)), some (.int (pairsF (listO J (nI k)) hg))]) (st' := [.int 0, .int (nvi J3 hg)]) (h' := (N, SH v T, J3, L, Dd)) rfl ?_
          refine Ev.icmp_ne (tgt := 76) dX5_tracksAreSound_51 (by decide) (fun b4 => ?_) (fun b4 => ?_)
          · refine Ev.sg hX sX5_tracksAreSound_76 (pc' := 77) (ls' := [some (.ref 1), some (.int (nI k)), some (.int (pairsF (listO J (nI k)) hg))]) (st' := [.int 0]) (h' := (N, SH v T, J3, L, Dd)) rfl ?_
            refine Ev.zret dX5_tracksAreSound_77 rfl ?_ ?_
            · rfl
            simp [soundF, hch, hJ3, b2.symm, b3, b4]
          · refine Ev.sg hX sX5_tracksAreSound_54 (pc' := 62) (ls' := [some (.ref 1), some (.int (nI k)), some (.int (pairsF (listO J (nI k)) hg))]) (st' := [.int (nI k), .ref 32]) (h' := (N, SH v T, J3, L, Dd)) rfl ?_
            refine Ev.callV (As := [.int (nI k)]) (rest := []) dvX4_get mkX5_64 rfl rfl dX5_tracksAreSound_62 (c_Row_getN (d := d - 1) (h := (N, SH v T, J3, L, Dd)) (r := 32) (a := 33) (n := 8) hX rfl rfl (by decide) (by omega)) ⟨by omega, by show 2 + 19 + 40 * _ ≤ 40 * _; omega⟩ (by decide) rfl (Nat.le_of_ble_eq_true rfl) (fun v9 h9 e9 => ?_) (fun E9 h9 e9 => nomatch e9)
            cases e9
            show Ev _ _ _ _ _ _ 65 [some (.ref 1), some (.int (nI k)), some (.int (pairsF (listO J (nI k)) hg))] [.int (J3 33 k)] (N, SH v T, J3, L, Dd)
            refine Ev.sg hX sX5_tracksAreSound_65 (pc' := 70) (ls' := [some (.ref 1), some (.int (nI k)), some (.int (pairsF (listO J (nI k)) hg))]) (st' := [.int (nI k), .ref 2, .int (J3 33 k)]) (h' := (N, SH v T, J3, L, Dd)) rfl ?_
            refine Ev.callV (As := [.int (nI k)]) (rest := [.int (J3 33 k)]) dvX4_get mkX5_64 rfl rfl dX5_tracksAreSound_70 (c_Row_getN (d := d - 1) (h := (N, SH v T, J3, L, Dd)) (r := 2) (a := 3) (n := 8) hX rfl rfl (by decide) (by omega)) ⟨by omega, by show 2 + 19 + 40 * _ ≤ 40 * _; omega⟩ (by decide) rfl (Nat.le_of_ble_eq_true rfl) (fun v9 h9 e9 => ?_) (fun E9 h9 e9 => nomatch e9)
            cases e9
            show Ev _ _ _ _ _ _ 73 [some (.ref 1), some (.int (nI k)), some (.int (pairsF (listO J (nI k)) hg))] [.int (J3 3 k), .int (J3 33 k)] (N, SH v T, J3, L, Dd)
            refine Ev.icmp_le (tgt := 78) dX5_tracksAreSound_73 (by decide) (fun b5 => ?_) (fun b5 => ?_)
            · refine Ev.sg hX sX5_tracksAreSound_78 (pc' := 2) (ls' := [some (.ref 1), some (.int ((nI k) + 1)), some (.int (pairsF (listO J (nI k)) hg))]) (st' := []) (h' := (N, SH v T, J3, L, Dd)) rfl ?_
              rw [nI_1, show soundF (n + 1) k J = soundF n (k + 1) (J3) from by simp [soundF, hch, hJ3, b2.symm, b3, b4, Int32.not_lt.mpr b5]]
              exact Ev.drop 2 (ih (k + 1) _ ⟨by omega, (eJ3.tr he)⟩)
            · refine Ev.sg hX sX5_tracksAreSound_76 (pc' := 77) (ls' := [some (.ref 1), some (.int (nI k)), some (.int (pairsF (listO J (nI k)) hg))]) (st' := [.int 0]) (h' := (N, SH v T, J3, L, Dd)) rfl ?_
              refine Ev.zret dX5_tracksAreSound_77 rfl ?_ ?_
              · rfl
              simp [soundF, hch, hJ3, b2.symm, b3, b4, Int32.not_le.mp b5]
        · refine Ev.sg hX sX5_tracksAreSound_46 (pc' := 51) (ls' := [some (.ref 1), some (.int (nI k)), some (.int (pairsF (listO J (nI k)) hg))]) (st' := [.int 1, .int (nvi J3 hg)]) (h' := (N, SH v T, J3, L, Dd)) rfl ?_
          refine Ev.icmp_ne (tgt := 76) dX5_tracksAreSound_51 (by decide) (fun b6 => ?_) (fun b6 => ?_)
          · refine Ev.sg hX sX5_tracksAreSound_76 (pc' := 77) (ls' := [some (.ref 1), some (.int (nI k)), some (.int (pairsF (listO J (nI k)) hg))]) (st' := [.int 0]) (h' := (N, SH v T, J3, L, Dd)) rfl ?_
            refine Ev.zret dX5_tracksAreSound_77 rfl ?_ ?_
            · rfl
            simp [soundF, hch, hJ3, b2.symm, b3, b6]
          · refine Ev.sg hX sX5_tracksAreSound_54 (pc' := 62) (ls' := [some (.ref 1), some (.int (nI k)), some (.int (pairsF (listO J (nI k)) hg))]) (st' := [.int (nI k), .ref 32]) (h' := (N, SH v T, J3, L, Dd)) rfl ?_
            refine Ev.callV (As := [.int (nI k)]) (rest := []) dvX4_get mkX5_64 rfl rfl dX5_tracksAreSound_62 (c_Row_getN (d := d - 1) (h := (N, SH v T, J3, L, Dd)) (r := 32) (a := 33) (n := 8) hX rfl rfl (by decide) (by omega)) ⟨by omega, by show 2 + 19 + 40 * _ ≤ 40 * _; omega⟩ (by decide) rfl (Nat.le_of_ble_eq_true rfl) (fun v9 h9 e9 => ?_) (fun E9 h9 e9 => nomatch e9)
            cases e9
            show Ev _ _ _ _ _ _ 65 [some (.ref 1), some (.int (nI k)), some (.int (pairsF (listO J (nI k)) hg))] [.int (J3 33 k)] (N, SH v T, J3, L, Dd)
            refine Ev.sg hX sX5_tracksAreSound_65 (pc' := 70) (ls' := [some (.ref 1), some (.int (nI k)), some (.int (pairsF (listO J (nI k)) hg))]) (st' := [.int (nI k), .ref 2, .int (J3 33 k)]) (h' := (N, SH v T, J3, L, Dd)) rfl ?_
            refine Ev.callV (As := [.int (nI k)]) (rest := [.int (J3 33 k)]) dvX4_get mkX5_64 rfl rfl dX5_tracksAreSound_70 (c_Row_getN (d := d - 1) (h := (N, SH v T, J3, L, Dd)) (r := 2) (a := 3) (n := 8) hX rfl rfl (by decide) (by omega)) ⟨by omega, by show 2 + 19 + 40 * _ ≤ 40 * _; omega⟩ (by decide) rfl (Nat.le_of_ble_eq_true rfl) (fun v9 h9 e9 => ?_) (fun E9 h9 e9 => nomatch e9)
            cases e9
            show Ev _ _ _ _ _ _ 73 [some (.ref 1), some (.int (nI k)), some (.int (pairsF (listO J (nI k)) hg))] [.int (J3 3 k), .int (J3 33 k)] (N, SH v T, J3, L, Dd)
            refine Ev.icmp_le (tgt := 78) dX5_tracksAreSound_73 (by decide) (fun b7 => ?_) (fun b7 => ?_)
            · refine Ev.sg hX sX5_tracksAreSound_78 (pc' := 2) (ls' := [some (.ref 1), some (.int ((nI k) + 1)), some (.int (pairsF (listO J (nI k)) hg))]) (st' := []) (h' := (N, SH v T, J3, L, Dd)) rfl ?_
              rw [nI_1, show soundF (n + 1) k J = soundF n (k + 1) (J3) from by simp [soundF, hch, hJ3, b2.symm, b3, b6, Int32.not_lt.mpr b7]]
              exact Ev.drop 2 (ih (k + 1) _ ⟨by omega, (eJ3.tr he)⟩)
            · refine Ev.sg hX sX5_tracksAreSound_76 (pc' := 77) (ls' := [some (.ref 1), some (.int (nI k)), some (.int (pairsF (listO J (nI k)) hg))]) (st' := [.int 0]) (h' := (N, SH v T, J3, L, Dd)) rfl ?_
              refine Ev.zret dX5_tracksAreSound_77 rfl ?_ ?_
              · rfl
              simp [soundF, hch, hJ3, b2.symm, b3, b6, Int32.not_le.mp b7]
theorem c_sound (hX : JXok X) (hd : 4 ≤ d) {sz : Nat} (hsz : sz ≤ 8) (hJ : I 6 0 = nI sz) (hhs : ∀ t, t < 8 → ∃ hg, hg ≤ 20 ∧ I 31 t = nI hg) : MT X d 0 0 jdX5_tracksAreSound [.ref 1] (N, SH v T, I, L, Dd) (fun R => R = .inl (some (.int ((soundF sz 0 I).1)), (N, SH v T, (soundF sz 0 I).2, L, Dd))) := by
  refine MT.mk dvX5_tracksAreSound.1 ?_
  refine Ev.sg hX sX5_tracksAreSound_0 (pc' := 2) (ls' := [some (.ref 1), some (.int 0), none]) (st' := []) (h' := (N, SH v T, I, L, Dd)) rfl ?_
  exact l_sound hX hd hsz hJ hhs sz 0 I ⟨rfl, eqS.rf I⟩
def consF (I : Nat → Nat → Int32) (sz : Nat) : Int32 × (Nat → Nat → Int32) := if (wayF sz sz 0 (matI I sz)).1 = 0 then (0, (wayF sz sz 0 (matI I sz)).2) else (if (soundF sz 0 (wayF sz sz 0 (matI I sz)).2).1 = 0 then 0 else 1, (soundF sz 0 (wayF sz sz 0 (matI I sz)).2).2)
theorem hhs_of {I J : Nat → Nat → Int32} (h : eqS J I) (hhs : ∀ t, t < 8 → ∃ hg, hg ≤ 20 ∧ I 31 t = nI hg) : ∀ t, t < 8 → ∃ hg, hg ≤ 20 ∧ J 31 t = nI hg := by
  intro t ht
  obtain ⟨hg, h1, h2⟩ := hhs t ht
  exact ⟨hg, h1, (congrFun (h 31 (by decide) (by decide) (by decide) (by decide)) t).trans h2⟩
theorem sz_of {I J : Nat → Nat → Int32} {sz : Nat} (h : eqS J I) (hJ : I 6 0 = nI sz) : J 6 0 = nI sz := (congrFun (h 6 (by decide) (by decide) (by decide) (by decide)) 0).trans hJ
theorem c_isConsistent (hX : JXok X) (hd : 5 ≤ d) {sz : Nat} (hsz : sz ≤ 8) (hJ : I 6 0 = nI sz) (hhs : ∀ t, t < 8 → ∃ hg, hg ≤ 20 ∧ I 31 t = nI hg) : MT X d 0 0 jdX6_isConsistent [.ref 0] (N, SH v T, I, L, Dd) (fun R => R = .inl (some (.int ((consF I sz).1)), (N, SH v T, (consF I sz).2, L, Dd))) := by
  refine MT.mk dvX6_isConsistent.1 ?_
  refine Ev.sg hX sX6_isConsistent_0 (pc' := 7) (ls' := [some (.ref 0)]) (st' := [.ref 6]) (h' := (N, SH v T, I, L, Dd)) rfl ?_
  refine Ev.callV (As := []) (rest := []) dvX2_waysAgree mkX6_257 rfl rfl dX6_isConsistent_7 (c_waysAgree (d := d - 1) (I := I) hX (by omega) hsz hJ) ⟨by omega, by show 3 + 19 + 40 * _ ≤ 40 * _; omega⟩ (by decide) rfl (Nat.le_of_ble_eq_true rfl) (fun v9 h9 e9 => ?_) (fun E9 h9 e9 => nomatch e9)
  cases e9
  show Ev _ _ _ _ _ _ 10 [some (.ref 0)] [.int ((wayF sz sz 0 (matI I sz)).1)] (N, SH v T, (wayF sz sz 0 (matI I sz)).2, L, Dd)
  refine Ev.if_eq (tgt := 27) dX6_isConsistent_10 (by decide) (fun b1 => ?_) (fun b1 => ?_)
  · refine Ev.sg hX sX6_isConsistent_27 (pc' := 28) (ls' := [some (.ref 0)]) (st' := [.int 0]) (h' := (N, SH v T, (wayF sz sz 0 (matI I sz)).2, L, Dd)) rfl ?_
    refine Ev.zret dX6_isConsistent_28 rfl ?_ ?_
    · rfl
    simp [consF, b1]
  · refine Ev.sg hX sX6_isConsistent_13 (pc' := 17) (ls' := [some (.ref 0)]) (st' := [.ref 1]) (h' := (N, SH v T, (wayF sz sz 0 (matI I sz)).2, L, Dd)) rfl ?_
    refine Ev.callV (As := []) (rest := []) dvX5_tracksAreSound mkX6_261 rfl rfl dX6_isConsistent_17 (c_sound (d := d - 1) (I := ((wayF sz sz 0 (matI I sz)).2)) hX (by omega) hsz (sz_of (way_eq _ _ _ (mat_eq.tr (eqS.rf I))) hJ) (hhs_of (way_eq _ _ _ (mat_eq.tr (eqS.rf I))) hhs)) ⟨by omega, by show 3 + 19 + 40 * _ ≤ 40 * _; omega⟩ (by decide) rfl (Nat.le_of_ble_eq_true rfl) (fun v9 h9 e9 => ?_) (fun E9 h9 e9 => nomatch e9)
    cases e9
    show Ev _ _ _ _ _ _ 20 [some (.ref 0)] [.int ((soundF sz 0 ((wayF sz sz 0 (matI I sz)).2)).1)] (N, SH v T, (soundF sz 0 ((wayF sz sz 0 (matI I sz)).2)).2, L, Dd)
    refine Ev.if_eq (tgt := 27) dX6_isConsistent_20 (by decide) (fun b2 => ?_) (fun b2 => ?_)
    · refine Ev.sg hX sX6_isConsistent_27 (pc' := 28) (ls' := [some (.ref 0)]) (st' := [.int 0]) (h' := (N, SH v T, (soundF sz 0 ((wayF sz sz 0 (matI I sz)).2)).2, L, Dd)) rfl ?_
      refine Ev.zret dX6_isConsistent_28 rfl ?_ ?_
      · rfl
      simp [consF, b1, b2]
    · refine Ev.sg hX sX6_isConsistent_23 (pc' := 28) (ls' := [some (.ref 0)]) (st' := [.int 1]) (h' := (N, SH v T, (soundF sz 0 ((wayF sz sz 0 (matI I sz)).2)).2, L, Dd)) rfl ?_
      refine Ev.zret dX6_isConsistent_28 rfl ?_ ?_
      · rfl
      simp [consF, b1, b2]
theorem c_meanMoveTime (hX : JXok X) (hd : 6 ≤ d) (hN4 : 396 ≤ N) (hN : N + 1 < BIG) (hnn : ¬ I 1 5 = 0 → vf_n64 (FP.ddiv (FP.l2d (L 1 4)) (FP.i2d (I 1 5)))) : MT X d 4 24 jdX6_meanMoveTime [.ref 0] (N, SH v T, I, L, Dd) (outE (if I 1 5 = 0 then some "java/lang/ArithmeticException" else none) N v T I L Dd (.inl (some (.double (FP.ddiv (FP.l2d (L 1 4)) (FP.i2d (I 1 5)))), (N, SH v T, I, L, Dd)))) := by
  refine MT.mk dvX6_meanMoveTime.1 ?_
  refine Ev.sg hX sX6_meanMoveTime_0 (pc' := 7) (ls' := [some (.ref 0)]) (st' := [.int (I 1 5)]) (h' := (N, SH v T, I, L, Dd)) rfl ?_
  refine Ev.if_ne (tgt := 20) dX6_meanMoveTime_7 (by decide) (fun b1 => ?_) (fun b1 => ?_)
  · refine Ev.sg hX sX6_meanMoveTime_20 (pc' := 36) (ls' := [some (.ref 0)]) (st' := [.double (FP.i2d (I 1 5)), .double (FP.l2d (L 1 4))]) (h' := (N, SH v T, I, L, Dd)) rfl ?_
    refine Ev.ddiv (hnn b1) dX6_meanMoveTime_36 ?_
    refine Ev.dret dX6_meanMoveTime_37 rfl ?_
    exact outE_ret (if_neg b1)
  · refine Ev.mkS (E := "java/lang/ArithmeticException") (si := 13) hX je_14 (by decide +kernel) (by decide +kernel) rfl dX6_meanMoveTime_10 (sX6_meanMoveTime_13.dc 0 (q := (13, .dup, 0, 0)) rfl) dX6_meanMoveTime_14 dX6_meanMoveTime_16 (by omega) ⟨by omega, by omega⟩ hN (Nat.le_of_ble_eq_true rfl) ?_
    refine Ev.athrow hX upS_eq rfl dX6_meanMoveTime_19 (EvX.out rfl ?_)
    exact outE_new hN4 (if_pos b1)
theorem c_usedShare (hX : JXok X) (hd : 6 ≤ d) (hN4 : 396 ≤ N) (hN : N + 1 < BIG) {sz : Nat} (hsz : sz ≤ 8) (hJ : I 6 0 = nI sz) (hnn : ¬ capF I sz = 0 → vf_n32 (FP.fdiv (FP.i2f (usedF I sz)) (FP.i2f (capF I sz)))) : MT X d 4 24 jdX6_usedShare [.ref 0] (N, SH v T, I, L, Dd) (outE (if capF I sz = 0 then some "java/lang/ArithmeticException" else none) N v T I L Dd (.inl (some (.float (FP.fdiv (FP.i2f (usedF I sz)) (FP.i2f (capF I sz)))), (N, SH v T, I, L, Dd)))) := by
  refine MT.mk dvX6_usedShare.1 ?_
  refine Ev.sg hX sX6_usedShare_0 (pc' := 4) (ls' := [some (.ref 0), none]) (st' := [.ref 1]) (h' := (N, SH v T, I, L, Dd)) rfl ?_
  refine Ev.callV (As := []) (rest := []) dvX5_capacityOfAll mkX6_248 rfl rfl dX6_usedShare_4 (c_capF (d := d - 1) (I := I) hX (by omega) hsz hJ) ⟨by omega, by show 3 + 19 + 40 * _ ≤ 40 * _; omega⟩ (by decide) rfl (Nat.le_of_ble_eq_true rfl) (fun v9 h9 e9 => ?_) (fun E9 h9 e9 => nomatch e9)
  cases e9
  show Ev _ _ _ _ _ _ 7 [some (.ref 0), none] [.int (capF I sz)] (N, SH v T, I, L, Dd)
  refine Ev.sg hX sX6_usedShare_7 (pc' := 9) (ls' := [some (.ref 0), some (.int (capF I sz))]) (st' := [.int (capF I sz)]) (h' := (N, SH v T, I, L, Dd)) rfl ?_
  refine Ev.if_ne (tgt := 22) dX6_usedShare_9 (by decide) (fun b1 => ?_) (fun b1 => ?_)
  · refine Ev.sg hX sX6_usedShare_22 (pc' := 26) (ls' := [some (.ref 0), some (.int (capF I sz))]) (st' := [.ref 1]) (h' := (N, SH v T, I, L, Dd)) rfl ?_
    refine Ev.callV (As := []) (rest := []) dvX5_usedOfAll mkX6_254 rfl rfl dX6_usedShare_26 (c_usedF (d := d - 1) (I := I) hX (by omega) hsz hJ) ⟨by omega, by show 3 + 19 + 40 * _ ≤ 40 * _; omega⟩ (by decide) rfl (Nat.le_of_ble_eq_true rfl) (fun v9 h9 e9 => ?_) (fun E9 h9 e9 => nomatch e9)
    cases e9
    show Ev _ _ _ _ _ _ 29 [some (.ref 0), some (.int (capF I sz))] [.int (usedF I sz)] (N, SH v T, I, L, Dd)
    refine Ev.sg hX sX6_usedShare_29 (pc' := 32) (ls' := [some (.ref 0), some (.int (capF I sz))]) (st' := [.float (FP.i2f (capF I sz)), .float (FP.i2f (usedF I sz))]) (h' := (N, SH v T, I, L, Dd)) rfl ?_
    refine Ev.fdiv (hnn b1) dX6_usedShare_32 ?_
    refine Ev.fret dX6_usedShare_33 rfl ?_
    exact outE_ret (if_neg b1)
  · refine Ev.mkS (E := "java/lang/ArithmeticException") (si := 14) hX je_14 (by decide +kernel) (by decide +kernel) rfl dX6_usedShare_12 (sX6_usedShare_15.dc 0 (q := (15, .dup, 0, 0)) rfl) dX6_usedShare_16 dX6_usedShare_18 (by omega) ⟨by omega, by omega⟩ hN (Nat.le_of_ble_eq_true rfl) ?_
    refine Ev.athrow hX upS_eq rfl dX6_usedShare_21 (EvX.out rfl ?_)
    exact outE_new hN4 (if_pos b1)
def undoI (I : Nat → Nat → Int32) (k : Nat) : Nat → Nat → Int32 := yardCpI (takeI I k) 1 (108 + 35 * ringPrev k)
theorem c_undo (hX : JXok X) (hd : 6 ≤ d) (hN4 : 396 ≤ N) (hN : N + 1 < BIG) {k m : Nat} (hk : k < 8) (hk9 : I 71 1 = nI k) (hm : m ≤ 8) (hm9 : I 71 2 = nI m) : MT X d 4 24 jdX6_undo [.ref 0] (N, SH v T, I, L, Dd) (outE (if I 71 2 = 0 then some "java/lang/IllegalStateException" else none) N v T I L Dd (.inl (some (.int (undoI I k 71 2)), (N, SH v T, undoI I k, yardCpL L 1 (108 + 35 * ringPrev k), Dd)))) := by
  refine MT.mk dvX6_undo.1 ?_
  refine Ev.sg hX sX6_undo_0 (pc' := 7) (ls' := [some (.ref 0)]) (st' := [.int (I 71 2)]) (h' := (N, SH v T, I, L, Dd)) rfl ?_
  refine Ev.if_ne (tgt := 21) dX6_undo_7 (by decide) (fun b1 => ?_) (fun b1 => ?_)
  · refine Ev.sg hX sX6_undo_21 (pc' := 29) (ls' := [some (.ref 0)]) (st' := [.ref 71, .ref 1]) (h' := (N, SH v T, I, L, Dd)) rfl ?_
    refine Ev.callV (As := []) (rest := [.ref 1]) dvX1_takeLatest mkX6_343 rfl rfl dX6_undo_29 (c_takeLatest (d := d - 1) (I := I) hX (by omega) hk hk9) ⟨by omega, by show 1 + 19 + 40 * _ ≤ 40 * _; omega⟩ (by decide) rfl (Nat.le_of_ble_eq_true rfl) (fun v9 h9 e9 => ?_) (fun E9 h9 e9 => nomatch e9)
    cases e9
    show Ev _ _ _ _ _ _ 32 [some (.ref 0)] [.ref (108 + 35 * ringPrev k), .ref 1] (N, SH v T, takeI I k, L, Dd)
    refine Ev.callV (As := [.ref (108 + 35 * ringPrev k)]) (rest := []) dvX5_copy mkX6_284 rfl rfl dX6_undo_32 (c_Yard_copy (d := d - 1) (b := 1) (b2 := (108 + 35 * ringPrev k)) (S := SH v T) (I := takeI I k) (L := L) hX (by omega) YS_1 (YS_p (ringPrev_lt hk))) ⟨by omega, by show 2 + 19 + 40 * _ ≤ 40 * _; omega⟩ (by decide) rfl (Nat.le_of_ble_eq_true rfl) (fun v9 h9 e9 => ?_) (fun E9 h9 e9 => nomatch e9)
    cases e9
    show Ev _ _ _ _ _ _ 35 [some (.ref 0)] [] (N, SH v T, yardCpI (takeI I k) 1 (108 + 35 * ringPrev k), yardCpL L 1 (108 + 35 * ringPrev k), Dd)
    refine Ev.sg hX sX6_undo_35 (pc' := 42) (ls' := [some (.ref 0)]) (st' := [.int ((yardCpI (takeI I k) 1 (108 + 35 * ringPrev k)) 71 2)]) (h' := (N, SH v T, yardCpI (takeI I k) 1 (108 + 35 * ringPrev k), yardCpL L 1 (108 + 35 * ringPrev k), Dd)) rfl ?_
    refine Ev.iret dX6_undo_42 rfl ?_
    exact outE_ret (if_neg b1)
  · refine Ev.mkSW (E := "java/lang/IllegalStateException") (si := 34) hX je_10 (by decide +kernel) (by decide +kernel) rfl dX6_undo_10 (sX6_undo_13.dc 0 (q := (13, .dup, 0, 0)) rfl) dX6_undo_14 dX6_undo_17 (by omega) ⟨by omega, by omega⟩ hN (Nat.le_of_ble_eq_true rfl) ?_
    refine Ev.athrow hX upS_eq rfl dX6_undo_20 (EvX.out rfl ?_)
    exact outE_new hN4 (if_pos b1)
theorem c_save (hX : JXok X) (hd : 6 ≤ d) : MT X d 0 0 jdX6_save [.ref 0] (N, SH v T, I, L, Dd) (fun R => R = .inl (none, (N, SH v T, up2 (yardCpI I 73 1) 71 4 1, yardCpL L 73 1, Dd))) := by
  refine MT.mk dvX6_save.1 ?_
  refine Ev.sg hX sX6_save_0 (pc' := 8) (ls' := [some (.ref 0)]) (st' := [.ref 1, .ref 71]) (h' := (N, SH v T, I, L, Dd)) rfl ?_
  refine Ev.callV (As := [.ref 1]) (rest := []) dvX1_keep mkX6_347 rfl rfl dX6_save_8 (c_keep (d := d - 1) hX (by omega)) ⟨by omega, by show 2 + 19 + 40 * _ ≤ 40 * _; omega⟩ (by decide) rfl (Nat.le_of_ble_eq_true rfl) (fun v9 h9 e9 => ?_) (fun E9 h9 e9 => nomatch e9)
  cases e9
  show Ev _ _ _ _ _ _ 11 [some (.ref 0)] [] (N, SH v T, up2 (yardCpI I 73 1) 71 4 1, yardCpL L 73 1, Dd)
  refine Ev.vret dX6_save_11 rfl ?_
  rfl
theorem c_restore (hX : JXok X) (hd : 6 ≤ d) (hN4 : 396 ≤ N) (hN : N + 1 < BIG) : MT X d 4 24 jdX6_restore [.ref 0] (N, SH v T, I, L, Dd) (outE (if I 71 4 = 0 then some "java/lang/IllegalStateException" else none) N v T I L Dd (.inl (none, (N, SH v T, up2 (yardCpI I 1 73) 71 2 0, yardCpL L 1 73, Dd)))) := by
  refine MT.mk dvX6_restore.1 ?_
  refine Ev.sg hX sX6_restore_0 (pc' := 7) (ls' := [some (.ref 0)]) (st' := [.int (I 71 4)]) (h' := (N, SH v T, I, L, Dd)) rfl ?_
  refine Ev.if_ne (tgt := 21) dX6_restore_7 (by decide) (fun b1 => ?_) (fun b1 => ?_)
  · refine Ev.sg hX sX6_restore_21 (pc' := 32) (ls' := [some (.ref 0)]) (st' := [.ref 73, .ref 1]) (h' := (N, SH v T, I, L, Dd)) rfl ?_
    refine Ev.callV (As := [.ref 73]) (rest := []) dvX5_copy mkX6_284 rfl rfl dX6_restore_32 (c_Yard_copy (d := d - 1) (b := 1) (b2 := 73) (S := SH v T) (I := I) (L := L) hX (by omega) YS_1 YS_73) ⟨by omega, by show 2 + 19 + 40 * _ ≤ 40 * _; omega⟩ (by decide) rfl (Nat.le_of_ble_eq_true rfl) (fun v9 h9 e9 => ?_) (fun E9 h9 e9 => nomatch e9)
    cases e9
    show Ev _ _ _ _ _ _ 35 [some (.ref 0)] [] (N, SH v T, yardCpI I 1 73, yardCpL L 1 73, Dd)
    refine Ev.sg hX sX6_restore_35 (pc' := 43) (ls' := [some (.ref 0)]) (st' := []) (h' := (N, SH v T, up2 (yardCpI I 1 73) 71 2 0, yardCpL L 1 73, Dd)) rfl ?_
    refine Ev.vret dX6_restore_43 rfl ?_
    exact outE_ret (if_neg b1)
  · refine Ev.mkSW (E := "java/lang/IllegalStateException") (si := 35) hX je_10 (by decide +kernel) (by decide +kernel) rfl dX6_restore_10 (sX6_restore_13.dc 0 (q := (13, .dup, 0, 0)) rfl) dX6_restore_14 dX6_restore_17 (by omega) ⟨by omega, by omega⟩ hN (Nat.le_of_ble_eq_true rfl) ?_
    refine Ev.athrow hX upS_eq rfl dX6_restore_20 (EvX.out rfl ?_)
    exact outE_new hN4 (if_pos b1)
def addI (I : Nat → Nat → Int32) (q : Nat) (c : Int32) : Nat → Nat → Int32 := up2 (up2 I 389 q c) 388 1 ((up2 I 389 q c) 388 1 + 1)
theorem c_add (hX : JXok X) (hd : 0 ≤ d) {q : Nat} (hq60 : q < 60) (hq9 : I 388 1 = nI q) (hc : vp_nar .char c = c) : MT X d 0 0 jdX3_add [.ref 388, .int c] (N, SH v T, I, L, Dd) (fun R => R = .inl (some (.int (addI I q c 388 1)), (N, SH v T, addI I q c, L, Dd))) := by
  refine MT.mk dvX3_add.1 ?_
  refine Ev.sg hX sX3_add_0 (pc' := 4) (ls' := [some (.ref 388), some (.int c)]) (st' := [.int (I 388 1)]) (h' := (N, SH v T, I, L, Dd)) rfl ?_
  refine Ev.if_lt (tgt := 39) dX3_add_4 (by decide) (fun b1 => ?_) (fun b1 => ?_)
  · exact absurd b1 (by rw [hq9]; exact nI_pos (by omega))
  · refine Ev.sg hX sX3_add_7 (pc' := 16) (ls' := [some (.ref 388), some (.int c)]) (st' := [.int 60, .int (I 388 1)]) (h' := (N, SH v T, I, L, Dd)) rfl ?_
    refine Ev.icmp_ge (tgt := 39) dX3_add_16 (by decide) (fun b2 => ?_) (fun b2 => ?_)
    · exact absurd b2 (by rw [hq9]; exact nI_geN (a := 60) (b := q) (by decide) hq60)
    · refine Ev.sg hX sX3_add_19 (pc' := 28) (ls' := [some (.ref 388), some (.int c)]) (st' := [.int c, .int (I 388 1), .ref 389]) (h' := (N, SH v T, I, L, Dd)) rfl ?_
      refine Ev.castE (y := c) (n := q) hc hX rfl hq9 hq60 (by decide) dX3_add_28 ?_
      show Ev _ _ _ _ _ _ 29 [some (.ref 388), some (.int c)] [] (N, SH v T, up2 I 389 q c, L, Dd)
      refine Ev.sg hX sX3_add_29 (pc' := 39) (ls' := [some (.ref 388), some (.int c)]) (st' := []) (h' := (N, SH v T, up2 (up2 I 389 q c) 388 1 (((up2 I 389 q c) 388 1) + 1), L, Dd)) rfl ?_
      refine Ev.sg hX sX3_add_39 (pc' := 43) (ls' := [some (.ref 388), some (.int c)]) (st' := [.int ((up2 (up2 I 389 q c) 388 1 (((up2 I 389 q c) 388 1) + 1)) 388 1)]) (h' := (N, SH v T, up2 (up2 I 389 q c) 388 1 (((up2 I 389 q c) 388 1) + 1), L, Dd)) rfl ?_
      refine Ev.iret dX3_add_43 rfl ?_
      rfl
theorem c_clear (hX : JXok X) (hd : 0 ≤ d) : MT X d 0 0 jdX3_clear [.ref 388] (N, SH v T, I, L, Dd) (fun R => R = .inl (none, (N, SH v T, up2 I 388 1 0, L, Dd))) := by
  refine MT.mk dvX3_clear.1 ?_
  refine Ev.sg hX sX3_clear_0 (pc' := 5) (ls' := [some (.ref 388)]) (st' := []) (h' := (N, SH v T, up2 I 388 1 0, L, Dd)) rfl ?_
  refine Ev.vret dX3_clear_5 rfl ?_
  rfl
theorem appq {q : Nat} {x : Int32} (hq : q ≤ 60) (hx : x = nI q) (h : x < 60) : q < 60 := by
  subst hx
  exact (nI_ltI (a := q) (b := 60) (by omega) (by decide)).mp h
theorem c_append (hX : JXok X) (hd : 6 ≤ d) (hN4 : 396 ≤ N) (hN : N + 1 < BIG) {q : Nat} (hq60 : q ≤ 60) (hq9 : I 388 1 = nI q) (hc : vp_nar .char c = c) : MT X d 4 24 jdX6_append [.ref 0, .int c] (N, SH v T, I, L, Dd) (outE (if I 388 1 < 60 then none else some "java/lang/IllegalStateException") N v T I L Dd (.inl (some (.int (addI I q c 388 1)), (N, SH v T, addI I q c, L, Dd)))) := by
  refine MT.mk dvX6_append.1 ?_
  refine Ev.sg hX sX6_append_0 (pc' := 9) (ls' := [some (.ref 0), some (.int c)]) (st' := [.int 60, .int (I 388 1)]) (h' := (N, SH v T, I, L, Dd)) rfl ?_
  refine Ev.icmp_lt (tgt := 23) dX6_append_9 (by decide) (fun b1 => ?_) (fun b1 => ?_)
  · refine Ev.sg hX sX6_append_23 (pc' := 28) (ls' := [some (.ref 0), some (.int c)]) (st' := [.int c, .ref 388]) (h' := (N, SH v T, I, L, Dd)) rfl ?_
    refine Ev.callV (As := [.int c]) (rest := []) dvX3_add mkX6_272 rfl rfl dX6_append_28 (c_add (d := d - 1) hX (Nat.zero_le _) (appq hq60 hq9 b1) hq9 hc) ⟨by omega, by show 2 + 19 + 40 * _ ≤ 40 * _; omega⟩ (by decide) rfl (Nat.le_of_ble_eq_true rfl) (fun v9 h9 e9 => ?_) (fun E9 h9 e9 => nomatch e9)
    cases e9
    show Ev _ _ _ _ _ _ 31 [some (.ref 0), some (.int c)] [.int (addI I q c 388 1)] (N, SH v T, addI I q c, L, Dd)
    refine Ev.iret dX6_append_31 rfl ?_
    exact outE_ret (if_pos b1)
  · refine Ev.mkSW (E := "java/lang/IllegalStateException") (si := 15) hX je_10 (by decide +kernel) (by decide +kernel) rfl dX6_append_12 (sX6_append_15.dc 0 (q := (15, .dup, 0, 0)) rfl) dX6_append_16 dX6_append_19 (by omega) ⟨by omega, by omega⟩ hN (Nat.le_of_ble_eq_true rfl) ?_
    refine Ev.athrow hX upS_eq rfl dX6_append_22 (EvX.out rfl ?_)
    exact outE_new hN4 (if_neg b1)
theorem cix5 {a b : Nat} : nI a * 5 + nI b = nI (a * 5 + b) := by rw [show (5 : Int32) = nI 5 from rfl, show nI a * nI 5 = nI (a * 5) from (Int32.ofNat_mul a 5).symm, nI_add]
theorem c_value {a b : Nat} (hX : JXok X) (hd : 1 ≤ d) (hab : a * 5 + b < 40) : MT X d 0 0 jdX3_value [.ref 388, .int (nI a), .int (nI b)] (N, SH v T, I, L, Dd) (fun R => R = .inl (some (.int (I 393 (a * 5 + b))), (N, SH v T, I, L, Dd))) := by
  refine MT.mk dvX3_value.1 ?_
  refine Ev.sg hX sX3_value_0 (pc' := 9) (ls' := [some (.ref 388), some (.int (nI a)), some (.int (nI b))]) (st' := [.int (((nI a) * 5) + (nI b)), .ref 392]) (h' := (N, SH v T, I, L, Dd)) rfl ?_
  refine Ev.callV (As := [.int (((nI a) * 5) + (nI b))]) (rest := []) dvX4_get mkX3_31 rfl rfl dX3_value_9 (c_Row_getE (d := d - 1) (h := (N, SH v T, I, L, Dd)) (r := 392) (a := 393) (n := 40) hX rfl rfl (by decide) hab cix5) ⟨by omega, by show 2 + 19 + 40 * _ ≤ 40 * _; omega⟩ (by decide) rfl (Nat.le_of_ble_eq_true rfl) (fun v9 h9 e9 => ?_) (fun E9 h9 e9 => nomatch e9)
  cases e9
  show Ev _ _ _ _ _ _ 12 [some (.ref 388), some (.int (nI a)), some (.int (nI b))] [.int (I 393 (a * 5 + b))] (N, SH v T, I, L, Dd)
  refine Ev.iret dX3_value_12 rfl ?_
  rfl
end QU3
