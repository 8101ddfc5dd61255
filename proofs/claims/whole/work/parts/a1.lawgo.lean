/-! the law's loop -/
section LGO
variable {X : JX} {mc ms N v i K : Nat} {T : Nat → Option JS} {I : HI} {L : HL} {Dd : HD} {l6 l7 l8 : Option Value}
theorem len_lo {l i : Nat} (hi : i < 2 ^ 31) (hl : l < 2 ^ 31) (h : ¬ i + 6 ≤ l) : nI l - 6 < nI i := by
  by_cases c : 6 ≤ l
  · rw [show nI l - 6 = nI (l - 6) from nI_subN (b := 6) c]
    exact nI_lt (by omega) hi
  · have q : ∀ l, l < 6 → (nI l - 6).toInt < 0 := by decide
    have q1 := q l (by omega)
    have q2 := Int32.le_iff_toInt_le.mp (nI_pos' hi)
    rw [Int32.lt_iff_toInt_lt]
    have e0 : (0 : Int32).toInt = 0 := rfl
    omega
theorem len_hi {l i : Nat} (hi : i < 2 ^ 31) (hl : l < 2 ^ 31) (h : i + 6 ≤ l) : ¬ nI l - 6 < nI i := by
  rw [show nI l - 6 = nI (l - 6) from nI_subN (b := 6) (by omega)]
  intro q
  have := (nI_ltI (by omega) hi).mp q
  omega
theorem sw_k (x : Int32) : (x.toInt < 0 ∨ 46 < x.toInt) ∨ ∃ k, k < 47 ∧ x = nI k := by
  by_cases c : x.toInt < 0
  · exact Or.inl (Or.inl c)
  · by_cases c2 : 46 < x.toInt
    · exact Or.inl (Or.inr c2)
    · right
      obtain ⟨j, hj, e⟩ := nI_of (x := x) (by rw [Int32.lt_iff_toInt_lt]; exact c)
      subst e
      refine ⟨j, ?_, rfl⟩
      have e46 : (nI 46).toInt = 46 := by decide
      have q : nI j ≤ nI 46 := by
        rw [Int32.le_iff_toInt_le, e46]
        exact Int.not_lt.mp c2
      have := (nI_leI hj (by decide)).mp q
      omega
theorem law_sw (hX : JXok X) (hI : INV K N v T I L Dd) (hK : K + 8 ≤ 5000) (hN : N + 1500 < BIG) (hs : i + 6 ≤ jSn X ∧ jSn X ≤ 3072) (hm : 1160 ≤ mc ∧ 1160 ≤ ms) (bk : BK X mc ms N (K + 8) i) : ∀ k, k < 47 → Ev X (jm jdL_law) 20 mc ms lwR 45 (lsW i l6 l7 l8) [.int (nI k)] (N, SH v T, I, L, Dd)
  | 0, _ => Ev.tabIn (tgt := 248) (off := 203) dL_law_45 (by decide +kernel) (by decide +kernel) (by decide +kernel) (by decide) (br_addTrack hX hI hK hN hs hm bk)
  | 1, _ => Ev.tabIn (tgt := 316) (off := 271) dL_law_45 (by decide +kernel) (by decide +kernel) (by decide +kernel) (by decide) (br_connect hX hI hK hN hs hm bk)
  | 2, _ => Ev.tabIn (tgt := 384) (off := 339) dL_law_45 (by decide +kernel) (by decide +kernel) (by decide +kernel) (by decide) (br_disconnect hX hI hK hN hs hm bk)
  | 3, _ => Ev.tabIn (tgt := 452) (off := 407) dL_law_45 (by decide +kernel) (by decide +kernel) (by decide +kernel) (by decide) (if hb : jSf X (i + 5) = 0 then br_addCar0 hX hI hK hN hs hm bk hb else br_addCar1 hX hI hK hN hs hm bk hb)
  | 4, _ => Ev.tabIn (tgt := 572) (off := 527) dL_law_45 (by decide +kernel) (by decide +kernel) (by decide +kernel) (by decide) (br_shunt hX hI hK hN hs hm bk)
  | 5, _ => Ev.tabIn (tgt := 652) (off := 607) dL_law_45 (by decide +kernel) (by decide +kernel) (by decide +kernel) (by decide) (br_repair hX hI hK hN hs hm bk)
  | 6, _ => Ev.tabIn (tgt := 708) (off := 663) dL_law_45 (by decide +kernel) (by decide +kernel) (by decide +kernel) (by decide) (br_depart hX hI hK hN hs hm bk)
  | 7, _ => Ev.tabIn (tgt := 776) (off := 731) dL_law_45 (by decide +kernel) (by decide +kernel) (by decide +kernel) (by decide) (br_trackCount hX hI hK hN hs hm bk)
  | 8, _ => Ev.tabIn (tgt := 789) (off := 744) dL_law_45 (by decide +kernel) (by decide +kernel) (by decide +kernel) (by decide) (br_freeLength hX hI hK hN hs hm bk)
  | 9, _ => Ev.tabIn (tgt := 845) (off := 800) dL_law_45 (by decide +kernel) (by decide +kernel) (by decide +kernel) (by decide) (br_carsOn hX hI hK hN hs hm bk)
  | 10, _ => Ev.tabIn (tgt := 901) (off := 856) dL_law_45 (by decide +kernel) (by decide +kernel) (by decide +kernel) (by decide) (br_weightOn hX hI hK hN hs hm bk)
  | 11, _ => Ev.tabIn (tgt := 957) (off := 912) dL_law_45 (by decide +kernel) (by decide +kernel) (by decide +kernel) (by decide) (br_carAt hX hI hK hN hs hm bk)
  | 12, _ => Ev.tabIn (tgt := 1025) (off := 980) dL_law_45 (by decide +kernel) (by decide +kernel) (by decide +kernel) (by decide) (br_isSorted hX hI hK hN hs hm bk)
  | 13, _ => Ev.tabIn (tgt := 1088) (off := 1043) dL_law_45 (by decide +kernel) (by decide +kernel) (by decide +kernel) (by decide) (br_disorder hX hI hK hN hs hm bk)
  | 14, _ => Ev.tabIn (tgt := 1144) (off := 1099) dL_law_45 (by decide +kernel) (by decide +kernel) (by decide +kernel) (by decide) (br_disorderByInsertion hX hI hK hN hs hm bk)
  | 15, _ => Ev.tabIn (tgt := 1200) (off := 1155) dL_law_45 (by decide +kernel) (by decide +kernel) (by decide +kernel) (by decide) (br_trainLength hX hI hK hN hs hm bk)
  | 16, _ => Ev.tabIn (tgt := 1256) (off := 1211) dL_law_45 (by decide +kernel) (by decide +kernel) (by decide +kernel) (by decide) (br_trackAtRank hX hI hK hN hs hm bk)
  | 17, _ => Ev.tabIn (tgt := 1312) (off := 1267) dL_law_45 (by decide +kernel) (by decide +kernel) (by decide +kernel) (by decide) (br_areConnected hX hI hK hN hs hm bk)
  | 18, _ => Ev.tabIn (tgt := 1387) (off := 1342) dL_law_45 (by decide +kernel) (by decide +kernel) (by decide +kernel) (by decide) (br_routeLength hX hI hK hN hs hm bk)
  | 19, _ => Ev.tabIn (tgt := 1455) (off := 1410) dL_law_45 (by decide +kernel) (by decide +kernel) (by decide +kernel) (by decide) (br_routeLengthByMatrix hX hI hK hN hs hm bk)
  | 20, _ => Ev.tabIn (tgt := 1523) (off := 1478) dL_law_45 (by decide +kernel) (by decide +kernel) (by decide +kernel) (by decide) (br_routeTrack hX hI hK hN hs hm bk)
  | 21, _ => Ev.tabIn (tgt := 1603) (off := 1558) dL_law_45 (by decide +kernel) (by decide +kernel) (by decide +kernel) (by decide) (br_shuntingTime hX hI hK hN hs hm bk)
  | 22, _ => Ev.tabIn (tgt := 1683) (off := 1638) dL_law_45 (by decide +kernel) (by decide +kernel) (by decide +kernel) (by decide) (br_nearestFreeTrack hX hI hK hN hs hm bk)
  | 23, _ => Ev.tabIn (tgt := 1739) (off := 1694) dL_law_45 (by decide +kernel) (by decide +kernel) (by decide +kernel) (by decide) (br_carCount hX hI hK hN hs hm bk)
  | 24, _ => Ev.tabIn (tgt := 1752) (off := 1707) dL_law_45 (by decide +kernel) (by decide +kernel) (by decide +kernel) (by decide) (br_isInYard hX hI hK hN hs hm bk)
  | 25, _ => Ev.tabIn (tgt := 1777) (off := 1732) dL_law_45 (by decide +kernel) (by decide +kernel) (by decide +kernel) (by decide) (br_trackOf hX hI hK hN hs hm bk)
  | 26, _ => Ev.tabIn (tgt := 1833) (off := 1788) dL_law_45 (by decide +kernel) (by decide +kernel) (by decide +kernel) (by decide) (br_carsBehind hX hI hK hN hs hm bk)
  | 27, _ => Ev.tabIn (tgt := 1889) (off := 1844) dL_law_45 (by decide +kernel) (by decide +kernel) (by decide +kernel) (by decide) (br_destination hX hI hK hN hs hm bk)
  | 28, _ => Ev.tabIn (tgt := 1945) (off := 1900) dL_law_45 (by decide +kernel) (by decide +kernel) (by decide +kernel) (by decide) (br_isDefective hX hI hK hN hs hm bk)
  | 29, _ => Ev.tabIn (tgt := 2008) (off := 1963) dL_law_45 (by decide +kernel) (by decide +kernel) (by decide +kernel) (by decide) (br_carsFor hX hI hK hN hs hm bk)
  | 30, _ => Ev.tabIn (tgt := 2064) (off := 2019) dL_law_45 (by decide +kernel) (by decide +kernel) (by decide +kernel) (by decide) (br_carAtRank hX hI hK hN hs hm bk)
  | 31, _ => Ev.tabIn (tgt := 2120) (off := 2075) dL_law_45 (by decide +kernel) (by decide +kernel) (by decide +kernel) (by decide) (br_time hX hI hK hN hs hm bk)
  | 32, _ => Ev.tabIn (tgt := 2134) (off := 2089) dL_law_45 (by decide +kernel) (by decide +kernel) (by decide +kernel) (by decide) (br_moveCount hX hI hK hN hs hm bk)
  | 33, _ => Ev.tabIn (tgt := 2147) (off := 2102) dL_law_45 (by decide +kernel) (by decide +kernel) (by decide +kernel) (by decide) (br_departedCars hX hI hK hN hs hm bk)
  | 34, _ => Ev.tabIn (tgt := 2160) (off := 2115) dL_law_45 (by decide +kernel) (by decide +kernel) (by decide +kernel) (by decide) (br_departedWeight hX hI hK hN hs hm bk)
  | 35, _ => Ev.tabIn (tgt := 2174) (off := 2129) dL_law_45 (by decide +kernel) (by decide +kernel) (by decide +kernel) (by decide) (br_meanMoveTime hX hI hK hN hs hm bk)
  | 36, _ => Ev.tabIn (tgt := 2239) (off := 2194) dL_law_45 (by decide +kernel) (by decide +kernel) (by decide +kernel) (by decide) (br_usedShare hX hI hK hN hs hm bk)
  | 37, _ => Ev.tabIn (tgt := 2305) (off := 2260) dL_law_45 (by decide +kernel) (by decide +kernel) (by decide +kernel) (by decide) (br_isConsistent hX hI hK hN hs hm bk)
  | 38, _ => Ev.tabIn (tgt := 2318) (off := 2273) dL_law_45 (by decide +kernel) (by decide +kernel) (by decide +kernel) (by decide) (br_append hX hI hK hN hs hm bk)
  | 39, _ => Ev.tabIn (tgt := 2376) (off := 2331) dL_law_45 (by decide +kernel) (by decide +kernel) (by decide +kernel) (by decide) (br_run hX hI hK hN hs hm bk)
  | 40, _ => Ev.tabIn (tgt := 2420) (off := 2375) dL_law_45 (by decide +kernel) (by decide +kernel) (by decide +kernel) (by decide) (br_errorPosition hX hI hK hN hs hm bk)
  | 41, _ => Ev.tabIn (tgt := 2464) (off := 2419) dL_law_45 (by decide +kernel) (by decide +kernel) (by decide +kernel) (by decide) (br_failedCommand hX hI hK hN hs hm bk)
  | 42, _ => Ev.tabIn (tgt := 2508) (off := 2463) dL_law_45 (by decide +kernel) (by decide +kernel) (by decide +kernel) (by decide) (br_writeTrack hX hI hK hN hs hm bk)
  | 43, _ => Ev.tabIn (tgt := 2564) (off := 2519) dL_law_45 (by decide +kernel) (by decide +kernel) (by decide +kernel) (by decide) (br_outputAt hX hI hK hN hs hm bk)
  | 44, _ => Ev.tabIn (tgt := 2620) (off := 2575) dL_law_45 (by decide +kernel) (by decide +kernel) (by decide +kernel) (by decide) (br_undo hX hI hK hN hs hm bk)
  | 45, _ => Ev.tabIn (tgt := 2664) (off := 2619) dL_law_45 (by decide +kernel) (by decide +kernel) (by decide +kernel) (by decide) (br_save hX hI hK hN hs hm bk)
  | 46, _ => Ev.tabIn (tgt := 2675) (off := 2630) dL_law_45 (by decide +kernel) (by decide +kernel) (by decide +kernel) (by decide) (br_restore hX hI hK hN hs hm bk)
  | n + 47, h => absurd h (by omega)
set_option maxRecDepth 100000 in
theorem law_loop (hX : JXok X) (h3 : jSn X ≤ 3072) : ∀ (n i K N v : Nat) (T : Nat → Option JS) (I : HI) (L : HL) (Dd : HD) (mc ms : Nat) (l6 l7 l8 : Option Value), jSn X < i + 6 * n + 6 → i ≤ 10000 → K + 8 * n ≤ 5000 → N + 1160 * n + 1500 < BIG → 1160 * n ≤ mc → 1160 * n ≤ ms → 407 ≤ N → INV K N v T I L Dd → Ev X (jm jdL_law) 20 mc ms lwR 28 (lsW i l6 l7 l8) [] (N, SH v T, I, L, Dd) := by
  intro n
  induction n with
  | zero =>
    intro i K N v T I L Dd mc ms l6 l7 l8 h1 h2 h5 h6 h7 h8 h9 hI
    refine Ev.sg hX (sL_law_28.sub 0 2) (pc' := 31) (ls' := [some (.ref (BIG + 300)), some (.ref 0), some (.ref 396), some (.ref 405), some (.ref 406), some (.int (nI i)), l6, l7, l8]) (st' := [.ref (BIG + 300), .int (nI i)]) (h' := (N, SH v T, I, L, Dd)) rfl ?_
    refine Ev.alenX (sL_law_28.dc 2 (q := (31, .arraylength, 0, 0)) rfl) ?_
    refine Ev.sg hX (sL_law_28.sub 3 2) (pc' := 35) (ls' := [some (.ref (BIG + 300)), some (.ref 0), some (.ref 396), some (.ref 405), some (.ref 406), some (.int (nI i)), l6, l7, l8]) (st' := [.int (nI (jSn X) - 6), .int (nI i)]) (h' := (N, SH v T, I, L, Dd)) rfl ?_
    refine Ev.icmp_gt (tgt := 2705) dL_law_35 (by decide) (fun _ => ?_) (fun q => absurd (len_lo (by omega) (by omega) (by omega)) q)
    refine Ev.sg hX sL_law_2705 (pc' := 2706) (ls' := [some (.ref (BIG + 300)), some (.ref 0), some (.ref 396), some (.ref 405), some (.ref 406), some (.int (nI i)), l6, l7, l8]) (st' := [.int 1]) (h' := (N, SH v T, I, L, Dd)) rfl ?_
    exact Ev.zret (ty := .boolean) dL_law_2706 rfl rfl ⟨_, rfl⟩
  | succ n ih =>
    intro i K N v T I L Dd mc ms l6 l7 l8 h1 h2 h5 h6 h7 h8 h9 hI
    refine Ev.sg hX (sL_law_28.sub 0 2) (pc' := 31) (ls' := [some (.ref (BIG + 300)), some (.ref 0), some (.ref 396), some (.ref 405), some (.ref 406), some (.int (nI i)), l6, l7, l8]) (st' := [.ref (BIG + 300), .int (nI i)]) (h' := (N, SH v T, I, L, Dd)) rfl ?_
    refine Ev.alenX (sL_law_28.dc 2 (q := (31, .arraylength, 0, 0)) rfl) ?_
    refine Ev.sg hX (sL_law_28.sub 3 2) (pc' := 35) (ls' := [some (.ref (BIG + 300)), some (.ref 0), some (.ref 396), some (.ref 405), some (.ref 406), some (.int (nI i)), l6, l7, l8]) (st' := [.int (nI (jSn X) - 6), .int (nI i)]) (h' := (N, SH v T, I, L, Dd)) rfl ?_
    by_cases hl : i + 6 ≤ jSn X
    · refine Ev.icmp_gt (tgt := 2705) dL_law_35 (by decide) (fun q => absurd q (len_hi (by omega) (by omega) hl)) (fun _ => ?_)
      refine Ev.sg hX sL_law_38 (pc' := 41) (ls' := [some (.ref (BIG + 300)), some (.ref 0), some (.ref 396), some (.ref 405), some (.ref 406), some (.int (nI i)), l6, l7, l8]) (st' := [.int (nI i), .ref (BIG + 300)]) (h' := (N, SH v T, I, L, Dd)) rfl ?_
      refine Ev.ialdX (n := i) rfl (by omega) (by omega) dL_law_41 ?_
      refine Ev.sg hX sL_law_42 (pc' := 45) (ls' := [some (.ref (BIG + 300)), some (.ref 0), some (.ref 396), some (.ref 405), some (.ref 406), some (.int (nI i)), l6, l7, l8]) (st' := [.int (jSf X i &&& 63)]) (h' := (N, SH v T, I, L, Dd)) rfl ?_
      have bk : BK X mc ms N (K + 8) i := fun N' v' T' I' L' Dd' l6 l7 l8 q1 q2 q3 => by
        refine Ev.sg hX sL_law_2699 (pc' := 28) (ls' := [some (.ref (BIG + 300)), some (.ref 0), some (.ref 396), some (.ref 405), some (.ref 406), some (.int (nI i + Int32.ofInt 6)), l6, l7, l8]) (st' := []) (h' := (N', SH v' T', I', L', Dd')) rfl ?_
        rw [show nI i + Int32.ofInt 6 = nI (i + 6) from naI rfl rfl]
        exact ih (i + 6) (K + 8) N' v' T' I' L' Dd' _ _ l6 l7 l8 (by omega) (by omega) (by omega) (by omega) (by omega) (by omega) q1 q3
      rcases sw_k (jSf X i &&& 63) with q | ⟨k, hk, e⟩
      · refine Ev.tabOut (tgt := 2699) dL_law_45 q (by decide) ?_
        exact Ev.roomL (by omega) (by omega) (bk _ _ _ _ _ _ _ _ _ h9 (by omega) (hI.mono (by omega) (by omega)))
      · rw [e]
        exact law_sw hX hI (by omega) (by omega) ⟨hl, h3⟩ ⟨by omega, by omega⟩ bk k hk
    · refine Ev.icmp_gt (tgt := 2705) dL_law_35 (by decide) (fun _ => ?_) (fun q => absurd (len_lo (by omega) (by omega) hl) q)
      refine Ev.sg hX sL_law_2705 (pc' := 2706) (ls' := [some (.ref (BIG + 300)), some (.ref 0), some (.ref 396), some (.ref 405), some (.ref 406), some (.int (nI i)), l6, l7, l8]) (st' := [.int 1]) (h' := (N, SH v T, I, L, Dd)) rfl ?_
      exact Ev.zret (ty := .boolean) dL_law_2706 rfl rfl ⟨_, rfl⟩
end LGO
