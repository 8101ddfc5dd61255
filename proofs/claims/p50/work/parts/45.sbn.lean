/-! appending numbers; the builder's other methods -/
section SBN
variable {X : JX} {d N v cap n q k s mc ms : Nat} {T : Nat → Option JS} {I : HI} {L : HL} {Dd : HD} {c i0 : Int32} {w : List Int32} {l3 l4 : Option Value} {Q : JR → Prop} {P : PF}
theorem l_gc1 (hX : JXok X) (hv : SH v T v = some (.inl (.byte, cap))) (hk : k < 10) (hs : s + 1 ≤ cap) (hcap : cap ≤ 700) (hl4 : l4 = none ∨ ∃ x, l4 = some (.int x)) (hQ : Q (.inl (some (.int (nI s)), (N, SH v T, up2 I v s (nI (48 + k)), L, Dd)))) : Ev X (jm jdJ6_getChars_ba4f3) d mc ms Q 22 [some (.int (-(nI k))), some (.int i0), some (.ref v), l3, l4, some (.int (nI (s + 1))), some (.int 0)] [] (N, SH v T, I, L, Dd) := by
  rcases hl4 with rfl | ⟨x4, rfl⟩
  · refine Ev.sg hX sJ6_getChars_ba4f3_22 (pc' := 25) (ls' := [some (.int (-(nI k))), some (.int i0), some (.ref v), l3, none, some (.int (nI (s + 1))), some (.int 0)]) (st' := [.int (-100), .int (-(nI k))]) (h' := (N, SH v T, I, L, Dd)) rfl ?_
    refine Ev.icmp_gt (tgt := 72) dJ6_getChars_ba4f3_25 (by decide) (fun b1 => ?_) (fun b1 => ?_)
    · refine Ev.sg hX sJ6_getChars_ba4f3_72 (pc' := 78) (ls' := [some (.int (-(nI k))), some (.int i0), some (.ref v), l3, none, some (.int ((nI (s + 1)) + (-1))), some (.int 0)]) (st' := [.int ((nI (s + 1)) + (-1)), .ref v]) (h' := (N, SH v T, I, L, Dd)) rfl ?_
      rw [sb_m1 (p := s + 1) (by omega), show s + 1 - 1 = s by omega]
      refine Ev.getsDO (by decide +kernel) dJ6_getChars_ba4f3_78 ?_
      refine Ev.sg hX sJ6_getChars_ba4f3_81 (pc' := 83) (ls' := [some (.int (-(nI k))), some (.int i0), some (.ref v), l3, none, some (.int (nI s)), some (.int 0)]) (st' := [.int (-(-(nI k))), .ref (BIG + 200), .int (nI s), .ref v]) (h' := (N, SH v T, I, L, Dd)) rfl ?_
      rw [show -(-(nI k)) = nI k from Int32.neg_neg]
      refine Ev.baldDO (vp_in_nI (n := k) (by omega) (by decide)) dJ6_getChars_ba4f3_83 ?_
      rw [show (nI (k)).toNatClampNeg = k from nI_clamp (by omega), show k % 10 = k by omega]
      show Ev _ _ _ _ _ _ 84 [some (.int (-(nI k))), some (.int i0), some (.ref v), l3, none, some (.int (nI s)), some (.int 0)] [.int (nI (48 + k)), .int (nI s), .ref v] (N, SH v T, I, L, Dd)
      refine Ev.bastE (n := s) (y := nI (48 + k)) (dg_ok k (by omega)).2 hX hv rfl (by omega) (by omega) dJ6_getChars_ba4f3_84 ?_
      show Ev _ _ _ _ _ _ 85 [some (.int (-(nI k))), some (.int i0), some (.ref v), l3, none, some (.int (nI s)), some (.int 0)] [] (N, SH v T, up2 I v s (nI (48 + k)), L, Dd)
      refine Ev.sg hX sJ6_getChars_ba4f3_85 (pc' := 88) (ls' := [some (.int (-(nI k))), some (.int i0), some (.ref v), l3, none, some (.int (nI s)), some (.int 0)]) (st' := [.int (-9), .int (-(nI k))]) (h' := (N, SH v T, up2 I v s (nI (48 + k)), L, Dd)) rfl ?_
      refine Ev.icmp_ge (tgt := 104) dJ6_getChars_ba4f3_88 (by decide) (fun b2 => ?_) (fun b2 => ?_)
      · refine Ev.sg hX sJ6_getChars_ba4f3_104 (pc' := 106) (ls' := [some (.int (-(nI k))), some (.int i0), some (.ref v), l3, none, some (.int (nI s)), some (.int 0)]) (st' := [.int 0]) (h' := (N, SH v T, up2 I v s (nI (48 + k)), L, Dd)) rfl ?_
        refine Ev.if_eq (tgt := 118) dJ6_getChars_ba4f3_106 (by decide) (fun b3 => ?_) (fun b3 => ?_)
        · refine Ev.sg hX sJ6_getChars_ba4f3_118 (pc' := 120) (ls' := [some (.int (-(nI k))), some (.int i0), some (.ref v), l3, none, some (.int (nI s)), some (.int 0)]) (st' := [.int (nI s)]) (h' := (N, SH v T, up2 I v s (nI (48 + k)), L, Dd)) rfl ?_
          refine Ev.iret dJ6_getChars_ba4f3_120 rfl ?_
          exact hQ
        · exact absurd rfl b3
      · exact absurd (show -nI 9 ≤ -nI k from (sb_nle (by decide) (by omega)).mpr (by omega)) b2
    · exact absurd (show -nI 100 < -nI k from (sb_nlt (by decide) (by omega)).mpr (by omega)) b1
  · refine Ev.sg hX sJ6_getChars_ba4f3_22 (pc' := 25) (ls' := [some (.int (-(nI k))), some (.int i0), some (.ref v), l3, some (.int x4), some (.int (nI (s + 1))), some (.int 0)]) (st' := [.int (-100), .int (-(nI k))]) (h' := (N, SH v T, I, L, Dd)) rfl ?_
    refine Ev.icmp_gt (tgt := 72) dJ6_getChars_ba4f3_25 (by decide) (fun b1 => ?_) (fun b1 => ?_)
    · refine Ev.sg hX sJ6_getChars_ba4f3_72 (pc' := 78) (ls' := [some (.int (-(nI k))), some (.int i0), some (.ref v), l3, some (.int x4), some (.int ((nI (s + 1)) + (-1))), some (.int 0)]) (st' := [.int ((nI (s + 1)) + (-1)), .ref v]) (h' := (N, SH v T, I, L, Dd)) rfl ?_
      rw [sb_m1 (p := s + 1) (by omega), show s + 1 - 1 = s by omega]
      refine Ev.getsDO (by decide +kernel) dJ6_getChars_ba4f3_78 ?_
      refine Ev.sg hX sJ6_getChars_ba4f3_81 (pc' := 83) (ls' := [some (.int (-(nI k))), some (.int i0), some (.ref v), l3, some (.int x4), some (.int (nI s)), some (.int 0)]) (st' := [.int (-(-(nI k))), .ref (BIG + 200), .int (nI s), .ref v]) (h' := (N, SH v T, I, L, Dd)) rfl ?_
      rw [show -(-(nI k)) = nI k from Int32.neg_neg]
      refine Ev.baldDO (vp_in_nI (n := k) (by omega) (by decide)) dJ6_getChars_ba4f3_83 ?_
      rw [show (nI (k)).toNatClampNeg = k from nI_clamp (by omega), show k % 10 = k by omega]
      show Ev _ _ _ _ _ _ 84 [some (.int (-(nI k))), some (.int i0), some (.ref v), l3, some (.int x4), some (.int (nI s)), some (.int 0)] [.int (nI (48 + k)), .int (nI s), .ref v] (N, SH v T, I, L, Dd)
      refine Ev.bastE (n := s) (y := nI (48 + k)) (dg_ok k (by omega)).2 hX hv rfl (by omega) (by omega) dJ6_getChars_ba4f3_84 ?_
      show Ev _ _ _ _ _ _ 85 [some (.int (-(nI k))), some (.int i0), some (.ref v), l3, some (.int x4), some (.int (nI s)), some (.int 0)] [] (N, SH v T, up2 I v s (nI (48 + k)), L, Dd)
      refine Ev.sg hX sJ6_getChars_ba4f3_85 (pc' := 88) (ls' := [some (.int (-(nI k))), some (.int i0), some (.ref v), l3, some (.int x4), some (.int (nI s)), some (.int 0)]) (st' := [.int (-9), .int (-(nI k))]) (h' := (N, SH v T, up2 I v s (nI (48 + k)), L, Dd)) rfl ?_
      refine Ev.icmp_ge (tgt := 104) dJ6_getChars_ba4f3_88 (by decide) (fun b2 => ?_) (fun b2 => ?_)
      · refine Ev.sg hX sJ6_getChars_ba4f3_104 (pc' := 106) (ls' := [some (.int (-(nI k))), some (.int i0), some (.ref v), l3, some (.int x4), some (.int (nI s)), some (.int 0)]) (st' := [.int 0]) (h' := (N, SH v T, up2 I v s (nI (48 + k)), L, Dd)) rfl ?_
        refine Ev.if_eq (tgt := 118) dJ6_getChars_ba4f3_106 (by decide) (fun b3 => ?_) (fun b3 => ?_)
        · refine Ev.sg hX sJ6_getChars_ba4f3_118 (pc' := 120) (ls' := [some (.int (-(nI k))), some (.int i0), some (.ref v), l3, some (.int x4), some (.int (nI s)), some (.int 0)]) (st' := [.int (nI s)]) (h' := (N, SH v T, up2 I v s (nI (48 + k)), L, Dd)) rfl ?_
          refine Ev.iret dJ6_getChars_ba4f3_120 rfl ?_
          exact hQ
        · exact absurd rfl b3
      · exact absurd (show -nI 9 ≤ -nI k from (sb_nle (by decide) (by omega)).mpr (by omega)) b2
    · exact absurd (show -nI 100 < -nI k from (sb_nlt (by decide) (by omega)).mpr (by omega)) b1
theorem l_gc2 (hX : JXok X) (hv : SH v T v = some (.inl (.byte, cap))) (hk : 10 ≤ k ∧ k < 100) (hs : s + 2 ≤ cap) (hcap : cap ≤ 700) (hl4 : l4 = none ∨ ∃ x, l4 = some (.int x)) (hQ : Q (.inl (some (.int (nI s)), (N, SH v T, up2 (up2 I v (s + 1) (nI (48 + k % 10))) v s (nI (48 + k / 10)), L, Dd)))) : Ev X (jm jdJ6_getChars_ba4f3) d mc ms Q 22 [some (.int (-(nI k))), some (.int i0), some (.ref v), l3, l4, some (.int (nI (s + 2))), some (.int 0)] [] (N, SH v T, I, L, Dd) := by
  rcases hl4 with rfl | ⟨x4, rfl⟩
  · refine Ev.sg hX sJ6_getChars_ba4f3_22 (pc' := 25) (ls' := [some (.int (-(nI k))), some (.int i0), some (.ref v), l3, none, some (.int (nI (s + 2))), some (.int 0)]) (st' := [.int (-100), .int (-(nI k))]) (h' := (N, SH v T, I, L, Dd)) rfl ?_
    refine Ev.icmp_gt (tgt := 72) dJ6_getChars_ba4f3_25 (by decide) (fun b1 => ?_) (fun b1 => ?_)
    · refine Ev.sg hX sJ6_getChars_ba4f3_72 (pc' := 78) (ls' := [some (.int (-(nI k))), some (.int i0), some (.ref v), l3, none, some (.int ((nI (s + 2)) + (-1))), some (.int 0)]) (st' := [.int ((nI (s + 2)) + (-1)), .ref v]) (h' := (N, SH v T, I, L, Dd)) rfl ?_
      rw [sb_m1 (p := s + 2) (by omega), show s + 2 - 1 = s + 1 by omega]
      refine Ev.getsDO (by decide +kernel) dJ6_getChars_ba4f3_78 ?_
      refine Ev.sg hX sJ6_getChars_ba4f3_81 (pc' := 83) (ls' := [some (.int (-(nI k))), some (.int i0), some (.ref v), l3, none, some (.int (nI (s + 1))), some (.int 0)]) (st' := [.int (-(-(nI k))), .ref (BIG + 200), .int (nI (s + 1)), .ref v]) (h' := (N, SH v T, I, L, Dd)) rfl ?_
      rw [show -(-(nI k)) = nI k from Int32.neg_neg]
      refine Ev.baldDO (vp_in_nI (n := k) (by omega) (by decide)) dJ6_getChars_ba4f3_83 ?_
      rw [show (nI (k)).toNatClampNeg = k from nI_clamp (by omega)]
      show Ev _ _ _ _ _ _ 84 [some (.int (-(nI k))), some (.int i0), some (.ref v), l3, none, some (.int (nI (s + 1))), some (.int 0)] [.int (nI (48 + k % 10)), .int (nI (s + 1)), .ref v] (N, SH v T, I, L, Dd)
      refine Ev.bastE (n := s + 1) (y := nI (48 + k % 10)) (dg_ok (k % 10) (by omega)).2 hX hv rfl (by omega) (by omega) dJ6_getChars_ba4f3_84 ?_
      show Ev _ _ _ _ _ _ 85 [some (.int (-(nI k))), some (.int i0), some (.ref v), l3, none, some (.int (nI (s + 1))), some (.int 0)] [] (N, SH v T, up2 I v (s + 1) (nI (48 + k % 10)), L, Dd)
      refine Ev.sg hX sJ6_getChars_ba4f3_85 (pc' := 88) (ls' := [some (.int (-(nI k))), some (.int i0), some (.ref v), l3, none, some (.int (nI (s + 1))), some (.int 0)]) (st' := [.int (-9), .int (-(nI k))]) (h' := (N, SH v T, up2 I v (s + 1) (nI (48 + k % 10)), L, Dd)) rfl ?_
      refine Ev.icmp_ge (tgt := 104) dJ6_getChars_ba4f3_88 (by decide) (fun b2 => ?_) (fun b2 => ?_)
      · exact absurd ((sb_nle (by decide) (by omega)).mp (show -nI 9 ≤ -nI k from b2)) (by omega)
      · refine Ev.sg hX sJ6_getChars_ba4f3_91 (pc' := 97) (ls' := [some (.int (-(nI k))), some (.int i0), some (.ref v), l3, none, some (.int ((nI (s + 1)) + (-1))), some (.int 0)]) (st' := [.int ((nI (s + 1)) + (-1)), .ref v]) (h' := (N, SH v T, up2 I v (s + 1) (nI (48 + k % 10)), L, Dd)) rfl ?_
        rw [sb_m1 (p := s + 1) (by omega), show s + 1 - 1 = s by omega]
        refine Ev.getsDT (by decide +kernel) dJ6_getChars_ba4f3_97 ?_
        refine Ev.sg hX sJ6_getChars_ba4f3_100 (pc' := 102) (ls' := [some (.int (-(nI k))), some (.int i0), some (.ref v), l3, none, some (.int (nI s)), some (.int 0)]) (st' := [.int (-(-(nI k))), .ref (BIG + 201), .int (nI s), .ref v]) (h' := (N, SH v T, up2 I v (s + 1) (nI (48 + k % 10)), L, Dd)) rfl ?_
        rw [show -(-(nI k)) = nI k from Int32.neg_neg]
        refine Ev.baldDT (vp_in_nI (n := k) (by omega) (by decide)) dJ6_getChars_ba4f3_102 ?_
        rw [show (nI (k)).toNatClampNeg = k from nI_clamp (by omega)]
        show Ev _ _ _ _ _ _ 103 [some (.int (-(nI k))), some (.int i0), some (.ref v), l3, none, some (.int (nI s)), some (.int 0)] [.int (nI (48 + k / 10)), .int (nI s), .ref v] (N, SH v T, up2 I v (s + 1) (nI (48 + k % 10)), L, Dd)
        refine Ev.bastE (n := s) (y := nI (48 + k / 10)) (dg_ok (k / 10) (by omega)).2 hX hv rfl (by omega) (by omega) dJ6_getChars_ba4f3_103 ?_
        show Ev _ _ _ _ _ _ 104 [some (.int (-(nI k))), some (.int i0), some (.ref v), l3, none, some (.int (nI s)), some (.int 0)] [] (N, SH v T, up2 (up2 I v (s + 1) (nI (48 + k % 10))) v s (nI (48 + k / 10)), L, Dd)
        refine Ev.sg hX sJ6_getChars_ba4f3_104 (pc' := 106) (ls' := [some (.int (-(nI k))), some (.int i0), some (.ref v), l3, none, some (.int (nI s)), some (.int 0)]) (st' := [.int 0]) (h' := (N, SH v T, up2 (up2 I v (s + 1) (nI (48 + k % 10))) v s (nI (48 + k / 10)), L, Dd)) rfl ?_
        refine Ev.if_eq (tgt := 118) dJ6_getChars_ba4f3_106 (by decide) (fun b3 => ?_) (fun b3 => ?_)
        · refine Ev.sg hX sJ6_getChars_ba4f3_118 (pc' := 120) (ls' := [some (.int (-(nI k))), some (.int i0), some (.ref v), l3, none, some (.int (nI s)), some (.int 0)]) (st' := [.int (nI s)]) (h' := (N, SH v T, up2 (up2 I v (s + 1) (nI (48 + k % 10))) v s (nI (48 + k / 10)), L, Dd)) rfl ?_
          refine Ev.iret dJ6_getChars_ba4f3_120 rfl ?_
          exact hQ
        · exact absurd rfl b3
    · exact absurd (show -nI 100 < -nI k from (sb_nlt (by decide) (by omega)).mpr (by omega)) b1
  · refine Ev.sg hX sJ6_getChars_ba4f3_22 (pc' := 25) (ls' := [some (.int (-(nI k))), some (.int i0), some (.ref v), l3, some (.int x4), some (.int (nI (s + 2))), some (.int 0)]) (st' := [.int (-100), .int (-(nI k))]) (h' := (N, SH v T, I, L, Dd)) rfl ?_
    refine Ev.icmp_gt (tgt := 72) dJ6_getChars_ba4f3_25 (by decide) (fun b1 => ?_) (fun b1 => ?_)
    · refine Ev.sg hX sJ6_getChars_ba4f3_72 (pc' := 78) (ls' := [some (.int (-(nI k))), some (.int i0), some (.ref v), l3, some (.int x4), some (.int ((nI (s + 2)) + (-1))), some (.int 0)]) (st' := [.int ((nI (s + 2)) + (-1)), .ref v]) (h' := (N, SH v T, I, L, Dd)) rfl ?_
      rw [sb_m1 (p := s + 2) (by omega), show s + 2 - 1 = s + 1 by omega]
      refine Ev.getsDO (by decide +kernel) dJ6_getChars_ba4f3_78 ?_
      refine Ev.sg hX sJ6_getChars_ba4f3_81 (pc' := 83) (ls' := [some (.int (-(nI k))), some (.int i0), some (.ref v), l3, some (.int x4), some (.int (nI (s + 1))), some (.int 0)]) (st' := [.int (-(-(nI k))), .ref (BIG + 200), .int (nI (s + 1)), .ref v]) (h' := (N, SH v T, I, L, Dd)) rfl ?_
      rw [show -(-(nI k)) = nI k from Int32.neg_neg]
      refine Ev.baldDO (vp_in_nI (n := k) (by omega) (by decide)) dJ6_getChars_ba4f3_83 ?_
      rw [show (nI (k)).toNatClampNeg = k from nI_clamp (by omega)]
      show Ev _ _ _ _ _ _ 84 [some (.int (-(nI k))), some (.int i0), some (.ref v), l3, some (.int x4), some (.int (nI (s + 1))), some (.int 0)] [.int (nI (48 + k % 10)), .int (nI (s + 1)), .ref v] (N, SH v T, I, L, Dd)
      refine Ev.bastE (n := s + 1) (y := nI (48 + k % 10)) (dg_ok (k % 10) (by omega)).2 hX hv rfl (by omega) (by omega) dJ6_getChars_ba4f3_84 ?_
      show Ev _ _ _ _ _ _ 85 [some (.int (-(nI k))), some (.int i0), some (.ref v), l3, some (.int x4), some (.int (nI (s + 1))), some (.int 0)] [] (N, SH v T, up2 I v (s + 1) (nI (48 + k % 10)), L, Dd)
      refine Ev.sg hX sJ6_getChars_ba4f3_85 (pc' := 88) (ls' := [some (.int (-(nI k))), some (.int i0), some (.ref v), l3, some (.int x4), some (.int (nI (s + 1))), some (.int 0)]) (st' := [.int (-9), .int (-(nI k))]) (h' := (N, SH v T, up2 I v (s + 1) (nI (48 + k % 10)), L, Dd)) rfl ?_
      refine Ev.icmp_ge (tgt := 104) dJ6_getChars_ba4f3_88 (by decide) (fun b2 => ?_) (fun b2 => ?_)
      · exact absurd ((sb_nle (by decide) (by omega)).mp (show -nI 9 ≤ -nI k from b2)) (by omega)
      · refine Ev.sg hX sJ6_getChars_ba4f3_91 (pc' := 97) (ls' := [some (.int (-(nI k))), some (.int i0), some (.ref v), l3, some (.int x4), some (.int ((nI (s + 1)) + (-1))), some (.int 0)]) (st' := [.int ((nI (s + 1)) + (-1)), .ref v]) (h' := (N, SH v T, up2 I v (s + 1) (nI (48 + k % 10)), L, Dd)) rfl ?_
        rw [sb_m1 (p := s + 1) (by omega), show s + 1 - 1 = s by omega]
        refine Ev.getsDT (by decide +kernel) dJ6_getChars_ba4f3_97 ?_
        refine Ev.sg hX sJ6_getChars_ba4f3_100 (pc' := 102) (ls' := [some (.int (-(nI k))), some (.int i0), some (.ref v), l3, some (.int x4), some (.int (nI s)), some (.int 0)]) (st' := [.int (-(-(nI k))), .ref (BIG + 201), .int (nI s), .ref v]) (h' := (N, SH v T, up2 I v (s + 1) (nI (48 + k % 10)), L, Dd)) rfl ?_
        rw [show -(-(nI k)) = nI k from Int32.neg_neg]
        refine Ev.baldDT (vp_in_nI (n := k) (by omega) (by decide)) dJ6_getChars_ba4f3_102 ?_
        rw [show (nI (k)).toNatClampNeg = k from nI_clamp (by omega)]
        show Ev _ _ _ _ _ _ 103 [some (.int (-(nI k))), some (.int i0), some (.ref v), l3, some (.int x4), some (.int (nI s)), some (.int 0)] [.int (nI (48 + k / 10)), .int (nI s), .ref v] (N, SH v T, up2 I v (s + 1) (nI (48 + k % 10)), L, Dd)
        refine Ev.bastE (n := s) (y := nI (48 + k / 10)) (dg_ok (k / 10) (by omega)).2 hX hv rfl (by omega) (by omega) dJ6_getChars_ba4f3_103 ?_
        show Ev _ _ _ _ _ _ 104 [some (.int (-(nI k))), some (.int i0), some (.ref v), l3, some (.int x4), some (.int (nI s)), some (.int 0)] [] (N, SH v T, up2 (up2 I v (s + 1) (nI (48 + k % 10))) v s (nI (48 + k / 10)), L, Dd)
        refine Ev.sg hX sJ6_getChars_ba4f3_104 (pc' := 106) (ls' := [some (.int (-(nI k))), some (.int i0), some (.ref v), l3, some (.int x4), some (.int (nI s)), some (.int 0)]) (st' := [.int 0]) (h' := (N, SH v T, up2 (up2 I v (s + 1) (nI (48 + k % 10))) v s (nI (48 + k / 10)), L, Dd)) rfl ?_
        refine Ev.if_eq (tgt := 118) dJ6_getChars_ba4f3_106 (by decide) (fun b3 => ?_) (fun b3 => ?_)
        · refine Ev.sg hX sJ6_getChars_ba4f3_118 (pc' := 120) (ls' := [some (.int (-(nI k))), some (.int i0), some (.ref v), l3, some (.int x4), some (.int (nI s)), some (.int 0)]) (st' := [.int (nI s)]) (h' := (N, SH v T, up2 (up2 I v (s + 1) (nI (48 + k % 10))) v s (nI (48 + k / 10)), L, Dd)) rfl ?_
          refine Ev.iret dJ6_getChars_ba4f3_120 rfl ?_
          exact hQ
        · exact absurd rfl b3
    · exact absurd (show -nI 100 < -nI k from (sb_nlt (by decide) (by omega)).mpr (by omega)) b1
theorem l_gc3 (hX : JXok X) (hv : SH v T v = some (.inl (.byte, cap))) (hk : 100 ≤ k ∧ k < 1000) (hs : s + 3 ≤ cap) (hcap : cap ≤ 700) (hQ : Q (.inl (some (.int (nI s)), (N, SH v T, up2 (up2 (up2 I v (s + 2) (nI (48 + k % 10))) v (s + 1) (nI (48 + k % 100 / 10))) v s (nI (48 + k / 100)), L, Dd)))) : Ev X (jm jdJ6_getChars_ba4f3) d mc ms Q 22 [some (.int (-(nI k))), some (.int i0), some (.ref v), l3, l4, some (.int (nI (s + 3))), some (.int 0)] [] (N, SH v T, I, L, Dd) := by
  refine Ev.sg hX sJ6_getChars_ba4f3_22 (pc' := 25) (ls' := [some (.int (-(nI k))), some (.int i0), some (.ref v), l3, l4, some (.int (nI (s + 3))), some (.int 0)]) (st' := [.int (-100), .int (-(nI k))]) (h' := (N, SH v T, I, L, Dd)) rfl ?_
  refine Ev.icmp_gt (tgt := 72) dJ6_getChars_ba4f3_25 (by decide) (fun b1 => ?_) (fun b1 => ?_)
  · exact absurd ((sb_nlt (by decide) (by omega)).mp (show -nI 100 < -nI k from b1)) (by omega)
  · refine Ev.sg hX sJ6_getChars_ba4f3_28 (pc' := 31) (ls' := [some (.int (-(nI k))), some (.int i0), some (.ref v), l3, l4, some (.int (nI (s + 3))), some (.int 0)]) (st' := [.int 100, .int (-(nI k))]) (h' := (N, SH v T, I, L, Dd)) rfl ?_
    refine Ev.idiv dJ6_getChars_ba4f3_31 (by decide) ?_
    rw [sb_ndiv (by omega)]
    refine Ev.sg hX sJ6_getChars_ba4f3_32 (pc' := 49) (ls' := [some (.int (-(nI (k / 100)))), some (.int i0), some (.ref v), some (.int (-(nI (k / 100)))), some (.int (((-(nI (k / 100))) * 100) - (-(nI k)))), some (.int ((nI (s + 3)) + (-1))), some (.int 0)]) (st' := [.int ((nI (s + 3)) + (-1)), .ref v]) (h' := (N, SH v T, I, L, Dd)) rfl ?_
    rw [sb_m1 (p := s + 3) (by omega), show s + 3 - 1 = s + 2 by omega]
    rw [sb_nrem (by omega)]
    refine Ev.getsDO (by decide +kernel) dJ6_getChars_ba4f3_49 ?_
    refine Ev.sg hX sJ6_getChars_ba4f3_52 (pc' := 54) (ls' := [some (.int (-(nI (k / 100)))), some (.int i0), some (.ref v), some (.int (-(nI (k / 100)))), some (.int (nI (k % 100))), some (.int (nI (s + 2))), some (.int 0)]) (st' := [.int (nI (k % 100)), .ref (BIG + 200), .int (nI (s + 2)), .ref v]) (h' := (N, SH v T, I, L, Dd)) rfl ?_
    refine Ev.baldDO (vp_in_nI (n := k % 100) (by omega) (by decide)) dJ6_getChars_ba4f3_54 ?_
    rw [show (nI (k % 100)).toNatClampNeg = k % 100 from nI_clamp (by omega), show k % 100 % 10 = k % 10 by omega]
    show Ev _ _ _ _ _ _ 55 [some (.int (-(nI (k / 100)))), some (.int i0), some (.ref v), some (.int (-(nI (k / 100)))), some (.int (nI (k % 100))), some (.int (nI (s + 2))), some (.int 0)] [.int (nI (48 + k % 10)), .int (nI (s + 2)), .ref v] (N, SH v T, I, L, Dd)
    refine Ev.bastE (n := s + 2) (y := nI (48 + k % 10)) (dg_ok (k % 10) (by omega)).2 hX hv rfl (by omega) (by omega) dJ6_getChars_ba4f3_55 ?_
    show Ev _ _ _ _ _ _ 56 [some (.int (-(nI (k / 100)))), some (.int i0), some (.ref v), some (.int (-(nI (k / 100)))), some (.int (nI (k % 100))), some (.int (nI (s + 2))), some (.int 0)] [] (N, SH v T, up2 I v (s + 2) (nI (48 + k % 10)), L, Dd)
    refine Ev.sg hX sJ6_getChars_ba4f3_56 (pc' := 62) (ls' := [some (.int (-(nI (k / 100)))), some (.int i0), some (.ref v), some (.int (-(nI (k / 100)))), some (.int (nI (k % 100))), some (.int ((nI (s + 2)) + (-1))), some (.int 0)]) (st' := [.int ((nI (s + 2)) + (-1)), .ref v]) (h' := (N, SH v T, up2 I v (s + 2) (nI (48 + k % 10)), L, Dd)) rfl ?_
    rw [sb_m1 (p := s + 2) (by omega), show s + 2 - 1 = s + 1 by omega]
    refine Ev.getsDT (by decide +kernel) dJ6_getChars_ba4f3_62 ?_
    refine Ev.sg hX sJ6_getChars_ba4f3_65 (pc' := 67) (ls' := [some (.int (-(nI (k / 100)))), some (.int i0), some (.ref v), some (.int (-(nI (k / 100)))), some (.int (nI (k % 100))), some (.int (nI (s + 1))), some (.int 0)]) (st' := [.int (nI (k % 100)), .ref (BIG + 201), .int (nI (s + 1)), .ref v]) (h' := (N, SH v T, up2 I v (s + 2) (nI (48 + k % 10)), L, Dd)) rfl ?_
    refine Ev.baldDT (vp_in_nI (n := k % 100) (by omega) (by decide)) dJ6_getChars_ba4f3_67 ?_
    rw [show (nI (k % 100)).toNatClampNeg = k % 100 from nI_clamp (by omega)]
    show Ev _ _ _ _ _ _ 68 [some (.int (-(nI (k / 100)))), some (.int i0), some (.ref v), some (.int (-(nI (k / 100)))), some (.int (nI (k % 100))), some (.int (nI (s + 1))), some (.int 0)] [.int (nI (48 + k % 100 / 10)), .int (nI (s + 1)), .ref v] (N, SH v T, up2 I v (s + 2) (nI (48 + k % 10)), L, Dd)
    refine Ev.bastE (n := s + 1) (y := nI (48 + k % 100 / 10)) (dg_ok (k % 100 / 10) (by omega)).2 hX hv rfl (by omega) (by omega) dJ6_getChars_ba4f3_68 ?_
    show Ev _ _ _ _ _ _ 69 [some (.int (-(nI (k / 100)))), some (.int i0), some (.ref v), some (.int (-(nI (k / 100)))), some (.int (nI (k % 100))), some (.int (nI (s + 1))), some (.int 0)] [] (N, SH v T, up2 (up2 I v (s + 2) (nI (48 + k % 10))) v (s + 1) (nI (48 + k % 100 / 10)), L, Dd)
    refine Ev.sg hX sJ6_getChars_ba4f3_69 (pc' := 22) (ls' := [some (.int (-(nI (k / 100)))), some (.int i0), some (.ref v), some (.int (-(nI (k / 100)))), some (.int (nI (k % 100))), some (.int (nI (s + 1))), some (.int 0)]) (st' := []) (h' := (N, SH v T, up2 (up2 I v (s + 2) (nI (48 + k % 10))) v (s + 1) (nI (48 + k % 100 / 10)), L, Dd)) rfl ?_
    exact l_gc1 hX hv (k := k / 100) (by omega) (by omega) hcap (Or.inr ⟨_, rfl⟩) hQ
theorem l_gc4 (hX : JXok X) (hv : SH v T v = some (.inl (.byte, cap))) (hk : 1000 ≤ k ∧ k < 10000) (hs : s + 4 ≤ cap) (hcap : cap ≤ 700) (hQ : Q (.inl (some (.int (nI s)), (N, SH v T, up2 (up2 (up2 (up2 I v (s + 3) (nI (48 + k % 10))) v (s + 2) (nI (48 + k % 100 / 10))) v (s + 1) (nI (48 + k / 100 % 10))) v s (nI (48 + k / 100 / 10)), L, Dd)))) : Ev X (jm jdJ6_getChars_ba4f3) d mc ms Q 22 [some (.int (-(nI k))), some (.int i0), some (.ref v), l3, l4, some (.int (nI (s + 4))), some (.int 0)] [] (N, SH v T, I, L, Dd) := by
  refine Ev.sg hX sJ6_getChars_ba4f3_22 (pc' := 25) (ls' := [some (.int (-(nI k))), some (.int i0), some (.ref v), l3, l4, some (.int (nI (s + 4))), some (.int 0)]) (st' := [.int (-100), .int (-(nI k))]) (h' := (N, SH v T, I, L, Dd)) rfl ?_
  refine Ev.icmp_gt (tgt := 72) dJ6_getChars_ba4f3_25 (by decide) (fun b1 => ?_) (fun b1 => ?_)
  · exact absurd ((sb_nlt (by decide) (by omega)).mp (show -nI 100 < -nI k from b1)) (by omega)
  · refine Ev.sg hX sJ6_getChars_ba4f3_28 (pc' := 31) (ls' := [some (.int (-(nI k))), some (.int i0), some (.ref v), l3, l4, some (.int (nI (s + 4))), some (.int 0)]) (st' := [.int 100, .int (-(nI k))]) (h' := (N, SH v T, I, L, Dd)) rfl ?_
    refine Ev.idiv dJ6_getChars_ba4f3_31 (by decide) ?_
    rw [sb_ndiv (by omega)]
    refine Ev.sg hX sJ6_getChars_ba4f3_32 (pc' := 49) (ls' := [some (.int (-(nI (k / 100)))), some (.int i0), some (.ref v), some (.int (-(nI (k / 100)))), some (.int (((-(nI (k / 100))) * 100) - (-(nI k)))), some (.int ((nI (s + 4)) + (-1))), some (.int 0)]) (st' := [.int ((nI (s + 4)) + (-1)), .ref v]) (h' := (N, SH v T, I, L, Dd)) rfl ?_
    rw [sb_m1 (p := s + 4) (by omega), show s + 4 - 1 = s + 3 by omega]
    rw [sb_nrem (by omega)]
    refine Ev.getsDO (by decide +kernel) dJ6_getChars_ba4f3_49 ?_
    refine Ev.sg hX sJ6_getChars_ba4f3_52 (pc' := 54) (ls' := [some (.int (-(nI (k / 100)))), some (.int i0), some (.ref v), some (.int (-(nI (k / 100)))), some (.int (nI (k % 100))), some (.int (nI (s + 3))), some (.int 0)]) (st' := [.int (nI (k % 100)), .ref (BIG + 200), .int (nI (s + 3)), .ref v]) (h' := (N, SH v T, I, L, Dd)) rfl ?_
    refine Ev.baldDO (vp_in_nI (n := k % 100) (by omega) (by decide)) dJ6_getChars_ba4f3_54 ?_
    rw [show (nI (k % 100)).toNatClampNeg = k % 100 from nI_clamp (by omega), show k % 100 % 10 = k % 10 by omega]
    show Ev _ _ _ _ _ _ 55 [some (.int (-(nI (k / 100)))), some (.int i0), some (.ref v), some (.int (-(nI (k / 100)))), some (.int (nI (k % 100))), some (.int (nI (s + 3))), some (.int 0)] [.int (nI (48 + k % 10)), .int (nI (s + 3)), .ref v] (N, SH v T, I, L, Dd)
    refine Ev.bastE (n := s + 3) (y := nI (48 + k % 10)) (dg_ok (k % 10) (by omega)).2 hX hv rfl (by omega) (by omega) dJ6_getChars_ba4f3_55 ?_
    show Ev _ _ _ _ _ _ 56 [some (.int (-(nI (k / 100)))), some (.int i0), some (.ref v), some (.int (-(nI (k / 100)))), some (.int (nI (k % 100))), some (.int (nI (s + 3))), some (.int 0)] [] (N, SH v T, up2 I v (s + 3) (nI (48 + k % 10)), L, Dd)
    refine Ev.sg hX sJ6_getChars_ba4f3_56 (pc' := 62) (ls' := [some (.int (-(nI (k / 100)))), some (.int i0), some (.ref v), some (.int (-(nI (k / 100)))), some (.int (nI (k % 100))), some (.int ((nI (s + 3)) + (-1))), some (.int 0)]) (st' := [.int ((nI (s + 3)) + (-1)), .ref v]) (h' := (N, SH v T, up2 I v (s + 3) (nI (48 + k % 10)), L, Dd)) rfl ?_
    rw [sb_m1 (p := s + 3) (by omega), show s + 3 - 1 = s + 2 by omega]
    refine Ev.getsDT (by decide +kernel) dJ6_getChars_ba4f3_62 ?_
    refine Ev.sg hX sJ6_getChars_ba4f3_65 (pc' := 67) (ls' := [some (.int (-(nI (k / 100)))), some (.int i0), some (.ref v), some (.int (-(nI (k / 100)))), some (.int (nI (k % 100))), some (.int (nI (s + 2))), some (.int 0)]) (st' := [.int (nI (k % 100)), .ref (BIG + 201), .int (nI (s + 2)), .ref v]) (h' := (N, SH v T, up2 I v (s + 3) (nI (48 + k % 10)), L, Dd)) rfl ?_
    refine Ev.baldDT (vp_in_nI (n := k % 100) (by omega) (by decide)) dJ6_getChars_ba4f3_67 ?_
    rw [show (nI (k % 100)).toNatClampNeg = k % 100 from nI_clamp (by omega)]
    show Ev _ _ _ _ _ _ 68 [some (.int (-(nI (k / 100)))), some (.int i0), some (.ref v), some (.int (-(nI (k / 100)))), some (.int (nI (k % 100))), some (.int (nI (s + 2))), some (.int 0)] [.int (nI (48 + k % 100 / 10)), .int (nI (s + 2)), .ref v] (N, SH v T, up2 I v (s + 3) (nI (48 + k % 10)), L, Dd)
    refine Ev.bastE (n := s + 2) (y := nI (48 + k % 100 / 10)) (dg_ok (k % 100 / 10) (by omega)).2 hX hv rfl (by omega) (by omega) dJ6_getChars_ba4f3_68 ?_
    show Ev _ _ _ _ _ _ 69 [some (.int (-(nI (k / 100)))), some (.int i0), some (.ref v), some (.int (-(nI (k / 100)))), some (.int (nI (k % 100))), some (.int (nI (s + 2))), some (.int 0)] [] (N, SH v T, up2 (up2 I v (s + 3) (nI (48 + k % 10))) v (s + 2) (nI (48 + k % 100 / 10)), L, Dd)
    refine Ev.sg hX sJ6_getChars_ba4f3_69 (pc' := 22) (ls' := [some (.int (-(nI (k / 100)))), some (.int i0), some (.ref v), some (.int (-(nI (k / 100)))), some (.int (nI (k % 100))), some (.int (nI (s + 2))), some (.int 0)]) (st' := []) (h' := (N, SH v T, up2 (up2 I v (s + 3) (nI (48 + k % 10))) v (s + 2) (nI (48 + k % 100 / 10)), L, Dd)) rfl ?_
    exact l_gc2 hX hv (k := k / 100) (by omega) (by omega) hcap (Or.inr ⟨_, rfl⟩) hQ
theorem c_getCh (hX : JXok X) (hd : 0 ≤ d) (hv : SH v T v = some (.inl (.byte, cap))) (hk : k < 10000) (hs : s + sb_dg k ≤ cap) (hcap : cap ≤ 700) : MT X d 0 0 jdJ6_getChars_ba4f3 [.int (nI k), .int (nI (s + sb_dg k)), .ref v] (N, SH v T, I, L, Dd) (fun R => R = .inl (some (.int (nI s)), (N, SH v T, gcI I v s k, L, Dd))) := by
  refine MT.mk dsJ6_getChars_ba4f3.1 ?_
  refine Ev.sg hX sJ6_getChars_ba4f3_0 (pc' := 4) (ls' := [some (.int (nI k)), some (.int (nI (s + sb_dg k))), some (.ref v), none, none, some (.int (nI (s + sb_dg k))), none]) (st' := [.int (nI k)]) (h' := (N, SH v T, I, L, Dd)) rfl ?_
  refine Ev.if_ge (tgt := 11) dJ6_getChars_ba4f3_4 (by decide) (fun b1 => ?_) (fun b1 => ?_)
  · refine Ev.sg hX sJ6_getChars_ba4f3_11 (pc' := 12) (ls' := [some (.int (nI k)), some (.int (nI (s + sb_dg k))), some (.ref v), none, none, some (.int (nI (s + sb_dg k))), none]) (st' := [.int 0]) (h' := (N, SH v T, I, L, Dd)) rfl ?_
    refine Ev.sg hX sJ6_getChars_ba4f3_12 (pc' := 16) (ls' := [some (.int (nI k)), some (.int (nI (s + sb_dg k))), some (.ref v), none, none, some (.int (nI (s + sb_dg k))), some (.int 0)]) (st' := [.int 0]) (h' := (N, SH v T, I, L, Dd)) rfl ?_
    refine Ev.if_ne (tgt := 22) dJ6_getChars_ba4f3_16 (by decide) (fun b2 => ?_) (fun b2 => ?_)
    · exact absurd rfl b2
    · refine Ev.sg hX sJ6_getChars_ba4f3_19 (pc' := 22) (ls' := [some (.int (-(nI k))), some (.int (nI (s + sb_dg k))), some (.ref v), none, none, some (.int (nI (s + sb_dg k))), some (.int 0)]) (st' := []) (h' := (N, SH v T, I, L, Dd)) rfl ?_
      by_cases h1 : k < 10
      · have e : sb_dg k = 1 := if_pos h1
        rw [e, show gcI I v s k = up2 I v s (nI (48 + k)) from if_pos h1]
        exact l_gc1 hX hv h1 (by omega) hcap (Or.inl rfl) rfl
      · by_cases h2 : k < 100
        · have e : sb_dg k = 2 := by rw [sb_dg, if_neg h1, if_pos h2]
          rw [e, gcI, if_neg h1, if_pos h2]
          exact l_gc2 hX hv ⟨by omega, h2⟩ (by omega) hcap (Or.inl rfl) rfl
        · by_cases h3 : k < 1000
          · have e : sb_dg k = 3 := by rw [sb_dg, if_neg h1, if_neg h2, if_pos h3]
            rw [e, gcI, if_neg h1, if_neg h2, if_pos h3]
            exact l_gc3 hX hv ⟨by omega, h3⟩ (by omega) hcap rfl
          · have e : sb_dg k = 4 := by rw [sb_dg, if_neg h1, if_neg h2, if_neg h3, if_pos hk]
            rw [e, gcI, if_neg h1, if_neg h2, if_neg h3, show k / 1000 = k / 100 / 10 by omega]
            exact l_gc4 hX hv ⟨by omega, hk⟩ (by omega) hcap rfl
  · exact absurd (show (0 : Int32) ≤ nI k from (nI_leI (a := 0) (by decide) (by omega)).mpr (Nat.zero_le k)) b1
end SBN
