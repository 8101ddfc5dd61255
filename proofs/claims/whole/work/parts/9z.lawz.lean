/-! the law's loop: its branches -/
section LBZ
variable {X : JX} {mc ms N v i K : Nat} {T : Nat → Option JS} {I : HI} {L : HL} {Dd : HD} {l6 l7 l8 : Option Value}
theorem br_time (hX : JXok X) (hI : INV K N v T I L Dd) (hK : K + 8 ≤ 5000) (hN : N + 1500 < BIG) (hs : i + 6 ≤ jSn X ∧ jSn X ≤ 3072) (hm : 1160 ≤ mc ∧ 1160 ≤ ms) (bk : BK X mc ms N (K + 8) i) : Ev X (jm jdL_law) 20 mc ms lwR 2120 (lsW i l6 l7 l8) [] (N, SH v T, I, L, Dd) := by
  have hI0 := hI
  obtain ⟨g, gs, d, sv, qq, tx, er, fl, w, hp, hq⟩ := hI
  have hN4 := hp.N4
  refine Ev.sg hX sL_law_2120 (pc' := 2121) (ls' := [some (.ref (BIG + 300)), some (.ref (0)), some (.ref (396)), some (.ref (405)), some (.ref (406)), some (.int (nI i)), l6, l7, l8]) (st' := [.ref (0)]) (h' := (N, SH v T, I, L, Dd)) rfl ?_
  obtain ⟨Q', C, hC⟩ := CLS.cr (show CLS X _ _ _ jdX6_time [] jdX7_time [] _ _ N v T I L Dd from b_time hX hp hq)
  refine Ev.callV (As := []) (rest := []) dvX6_time mkL_255 rfl rfl dL_law_2121 C ⟨by decide, by decide⟩ ⟨Nat.zero_le _, Nat.zero_le _⟩ rfl (Nat.le_of_ble_eq_true rfl) (fun v9 h9 e9 => ?_) (fun E9 h9 e9 => by obtain ⟨_, _, _, _, _, _, _, _, e, _⟩ := cr_d hC e9; cases e)
  obtain ⟨N1, v1, T1, I1, L1, x9, hN1, hN2, e8, ⟨b0, w9, f1, -⟩, hM⟩ := cr_d hC e9
  cases e8
  subst f1
  show Ev _ _ _ _ _ _ 2124 [some (.ref (BIG + 300)), some (.ref (0)), some (.ref (396)), some (.ref (405)), some (.ref (406)), some (.int (nI i)), l6, l7, l8] [.long (w9)] (N1, SH v1 T1, I1, L1, Dd)
  refine Ev.sg hX sL_law_2124 (pc' := 2125) (ls' := [some (.ref (BIG + 300)), some (.ref (0)), some (.ref (396)), some (.ref (405)), some (.ref (406)), some (.int (nI i)), l6, l7, l8]) (st' := [.ref (396), .long (w9)]) (h' := (N1, SH v1 T1, I1, L1, Dd)) rfl ?_
  refine Ev.callV (As := []) (rest := [.long (w9)]) dvX7_time mkL_259 rfl rfl dL_law_2125 hM ⟨by decide, by decide⟩ ⟨Nat.zero_le _, Nat.zero_le _⟩ rfl (Nat.le_of_ble_eq_true rfl) (fun v9 h9 e9 => ?_) (fun E9 h9 e9 => by obtain ⟨_, _, e, _⟩ := e9; cases e)
  obtain ⟨b, J, e7, ⟨w8, f2, f3⟩, h12, hinv⟩ := e9
  cases e7
  cases f2
  subst f3
  show Ev _ _ _ _ _ _ 2128 [some (.ref (BIG + 300)), some (.ref (0)), some (.ref (396)), some (.ref (405)), some (.ref (406)), some (.int (nI i)), l6, l7, l8] [.long (w9), .long (w9)] (N1, SH v1 T1, J, L1, Dd)
  refine Ev.sg hX sL_law_2128 (pc' := 2129) (ls' := [some (.ref (BIG + 300)), some (.ref (0)), some (.ref (396)), some (.ref (405)), some (.ref (406)), some (.int (nI i)), l6, l7, l8]) (st' := [.int (lg_cmp w9 w9)]) (h' := (N1, SH v1 T1, J, L1, Dd)) rfl ?_
  rw [lcmp_self]
  refine Ev.if_eq (tgt := 2699) dL_law_2129 (by decide) (fun _ => ?_) (fun q => absurd rfl q)
  exact Ev.roomL (by omega) (by omega) (bk _ _ _ _ _ _ _ _ _ hN1 hN2 (hinv.mono (by omega) hK))
theorem br_moveCount (hX : JXok X) (hI : INV K N v T I L Dd) (hK : K + 8 ≤ 5000) (hN : N + 1500 < BIG) (hs : i + 6 ≤ jSn X ∧ jSn X ≤ 3072) (hm : 1160 ≤ mc ∧ 1160 ≤ ms) (bk : BK X mc ms N (K + 8) i) : Ev X (jm jdL_law) 20 mc ms lwR 2134 (lsW i l6 l7 l8) [] (N, SH v T, I, L, Dd) := by
  have hI0 := hI
  obtain ⟨g, gs, d, sv, qq, tx, er, fl, w, hp, hq⟩ := hI
  have hN4 := hp.N4
  refine Ev.sg hX sL_law_2134 (pc' := 2135) (ls' := [some (.ref (BIG + 300)), some (.ref (0)), some (.ref (396)), some (.ref (405)), some (.ref (406)), some (.int (nI i)), l6, l7, l8]) (st' := [.ref (0)]) (h' := (N, SH v T, I, L, Dd)) rfl ?_
  obtain ⟨Q', C, hC⟩ := CLS.cr (show CLS X _ _ _ jdX6_moveCount [] jdX7_moveCount [] _ _ N v T I L Dd from b_moveCount hX hp hq)
  refine Ev.callV (As := []) (rest := []) dvX6_moveCount mkL_260 rfl rfl dL_law_2135 C ⟨by decide, by decide⟩ ⟨Nat.zero_le _, Nat.zero_le _⟩ rfl (Nat.le_of_ble_eq_true rfl) (fun v9 h9 e9 => ?_) (fun E9 h9 e9 => by obtain ⟨_, _, _, _, _, _, _, _, e, _⟩ := cr_d hC e9; cases e)
  obtain ⟨N1, v1, T1, I1, L1, x9, hN1, hN2, e8, ⟨b0, w9, f1, -⟩, hM⟩ := cr_d hC e9
  cases e8
  subst f1
  show Ev _ _ _ _ _ _ 2138 [some (.ref (BIG + 300)), some (.ref (0)), some (.ref (396)), some (.ref (405)), some (.ref (406)), some (.int (nI i)), l6, l7, l8] [.int (w9)] (N1, SH v1 T1, I1, L1, Dd)
  refine Ev.sg hX sL_law_2138 (pc' := 2139) (ls' := [some (.ref (BIG + 300)), some (.ref (0)), some (.ref (396)), some (.ref (405)), some (.ref (406)), some (.int (nI i)), l6, l7, l8]) (st' := [.ref (396), .int (w9)]) (h' := (N1, SH v1 T1, I1, L1, Dd)) rfl ?_
  refine Ev.callV (As := []) (rest := [.int (w9)]) dvX7_moveCount mkL_263 rfl rfl dL_law_2139 hM ⟨by decide, by decide⟩ ⟨Nat.zero_le _, Nat.zero_le _⟩ rfl (Nat.le_of_ble_eq_true rfl) (fun v9 h9 e9 => ?_) (fun E9 h9 e9 => by obtain ⟨_, _, e, _⟩ := e9; cases e)
  obtain ⟨b, J, e7, ⟨w8, f2, f3⟩, h12, hinv⟩ := e9
  cases e7
  cases f2
  subst f3
  show Ev _ _ _ _ _ _ 2142 [some (.ref (BIG + 300)), some (.ref (0)), some (.ref (396)), some (.ref (405)), some (.ref (406)), some (.int (nI i)), l6, l7, l8] [.int (w9), .int (w9)] (N1, SH v1 T1, J, L1, Dd)
  refine Ev.icmp_eq (tgt := 2699) dL_law_2142 (by decide) (fun _ => ?_) (fun q => absurd rfl q)
  exact Ev.roomL (by omega) (by omega) (bk _ _ _ _ _ _ _ _ _ hN1 hN2 (hinv.mono (by omega) hK))
theorem br_departedCars (hX : JXok X) (hI : INV K N v T I L Dd) (hK : K + 8 ≤ 5000) (hN : N + 1500 < BIG) (hs : i + 6 ≤ jSn X ∧ jSn X ≤ 3072) (hm : 1160 ≤ mc ∧ 1160 ≤ ms) (bk : BK X mc ms N (K + 8) i) : Ev X (jm jdL_law) 20 mc ms lwR 2147 (lsW i l6 l7 l8) [] (N, SH v T, I, L, Dd) := by
  have hI0 := hI
  obtain ⟨g, gs, d, sv, qq, tx, er, fl, w, hp, hq⟩ := hI
  have hN4 := hp.N4
  refine Ev.sg hX sL_law_2147 (pc' := 2148) (ls' := [some (.ref (BIG + 300)), some (.ref (0)), some (.ref (396)), some (.ref (405)), some (.ref (406)), some (.int (nI i)), l6, l7, l8]) (st' := [.ref (0)]) (h' := (N, SH v T, I, L, Dd)) rfl ?_
  obtain ⟨Q', C, hC⟩ := CLS.cr (show CLS X _ _ _ jdX6_departedCars [] jdX7_departedCars [] _ _ N v T I L Dd from b_departedCars hX hp hq)
  refine Ev.callV (As := []) (rest := []) dvX6_departedCars mkL_264 rfl rfl dL_law_2148 C ⟨by decide, by decide⟩ ⟨Nat.zero_le _, Nat.zero_le _⟩ rfl (Nat.le_of_ble_eq_true rfl) (fun v9 h9 e9 => ?_) (fun E9 h9 e9 => by obtain ⟨_, _, _, _, _, _, _, _, e, _⟩ := cr_d hC e9; cases e)
  obtain ⟨N1, v1, T1, I1, L1, x9, hN1, hN2, e8, ⟨b0, w9, f1, -⟩, hM⟩ := cr_d hC e9
  cases e8
  subst f1
  show Ev _ _ _ _ _ _ 2151 [some (.ref (BIG + 300)), some (.ref (0)), some (.ref (396)), some (.ref (405)), some (.ref (406)), some (.int (nI i)), l6, l7, l8] [.int (w9)] (N1, SH v1 T1, I1, L1, Dd)
  refine Ev.sg hX sL_law_2151 (pc' := 2152) (ls' := [some (.ref (BIG + 300)), some (.ref (0)), some (.ref (396)), some (.ref (405)), some (.ref (406)), some (.int (nI i)), l6, l7, l8]) (st' := [.ref (396), .int (w9)]) (h' := (N1, SH v1 T1, I1, L1, Dd)) rfl ?_
  refine Ev.callV (As := []) (rest := [.int (w9)]) dvX7_departedCars mkL_267 rfl rfl dL_law_2152 hM ⟨by decide, by decide⟩ ⟨Nat.zero_le _, Nat.zero_le _⟩ rfl (Nat.le_of_ble_eq_true rfl) (fun v9 h9 e9 => ?_) (fun E9 h9 e9 => by obtain ⟨_, _, e, _⟩ := e9; cases e)
  obtain ⟨b, J, e7, ⟨w8, f2, f3⟩, h12, hinv⟩ := e9
  cases e7
  cases f2
  subst f3
  show Ev _ _ _ _ _ _ 2155 [some (.ref (BIG + 300)), some (.ref (0)), some (.ref (396)), some (.ref (405)), some (.ref (406)), some (.int (nI i)), l6, l7, l8] [.int (w9), .int (w9)] (N1, SH v1 T1, J, L1, Dd)
  refine Ev.icmp_eq (tgt := 2699) dL_law_2155 (by decide) (fun _ => ?_) (fun q => absurd rfl q)
  exact Ev.roomL (by omega) (by omega) (bk _ _ _ _ _ _ _ _ _ hN1 hN2 (hinv.mono (by omega) hK))
theorem br_departedWeight (hX : JXok X) (hI : INV K N v T I L Dd) (hK : K + 8 ≤ 5000) (hN : N + 1500 < BIG) (hs : i + 6 ≤ jSn X ∧ jSn X ≤ 3072) (hm : 1160 ≤ mc ∧ 1160 ≤ ms) (bk : BK X mc ms N (K + 8) i) : Ev X (jm jdL_law) 20 mc ms lwR 2160 (lsW i l6 l7 l8) [] (N, SH v T, I, L, Dd) := by
  have hI0 := hI
  obtain ⟨g, gs, d, sv, qq, tx, er, fl, w, hp, hq⟩ := hI
  have hN4 := hp.N4
  refine Ev.sg hX sL_law_2160 (pc' := 2161) (ls' := [some (.ref (BIG + 300)), some (.ref (0)), some (.ref (396)), some (.ref (405)), some (.ref (406)), some (.int (nI i)), l6, l7, l8]) (st' := [.ref (0)]) (h' := (N, SH v T, I, L, Dd)) rfl ?_
  obtain ⟨Q', C, hC⟩ := CLS.cr (show CLS X _ _ _ jdX6_departedWeight [] jdX7_departedWeight [] _ _ N v T I L Dd from b_departedWeight hX hp hq)
  refine Ev.callV (As := []) (rest := []) dvX6_departedWeight mkL_268 rfl rfl dL_law_2161 C ⟨by decide, by decide⟩ ⟨Nat.zero_le _, Nat.zero_le _⟩ rfl (Nat.le_of_ble_eq_true rfl) (fun v9 h9 e9 => ?_) (fun E9 h9 e9 => by obtain ⟨_, _, _, _, _, _, _, _, e, _⟩ := cr_d hC e9; cases e)
  obtain ⟨N1, v1, T1, I1, L1, x9, hN1, hN2, e8, ⟨b0, w9, f1, -⟩, hM⟩ := cr_d hC e9
  cases e8
  subst f1
  show Ev _ _ _ _ _ _ 2164 [some (.ref (BIG + 300)), some (.ref (0)), some (.ref (396)), some (.ref (405)), some (.ref (406)), some (.int (nI i)), l6, l7, l8] [.long (w9)] (N1, SH v1 T1, I1, L1, Dd)
  refine Ev.sg hX sL_law_2164 (pc' := 2165) (ls' := [some (.ref (BIG + 300)), some (.ref (0)), some (.ref (396)), some (.ref (405)), some (.ref (406)), some (.int (nI i)), l6, l7, l8]) (st' := [.ref (396), .long (w9)]) (h' := (N1, SH v1 T1, I1, L1, Dd)) rfl ?_
  refine Ev.callV (As := []) (rest := [.long (w9)]) dvX7_departedWeight mkL_271 rfl rfl dL_law_2165 hM ⟨by decide, by decide⟩ ⟨Nat.zero_le _, Nat.zero_le _⟩ rfl (Nat.le_of_ble_eq_true rfl) (fun v9 h9 e9 => ?_) (fun E9 h9 e9 => by obtain ⟨_, _, e, _⟩ := e9; cases e)
  obtain ⟨b, J, e7, ⟨w8, f2, f3⟩, h12, hinv⟩ := e9
  cases e7
  cases f2
  subst f3
  show Ev _ _ _ _ _ _ 2168 [some (.ref (BIG + 300)), some (.ref (0)), some (.ref (396)), some (.ref (405)), some (.ref (406)), some (.int (nI i)), l6, l7, l8] [.long (w9), .long (w9)] (N1, SH v1 T1, J, L1, Dd)
  refine Ev.sg hX sL_law_2168 (pc' := 2169) (ls' := [some (.ref (BIG + 300)), some (.ref (0)), some (.ref (396)), some (.ref (405)), some (.ref (406)), some (.int (nI i)), l6, l7, l8]) (st' := [.int (lg_cmp w9 w9)]) (h' := (N1, SH v1 T1, J, L1, Dd)) rfl ?_
  rw [lcmp_self]
  refine Ev.if_eq (tgt := 2699) dL_law_2169 (by decide) (fun _ => ?_) (fun q => absurd rfl q)
  exact Ev.roomL (by omega) (by omega) (bk _ _ _ _ _ _ _ _ _ hN1 hN2 (hinv.mono (by omega) hK))
theorem br_meanMoveTime (hX : JXok X) (hI : INV K N v T I L Dd) (hK : K + 8 ≤ 5000) (hN : N + 1500 < BIG) (hs : i + 6 ≤ jSn X ∧ jSn X ≤ 3072) (hm : 1160 ≤ mc ∧ 1160 ≤ ms) (bk : BK X mc ms N (K + 8) i) : Ev X (jm jdL_law) 20 mc ms lwR 2174 (lsW i l6 l7 l8) [] (N, SH v T, I, L, Dd) := by
  have hI0 := hI
  obtain ⟨g, gs, d, sv, qq, tx, er, fl, w, hp, hq⟩ := hI
  have hN4 := hp.N4
  refine Ev.sg hX sL_law_2174 (pc' := 2177) (ls' := [some (.ref (BIG + 300)), some (.ref (0)), some (.ref (396)), some (.ref (405)), some (.ref (406)), some (.int (nI i)), l6, l7, l8]) (st' := [.ref (406), .ref (0)]) (h' := (N, SH v T, I, L, Dd)) rfl ?_
  obtain ⟨Q', C, hC⟩ := CLS.cr (show CLS X _ _ _ jdX6_meanMoveTime [] jdX7_meanMoveTime [] _ _ N v T I L Dd from b_meanMoveTime hX hp hq (by omega))
  refine Ev.callSX (As := [.ref (0), .ref (406)]) (rest := []) dhL_meanMoveTime mkL_272 dL_law_2177 (wL_meanMoveTime hX rfl C (cr_hD hC) (fun E h' e => by obtain ⟨k, hk⟩ := cr_ex hC e; exact xor1 hk)) ⟨by decide, by decide⟩ ⟨by omega, by omega⟩ rfl (Nat.le_of_ble_eq_true rfl) (fun v9 h9 e9 => ?_) (fun E9 h9 e9 => (wq_no e9).elim)
  obtain ⟨N1, v1, T1, I1, L1, D1, c, hN1, hN2, e8, hM⟩ := wq_g (G := GD) hC (cd_of (l := ["java/lang/ArithmeticException"]) (by decide +kernel) (by decide)) (fun x N1 v1 T1 I1 L1 h2 hb hw => w_D hw) e9
  cases e8
  show Ev _ _ _ _ _ _ 2180 [some (.ref (BIG + 300)), some (.ref (0)), some (.ref (396)), some (.ref (405)), some (.ref (406)), some (.int (nI i)), l6, l7, l8] [.int (c)] (N1, SH v1 T1, I1, L1, D1)
  refine Ev.sg hX sL_law_2180 (pc' := 2183) (ls' := [some (.ref (BIG + 300)), some (.ref (0)), some (.ref (396)), some (.ref (405)), some (.ref (406)), some (.int (nI i)), some (.int (c)), l7, l8]) (st' := [.ref (396)]) (h' := (N1, SH v1 T1, I1, L1, D1)) rfl ?_
  refine Ev.callV (As := []) (rest := []) dvX7_meanMoveTime mkL_275 rfl rfl dL_law_2183 hM ⟨by decide, by decide⟩ ⟨Nat.zero_le _, Nat.zero_le _⟩ rfl (Nat.le_of_ble_eq_true rfl) (fun v9 h9 e9 => ?_) (fun E9 h9 e9 => by obtain ⟨_, _, e, _⟩ := e9; cases e)
  obtain ⟨b, J, e7, ⟨⟨x8, w8, f1, f2⟩, hG⟩, h12, hinv⟩ := e9
  cases e7
  subst f2
  show Ev _ _ _ _ _ _ 2186 [some (.ref (BIG + 300)), some (.ref (0)), some (.ref (396)), some (.ref (405)), some (.ref (406)), some (.int (nI i)), some (.int (c)), l7, l8] [.double (w8)] (N1, SH v1 T1, J, L1, D1)
  refine Ev.sg hX sL_law_2186 (pc' := 2189) (ls' := [some (.ref (BIG + 300)), some (.ref (0)), some (.ref (396)), some (.ref (405)), some (.ref (406)), some (.int (nI i)), some (.int (c)), some (.double (w8)), none]) (st' := [.ref (396)]) (h' := (N1, SH v1 T1, J, L1, D1)) rfl ?_
  refine Ev.callV (As := []) (rest := []) dvX7_thrown mkL_156 rfl rfl dL_law_2189 (m_thrown (d := 12) hX (by decide)) ⟨by decide, by decide⟩ ⟨Nat.zero_le _, Nat.zero_le _⟩ rfl (Nat.le_of_ble_eq_true rfl) (fun v9 h9 e9 => ?_) (fun E9 h9 e9 => nomatch e9)
  cases e9
  show Ev _ _ _ _ _ _ 2192 [some (.ref (BIG + 300)), some (.ref (0)), some (.ref (396)), some (.ref (405)), some (.ref (406)), some (.int (nI i)), some (.int (c)), some (.double (w8)), none] [.int (J 396 12)] (N1, SH v1 T1, J, L1, D1)
  rw [h12]
  refine Ev.sg hX sL_law_2192 (pc' := 2194) (ls' := [some (.ref (BIG + 300)), some (.ref (0)), some (.ref (396)), some (.ref (405)), some (.ref (406)), some (.int (nI i)), some (.int (c)), some (.double (w8)), none]) (st' := [.int (c), .int (c)]) (h' := (N1, SH v1 T1, J, L1, D1)) rfl ?_
  refine Ev.icmp_eq (tgt := 2199) dL_law_2194 (by decide) (fun _ => ?_) (fun q => absurd rfl q)
  refine Ev.sg hX sL_law_2199 (pc' := 2201) (ls' := [some (.ref (BIG + 300)), some (.ref (0)), some (.ref (396)), some (.ref (405)), some (.ref (406)), some (.int (nI i)), some (.int (c)), some (.double (w8)), none]) (st' := [.int (c)]) (h' := (N1, SH v1 T1, J, L1, D1)) rfl ?_
  refine Ev.if_ne (tgt := 2236) dL_law_2201 (by decide) (fun hc0 => ?_) (fun hc0 => ?_)
  · refine Ev.sg hX sL_law_2236 (pc' := 2699) (ls' := [some (.ref (BIG + 300)), some (.ref (0)), some (.ref (396)), some (.ref (405)), some (.ref (406)), some (.int (nI i)), some (.int (c)), some (.double (w8)), none]) (st' := []) (h' := (N1, SH v1 T1, J, L1, D1)) rfl ?_
    exact Ev.roomL (by omega) (by omega) (bk _ _ _ _ _ _ _ _ _ hN1 hN2 (hinv.mono (by omega) hK))
  · refine Ev.sg hX sL_law_2204 (pc' := 2207) (ls' := [some (.ref (BIG + 300)), some (.ref (0)), some (.ref (396)), some (.ref (405)), some (.ref (406)), some (.int (nI i)), some (.int (c)), some (.double (w8)), none]) (st' := [.int (0), .ref (406)]) (h' := (N1, SH v1 T1, J, L1, D1)) rfl ?_
    refine Ev.dald (n := 1) rfl (vp_in_nI (n := 0) (N := 1) (by decide) (by decide)) dL_law_2207 ?_
    show Ev _ _ _ _ _ _ 2208 [some (.ref (BIG + 300)), some (.ref (0)), some (.ref (396)), some (.ref (405)), some (.ref (406)), some (.int (nI i)), some (.int (c)), some (.double (w8)), none] [.double (D1 406 0)] (N1, SH v1 T1, J, L1, D1)
    rw [gd_eq (hG hc0)]
    refine Ev.sg hX sL_law_2208 (pc' := 2211) (ls' := [some (.ref (BIG + 300)), some (.ref (0)), some (.ref (396)), some (.ref (405)), some (.ref (406)), some (.int (nI i)), some (.int (c)), some (.double (w8)), none]) (st' := [.int (Op.cmpValue (FP.dcmp (w8) (w8)) .l)]) (h' := (N1, SH v1 T1, J, L1, D1)) rfl ?_
    refine Ev.if_eq (tgt := 2236) dL_law_2211 (by decide) (fun q2 => ?_) (fun q2 => ?_)
    · refine Ev.sg hX sL_law_2236 (pc' := 2699) (ls' := [some (.ref (BIG + 300)), some (.ref (0)), some (.ref (396)), some (.ref (405)), some (.ref (406)), some (.int (nI i)), some (.int (c)), some (.double (w8)), none]) (st' := []) (h' := (N1, SH v1 T1, J, L1, D1)) rfl ?_
      exact Ev.roomL (by omega) (by omega) (bk _ _ _ _ _ _ _ _ _ hN1 hN2 (hinv.mono (by omega) hK))
    · refine Ev.sg hX sL_law_2214 (pc' := 2217) (ls' := [some (.ref (BIG + 300)), some (.ref (0)), some (.ref (396)), some (.ref (405)), some (.ref (406)), some (.int (nI i)), some (.int (c)), some (.double (w8)), none]) (st' := [.int (0), .ref (406)]) (h' := (N1, SH v1 T1, J, L1, D1)) rfl ?_
      refine Ev.dald (n := 1) rfl (vp_in_nI (n := 0) (N := 1) (by decide) (by decide)) dL_law_2217 ?_
      show Ev _ _ _ _ _ _ 2218 [some (.ref (BIG + 300)), some (.ref (0)), some (.ref (396)), some (.ref (405)), some (.ref (406)), some (.int (nI i)), some (.int (c)), some (.double (w8)), none] [.double (D1 406 0)] (N1, SH v1 T1, J, L1, D1)
      rw [gd_eq (hG hc0)]
      refine Ev.sg hX sL_law_2218 (pc' := 2221) (ls' := [some (.ref (BIG + 300)), some (.ref (0)), some (.ref (396)), some (.ref (405)), some (.ref (406)), some (.int (nI i)), some (.int (c)), some (.double (w8)), none]) (st' := [.int (0), .ref (406), .double (w8)]) (h' := (N1, SH v1 T1, J, L1, D1)) rfl ?_
      refine Ev.dald (n := 1) rfl (vp_in_nI (n := 0) (N := 1) (by decide) (by decide)) dL_law_2221 ?_
      show Ev _ _ _ _ _ _ 2222 [some (.ref (BIG + 300)), some (.ref (0)), some (.ref (396)), some (.ref (405)), some (.ref (406)), some (.int (nI i)), some (.int (c)), some (.double (w8)), none] [.double (D1 406 0), .double (w8)] (N1, SH v1 T1, J, L1, D1)
      rw [gd_eq (hG hc0)]
      refine Ev.sg hX sL_law_2222 (pc' := 2223) (ls' := [some (.ref (BIG + 300)), some (.ref (0)), some (.ref (396)), some (.ref (405)), some (.ref (406)), some (.int (nI i)), some (.int (c)), some (.double (w8)), none]) (st' := [.int (Op.cmpValue (FP.dcmp (w8) (w8)) .l)]) (h' := (N1, SH v1 T1, J, L1, D1)) rfl ?_
      refine Ev.if_eq (tgt := 2234) dL_law_2223 (by decide) (fun q3 => absurd q3 q2) (fun _ => ?_)
      refine Ev.sg hX sL_law_2226 (pc' := 2231) (ls' := [some (.ref (BIG + 300)), some (.ref (0)), some (.ref (396)), some (.ref (405)), some (.ref (406)), some (.int (nI i)), some (.int (c)), some (.double (w8)), none]) (st' := [.int (Op.cmpValue (FP.dcmp (w8) (w8)) .l)]) (h' := (N1, SH v1 T1, J, L1, D1)) rfl ?_
      refine Ev.if_ne (tgt := 2236) dL_law_2231 (by decide) (fun _ => ?_) (fun q3 => absurd q3 q2)
      refine Ev.sg hX sL_law_2236 (pc' := 2699) (ls' := [some (.ref (BIG + 300)), some (.ref (0)), some (.ref (396)), some (.ref (405)), some (.ref (406)), some (.int (nI i)), some (.int (c)), some (.double (w8)), none]) (st' := []) (h' := (N1, SH v1 T1, J, L1, D1)) rfl ?_
      exact Ev.roomL (by omega) (by omega) (bk _ _ _ _ _ _ _ _ _ hN1 hN2 (hinv.mono (by omega) hK))
theorem br_usedShare (hX : JXok X) (hI : INV K N v T I L Dd) (hK : K + 8 ≤ 5000) (hN : N + 1500 < BIG) (hs : i + 6 ≤ jSn X ∧ jSn X ≤ 3072) (hm : 1160 ≤ mc ∧ 1160 ≤ ms) (bk : BK X mc ms N (K + 8) i) : Ev X (jm jdL_law) 20 mc ms lwR 2239 (lsW i l6 l7 l8) [] (N, SH v T, I, L, Dd) := by
  have hI0 := hI
  obtain ⟨g, gs, d, sv, qq, tx, er, fl, w, hp, hq⟩ := hI
  have hN4 := hp.N4
  refine Ev.sg hX sL_law_2239 (pc' := 2242) (ls' := [some (.ref (BIG + 300)), some (.ref (0)), some (.ref (396)), some (.ref (405)), some (.ref (406)), some (.int (nI i)), l6, l7, l8]) (st' := [.ref (406), .ref (0)]) (h' := (N, SH v T, I, L, Dd)) rfl ?_
  obtain ⟨Q', C, hC⟩ := CLS.cr (show CLS X _ _ _ jdX6_usedShare [] jdX7_usedShare [] _ _ N v T I L Dd from b_usedShare hX hp hq (by omega))
  refine Ev.callSX (As := [.ref (0), .ref (406)]) (rest := []) dhL_usedShare mkL_276 dL_law_2242 (wL_usedShare hX rfl C (cr_hF hC) (fun E h' e => by obtain ⟨k, hk⟩ := cr_ex hC e; exact xor1 hk)) ⟨by decide, by decide⟩ ⟨by omega, by omega⟩ rfl (Nat.le_of_ble_eq_true rfl) (fun v9 h9 e9 => ?_) (fun E9 h9 e9 => (wq_no e9).elim)
  obtain ⟨N1, v1, T1, I1, L1, D1, c, hN1, hN2, e8, hM⟩ := wq_g (G := GF) hC (cd_of (l := ["java/lang/ArithmeticException"]) (by decide +kernel) (by decide)) (fun x N1 v1 T1 I1 L1 h2 hb hw => w_F hw) e9
  cases e8
  show Ev _ _ _ _ _ _ 2245 [some (.ref (BIG + 300)), some (.ref (0)), some (.ref (396)), some (.ref (405)), some (.ref (406)), some (.int (nI i)), l6, l7, l8] [.int (c)] (N1, SH v1 T1, I1, L1, D1)
  refine Ev.sg hX sL_law_2245 (pc' := 2248) (ls' := [some (.ref (BIG + 300)), some (.ref (0)), some (.ref (396)), some (.ref (405)), some (.ref (406)), some (.int (nI i)), some (.int (c)), l7, l8]) (st' := [.ref (396)]) (h' := (N1, SH v1 T1, I1, L1, D1)) rfl ?_
  refine Ev.callV (As := []) (rest := []) dvX7_usedShare mkL_278 rfl rfl dL_law_2248 hM ⟨by decide, by decide⟩ ⟨Nat.zero_le _, Nat.zero_le _⟩ rfl (Nat.le_of_ble_eq_true rfl) (fun v9 h9 e9 => ?_) (fun E9 h9 e9 => by obtain ⟨_, _, e, _⟩ := e9; cases e)
  obtain ⟨b, J, e7, ⟨⟨x8, w8, f1, f2, -⟩, hG⟩, h12, hinv⟩ := e9
  cases e7
  subst f2
  show Ev _ _ _ _ _ _ 2251 [some (.ref (BIG + 300)), some (.ref (0)), some (.ref (396)), some (.ref (405)), some (.ref (406)), some (.int (nI i)), some (.int (c)), l7, l8] [.float (w8)] (N1, SH v1 T1, J, L1, D1)
  refine Ev.sg hX sL_law_2251 (pc' := 2254) (ls' := [some (.ref (BIG + 300)), some (.ref (0)), some (.ref (396)), some (.ref (405)), some (.ref (406)), some (.int (nI i)), some (.int (c)), some (.float (w8)), l8]) (st' := [.ref (396)]) (h' := (N1, SH v1 T1, J, L1, D1)) rfl ?_
  refine Ev.callV (As := []) (rest := []) dvX7_thrown mkL_156 rfl rfl dL_law_2254 (m_thrown (d := 12) hX (by decide)) ⟨by decide, by decide⟩ ⟨Nat.zero_le _, Nat.zero_le _⟩ rfl (Nat.le_of_ble_eq_true rfl) (fun v9 h9 e9 => ?_) (fun E9 h9 e9 => nomatch e9)
  cases e9
  show Ev _ _ _ _ _ _ 2257 [some (.ref (BIG + 300)), some (.ref (0)), some (.ref (396)), some (.ref (405)), some (.ref (406)), some (.int (nI i)), some (.int (c)), some (.float (w8)), l8] [.int (J 396 12)] (N1, SH v1 T1, J, L1, D1)
  rw [h12]
  refine Ev.sg hX sL_law_2257 (pc' := 2259) (ls' := [some (.ref (BIG + 300)), some (.ref (0)), some (.ref (396)), some (.ref (405)), some (.ref (406)), some (.int (nI i)), some (.int (c)), some (.float (w8)), l8]) (st' := [.int (c), .int (c)]) (h' := (N1, SH v1 T1, J, L1, D1)) rfl ?_
  refine Ev.icmp_eq (tgt := 2264) dL_law_2259 (by decide) (fun _ => ?_) (fun q => absurd rfl q)
  refine Ev.sg hX sL_law_2264 (pc' := 2266) (ls' := [some (.ref (BIG + 300)), some (.ref (0)), some (.ref (396)), some (.ref (405)), some (.ref (406)), some (.int (nI i)), some (.int (c)), some (.float (w8)), l8]) (st' := [.int (c)]) (h' := (N1, SH v1 T1, J, L1, D1)) rfl ?_
  refine Ev.if_ne (tgt := 2302) dL_law_2266 (by decide) (fun hc0 => ?_) (fun hc0 => ?_)
  · refine Ev.sg hX sL_law_2302 (pc' := 2699) (ls' := [some (.ref (BIG + 300)), some (.ref (0)), some (.ref (396)), some (.ref (405)), some (.ref (406)), some (.int (nI i)), some (.int (c)), some (.float (w8)), l8]) (st' := []) (h' := (N1, SH v1 T1, J, L1, D1)) rfl ?_
    exact Ev.roomL (by omega) (by omega) (bk _ _ _ _ _ _ _ _ _ hN1 hN2 (hinv.mono (by omega) hK))
  · refine Ev.sg hX sL_law_2269 (pc' := 2272) (ls' := [some (.ref (BIG + 300)), some (.ref (0)), some (.ref (396)), some (.ref (405)), some (.ref (406)), some (.int (nI i)), some (.int (c)), some (.float (w8)), l8]) (st' := [.int (0), .ref (406)]) (h' := (N1, SH v1 T1, J, L1, D1)) rfl ?_
    refine Ev.dald (n := 1) rfl (vp_in_nI (n := 0) (N := 1) (by decide) (by decide)) dL_law_2272 ?_
    show Ev _ _ _ _ _ _ 2273 [some (.ref (BIG + 300)), some (.ref (0)), some (.ref (396)), some (.ref (405)), some (.ref (406)), some (.int (nI i)), some (.int (c)), some (.float (w8)), l8] [.double (D1 406 0)] (N1, SH v1 T1, J, L1, D1)
    rw [(gf_eq (hG hc0)).1]
    refine Ev.sg hX sL_law_2273 (pc' := 2275) (ls' := [some (.ref (BIG + 300)), some (.ref (0)), some (.ref (396)), some (.ref (405)), some (.ref (406)), some (.int (nI i)), some (.int (c)), some (.float (w8)), l8]) (st' := [.float (w8), .double (FP.f2d w8)]) (h' := (N1, SH v1 T1, J, L1, D1)) rfl ?_
    refine Ev.f2d (gf_eq (hG hc0)).2 dL_law_2275 ?_
    show Ev _ _ _ _ _ _ 2276 [some (.ref (BIG + 300)), some (.ref (0)), some (.ref (396)), some (.ref (405)), some (.ref (406)), some (.int (nI i)), some (.int (c)), some (.float (w8)), l8] [.double (FP.f2d w8), .double (FP.f2d w8)] (N1, SH v1 T1, J, L1, D1)
    refine Ev.sg hX sL_law_2276 (pc' := 2277) (ls' := [some (.ref (BIG + 300)), some (.ref (0)), some (.ref (396)), some (.ref (405)), some (.ref (406)), some (.int (nI i)), some (.int (c)), some (.float (w8)), l8]) (st' := [.int (Op.cmpValue (FP.dcmp (FP.f2d w8) (FP.f2d w8)) .l)]) (h' := (N1, SH v1 T1, J, L1, D1)) rfl ?_
    rw [dcmp_nn (gf_eq (hG hc0)).2]
    refine Ev.if_eq (tgt := 2302) dL_law_2277 (by decide) (fun _ => ?_) (fun q => absurd rfl q)
    refine Ev.sg hX sL_law_2302 (pc' := 2699) (ls' := [some (.ref (BIG + 300)), some (.ref (0)), some (.ref (396)), some (.ref (405)), some (.ref (406)), some (.int (nI i)), some (.int (c)), some (.float (w8)), l8]) (st' := []) (h' := (N1, SH v1 T1, J, L1, D1)) rfl ?_
    exact Ev.roomL (by omega) (by omega) (bk _ _ _ _ _ _ _ _ _ hN1 hN2 (hinv.mono (by omega) hK))
theorem br_isConsistent (hX : JXok X) (hI : INV K N v T I L Dd) (hK : K + 8 ≤ 5000) (hN : N + 1500 < BIG) (hs : i + 6 ≤ jSn X ∧ jSn X ≤ 3072) (hm : 1160 ≤ mc ∧ 1160 ≤ ms) (bk : BK X mc ms N (K + 8) i) : Ev X (jm jdL_law) 20 mc ms lwR 2305 (lsW i l6 l7 l8) [] (N, SH v T, I, L, Dd) := by
  have hI0 := hI
  obtain ⟨g, gs, d, sv, qq, tx, er, fl, w, hp, hq⟩ := hI
  have hN4 := hp.N4
  refine Ev.sg hX sL_law_2305 (pc' := 2306) (ls' := [some (.ref (BIG + 300)), some (.ref (0)), some (.ref (396)), some (.ref (405)), some (.ref (406)), some (.int (nI i)), l6, l7, l8]) (st' := [.ref (0)]) (h' := (N, SH v T, I, L, Dd)) rfl ?_
  obtain ⟨Q', C, hC⟩ := CLS.cr (show CLS X _ _ _ jdX6_isConsistent [] jdX7_isConsistent [] _ _ N v T I L Dd from b_isConsistent hX hp hq)
  refine Ev.callV (As := []) (rest := []) dvX6_isConsistent mkL_279 rfl rfl dL_law_2306 C ⟨by decide, by decide⟩ ⟨Nat.zero_le _, Nat.zero_le _⟩ rfl (Nat.le_of_ble_eq_true rfl) (fun v9 h9 e9 => ?_) (fun E9 h9 e9 => by obtain ⟨_, _, _, _, _, _, _, _, e, _⟩ := cr_d hC e9; cases e)
  obtain ⟨N1, v1, T1, I1, L1, x9, hN1, hN2, e8, ⟨b0, w9, f1, -⟩, hM⟩ := cr_d hC e9
  cases e8
  subst f1
  show Ev _ _ _ _ _ _ 2309 [some (.ref (BIG + 300)), some (.ref (0)), some (.ref (396)), some (.ref (405)), some (.ref (406)), some (.int (nI i)), l6, l7, l8] [.int (w9)] (N1, SH v1 T1, I1, L1, Dd)
  refine Ev.sg hX sL_law_2309 (pc' := 2310) (ls' := [some (.ref (BIG + 300)), some (.ref (0)), some (.ref (396)), some (.ref (405)), some (.ref (406)), some (.int (nI i)), l6, l7, l8]) (st' := [.ref (396), .int (w9)]) (h' := (N1, SH v1 T1, I1, L1, Dd)) rfl ?_
  refine Ev.callV (As := []) (rest := [.int (w9)]) dvX7_isConsistent mkL_283 rfl rfl dL_law_2310 hM ⟨by decide, by decide⟩ ⟨Nat.zero_le _, Nat.zero_le _⟩ rfl (Nat.le_of_ble_eq_true rfl) (fun v9 h9 e9 => ?_) (fun E9 h9 e9 => by obtain ⟨_, _, e, _⟩ := e9; cases e)
  obtain ⟨b, J, e7, ⟨w8, f2, f3⟩, h12, hinv⟩ := e9
  cases e7
  cases f2
  subst f3
  show Ev _ _ _ _ _ _ 2313 [some (.ref (BIG + 300)), some (.ref (0)), some (.ref (396)), some (.ref (405)), some (.ref (406)), some (.int (nI i)), l6, l7, l8] [.int (w9), .int (w9)] (N1, SH v1 T1, J, L1, Dd)
  refine Ev.icmp_eq (tgt := 2699) dL_law_2313 (by decide) (fun _ => ?_) (fun q => absurd rfl q)
  exact Ev.roomL (by omega) (by omega) (bk _ _ _ _ _ _ _ _ _ hN1 hN2 (hinv.mono (by omega) hK))
theorem br_append (hX : JXok X) (hI : INV K N v T I L Dd) (hK : K + 8 ≤ 5000) (hN : N + 1500 < BIG) (hs : i + 6 ≤ jSn X ∧ jSn X ≤ 3072) (hm : 1160 ≤ mc ∧ 1160 ≤ ms) (bk : BK X mc ms N (K + 8) i) : Ev X (jm jdL_law) 20 mc ms lwR 2318 (lsW i l6 l7 l8) [] (N, SH v T, I, L, Dd) := by
  have hI0 := hI
  obtain ⟨g, gs, d, sv, qq, tx, er, fl, w, hp, hq⟩ := hI
  have hN4 := hp.N4
  refine Ev.sg hX sL_law_2318 (pc' := 2324) (ls' := [some (.ref (BIG + 300)), some (.ref (0)), some (.ref (396)), some (.ref (405)), some (.ref (406)), some (.int (nI i)), l6, l7, l8]) (st' := [.int ((nI i) + 1), .ref (BIG + 300), .ref (0)]) (h' := (N, SH v T, I, L, Dd)) rfl ?_
  refine Ev.ialdX (n := i + 1) (naI rfl rfl) (by omega) (by omega) dL_law_2324 ?_
  show Ev _ _ _ _ _ _ 2325 [some (.ref (BIG + 300)), some (.ref (0)), some (.ref (396)), some (.ref (405)), some (.ref (406)), some (.int (nI i)), l6, l7, l8] [.int (jSf X (i + 1)), .ref (0)] (N, SH v T, I, L, Dd)
  refine Ev.sg hX sL_law_2325 (pc' := 2327) (ls' := [some (.ref (BIG + 300)), some (.ref (0)), some (.ref (396)), some (.ref (405)), some (.ref (406)), some (.int (nI i)), l6, l7, l8]) (st' := [.ref (405), .int (((jSf X (i + 1)).toUInt32 % 65536).toInt32), .ref (0)]) (h' := (N, SH v T, I, L, Dd)) rfl ?_
  obtain ⟨Q', C, hC⟩ := CLS.cr (show CLS X _ _ _ jdX6_append [.int (((jSf X (i + 1)).toUInt32 % 65536).toInt32)] jdX7_append [.int (((jSf X (i + 1)).toUInt32 % 65536).toInt32)] _ _ N v T I L Dd from b_append hX hp hq (by omega) (nar_c _))
  refine Ev.callSX (As := [.ref (0), .int (((jSf X (i + 1)).toUInt32 % 65536).toInt32), .ref (405)]) (rest := []) dhL_append mkL_284 dL_law_2327 (wL_append hX rfl C (cr_hI hC) (fun E h' e => by obtain ⟨k, hk⟩ := cr_ex hC e; exact xor1 hk)) ⟨by decide, by decide⟩ ⟨by omega, by omega⟩ rfl (Nat.le_of_ble_eq_true rfl) (fun v9 h9 e9 => ?_) (fun E9 h9 e9 => (wq_no e9).elim)
  obtain ⟨N1, v1, T1, I1, L1, D1, c, hN1, hN2, e8, hM⟩ := wq_g (G := GI) hC (cd_of (l := ["java/lang/IllegalStateException"]) (by decide +kernel) (by decide)) (fun x N1 v1 T1 I1 L1 h2 hb hw => w_I hw) e9
  cases e8
  show Ev _ _ _ _ _ _ 2330 [some (.ref (BIG + 300)), some (.ref (0)), some (.ref (396)), some (.ref (405)), some (.ref (406)), some (.int (nI i)), l6, l7, l8] [.int (c)] (N1, SH v1 T1, I1, L1, D1)
  refine Ev.sg hX sL_law_2330 (pc' := 2338) (ls' := [some (.ref (BIG + 300)), some (.ref (0)), some (.ref (396)), some (.ref (405)), some (.ref (406)), some (.int (nI i)), some (.int (c)), l7, l8]) (st' := [.int ((nI i) + 1), .ref (BIG + 300), .ref (396)]) (h' := (N1, SH v1 T1, I1, L1, D1)) rfl ?_
  refine Ev.ialdX (n := i + 1) (naI rfl rfl) (by omega) (by omega) dL_law_2338 ?_
  show Ev _ _ _ _ _ _ 2339 [some (.ref (BIG + 300)), some (.ref (0)), some (.ref (396)), some (.ref (405)), some (.ref (406)), some (.int (nI i)), some (.int (c)), l7, l8] [.int (jSf X (i + 1)), .ref (396)] (N1, SH v1 T1, I1, L1, D1)
  refine Ev.sg hX sL_law_2339 (pc' := 2340) (ls' := [some (.ref (BIG + 300)), some (.ref (0)), some (.ref (396)), some (.ref (405)), some (.ref (406)), some (.int (nI i)), some (.int (c)), l7, l8]) (st' := [.int (((jSf X (i + 1)).toUInt32 % 65536).toInt32), .ref (396)]) (h' := (N1, SH v1 T1, I1, L1, D1)) rfl ?_
  refine Ev.callV (As := [.int (((jSf X (i + 1)).toUInt32 % 65536).toInt32)]) (rest := []) dvX7_append mkL_287 rfl rfl dL_law_2340 hM ⟨by decide, by decide⟩ ⟨Nat.zero_le _, Nat.zero_le _⟩ rfl (Nat.le_of_ble_eq_true rfl) (fun v9 h9 e9 => ?_) (fun E9 h9 e9 => by obtain ⟨_, _, e, _⟩ := e9; cases e)
  obtain ⟨b, J, e7, ⟨⟨x8, w8, f1, f2⟩, hG⟩, h12, hinv⟩ := e9
  cases e7
  subst f2
  show Ev _ _ _ _ _ _ 2343 [some (.ref (BIG + 300)), some (.ref (0)), some (.ref (396)), some (.ref (405)), some (.ref (406)), some (.int (nI i)), some (.int (c)), l7, l8] [.int (w8)] (N1, SH v1 T1, J, L1, D1)
  refine Ev.sg hX sL_law_2343 (pc' := 2346) (ls' := [some (.ref (BIG + 300)), some (.ref (0)), some (.ref (396)), some (.ref (405)), some (.ref (406)), some (.int (nI i)), some (.int (c)), some (.int (w8)), l8]) (st' := [.ref (396)]) (h' := (N1, SH v1 T1, J, L1, D1)) rfl ?_
  refine Ev.callV (As := []) (rest := []) dvX7_thrown mkL_156 rfl rfl dL_law_2346 (m_thrown (d := 12) hX (by decide)) ⟨by decide, by decide⟩ ⟨Nat.zero_le _, Nat.zero_le _⟩ rfl (Nat.le_of_ble_eq_true rfl) (fun v9 h9 e9 => ?_) (fun E9 h9 e9 => nomatch e9)
  cases e9
  show Ev _ _ _ _ _ _ 2349 [some (.ref (BIG + 300)), some (.ref (0)), some (.ref (396)), some (.ref (405)), some (.ref (406)), some (.int (nI i)), some (.int (c)), some (.int (w8)), l8] [.int (J 396 12)] (N1, SH v1 T1, J, L1, D1)
  rw [h12]
  refine Ev.sg hX sL_law_2349 (pc' := 2351) (ls' := [some (.ref (BIG + 300)), some (.ref (0)), some (.ref (396)), some (.ref (405)), some (.ref (406)), some (.int (nI i)), some (.int (c)), some (.int (w8)), l8]) (st' := [.int (c), .int (c)]) (h' := (N1, SH v1 T1, J, L1, D1)) rfl ?_
  refine Ev.icmp_eq (tgt := 2356) dL_law_2351 (by decide) (fun _ => ?_) (fun q => absurd rfl q)
  refine Ev.sg hX sL_law_2356 (pc' := 2358) (ls' := [some (.ref (BIG + 300)), some (.ref (0)), some (.ref (396)), some (.ref (405)), some (.ref (406)), some (.int (nI i)), some (.int (c)), some (.int (w8)), l8]) (st' := [.int (c)]) (h' := (N1, SH v1 T1, J, L1, D1)) rfl ?_
  refine Ev.if_ne (tgt := 2373) dL_law_2358 (by decide) (fun hc0 => ?_) (fun hc0 => ?_)
  · refine Ev.sg hX sL_law_2373 (pc' := 2699) (ls' := [some (.ref (BIG + 300)), some (.ref (0)), some (.ref (396)), some (.ref (405)), some (.ref (406)), some (.int (nI i)), some (.int (c)), some (.int (w8)), l8]) (st' := []) (h' := (N1, SH v1 T1, J, L1, D1)) rfl ?_
    exact Ev.roomL (by omega) (by omega) (bk _ _ _ _ _ _ _ _ _ hN1 hN2 (hinv.mono (by omega) hK))
  · refine Ev.sg hX sL_law_2361 (pc' := 2363) (ls' := [some (.ref (BIG + 300)), some (.ref (0)), some (.ref (396)), some (.ref (405)), some (.ref (406)), some (.int (nI i)), some (.int (c)), some (.int (w8)), l8]) (st' := [.int (0), .ref (405)]) (h' := (N1, SH v1 T1, J, L1, D1)) rfl ?_
    refine Ev.lald (n := 1) rfl (vp_in_nI (n := 0) (N := 1) (by decide) (by decide)) dL_law_2363 ?_
    show Ev _ _ _ _ _ _ 2364 [some (.ref (BIG + 300)), some (.ref (0)), some (.ref (396)), some (.ref (405)), some (.ref (406)), some (.int (nI i)), some (.int (c)), some (.int (w8)), l8] [.long (L1 405 0)] (N1, SH v1 T1, J, L1, D1)
    rw [gi_eq (hG hc0)]
    refine Ev.sg hX sL_law_2364 (pc' := 2368) (ls' := [some (.ref (BIG + 300)), some (.ref (0)), some (.ref (396)), some (.ref (405)), some (.ref (406)), some (.int (nI i)), some (.int (c)), some (.int (w8)), l8]) (st' := [.int (lg_cmp w8.toInt64 w8.toInt64)]) (h' := (N1, SH v1 T1, J, L1, D1)) rfl ?_
    rw [lcmp_self]
    refine Ev.if_eq (tgt := 2373) dL_law_2368 (by decide) (fun _ => ?_) (fun q => absurd rfl q)
    refine Ev.sg hX sL_law_2373 (pc' := 2699) (ls' := [some (.ref (BIG + 300)), some (.ref (0)), some (.ref (396)), some (.ref (405)), some (.ref (406)), some (.int (nI i)), some (.int (c)), some (.int (w8)), l8]) (st' := []) (h' := (N1, SH v1 T1, J, L1, D1)) rfl ?_
    exact Ev.roomL (by omega) (by omega) (bk _ _ _ _ _ _ _ _ _ hN1 hN2 (hinv.mono (by omega) hK))
theorem br_run (hX : JXok X) (hI : INV K N v T I L Dd) (hK : K + 8 ≤ 5000) (hN : N + 1500 < BIG) (hs : i + 6 ≤ jSn X ∧ jSn X ≤ 3072) (hm : 1160 ≤ mc ∧ 1160 ≤ ms) (bk : BK X mc ms N (K + 8) i) : Ev X (jm jdL_law) 20 mc ms lwR 2376 (lsW i l6 l7 l8) [] (N, SH v T, I, L, Dd) := by
  have hI0 := hI
  obtain ⟨g, gs, d, sv, qq, tx, er, fl, w, hp, hq⟩ := hI
  have hN4 := hp.N4
  refine Ev.sg hX sL_law_2376 (pc' := 2378) (ls' := [some (.ref (BIG + 300)), some (.ref (0)), some (.ref (396)), some (.ref (405)), some (.ref (406)), some (.int (nI i)), l6, l7, l8]) (st' := [.ref (405), .ref (0)]) (h' := (N, SH v T, I, L, Dd)) rfl ?_
  obtain ⟨Q', C, hC⟩ := CLS.cr (show CLS X _ _ _ jdX6_run [] jdX7_run [] _ _ N v T I L Dd from b_run hX hp hq (by omega) (by omega))
  refine Ev.callSX (As := [.ref (0), .ref (405)]) (rest := []) dhL_run mkL_288 dL_law_2378 (wL_run hX rfl C (cr_hI hC) (fun E h' e => by obtain ⟨k, hk⟩ := cr_ex hC e; exact xor2 hk)) ⟨by decide, by decide⟩ ⟨by omega, by omega⟩ rfl (Nat.le_of_ble_eq_true rfl) (fun v9 h9 e9 => ?_) (fun E9 h9 e9 => (wq_no e9).elim)
  obtain ⟨N1, v1, T1, I1, L1, D1, c, hN1, hN2, e8, hM⟩ := wq_g (G := GI) hC (cd_of (l := ["java/lang/IllegalArgumentException", "java/lang/UnsupportedOperationException"]) (by decide +kernel) (by decide)) (fun x N1 v1 T1 I1 L1 h2 hb hw => w_I hw) e9
  cases e8
  show Ev _ _ _ _ _ _ 2381 [some (.ref (BIG + 300)), some (.ref (0)), some (.ref (396)), some (.ref (405)), some (.ref (406)), some (.int (nI i)), l6, l7, l8] [.int (c)] (N1, SH v1 T1, I1, L1, D1)
  refine Ev.sg hX sL_law_2381 (pc' := 2384) (ls' := [some (.ref (BIG + 300)), some (.ref (0)), some (.ref (396)), some (.ref (405)), some (.ref (406)), some (.int (nI i)), some (.int (c)), l7, l8]) (st' := [.ref (396)]) (h' := (N1, SH v1 T1, I1, L1, D1)) rfl ?_
  refine Ev.callV (As := []) (rest := []) dvX7_run mkL_291 rfl rfl dL_law_2384 hM ⟨by decide, by decide⟩ ⟨Nat.zero_le _, Nat.zero_le _⟩ rfl (Nat.le_of_ble_eq_true rfl) (fun v9 h9 e9 => ?_) (fun E9 h9 e9 => by obtain ⟨_, _, e, _⟩ := e9; cases e)
  obtain ⟨b, J, e7, ⟨⟨x8, w8, f1, f2⟩, hG⟩, h12, hinv⟩ := e9
  cases e7
  subst f2
  show Ev _ _ _ _ _ _ 2387 [some (.ref (BIG + 300)), some (.ref (0)), some (.ref (396)), some (.ref (405)), some (.ref (406)), some (.int (nI i)), some (.int (c)), l7, l8] [.int (w8)] (N1, SH v1 T1, J, L1, D1)
  refine Ev.sg hX sL_law_2387 (pc' := 2390) (ls' := [some (.ref (BIG + 300)), some (.ref (0)), some (.ref (396)), some (.ref (405)), some (.ref (406)), some (.int (nI i)), some (.int (c)), some (.int (w8)), l8]) (st' := [.ref (396)]) (h' := (N1, SH v1 T1, J, L1, D1)) rfl ?_
  refine Ev.callV (As := []) (rest := []) dvX7_thrown mkL_156 rfl rfl dL_law_2390 (m_thrown (d := 12) hX (by decide)) ⟨by decide, by decide⟩ ⟨Nat.zero_le _, Nat.zero_le _⟩ rfl (Nat.le_of_ble_eq_true rfl) (fun v9 h9 e9 => ?_) (fun E9 h9 e9 => nomatch e9)
  cases e9
  show Ev _ _ _ _ _ _ 2393 [some (.ref (BIG + 300)), some (.ref (0)), some (.ref (396)), some (.ref (405)), some (.ref (406)), some (.int (nI i)), some (.int (c)), some (.int (w8)), l8] [.int (J 396 12)] (N1, SH v1 T1, J, L1, D1)
  rw [h12]
  refine Ev.sg hX sL_law_2393 (pc' := 2395) (ls' := [some (.ref (BIG + 300)), some (.ref (0)), some (.ref (396)), some (.ref (405)), some (.ref (406)), some (.int (nI i)), some (.int (c)), some (.int (w8)), l8]) (st' := [.int (c), .int (c)]) (h' := (N1, SH v1 T1, J, L1, D1)) rfl ?_
  refine Ev.icmp_eq (tgt := 2400) dL_law_2395 (by decide) (fun _ => ?_) (fun q => absurd rfl q)
  refine Ev.sg hX sL_law_2400 (pc' := 2402) (ls' := [some (.ref (BIG + 300)), some (.ref (0)), some (.ref (396)), some (.ref (405)), some (.ref (406)), some (.int (nI i)), some (.int (c)), some (.int (w8)), l8]) (st' := [.int (c)]) (h' := (N1, SH v1 T1, J, L1, D1)) rfl ?_
  refine Ev.if_ne (tgt := 2417) dL_law_2402 (by decide) (fun hc0 => ?_) (fun hc0 => ?_)
  · refine Ev.sg hX sL_law_2417 (pc' := 2699) (ls' := [some (.ref (BIG + 300)), some (.ref (0)), some (.ref (396)), some (.ref (405)), some (.ref (406)), some (.int (nI i)), some (.int (c)), some (.int (w8)), l8]) (st' := []) (h' := (N1, SH v1 T1, J, L1, D1)) rfl ?_
    exact Ev.roomL (by omega) (by omega) (bk _ _ _ _ _ _ _ _ _ hN1 hN2 (hinv.mono (by omega) hK))
  · refine Ev.sg hX sL_law_2405 (pc' := 2407) (ls' := [some (.ref (BIG + 300)), some (.ref (0)), some (.ref (396)), some (.ref (405)), some (.ref (406)), some (.int (nI i)), some (.int (c)), some (.int (w8)), l8]) (st' := [.int (0), .ref (405)]) (h' := (N1, SH v1 T1, J, L1, D1)) rfl ?_
    refine Ev.lald (n := 1) rfl (vp_in_nI (n := 0) (N := 1) (by decide) (by decide)) dL_law_2407 ?_
    show Ev _ _ _ _ _ _ 2408 [some (.ref (BIG + 300)), some (.ref (0)), some (.ref (396)), some (.ref (405)), some (.ref (406)), some (.int (nI i)), some (.int (c)), some (.int (w8)), l8] [.long (L1 405 0)] (N1, SH v1 T1, J, L1, D1)
    rw [gi_eq (hG hc0)]
    refine Ev.sg hX sL_law_2408 (pc' := 2412) (ls' := [some (.ref (BIG + 300)), some (.ref (0)), some (.ref (396)), some (.ref (405)), some (.ref (406)), some (.int (nI i)), some (.int (c)), some (.int (w8)), l8]) (st' := [.int (lg_cmp w8.toInt64 w8.toInt64)]) (h' := (N1, SH v1 T1, J, L1, D1)) rfl ?_
    rw [lcmp_self]
    refine Ev.if_eq (tgt := 2417) dL_law_2412 (by decide) (fun _ => ?_) (fun q => absurd rfl q)
    refine Ev.sg hX sL_law_2417 (pc' := 2699) (ls' := [some (.ref (BIG + 300)), some (.ref (0)), some (.ref (396)), some (.ref (405)), some (.ref (406)), some (.int (nI i)), some (.int (c)), some (.int (w8)), l8]) (st' := []) (h' := (N1, SH v1 T1, J, L1, D1)) rfl ?_
    exact Ev.roomL (by omega) (by omega) (bk _ _ _ _ _ _ _ _ _ hN1 hN2 (hinv.mono (by omega) hK))
theorem br_errorPosition (hX : JXok X) (hI : INV K N v T I L Dd) (hK : K + 8 ≤ 5000) (hN : N + 1500 < BIG) (hs : i + 6 ≤ jSn X ∧ jSn X ≤ 3072) (hm : 1160 ≤ mc ∧ 1160 ≤ ms) (bk : BK X mc ms N (K + 8) i) : Ev X (jm jdL_law) 20 mc ms lwR 2420 (lsW i l6 l7 l8) [] (N, SH v T, I, L, Dd) := by
  have hI0 := hI
  obtain ⟨g, gs, d, sv, qq, tx, er, fl, w, hp, hq⟩ := hI
  have hN4 := hp.N4
  refine Ev.sg hX sL_law_2420 (pc' := 2422) (ls' := [some (.ref (BIG + 300)), some (.ref (0)), some (.ref (396)), some (.ref (405)), some (.ref (406)), some (.int (nI i)), l6, l7, l8]) (st' := [.ref (405), .ref (0)]) (h' := (N, SH v T, I, L, Dd)) rfl ?_
  obtain ⟨Q', C, hC⟩ := CLS.cr (show CLS X _ _ _ jdX6_errorPosition [] jdX7_errorPosition [] _ _ N v T I L Dd from b_errorPosition hX hp hq (by omega))
  refine Ev.callSX (As := [.ref (0), .ref (405)]) (rest := []) dhL_errorPosition mkL_292 dL_law_2422 (wL_errorPosition hX rfl C (cr_hI hC) (fun E h' e => by obtain ⟨k, hk⟩ := cr_ex hC e; exact xor1 hk)) ⟨by decide, by decide⟩ ⟨by omega, by omega⟩ rfl (Nat.le_of_ble_eq_true rfl) (fun v9 h9 e9 => ?_) (fun E9 h9 e9 => (wq_no e9).elim)
  obtain ⟨N1, v1, T1, I1, L1, D1, c, hN1, hN2, e8, hM⟩ := wq_g (G := GI) hC (cd_of (l := ["java/util/NoSuchElementException"]) (by decide +kernel) (by decide)) (fun x N1 v1 T1 I1 L1 h2 hb hw => w_I hw) e9
  cases e8
  show Ev _ _ _ _ _ _ 2425 [some (.ref (BIG + 300)), some (.ref (0)), some (.ref (396)), some (.ref (405)), some (.ref (406)), some (.int (nI i)), l6, l7, l8] [.int (c)] (N1, SH v1 T1, I1, L1, D1)
  refine Ev.sg hX sL_law_2425 (pc' := 2428) (ls' := [some (.ref (BIG + 300)), some (.ref (0)), some (.ref (396)), some (.ref (405)), some (.ref (406)), some (.int (nI i)), some (.int (c)), l7, l8]) (st' := [.ref (396)]) (h' := (N1, SH v1 T1, I1, L1, D1)) rfl ?_
  refine Ev.callV (As := []) (rest := []) dvX7_errorPosition mkL_294 rfl rfl dL_law_2428 hM ⟨by decide, by decide⟩ ⟨Nat.zero_le _, Nat.zero_le _⟩ rfl (Nat.le_of_ble_eq_true rfl) (fun v9 h9 e9 => ?_) (fun E9 h9 e9 => by obtain ⟨_, _, e, _⟩ := e9; cases e)
  obtain ⟨b, J, e7, ⟨⟨x8, w8, f1, f2⟩, hG⟩, h12, hinv⟩ := e9
  cases e7
  subst f2
  show Ev _ _ _ _ _ _ 2431 [some (.ref (BIG + 300)), some (.ref (0)), some (.ref (396)), some (.ref (405)), some (.ref (406)), some (.int (nI i)), some (.int (c)), l7, l8] [.int (w8)] (N1, SH v1 T1, J, L1, D1)
  refine Ev.sg hX sL_law_2431 (pc' := 2434) (ls' := [some (.ref (BIG + 300)), some (.ref (0)), some (.ref (396)), some (.ref (405)), some (.ref (406)), some (.int (nI i)), some (.int (c)), some (.int (w8)), l8]) (st' := [.ref (396)]) (h' := (N1, SH v1 T1, J, L1, D1)) rfl ?_
  refine Ev.callV (As := []) (rest := []) dvX7_thrown mkL_156 rfl rfl dL_law_2434 (m_thrown (d := 12) hX (by decide)) ⟨by decide, by decide⟩ ⟨Nat.zero_le _, Nat.zero_le _⟩ rfl (Nat.le_of_ble_eq_true rfl) (fun v9 h9 e9 => ?_) (fun E9 h9 e9 => nomatch e9)
  cases e9
  show Ev _ _ _ _ _ _ 2437 [some (.ref (BIG + 300)), some (.ref (0)), some (.ref (396)), some (.ref (405)), some (.ref (406)), some (.int (nI i)), some (.int (c)), some (.int (w8)), l8] [.int (J 396 12)] (N1, SH v1 T1, J, L1, D1)
  rw [h12]
  refine Ev.sg hX sL_law_2437 (pc' := 2439) (ls' := [some (.ref (BIG + 300)), some (.ref (0)), some (.ref (396)), some (.ref (405)), some (.ref (406)), some (.int (nI i)), some (.int (c)), some (.int (w8)), l8]) (st' := [.int (c), .int (c)]) (h' := (N1, SH v1 T1, J, L1, D1)) rfl ?_
  refine Ev.icmp_eq (tgt := 2444) dL_law_2439 (by decide) (fun _ => ?_) (fun q => absurd rfl q)
  refine Ev.sg hX sL_law_2444 (pc' := 2446) (ls' := [some (.ref (BIG + 300)), some (.ref (0)), some (.ref (396)), some (.ref (405)), some (.ref (406)), some (.int (nI i)), some (.int (c)), some (.int (w8)), l8]) (st' := [.int (c)]) (h' := (N1, SH v1 T1, J, L1, D1)) rfl ?_
  refine Ev.if_ne (tgt := 2461) dL_law_2446 (by decide) (fun hc0 => ?_) (fun hc0 => ?_)
  · refine Ev.sg hX sL_law_2461 (pc' := 2699) (ls' := [some (.ref (BIG + 300)), some (.ref (0)), some (.ref (396)), some (.ref (405)), some (.ref (406)), some (.int (nI i)), some (.int (c)), some (.int (w8)), l8]) (st' := []) (h' := (N1, SH v1 T1, J, L1, D1)) rfl ?_
    exact Ev.roomL (by omega) (by omega) (bk _ _ _ _ _ _ _ _ _ hN1 hN2 (hinv.mono (by omega) hK))
  · refine Ev.sg hX sL_law_2449 (pc' := 2451) (ls' := [some (.ref (BIG + 300)), some (.ref (0)), some (.ref (396)), some (.ref (405)), some (.ref (406)), some (.int (nI i)), some (.int (c)), some (.int (w8)), l8]) (st' := [.int (0), .ref (405)]) (h' := (N1, SH v1 T1, J, L1, D1)) rfl ?_
    refine Ev.lald (n := 1) rfl (vp_in_nI (n := 0) (N := 1) (by decide) (by decide)) dL_law_2451 ?_
    show Ev _ _ _ _ _ _ 2452 [some (.ref (BIG + 300)), some (.ref (0)), some (.ref (396)), some (.ref (405)), some (.ref (406)), some (.int (nI i)), some (.int (c)), some (.int (w8)), l8] [.long (L1 405 0)] (N1, SH v1 T1, J, L1, D1)
    rw [gi_eq (hG hc0)]
    refine Ev.sg hX sL_law_2452 (pc' := 2456) (ls' := [some (.ref (BIG + 300)), some (.ref (0)), some (.ref (396)), some (.ref (405)), some (.ref (406)), some (.int (nI i)), some (.int (c)), some (.int (w8)), l8]) (st' := [.int (lg_cmp w8.toInt64 w8.toInt64)]) (h' := (N1, SH v1 T1, J, L1, D1)) rfl ?_
    rw [lcmp_self]
    refine Ev.if_eq (tgt := 2461) dL_law_2456 (by decide) (fun _ => ?_) (fun q => absurd rfl q)
    refine Ev.sg hX sL_law_2461 (pc' := 2699) (ls' := [some (.ref (BIG + 300)), some (.ref (0)), some (.ref (396)), some (.ref (405)), some (.ref (406)), some (.int (nI i)), some (.int (c)), some (.int (w8)), l8]) (st' := []) (h' := (N1, SH v1 T1, J, L1, D1)) rfl ?_
    exact Ev.roomL (by omega) (by omega) (bk _ _ _ _ _ _ _ _ _ hN1 hN2 (hinv.mono (by omega) hK))
theorem br_failedCommand (hX : JXok X) (hI : INV K N v T I L Dd) (hK : K + 8 ≤ 5000) (hN : N + 1500 < BIG) (hs : i + 6 ≤ jSn X ∧ jSn X ≤ 3072) (hm : 1160 ≤ mc ∧ 1160 ≤ ms) (bk : BK X mc ms N (K + 8) i) : Ev X (jm jdL_law) 20 mc ms lwR 2464 (lsW i l6 l7 l8) [] (N, SH v T, I, L, Dd) := by
  have hI0 := hI
  obtain ⟨g, gs, d, sv, qq, tx, er, fl, w, hp, hq⟩ := hI
  have hN4 := hp.N4
  refine Ev.sg hX sL_law_2464 (pc' := 2466) (ls' := [some (.ref (BIG + 300)), some (.ref (0)), some (.ref (396)), some (.ref (405)), some (.ref (406)), some (.int (nI i)), l6, l7, l8]) (st' := [.ref (405), .ref (0)]) (h' := (N, SH v T, I, L, Dd)) rfl ?_
  obtain ⟨Q', C, hC⟩ := CLS.cr (show CLS X _ _ _ jdX6_failedCommand [] jdX7_failedCommand [] _ _ N v T I L Dd from b_failedCommand hX hp hq (by omega))
  refine Ev.callSX (As := [.ref (0), .ref (405)]) (rest := []) dhL_failedCommand mkL_295 dL_law_2466 (wL_failedCommand hX rfl C (cr_hI hC) (fun E h' e => by obtain ⟨k, hk⟩ := cr_ex hC e; exact xor1 hk)) ⟨by decide, by decide⟩ ⟨by omega, by omega⟩ rfl (Nat.le_of_ble_eq_true rfl) (fun v9 h9 e9 => ?_) (fun E9 h9 e9 => (wq_no e9).elim)
  obtain ⟨N1, v1, T1, I1, L1, D1, c, hN1, hN2, e8, hM⟩ := wq_g (G := GI) hC (cd_of (l := ["java/util/NoSuchElementException"]) (by decide +kernel) (by decide)) (fun x N1 v1 T1 I1 L1 h2 hb hw => w_I hw) e9
  cases e8
  show Ev _ _ _ _ _ _ 2469 [some (.ref (BIG + 300)), some (.ref (0)), some (.ref (396)), some (.ref (405)), some (.ref (406)), some (.int (nI i)), l6, l7, l8] [.int (c)] (N1, SH v1 T1, I1, L1, D1)
  refine Ev.sg hX sL_law_2469 (pc' := 2472) (ls' := [some (.ref (BIG + 300)), some (.ref (0)), some (.ref (396)), some (.ref (405)), some (.ref (406)), some (.int (nI i)), some (.int (c)), l7, l8]) (st' := [.ref (396)]) (h' := (N1, SH v1 T1, I1, L1, D1)) rfl ?_
  refine Ev.callV (As := []) (rest := []) dvX7_failedCommand mkL_297 rfl rfl dL_law_2472 hM ⟨by decide, by decide⟩ ⟨Nat.zero_le _, Nat.zero_le _⟩ rfl (Nat.le_of_ble_eq_true rfl) (fun v9 h9 e9 => ?_) (fun E9 h9 e9 => by obtain ⟨_, _, e, _⟩ := e9; cases e)
  obtain ⟨b, J, e7, ⟨⟨x8, w8, f1, f2⟩, hG⟩, h12, hinv⟩ := e9
  cases e7
  subst f2
  show Ev _ _ _ _ _ _ 2475 [some (.ref (BIG + 300)), some (.ref (0)), some (.ref (396)), some (.ref (405)), some (.ref (406)), some (.int (nI i)), some (.int (c)), l7, l8] [.int (w8)] (N1, SH v1 T1, J, L1, D1)
  refine Ev.sg hX sL_law_2475 (pc' := 2478) (ls' := [some (.ref (BIG + 300)), some (.ref (0)), some (.ref (396)), some (.ref (405)), some (.ref (406)), some (.int (nI i)), some (.int (c)), some (.int (w8)), l8]) (st' := [.ref (396)]) (h' := (N1, SH v1 T1, J, L1, D1)) rfl ?_
  refine Ev.callV (As := []) (rest := []) dvX7_thrown mkL_156 rfl rfl dL_law_2478 (m_thrown (d := 12) hX (by decide)) ⟨by decide, by decide⟩ ⟨Nat.zero_le _, Nat.zero_le _⟩ rfl (Nat.le_of_ble_eq_true rfl) (fun v9 h9 e9 => ?_) (fun E9 h9 e9 => nomatch e9)
  cases e9
  show Ev _ _ _ _ _ _ 2481 [some (.ref (BIG + 300)), some (.ref (0)), some (.ref (396)), some (.ref (405)), some (.ref (406)), some (.int (nI i)), some (.int (c)), some (.int (w8)), l8] [.int (J 396 12)] (N1, SH v1 T1, J, L1, D1)
  rw [h12]
  refine Ev.sg hX sL_law_2481 (pc' := 2483) (ls' := [some (.ref (BIG + 300)), some (.ref (0)), some (.ref (396)), some (.ref (405)), some (.ref (406)), some (.int (nI i)), some (.int (c)), some (.int (w8)), l8]) (st' := [.int (c), .int (c)]) (h' := (N1, SH v1 T1, J, L1, D1)) rfl ?_
  refine Ev.icmp_eq (tgt := 2488) dL_law_2483 (by decide) (fun _ => ?_) (fun q => absurd rfl q)
  refine Ev.sg hX sL_law_2488 (pc' := 2490) (ls' := [some (.ref (BIG + 300)), some (.ref (0)), some (.ref (396)), some (.ref (405)), some (.ref (406)), some (.int (nI i)), some (.int (c)), some (.int (w8)), l8]) (st' := [.int (c)]) (h' := (N1, SH v1 T1, J, L1, D1)) rfl ?_
  refine Ev.if_ne (tgt := 2505) dL_law_2490 (by decide) (fun hc0 => ?_) (fun hc0 => ?_)
  · refine Ev.sg hX sL_law_2505 (pc' := 2699) (ls' := [some (.ref (BIG + 300)), some (.ref (0)), some (.ref (396)), some (.ref (405)), some (.ref (406)), some (.int (nI i)), some (.int (c)), some (.int (w8)), l8]) (st' := []) (h' := (N1, SH v1 T1, J, L1, D1)) rfl ?_
    exact Ev.roomL (by omega) (by omega) (bk _ _ _ _ _ _ _ _ _ hN1 hN2 (hinv.mono (by omega) hK))
  · refine Ev.sg hX sL_law_2493 (pc' := 2495) (ls' := [some (.ref (BIG + 300)), some (.ref (0)), some (.ref (396)), some (.ref (405)), some (.ref (406)), some (.int (nI i)), some (.int (c)), some (.int (w8)), l8]) (st' := [.int (0), .ref (405)]) (h' := (N1, SH v1 T1, J, L1, D1)) rfl ?_
    refine Ev.lald (n := 1) rfl (vp_in_nI (n := 0) (N := 1) (by decide) (by decide)) dL_law_2495 ?_
    show Ev _ _ _ _ _ _ 2496 [some (.ref (BIG + 300)), some (.ref (0)), some (.ref (396)), some (.ref (405)), some (.ref (406)), some (.int (nI i)), some (.int (c)), some (.int (w8)), l8] [.long (L1 405 0)] (N1, SH v1 T1, J, L1, D1)
    rw [gi_eq (hG hc0)]
    refine Ev.sg hX sL_law_2496 (pc' := 2500) (ls' := [some (.ref (BIG + 300)), some (.ref (0)), some (.ref (396)), some (.ref (405)), some (.ref (406)), some (.int (nI i)), some (.int (c)), some (.int (w8)), l8]) (st' := [.int (lg_cmp w8.toInt64 w8.toInt64)]) (h' := (N1, SH v1 T1, J, L1, D1)) rfl ?_
    rw [lcmp_self]
    refine Ev.if_eq (tgt := 2505) dL_law_2500 (by decide) (fun _ => ?_) (fun q => absurd rfl q)
    refine Ev.sg hX sL_law_2505 (pc' := 2699) (ls' := [some (.ref (BIG + 300)), some (.ref (0)), some (.ref (396)), some (.ref (405)), some (.ref (406)), some (.int (nI i)), some (.int (c)), some (.int (w8)), l8]) (st' := []) (h' := (N1, SH v1 T1, J, L1, D1)) rfl ?_
    exact Ev.roomL (by omega) (by omega) (bk _ _ _ _ _ _ _ _ _ hN1 hN2 (hinv.mono (by omega) hK))
theorem br_writeTrack (hX : JXok X) (hI : INV K N v T I L Dd) (hK : K + 8 ≤ 5000) (hN : N + 1500 < BIG) (hs : i + 6 ≤ jSn X ∧ jSn X ≤ 3072) (hm : 1160 ≤ mc ∧ 1160 ≤ ms) (bk : BK X mc ms N (K + 8) i) : Ev X (jm jdL_law) 20 mc ms lwR 2508 (lsW i l6 l7 l8) [] (N, SH v T, I, L, Dd) := by
  have hI0 := hI
  obtain ⟨g, gs, d, sv, qq, tx, er, fl, w, hp, hq⟩ := hI
  have hN4 := hp.N4
  refine Ev.sg hX sL_law_2508 (pc' := 2514) (ls' := [some (.ref (BIG + 300)), some (.ref (0)), some (.ref (396)), some (.ref (405)), some (.ref (406)), some (.int (nI i)), l6, l7, l8]) (st' := [.int ((nI i) + 1), .ref (BIG + 300), .ref (0)]) (h' := (N, SH v T, I, L, Dd)) rfl ?_
  refine Ev.ialdX (n := i + 1) (naI rfl rfl) (by omega) (by omega) dL_law_2514 ?_
  show Ev _ _ _ _ _ _ 2515 [some (.ref (BIG + 300)), some (.ref (0)), some (.ref (396)), some (.ref (405)), some (.ref (406)), some (.int (nI i)), l6, l7, l8] [.int (jSf X (i + 1)), .ref (0)] (N, SH v T, I, L, Dd)
  refine Ev.sg hX sL_law_2515 (pc' := 2516) (ls' := [some (.ref (BIG + 300)), some (.ref (0)), some (.ref (396)), some (.ref (405)), some (.ref (406)), some (.int (nI i)), l6, l7, l8]) (st' := [.ref (405), .int (jSf X (i + 1)), .ref (0)]) (h' := (N, SH v T, I, L, Dd)) rfl ?_
  obtain ⟨mw, sw, hmw, hsw, CW⟩ := b_writeTrack (t := jSf X (i + 1)) hX hp hq (by omega)
  obtain ⟨Q', C, hC⟩ := CW.cr
  refine Ev.callSX (As := [.ref (0), .int (jSf X (i + 1)), .ref (405)]) (rest := []) dhL_writeTrack mkL_298 dL_law_2516 (wL_writeTrack hX rfl C (cr_hI hC) (fun E h' e => by obtain ⟨k, hk⟩ := cr_ex hC e; exact xor1 hk)) ⟨by decide, by decide⟩ ⟨by omega, by omega⟩ rfl (Nat.le_of_ble_eq_true rfl) (fun v9 h9 e9 => ?_) (fun E9 h9 e9 => (wq_no e9).elim)
  obtain ⟨N1, v1, T1, I1, L1, D1, c, hN1, hN2, e8, hM⟩ := wq_g (G := GI) hC (cd_of (l := ["java/lang/IndexOutOfBoundsException"]) (by decide +kernel) (by decide)) (fun x N1 v1 T1 I1 L1 h2 hb hw => w_I hw) e9
  cases e8
  show Ev _ _ _ _ _ _ 2519 [some (.ref (BIG + 300)), some (.ref (0)), some (.ref (396)), some (.ref (405)), some (.ref (406)), some (.int (nI i)), l6, l7, l8] [.int (c)] (N1, SH v1 T1, I1, L1, D1)
  refine Ev.sg hX sL_law_2519 (pc' := 2527) (ls' := [some (.ref (BIG + 300)), some (.ref (0)), some (.ref (396)), some (.ref (405)), some (.ref (406)), some (.int (nI i)), some (.int (c)), l7, l8]) (st' := [.int ((nI i) + 1), .ref (BIG + 300), .ref (396)]) (h' := (N1, SH v1 T1, I1, L1, D1)) rfl ?_
  refine Ev.ialdX (n := i + 1) (naI rfl rfl) (by omega) (by omega) dL_law_2527 ?_
  show Ev _ _ _ _ _ _ 2528 [some (.ref (BIG + 300)), some (.ref (0)), some (.ref (396)), some (.ref (405)), some (.ref (406)), some (.int (nI i)), some (.int (c)), l7, l8] [.int (jSf X (i + 1)), .ref (396)] (N1, SH v1 T1, I1, L1, D1)
  refine Ev.callV (As := [.int (jSf X (i + 1))]) (rest := []) dvX7_writeTrack mkL_300 rfl rfl dL_law_2528 hM ⟨by decide, by decide⟩ ⟨Nat.zero_le _, Nat.zero_le _⟩ rfl (Nat.le_of_ble_eq_true rfl) (fun v9 h9 e9 => ?_) (fun E9 h9 e9 => by obtain ⟨_, _, e, _⟩ := e9; cases e)
  obtain ⟨b, J, e7, ⟨⟨x8, w8, f1, f2⟩, hG⟩, h12, hinv⟩ := e9
  cases e7
  subst f2
  show Ev _ _ _ _ _ _ 2531 [some (.ref (BIG + 300)), some (.ref (0)), some (.ref (396)), some (.ref (405)), some (.ref (406)), some (.int (nI i)), some (.int (c)), l7, l8] [.int (w8)] (N1, SH v1 T1, J, L1, D1)
  refine Ev.sg hX sL_law_2531 (pc' := 2534) (ls' := [some (.ref (BIG + 300)), some (.ref (0)), some (.ref (396)), some (.ref (405)), some (.ref (406)), some (.int (nI i)), some (.int (c)), some (.int (w8)), l8]) (st' := [.ref (396)]) (h' := (N1, SH v1 T1, J, L1, D1)) rfl ?_
  refine Ev.callV (As := []) (rest := []) dvX7_thrown mkL_156 rfl rfl dL_law_2534 (m_thrown (d := 12) hX (by decide)) ⟨by decide, by decide⟩ ⟨Nat.zero_le _, Nat.zero_le _⟩ rfl (Nat.le_of_ble_eq_true rfl) (fun v9 h9 e9 => ?_) (fun E9 h9 e9 => nomatch e9)
  cases e9
  show Ev _ _ _ _ _ _ 2537 [some (.ref (BIG + 300)), some (.ref (0)), some (.ref (396)), some (.ref (405)), some (.ref (406)), some (.int (nI i)), some (.int (c)), some (.int (w8)), l8] [.int (J 396 12)] (N1, SH v1 T1, J, L1, D1)
  rw [h12]
  refine Ev.sg hX sL_law_2537 (pc' := 2539) (ls' := [some (.ref (BIG + 300)), some (.ref (0)), some (.ref (396)), some (.ref (405)), some (.ref (406)), some (.int (nI i)), some (.int (c)), some (.int (w8)), l8]) (st' := [.int (c), .int (c)]) (h' := (N1, SH v1 T1, J, L1, D1)) rfl ?_
  refine Ev.icmp_eq (tgt := 2544) dL_law_2539 (by decide) (fun _ => ?_) (fun q => absurd rfl q)
  refine Ev.sg hX sL_law_2544 (pc' := 2546) (ls' := [some (.ref (BIG + 300)), some (.ref (0)), some (.ref (396)), some (.ref (405)), some (.ref (406)), some (.int (nI i)), some (.int (c)), some (.int (w8)), l8]) (st' := [.int (c)]) (h' := (N1, SH v1 T1, J, L1, D1)) rfl ?_
  refine Ev.if_ne (tgt := 2561) dL_law_2546 (by decide) (fun hc0 => ?_) (fun hc0 => ?_)
  · refine Ev.sg hX sL_law_2561 (pc' := 2699) (ls' := [some (.ref (BIG + 300)), some (.ref (0)), some (.ref (396)), some (.ref (405)), some (.ref (406)), some (.int (nI i)), some (.int (c)), some (.int (w8)), l8]) (st' := []) (h' := (N1, SH v1 T1, J, L1, D1)) rfl ?_
    exact Ev.roomL (by omega) (by omega) (bk _ _ _ _ _ _ _ _ _ hN1 hN2 (hinv.mono (by omega) hK))
  · refine Ev.sg hX sL_law_2549 (pc' := 2551) (ls' := [some (.ref (BIG + 300)), some (.ref (0)), some (.ref (396)), some (.ref (405)), some (.ref (406)), some (.int (nI i)), some (.int (c)), some (.int (w8)), l8]) (st' := [.int (0), .ref (405)]) (h' := (N1, SH v1 T1, J, L1, D1)) rfl ?_
    refine Ev.lald (n := 1) rfl (vp_in_nI (n := 0) (N := 1) (by decide) (by decide)) dL_law_2551 ?_
    show Ev _ _ _ _ _ _ 2552 [some (.ref (BIG + 300)), some (.ref (0)), some (.ref (396)), some (.ref (405)), some (.ref (406)), some (.int (nI i)), some (.int (c)), some (.int (w8)), l8] [.long (L1 405 0)] (N1, SH v1 T1, J, L1, D1)
    rw [gi_eq (hG hc0)]
    refine Ev.sg hX sL_law_2552 (pc' := 2556) (ls' := [some (.ref (BIG + 300)), some (.ref (0)), some (.ref (396)), some (.ref (405)), some (.ref (406)), some (.int (nI i)), some (.int (c)), some (.int (w8)), l8]) (st' := [.int (lg_cmp w8.toInt64 w8.toInt64)]) (h' := (N1, SH v1 T1, J, L1, D1)) rfl ?_
    rw [lcmp_self]
    refine Ev.if_eq (tgt := 2561) dL_law_2556 (by decide) (fun _ => ?_) (fun q => absurd rfl q)
    refine Ev.sg hX sL_law_2561 (pc' := 2699) (ls' := [some (.ref (BIG + 300)), some (.ref (0)), some (.ref (396)), some (.ref (405)), some (.ref (406)), some (.int (nI i)), some (.int (c)), some (.int (w8)), l8]) (st' := []) (h' := (N1, SH v1 T1, J, L1, D1)) rfl ?_
    exact Ev.roomL (by omega) (by omega) (bk _ _ _ _ _ _ _ _ _ hN1 hN2 (hinv.mono (by omega) hK))
theorem br_outputAt (hX : JXok X) (hI : INV K N v T I L Dd) (hK : K + 8 ≤ 5000) (hN : N + 1500 < BIG) (hs : i + 6 ≤ jSn X ∧ jSn X ≤ 3072) (hm : 1160 ≤ mc ∧ 1160 ≤ ms) (bk : BK X mc ms N (K + 8) i) : Ev X (jm jdL_law) 20 mc ms lwR 2564 (lsW i l6 l7 l8) [] (N, SH v T, I, L, Dd) := by
  have hI0 := hI
  obtain ⟨g, gs, d, sv, qq, tx, er, fl, w, hp, hq⟩ := hI
  have hN4 := hp.N4
  refine Ev.sg hX sL_law_2564 (pc' := 2570) (ls' := [some (.ref (BIG + 300)), some (.ref (0)), some (.ref (396)), some (.ref (405)), some (.ref (406)), some (.int (nI i)), l6, l7, l8]) (st' := [.int ((nI i) + 1), .ref (BIG + 300), .ref (0)]) (h' := (N, SH v T, I, L, Dd)) rfl ?_
  refine Ev.ialdX (n := i + 1) (naI rfl rfl) (by omega) (by omega) dL_law_2570 ?_
  show Ev _ _ _ _ _ _ 2571 [some (.ref (BIG + 300)), some (.ref (0)), some (.ref (396)), some (.ref (405)), some (.ref (406)), some (.int (nI i)), l6, l7, l8] [.int (jSf X (i + 1)), .ref (0)] (N, SH v T, I, L, Dd)
  refine Ev.sg hX sL_law_2571 (pc' := 2572) (ls' := [some (.ref (BIG + 300)), some (.ref (0)), some (.ref (396)), some (.ref (405)), some (.ref (406)), some (.int (nI i)), l6, l7, l8]) (st' := [.ref (405), .int (jSf X (i + 1)), .ref (0)]) (h' := (N, SH v T, I, L, Dd)) rfl ?_
  obtain ⟨Q', C, hC⟩ := CLS.cr (show CLS X _ _ _ jdX6_outputAt [.int (jSf X (i + 1))] jdX7_outputAt [.int (jSf X (i + 1))] _ _ N v T I L Dd from b_outputAt hX hp hq (by omega))
  refine Ev.callSX (As := [.ref (0), .int (jSf X (i + 1)), .ref (405)]) (rest := []) dhL_outputAt mkL_301 dL_law_2572 (wL_outputAt hX rfl C (cr_hI hC) (fun E h' e => by obtain ⟨k, hk⟩ := cr_ex hC e; exact xor1 hk)) ⟨by decide, by decide⟩ ⟨by omega, by omega⟩ rfl (Nat.le_of_ble_eq_true rfl) (fun v9 h9 e9 => ?_) (fun E9 h9 e9 => (wq_no e9).elim)
  obtain ⟨N1, v1, T1, I1, L1, D1, c, hN1, hN2, e8, hM⟩ := wq_g (G := GI) hC (cd_of (l := ["java/lang/IndexOutOfBoundsException"]) (by decide +kernel) (by decide)) (fun x N1 v1 T1 I1 L1 h2 hb hw => w_I hw) e9
  cases e8
  show Ev _ _ _ _ _ _ 2575 [some (.ref (BIG + 300)), some (.ref (0)), some (.ref (396)), some (.ref (405)), some (.ref (406)), some (.int (nI i)), l6, l7, l8] [.int (c)] (N1, SH v1 T1, I1, L1, D1)
  refine Ev.sg hX sL_law_2575 (pc' := 2583) (ls' := [some (.ref (BIG + 300)), some (.ref (0)), some (.ref (396)), some (.ref (405)), some (.ref (406)), some (.int (nI i)), some (.int (c)), l7, l8]) (st' := [.int ((nI i) + 1), .ref (BIG + 300), .ref (396)]) (h' := (N1, SH v1 T1, I1, L1, D1)) rfl ?_
  refine Ev.ialdX (n := i + 1) (naI rfl rfl) (by omega) (by omega) dL_law_2583 ?_
  show Ev _ _ _ _ _ _ 2584 [some (.ref (BIG + 300)), some (.ref (0)), some (.ref (396)), some (.ref (405)), some (.ref (406)), some (.int (nI i)), some (.int (c)), l7, l8] [.int (jSf X (i + 1)), .ref (396)] (N1, SH v1 T1, I1, L1, D1)
  refine Ev.callV (As := [.int (jSf X (i + 1))]) (rest := []) dvX7_outputAt mkL_303 rfl rfl dL_law_2584 hM ⟨by decide, by decide⟩ ⟨Nat.zero_le _, Nat.zero_le _⟩ rfl (Nat.le_of_ble_eq_true rfl) (fun v9 h9 e9 => ?_) (fun E9 h9 e9 => by obtain ⟨_, _, e, _⟩ := e9; cases e)
  obtain ⟨b, J, e7, ⟨⟨x8, w8, f1, f2⟩, hG⟩, h12, hinv⟩ := e9
  cases e7
  subst f2
  show Ev _ _ _ _ _ _ 2587 [some (.ref (BIG + 300)), some (.ref (0)), some (.ref (396)), some (.ref (405)), some (.ref (406)), some (.int (nI i)), some (.int (c)), l7, l8] [.int (w8)] (N1, SH v1 T1, J, L1, D1)
  refine Ev.sg hX sL_law_2587 (pc' := 2590) (ls' := [some (.ref (BIG + 300)), some (.ref (0)), some (.ref (396)), some (.ref (405)), some (.ref (406)), some (.int (nI i)), some (.int (c)), some (.int (w8)), l8]) (st' := [.ref (396)]) (h' := (N1, SH v1 T1, J, L1, D1)) rfl ?_
  refine Ev.callV (As := []) (rest := []) dvX7_thrown mkL_156 rfl rfl dL_law_2590 (m_thrown (d := 12) hX (by decide)) ⟨by decide, by decide⟩ ⟨Nat.zero_le _, Nat.zero_le _⟩ rfl (Nat.le_of_ble_eq_true rfl) (fun v9 h9 e9 => ?_) (fun E9 h9 e9 => nomatch e9)
  cases e9
  show Ev _ _ _ _ _ _ 2593 [some (.ref (BIG + 300)), some (.ref (0)), some (.ref (396)), some (.ref (405)), some (.ref (406)), some (.int (nI i)), some (.int (c)), some (.int (w8)), l8] [.int (J 396 12)] (N1, SH v1 T1, J, L1, D1)
  rw [h12]
  refine Ev.sg hX sL_law_2593 (pc' := 2595) (ls' := [some (.ref (BIG + 300)), some (.ref (0)), some (.ref (396)), some (.ref (405)), some (.ref (406)), some (.int (nI i)), some (.int (c)), some (.int (w8)), l8]) (st' := [.int (c), .int (c)]) (h' := (N1, SH v1 T1, J, L1, D1)) rfl ?_
  refine Ev.icmp_eq (tgt := 2600) dL_law_2595 (by decide) (fun _ => ?_) (fun q => absurd rfl q)
  refine Ev.sg hX sL_law_2600 (pc' := 2602) (ls' := [some (.ref (BIG + 300)), some (.ref (0)), some (.ref (396)), some (.ref (405)), some (.ref (406)), some (.int (nI i)), some (.int (c)), some (.int (w8)), l8]) (st' := [.int (c)]) (h' := (N1, SH v1 T1, J, L1, D1)) rfl ?_
  refine Ev.if_ne (tgt := 2617) dL_law_2602 (by decide) (fun hc0 => ?_) (fun hc0 => ?_)
  · refine Ev.sg hX sL_law_2617 (pc' := 2699) (ls' := [some (.ref (BIG + 300)), some (.ref (0)), some (.ref (396)), some (.ref (405)), some (.ref (406)), some (.int (nI i)), some (.int (c)), some (.int (w8)), l8]) (st' := []) (h' := (N1, SH v1 T1, J, L1, D1)) rfl ?_
    exact Ev.roomL (by omega) (by omega) (bk _ _ _ _ _ _ _ _ _ hN1 hN2 (hinv.mono (by omega) hK))
  · refine Ev.sg hX sL_law_2605 (pc' := 2607) (ls' := [some (.ref (BIG + 300)), some (.ref (0)), some (.ref (396)), some (.ref (405)), some (.ref (406)), some (.int (nI i)), some (.int (c)), some (.int (w8)), l8]) (st' := [.int (0), .ref (405)]) (h' := (N1, SH v1 T1, J, L1, D1)) rfl ?_
    refine Ev.lald (n := 1) rfl (vp_in_nI (n := 0) (N := 1) (by decide) (by decide)) dL_law_2607 ?_
    show Ev _ _ _ _ _ _ 2608 [some (.ref (BIG + 300)), some (.ref (0)), some (.ref (396)), some (.ref (405)), some (.ref (406)), some (.int (nI i)), some (.int (c)), some (.int (w8)), l8] [.long (L1 405 0)] (N1, SH v1 T1, J, L1, D1)
    rw [gi_eq (hG hc0)]
    refine Ev.sg hX sL_law_2608 (pc' := 2612) (ls' := [some (.ref (BIG + 300)), some (.ref (0)), some (.ref (396)), some (.ref (405)), some (.ref (406)), some (.int (nI i)), some (.int (c)), some (.int (w8)), l8]) (st' := [.int (lg_cmp w8.toInt64 w8.toInt64)]) (h' := (N1, SH v1 T1, J, L1, D1)) rfl ?_
    rw [lcmp_self]
    refine Ev.if_eq (tgt := 2617) dL_law_2612 (by decide) (fun _ => ?_) (fun q => absurd rfl q)
    refine Ev.sg hX sL_law_2617 (pc' := 2699) (ls' := [some (.ref (BIG + 300)), some (.ref (0)), some (.ref (396)), some (.ref (405)), some (.ref (406)), some (.int (nI i)), some (.int (c)), some (.int (w8)), l8]) (st' := []) (h' := (N1, SH v1 T1, J, L1, D1)) rfl ?_
    exact Ev.roomL (by omega) (by omega) (bk _ _ _ _ _ _ _ _ _ hN1 hN2 (hinv.mono (by omega) hK))
theorem br_undo (hX : JXok X) (hI : INV K N v T I L Dd) (hK : K + 8 ≤ 5000) (hN : N + 1500 < BIG) (hs : i + 6 ≤ jSn X ∧ jSn X ≤ 3072) (hm : 1160 ≤ mc ∧ 1160 ≤ ms) (bk : BK X mc ms N (K + 8) i) : Ev X (jm jdL_law) 20 mc ms lwR 2620 (lsW i l6 l7 l8) [] (N, SH v T, I, L, Dd) := by
  have hI0 := hI
  obtain ⟨g, gs, d, sv, qq, tx, er, fl, w, hp, hq⟩ := hI
  have hN4 := hp.N4
  refine Ev.sg hX sL_law_2620 (pc' := 2622) (ls' := [some (.ref (BIG + 300)), some (.ref (0)), some (.ref (396)), some (.ref (405)), some (.ref (406)), some (.int (nI i)), l6, l7, l8]) (st' := [.ref (405), .ref (0)]) (h' := (N, SH v T, I, L, Dd)) rfl ?_
  obtain ⟨Q', C, hC⟩ := CLS.cr (show CLS X _ _ _ jdX6_undo [] jdX7_undo [] _ _ N v T I L Dd from b_undo hX hp hq (by omega))
  refine Ev.callSX (As := [.ref (0), .ref (405)]) (rest := []) dhL_undo mkL_304 dL_law_2622 (wL_undo hX rfl C (cr_hI hC) (fun E h' e => by obtain ⟨k, hk⟩ := cr_ex hC e; exact xor1 hk)) ⟨by decide, by decide⟩ ⟨by omega, by omega⟩ rfl (Nat.le_of_ble_eq_true rfl) (fun v9 h9 e9 => ?_) (fun E9 h9 e9 => (wq_no e9).elim)
  obtain ⟨N1, v1, T1, I1, L1, D1, c, hN1, hN2, e8, hM⟩ := wq_g (G := GI) hC (cd_of (l := ["java/lang/IllegalStateException"]) (by decide +kernel) (by decide)) (fun x N1 v1 T1 I1 L1 h2 hb hw => w_I hw) e9
  cases e8
  show Ev _ _ _ _ _ _ 2625 [some (.ref (BIG + 300)), some (.ref (0)), some (.ref (396)), some (.ref (405)), some (.ref (406)), some (.int (nI i)), l6, l7, l8] [.int (c)] (N1, SH v1 T1, I1, L1, D1)
  refine Ev.sg hX sL_law_2625 (pc' := 2628) (ls' := [some (.ref (BIG + 300)), some (.ref (0)), some (.ref (396)), some (.ref (405)), some (.ref (406)), some (.int (nI i)), some (.int (c)), l7, l8]) (st' := [.ref (396)]) (h' := (N1, SH v1 T1, I1, L1, D1)) rfl ?_
  refine Ev.callV (As := []) (rest := []) dvX7_undo mkL_306 rfl rfl dL_law_2628 hM ⟨by decide, by decide⟩ ⟨Nat.zero_le _, Nat.zero_le _⟩ rfl (Nat.le_of_ble_eq_true rfl) (fun v9 h9 e9 => ?_) (fun E9 h9 e9 => by obtain ⟨_, _, e, _⟩ := e9; cases e)
  obtain ⟨b, J, e7, ⟨⟨x8, w8, f1, f2⟩, hG⟩, h12, hinv⟩ := e9
  cases e7
  subst f2
  show Ev _ _ _ _ _ _ 2631 [some (.ref (BIG + 300)), some (.ref (0)), some (.ref (396)), some (.ref (405)), some (.ref (406)), some (.int (nI i)), some (.int (c)), l7, l8] [.int (w8)] (N1, SH v1 T1, J, L1, D1)
  refine Ev.sg hX sL_law_2631 (pc' := 2634) (ls' := [some (.ref (BIG + 300)), some (.ref (0)), some (.ref (396)), some (.ref (405)), some (.ref (406)), some (.int (nI i)), some (.int (c)), some (.int (w8)), l8]) (st' := [.ref (396)]) (h' := (N1, SH v1 T1, J, L1, D1)) rfl ?_
  refine Ev.callV (As := []) (rest := []) dvX7_thrown mkL_156 rfl rfl dL_law_2634 (m_thrown (d := 12) hX (by decide)) ⟨by decide, by decide⟩ ⟨Nat.zero_le _, Nat.zero_le _⟩ rfl (Nat.le_of_ble_eq_true rfl) (fun v9 h9 e9 => ?_) (fun E9 h9 e9 => nomatch e9)
  cases e9
  show Ev _ _ _ _ _ _ 2637 [some (.ref (BIG + 300)), some (.ref (0)), some (.ref (396)), some (.ref (405)), some (.ref (406)), some (.int (nI i)), some (.int (c)), some (.int (w8)), l8] [.int (J 396 12)] (N1, SH v1 T1, J, L1, D1)
  rw [h12]
  refine Ev.sg hX sL_law_2637 (pc' := 2639) (ls' := [some (.ref (BIG + 300)), some (.ref (0)), some (.ref (396)), some (.ref (405)), some (.ref (406)), some (.int (nI i)), some (.int (c)), some (.int (w8)), l8]) (st' := [.int (c), .int (c)]) (h' := (N1, SH v1 T1, J, L1, D1)) rfl ?_
  refine Ev.icmp_eq (tgt := 2644) dL_law_2639 (by decide) (fun _ => ?_) (fun q => absurd rfl q)
  refine Ev.sg hX sL_law_2644 (pc' := 2646) (ls' := [some (.ref (BIG + 300)), some (.ref (0)), some (.ref (396)), some (.ref (405)), some (.ref (406)), some (.int (nI i)), some (.int (c)), some (.int (w8)), l8]) (st' := [.int (c)]) (h' := (N1, SH v1 T1, J, L1, D1)) rfl ?_
  refine Ev.if_ne (tgt := 2661) dL_law_2646 (by decide) (fun hc0 => ?_) (fun hc0 => ?_)
  · refine Ev.sg hX sL_law_2661 (pc' := 2699) (ls' := [some (.ref (BIG + 300)), some (.ref (0)), some (.ref (396)), some (.ref (405)), some (.ref (406)), some (.int (nI i)), some (.int (c)), some (.int (w8)), l8]) (st' := []) (h' := (N1, SH v1 T1, J, L1, D1)) rfl ?_
    exact Ev.roomL (by omega) (by omega) (bk _ _ _ _ _ _ _ _ _ hN1 hN2 (hinv.mono (by omega) hK))
  · refine Ev.sg hX sL_law_2649 (pc' := 2651) (ls' := [some (.ref (BIG + 300)), some (.ref (0)), some (.ref (396)), some (.ref (405)), some (.ref (406)), some (.int (nI i)), some (.int (c)), some (.int (w8)), l8]) (st' := [.int (0), .ref (405)]) (h' := (N1, SH v1 T1, J, L1, D1)) rfl ?_
    refine Ev.lald (n := 1) rfl (vp_in_nI (n := 0) (N := 1) (by decide) (by decide)) dL_law_2651 ?_
    show Ev _ _ _ _ _ _ 2652 [some (.ref (BIG + 300)), some (.ref (0)), some (.ref (396)), some (.ref (405)), some (.ref (406)), some (.int (nI i)), some (.int (c)), some (.int (w8)), l8] [.long (L1 405 0)] (N1, SH v1 T1, J, L1, D1)
    rw [gi_eq (hG hc0)]
    refine Ev.sg hX sL_law_2652 (pc' := 2656) (ls' := [some (.ref (BIG + 300)), some (.ref (0)), some (.ref (396)), some (.ref (405)), some (.ref (406)), some (.int (nI i)), some (.int (c)), some (.int (w8)), l8]) (st' := [.int (lg_cmp w8.toInt64 w8.toInt64)]) (h' := (N1, SH v1 T1, J, L1, D1)) rfl ?_
    rw [lcmp_self]
    refine Ev.if_eq (tgt := 2661) dL_law_2656 (by decide) (fun _ => ?_) (fun q => absurd rfl q)
    refine Ev.sg hX sL_law_2661 (pc' := 2699) (ls' := [some (.ref (BIG + 300)), some (.ref (0)), some (.ref (396)), some (.ref (405)), some (.ref (406)), some (.int (nI i)), some (.int (c)), some (.int (w8)), l8]) (st' := []) (h' := (N1, SH v1 T1, J, L1, D1)) rfl ?_
    exact Ev.roomL (by omega) (by omega) (bk _ _ _ _ _ _ _ _ _ hN1 hN2 (hinv.mono (by omega) hK))
theorem br_save (hX : JXok X) (hI : INV K N v T I L Dd) (hK : K + 8 ≤ 5000) (hN : N + 1500 < BIG) (hs : i + 6 ≤ jSn X ∧ jSn X ≤ 3072) (hm : 1160 ≤ mc ∧ 1160 ≤ ms) (bk : BK X mc ms N (K + 8) i) : Ev X (jm jdL_law) 20 mc ms lwR 2664 (lsW i l6 l7 l8) [] (N, SH v T, I, L, Dd) := by
  have hI0 := hI
  obtain ⟨g, gs, d, sv, qq, tx, er, fl, w, hp, hq⟩ := hI
  have hN4 := hp.N4
  refine Ev.sg hX sL_law_2664 (pc' := 2665) (ls' := [some (.ref (BIG + 300)), some (.ref (0)), some (.ref (396)), some (.ref (405)), some (.ref (406)), some (.int (nI i)), l6, l7, l8]) (st' := [.ref (0)]) (h' := (N, SH v T, I, L, Dd)) rfl ?_
  obtain ⟨Q', C, hC⟩ := CLS.cr (show CLS X _ _ _ jdX6_save [] jdX7_save [] _ _ N v T I L Dd from b_save hX hp hq)
  refine Ev.callV (As := []) (rest := []) dvX6_save mkL_307 rfl rfl dL_law_2665 C ⟨by decide, by decide⟩ ⟨Nat.zero_le _, Nat.zero_le _⟩ rfl (Nat.le_of_ble_eq_true rfl) (fun v9 h9 e9 => ?_) (fun E9 h9 e9 => by obtain ⟨_, _, _, _, _, _, _, _, e, _⟩ := cr_d hC e9; cases e)
  obtain ⟨N1, v1, T1, I1, L1, x9, hN1, hN2, e8, ⟨b0, f1, -⟩, hM⟩ := cr_d hC e9
  cases e8
  subst f1
  show Ev _ _ _ _ _ _ 2668 [some (.ref (BIG + 300)), some (.ref (0)), some (.ref (396)), some (.ref (405)), some (.ref (406)), some (.int (nI i)), l6, l7, l8] [] (N1, SH v1 T1, I1, L1, Dd)
  refine Ev.sg hX sL_law_2668 (pc' := 2669) (ls' := [some (.ref (BIG + 300)), some (.ref (0)), some (.ref (396)), some (.ref (405)), some (.ref (406)), some (.int (nI i)), l6, l7, l8]) (st' := [.ref (396)]) (h' := (N1, SH v1 T1, I1, L1, Dd)) rfl ?_
  refine Ev.callV (As := []) (rest := []) dvX7_save mkL_310 rfl rfl dL_law_2669 hM ⟨by decide, by decide⟩ ⟨Nat.zero_le _, Nat.zero_le _⟩ rfl (Nat.le_of_ble_eq_true rfl) (fun v9 h9 e9 => ?_) (fun E9 h9 e9 => by obtain ⟨_, _, e, _⟩ := e9; cases e)
  obtain ⟨b, J, e7, ⟨-, f3⟩, h12, hinv⟩ := e9
  cases e7
  subst f3
  show Ev _ _ _ _ _ _ 2672 [some (.ref (BIG + 300)), some (.ref (0)), some (.ref (396)), some (.ref (405)), some (.ref (406)), some (.int (nI i)), l6, l7, l8] [] (N1, SH v1 T1, J, L1, Dd)
  refine Ev.sg hX sL_law_2672 (pc' := 2699) (ls' := [some (.ref (BIG + 300)), some (.ref (0)), some (.ref (396)), some (.ref (405)), some (.ref (406)), some (.int (nI i)), l6, l7, l8]) (st' := []) (h' := (N1, SH v1 T1, J, L1, Dd)) rfl ?_
  exact Ev.roomL (by omega) (by omega) (bk _ _ _ _ _ _ _ _ _ hN1 hN2 (hinv.mono (by omega) hK))
theorem br_restore (hX : JXok X) (hI : INV K N v T I L Dd) (hK : K + 8 ≤ 5000) (hN : N + 1500 < BIG) (hs : i + 6 ≤ jSn X ∧ jSn X ≤ 3072) (hm : 1160 ≤ mc ∧ 1160 ≤ ms) (bk : BK X mc ms N (K + 8) i) : Ev X (jm jdL_law) 20 mc ms lwR 2675 (lsW i l6 l7 l8) [] (N, SH v T, I, L, Dd) := by
  have hI0 := hI
  obtain ⟨g, gs, d, sv, qq, tx, er, fl, w, hp, hq⟩ := hI
  have hN4 := hp.N4
  refine Ev.sg hX sL_law_2675 (pc' := 2676) (ls' := [some (.ref (BIG + 300)), some (.ref (0)), some (.ref (396)), some (.ref (405)), some (.ref (406)), some (.int (nI i)), l6, l7, l8]) (st' := [.ref (0)]) (h' := (N, SH v T, I, L, Dd)) rfl ?_
  obtain ⟨Q', C, hC⟩ := CLS.cr (show CLS X _ _ _ jdX6_restore [] jdX7_restore [] _ _ N v T I L Dd from b_restore hX hp hq (by omega))
  refine Ev.callSX (As := [.ref (0)]) (rest := []) dhL_restore mkL_311 dL_law_2676 (wL_restore hX rfl C (cr_hV hC) (fun E h' e => by obtain ⟨k, hk⟩ := cr_ex hC e; exact xor1 hk)) ⟨by decide, by decide⟩ ⟨by omega, by omega⟩ rfl (Nat.le_of_ble_eq_true rfl) (fun v9 h9 e9 => ?_) (fun E9 h9 e9 => (wq_no e9).elim)
  obtain ⟨N1, v1, T1, I1, L1, D1, c, hN1, hN2, e8, hM⟩ := wq_g (G := (fun (_ : Option Value) (_ : HL) (_ : HD) => True)) hC (cd_of (l := ["java/lang/IllegalStateException"]) (by decide +kernel) (by decide)) (fun x N1 v1 T1 I1 L1 h2 hb hw => w_V hw) e9
  cases e8
  show Ev _ _ _ _ _ _ 2679 [some (.ref (BIG + 300)), some (.ref (0)), some (.ref (396)), some (.ref (405)), some (.ref (406)), some (.int (nI i)), l6, l7, l8] [.int (c)] (N1, SH v1 T1, I1, L1, D1)
  refine Ev.sg hX sL_law_2679 (pc' := 2682) (ls' := [some (.ref (BIG + 300)), some (.ref (0)), some (.ref (396)), some (.ref (405)), some (.ref (406)), some (.int (nI i)), some (.int (c)), l7, l8]) (st' := [.ref (396)]) (h' := (N1, SH v1 T1, I1, L1, D1)) rfl ?_
  refine Ev.callV (As := []) (rest := []) dvX7_restore mkL_314 rfl rfl dL_law_2682 hM ⟨by decide, by decide⟩ ⟨Nat.zero_le _, Nat.zero_le _⟩ rfl (Nat.le_of_ble_eq_true rfl) (fun v9 h9 e9 => ?_) (fun E9 h9 e9 => by obtain ⟨_, _, e, _⟩ := e9; cases e)
  obtain ⟨b, J, e7, ⟨⟨x8, -, f2⟩, hG⟩, h12, hinv⟩ := e9
  cases e7
  subst f2
  show Ev _ _ _ _ _ _ 2685 [some (.ref (BIG + 300)), some (.ref (0)), some (.ref (396)), some (.ref (405)), some (.ref (406)), some (.int (nI i)), some (.int (c)), l7, l8] [] (N1, SH v1 T1, J, L1, D1)
  refine Ev.sg hX sL_law_2685 (pc' := 2686) (ls' := [some (.ref (BIG + 300)), some (.ref (0)), some (.ref (396)), some (.ref (405)), some (.ref (406)), some (.int (nI i)), some (.int (c)), l7, l8]) (st' := [.ref (396)]) (h' := (N1, SH v1 T1, J, L1, D1)) rfl ?_
  refine Ev.callV (As := []) (rest := []) dvX7_thrown mkL_156 rfl rfl dL_law_2686 (m_thrown (d := 12) hX (by decide)) ⟨by decide, by decide⟩ ⟨Nat.zero_le _, Nat.zero_le _⟩ rfl (Nat.le_of_ble_eq_true rfl) (fun v9 h9 e9 => ?_) (fun E9 h9 e9 => nomatch e9)
  cases e9
  show Ev _ _ _ _ _ _ 2689 [some (.ref (BIG + 300)), some (.ref (0)), some (.ref (396)), some (.ref (405)), some (.ref (406)), some (.int (nI i)), some (.int (c)), l7, l8] [.int (J 396 12)] (N1, SH v1 T1, J, L1, D1)
  rw [h12]
  refine Ev.sg hX sL_law_2689 (pc' := 2691) (ls' := [some (.ref (BIG + 300)), some (.ref (0)), some (.ref (396)), some (.ref (405)), some (.ref (406)), some (.int (nI i)), some (.int (c)), l7, l8]) (st' := [.int (c), .int (c)]) (h' := (N1, SH v1 T1, J, L1, D1)) rfl ?_
  refine Ev.icmp_eq (tgt := 2696) dL_law_2691 (by decide) (fun _ => ?_) (fun q => absurd rfl q)
  refine Ev.sg hX sL_law_2696 (pc' := 2699) (ls' := [some (.ref (BIG + 300)), some (.ref (0)), some (.ref (396)), some (.ref (405)), some (.ref (406)), some (.int (nI i)), some (.int (c)), l7, l8]) (st' := []) (h' := (N1, SH v1 T1, J, L1, D1)) rfl ?_
  exact Ev.roomL (by omega) (by omega) (bk _ _ _ _ _ _ _ _ _ hN1 hN2 (hinv.mono (by omega) hK))
end LBZ
