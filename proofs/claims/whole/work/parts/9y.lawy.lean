/-! the law's loop: its branches -/
section LBY
variable {X : JX} {mc ms N v i K : Nat} {T : Nat → Option JS} {I : HI} {L : HL} {Dd : HD} {l6 l7 l8 : Option Value}
theorem br_trainLength (hX : JXok X) (hI : INV K N v T I L Dd) (hK : K + 8 ≤ 5000) (hN : N + 1500 < BIG) (hs : i + 6 ≤ jSn X ∧ jSn X ≤ 3072) (hm : 1160 ≤ mc ∧ 1160 ≤ ms) (bk : BK X mc ms N (K + 8) i) : Ev X (jm jdL_law) 20 mc ms lwR 1200 (lsW i l6 l7 l8) [] (N, SH v T, I, L, Dd) := by
  have hI0 := hI
  obtain ⟨g, gs, d, sv, qq, tx, er, fl, w, hp, hq⟩ := hI
  have hN4 := hp.N4
  refine Ev.sg hX sL_law_1200 (pc' := 1206) (ls' := [some (.ref (BIG + 300)), some (.ref (0)), some (.ref (396)), some (.ref (405)), some (.ref (406)), some (.int (nI i)), l6, l7, l8]) (st' := [.int ((nI i) + 1), .ref (BIG + 300), .ref (0)]) (h' := (N, SH v T, I, L, Dd)) rfl ?_
  refine Ev.ialdX (n := i + 1) (naI rfl rfl) (by omega) (by omega) dL_law_1206 ?_
  show Ev _ _ _ _ _ _ 1207 [some (.ref (BIG + 300)), some (.ref (0)), some (.ref (396)), some (.ref (405)), some (.ref (406)), some (.int (nI i)), l6, l7, l8] [.int (jSf X (i + 1)), .ref (0)] (N, SH v T, I, L, Dd)
  refine Ev.sg hX sL_law_1207 (pc' := 1208) (ls' := [some (.ref (BIG + 300)), some (.ref (0)), some (.ref (396)), some (.ref (405)), some (.ref (406)), some (.int (nI i)), l6, l7, l8]) (st' := [.ref (405), .int (jSf X (i + 1)), .ref (0)]) (h' := (N, SH v T, I, L, Dd)) rfl ?_
  obtain ⟨Q', C, hC⟩ := CLS.cr (show CLS X _ _ _ jdX6_trainLength [.int (jSf X (i + 1))] jdX7_trainLength [.int (jSf X (i + 1))] _ _ N v T I L Dd from b_trainLength hX hp hq (by omega))
  refine Ev.callSX (As := [.ref (0), .int (jSf X (i + 1)), .ref (405)]) (rest := []) dhL_trainLength mkL_205 dL_law_1208 (wL_trainLength hX rfl C (cr_hI hC) (fun E h' e => by obtain ⟨k, hk⟩ := cr_ex hC e; exact xor1 hk)) ⟨by decide, by decide⟩ ⟨by omega, by omega⟩ rfl (Nat.le_of_ble_eq_true rfl) (fun v9 h9 e9 => ?_) (fun E9 h9 e9 => (wq_no e9).elim)
  obtain ⟨N1, v1, T1, I1, L1, D1, c, hN1, hN2, e8, hM⟩ := wq_g (G := GI) hC (cd_of (l := ["java/lang/IndexOutOfBoundsException"]) (by decide +kernel) (by decide)) (fun x N1 v1 T1 I1 L1 h2 hb hw => w_I hw) e9
  cases e8
  show Ev _ _ _ _ _ _ 1211 [some (.ref (BIG + 300)), some (.ref (0)), some (.ref (396)), some (.ref (405)), some (.ref (406)), some (.int (nI i)), l6, l7, l8] [.int (c)] (N1, SH v1 T1, I1, L1, D1)
  refine Ev.sg hX sL_law_1211 (pc' := 1219) (ls' := [some (.ref (BIG + 300)), some (.ref (0)), some (.ref (396)), some (.ref (405)), some (.ref (406)), some (.int (nI i)), some (.int (c)), l7, l8]) (st' := [.int ((nI i) + 1), .ref (BIG + 300), .ref (396)]) (h' := (N1, SH v1 T1, I1, L1, D1)) rfl ?_
  refine Ev.ialdX (n := i + 1) (naI rfl rfl) (by omega) (by omega) dL_law_1219 ?_
  show Ev _ _ _ _ _ _ 1220 [some (.ref (BIG + 300)), some (.ref (0)), some (.ref (396)), some (.ref (405)), some (.ref (406)), some (.int (nI i)), some (.int (c)), l7, l8] [.int (jSf X (i + 1)), .ref (396)] (N1, SH v1 T1, I1, L1, D1)
  refine Ev.callV (As := [.int (jSf X (i + 1))]) (rest := []) dvX7_trainLength mkL_207 rfl rfl dL_law_1220 hM ⟨by decide, by decide⟩ ⟨Nat.zero_le _, Nat.zero_le _⟩ rfl (Nat.le_of_ble_eq_true rfl) (fun v9 h9 e9 => ?_) (fun E9 h9 e9 => by obtain ⟨_, _, e, _⟩ := e9; cases e)
  obtain ⟨b, J, e7, ⟨⟨x8, w8, f1, f2⟩, hG⟩, h12, hinv⟩ := e9
  cases e7
  subst f2
  show Ev _ _ _ _ _ _ 1223 [some (.ref (BIG + 300)), some (.ref (0)), some (.ref (396)), some (.ref (405)), some (.ref (406)), some (.int (nI i)), some (.int (c)), l7, l8] [.int (w8)] (N1, SH v1 T1, J, L1, D1)
  refine Ev.sg hX sL_law_1223 (pc' := 1226) (ls' := [some (.ref (BIG + 300)), some (.ref (0)), some (.ref (396)), some (.ref (405)), some (.ref (406)), some (.int (nI i)), some (.int (c)), some (.int (w8)), l8]) (st' := [.ref (396)]) (h' := (N1, SH v1 T1, J, L1, D1)) rfl ?_
  refine Ev.callV (As := []) (rest := []) dvX7_thrown mkL_156 rfl rfl dL_law_1226 (m_thrown (d := 12) hX (by decide)) ⟨by decide, by decide⟩ ⟨Nat.zero_le _, Nat.zero_le _⟩ rfl (Nat.le_of_ble_eq_true rfl) (fun v9 h9 e9 => ?_) (fun E9 h9 e9 => nomatch e9)
  cases e9
  show Ev _ _ _ _ _ _ 1229 [some (.ref (BIG + 300)), some (.ref (0)), some (.ref (396)), some (.ref (405)), some (.ref (406)), some (.int (nI i)), some (.int (c)), some (.int (w8)), l8] [.int (J 396 12)] (N1, SH v1 T1, J, L1, D1)
  rw [h12]
  refine Ev.sg hX sL_law_1229 (pc' := 1231) (ls' := [some (.ref (BIG + 300)), some (.ref (0)), some (.ref (396)), some (.ref (405)), some (.ref (406)), some (.int (nI i)), some (.int (c)), some (.int (w8)), l8]) (st' := [.int (c), .int (c)]) (h' := (N1, SH v1 T1, J, L1, D1)) rfl ?_
  refine Ev.icmp_eq (tgt := 1236) dL_law_1231 (by decide) (fun _ => ?_) (fun q => absurd rfl q)
  refine Ev.sg hX sL_law_1236 (pc' := 1238) (ls' := [some (.ref (BIG + 300)), some (.ref (0)), some (.ref (396)), some (.ref (405)), some (.ref (406)), some (.int (nI i)), some (.int (c)), some (.int (w8)), l8]) (st' := [.int (c)]) (h' := (N1, SH v1 T1, J, L1, D1)) rfl ?_
  refine Ev.if_ne (tgt := 1253) dL_law_1238 (by decide) (fun hc0 => ?_) (fun hc0 => ?_)
  · refine Ev.sg hX sL_law_1253 (pc' := 2699) (ls' := [some (.ref (BIG + 300)), some (.ref (0)), some (.ref (396)), some (.ref (405)), some (.ref (406)), some (.int (nI i)), some (.int (c)), some (.int (w8)), l8]) (st' := []) (h' := (N1, SH v1 T1, J, L1, D1)) rfl ?_
    exact Ev.roomL (by omega) (by omega) (bk _ _ _ _ _ _ _ _ _ hN1 hN2 (hinv.mono (by omega) hK))
  · refine Ev.sg hX sL_law_1241 (pc' := 1243) (ls' := [some (.ref (BIG + 300)), some (.ref (0)), some (.ref (396)), some (.ref (405)), some (.ref (406)), some (.int (nI i)), some (.int (c)), some (.int (w8)), l8]) (st' := [.int (0), .ref (405)]) (h' := (N1, SH v1 T1, J, L1, D1)) rfl ?_
    refine Ev.lald (n := 1) rfl (vp_in_nI (n := 0) (N := 1) (by decide) (by decide)) dL_law_1243 ?_
    show Ev _ _ _ _ _ _ 1244 [some (.ref (BIG + 300)), some (.ref (0)), some (.ref (396)), some (.ref (405)), some (.ref (406)), some (.int (nI i)), some (.int (c)), some (.int (w8)), l8] [.long (L1 405 0)] (N1, SH v1 T1, J, L1, D1)
    rw [gi_eq (hG hc0)]
    refine Ev.sg hX sL_law_1244 (pc' := 1248) (ls' := [some (.ref (BIG + 300)), some (.ref (0)), some (.ref (396)), some (.ref (405)), some (.ref (406)), some (.int (nI i)), some (.int (c)), some (.int (w8)), l8]) (st' := [.int (lg_cmp w8.toInt64 w8.toInt64)]) (h' := (N1, SH v1 T1, J, L1, D1)) rfl ?_
    rw [lcmp_self]
    refine Ev.if_eq (tgt := 1253) dL_law_1248 (by decide) (fun _ => ?_) (fun q => absurd rfl q)
    refine Ev.sg hX sL_law_1253 (pc' := 2699) (ls' := [some (.ref (BIG + 300)), some (.ref (0)), some (.ref (396)), some (.ref (405)), some (.ref (406)), some (.int (nI i)), some (.int (c)), some (.int (w8)), l8]) (st' := []) (h' := (N1, SH v1 T1, J, L1, D1)) rfl ?_
    exact Ev.roomL (by omega) (by omega) (bk _ _ _ _ _ _ _ _ _ hN1 hN2 (hinv.mono (by omega) hK))
theorem br_trackAtRank (hX : JXok X) (hI : INV K N v T I L Dd) (hK : K + 8 ≤ 5000) (hN : N + 1500 < BIG) (hs : i + 6 ≤ jSn X ∧ jSn X ≤ 3072) (hm : 1160 ≤ mc ∧ 1160 ≤ ms) (bk : BK X mc ms N (K + 8) i) : Ev X (jm jdL_law) 20 mc ms lwR 1256 (lsW i l6 l7 l8) [] (N, SH v T, I, L, Dd) := by
  have hI0 := hI
  obtain ⟨g, gs, d, sv, qq, tx, er, fl, w, hp, hq⟩ := hI
  have hN4 := hp.N4
  refine Ev.sg hX sL_law_1256 (pc' := 1262) (ls' := [some (.ref (BIG + 300)), some (.ref (0)), some (.ref (396)), some (.ref (405)), some (.ref (406)), some (.int (nI i)), l6, l7, l8]) (st' := [.int ((nI i) + 1), .ref (BIG + 300), .ref (0)]) (h' := (N, SH v T, I, L, Dd)) rfl ?_
  refine Ev.ialdX (n := i + 1) (naI rfl rfl) (by omega) (by omega) dL_law_1262 ?_
  show Ev _ _ _ _ _ _ 1263 [some (.ref (BIG + 300)), some (.ref (0)), some (.ref (396)), some (.ref (405)), some (.ref (406)), some (.int (nI i)), l6, l7, l8] [.int (jSf X (i + 1)), .ref (0)] (N, SH v T, I, L, Dd)
  refine Ev.sg hX sL_law_1263 (pc' := 1264) (ls' := [some (.ref (BIG + 300)), some (.ref (0)), some (.ref (396)), some (.ref (405)), some (.ref (406)), some (.int (nI i)), l6, l7, l8]) (st' := [.ref (405), .int (jSf X (i + 1)), .ref (0)]) (h' := (N, SH v T, I, L, Dd)) rfl ?_
  obtain ⟨Q', C, hC⟩ := CLS.cr (show CLS X _ _ _ jdX6_trackAtRank [.int (jSf X (i + 1))] jdX7_trackAtRank [.int (jSf X (i + 1))] _ _ N v T I L Dd from b_trackAtRank hX hp hq (by omega))
  refine Ev.callSX (As := [.ref (0), .int (jSf X (i + 1)), .ref (405)]) (rest := []) dhL_trackAtRank mkL_208 dL_law_1264 (wL_trackAtRank hX rfl C (cr_hI hC) (fun E h' e => by obtain ⟨k, hk⟩ := cr_ex hC e; exact xor1 hk)) ⟨by decide, by decide⟩ ⟨by omega, by omega⟩ rfl (Nat.le_of_ble_eq_true rfl) (fun v9 h9 e9 => ?_) (fun E9 h9 e9 => (wq_no e9).elim)
  obtain ⟨N1, v1, T1, I1, L1, D1, c, hN1, hN2, e8, hM⟩ := wq_g (G := GI) hC (cd_of (l := ["java/util/NoSuchElementException"]) (by decide +kernel) (by decide)) (fun x N1 v1 T1 I1 L1 h2 hb hw => w_I hw) e9
  cases e8
  show Ev _ _ _ _ _ _ 1267 [some (.ref (BIG + 300)), some (.ref (0)), some (.ref (396)), some (.ref (405)), some (.ref (406)), some (.int (nI i)), l6, l7, l8] [.int (c)] (N1, SH v1 T1, I1, L1, D1)
  refine Ev.sg hX sL_law_1267 (pc' := 1275) (ls' := [some (.ref (BIG + 300)), some (.ref (0)), some (.ref (396)), some (.ref (405)), some (.ref (406)), some (.int (nI i)), some (.int (c)), l7, l8]) (st' := [.int ((nI i) + 1), .ref (BIG + 300), .ref (396)]) (h' := (N1, SH v1 T1, I1, L1, D1)) rfl ?_
  refine Ev.ialdX (n := i + 1) (naI rfl rfl) (by omega) (by omega) dL_law_1275 ?_
  show Ev _ _ _ _ _ _ 1276 [some (.ref (BIG + 300)), some (.ref (0)), some (.ref (396)), some (.ref (405)), some (.ref (406)), some (.int (nI i)), some (.int (c)), l7, l8] [.int (jSf X (i + 1)), .ref (396)] (N1, SH v1 T1, I1, L1, D1)
  refine Ev.callV (As := [.int (jSf X (i + 1))]) (rest := []) dvX7_trackAtRank mkL_210 rfl rfl dL_law_1276 hM ⟨by decide, by decide⟩ ⟨Nat.zero_le _, Nat.zero_le _⟩ rfl (Nat.le_of_ble_eq_true rfl) (fun v9 h9 e9 => ?_) (fun E9 h9 e9 => by obtain ⟨_, _, e, _⟩ := e9; cases e)
  obtain ⟨b, J, e7, ⟨⟨x8, w8, f1, f2⟩, hG⟩, h12, hinv⟩ := e9
  cases e7
  subst f2
  show Ev _ _ _ _ _ _ 1279 [some (.ref (BIG + 300)), some (.ref (0)), some (.ref (396)), some (.ref (405)), some (.ref (406)), some (.int (nI i)), some (.int (c)), l7, l8] [.int (w8)] (N1, SH v1 T1, J, L1, D1)
  refine Ev.sg hX sL_law_1279 (pc' := 1282) (ls' := [some (.ref (BIG + 300)), some (.ref (0)), some (.ref (396)), some (.ref (405)), some (.ref (406)), some (.int (nI i)), some (.int (c)), some (.int (w8)), l8]) (st' := [.ref (396)]) (h' := (N1, SH v1 T1, J, L1, D1)) rfl ?_
  refine Ev.callV (As := []) (rest := []) dvX7_thrown mkL_156 rfl rfl dL_law_1282 (m_thrown (d := 12) hX (by decide)) ⟨by decide, by decide⟩ ⟨Nat.zero_le _, Nat.zero_le _⟩ rfl (Nat.le_of_ble_eq_true rfl) (fun v9 h9 e9 => ?_) (fun E9 h9 e9 => nomatch e9)
  cases e9
  show Ev _ _ _ _ _ _ 1285 [some (.ref (BIG + 300)), some (.ref (0)), some (.ref (396)), some (.ref (405)), some (.ref (406)), some (.int (nI i)), some (.int (c)), some (.int (w8)), l8] [.int (J 396 12)] (N1, SH v1 T1, J, L1, D1)
  rw [h12]
  refine Ev.sg hX sL_law_1285 (pc' := 1287) (ls' := [some (.ref (BIG + 300)), some (.ref (0)), some (.ref (396)), some (.ref (405)), some (.ref (406)), some (.int (nI i)), some (.int (c)), some (.int (w8)), l8]) (st' := [.int (c), .int (c)]) (h' := (N1, SH v1 T1, J, L1, D1)) rfl ?_
  refine Ev.icmp_eq (tgt := 1292) dL_law_1287 (by decide) (fun _ => ?_) (fun q => absurd rfl q)
  refine Ev.sg hX sL_law_1292 (pc' := 1294) (ls' := [some (.ref (BIG + 300)), some (.ref (0)), some (.ref (396)), some (.ref (405)), some (.ref (406)), some (.int (nI i)), some (.int (c)), some (.int (w8)), l8]) (st' := [.int (c)]) (h' := (N1, SH v1 T1, J, L1, D1)) rfl ?_
  refine Ev.if_ne (tgt := 1309) dL_law_1294 (by decide) (fun hc0 => ?_) (fun hc0 => ?_)
  · refine Ev.sg hX sL_law_1309 (pc' := 2699) (ls' := [some (.ref (BIG + 300)), some (.ref (0)), some (.ref (396)), some (.ref (405)), some (.ref (406)), some (.int (nI i)), some (.int (c)), some (.int (w8)), l8]) (st' := []) (h' := (N1, SH v1 T1, J, L1, D1)) rfl ?_
    exact Ev.roomL (by omega) (by omega) (bk _ _ _ _ _ _ _ _ _ hN1 hN2 (hinv.mono (by omega) hK))
  · refine Ev.sg hX sL_law_1297 (pc' := 1299) (ls' := [some (.ref (BIG + 300)), some (.ref (0)), some (.ref (396)), some (.ref (405)), some (.ref (406)), some (.int (nI i)), some (.int (c)), some (.int (w8)), l8]) (st' := [.int (0), .ref (405)]) (h' := (N1, SH v1 T1, J, L1, D1)) rfl ?_
    refine Ev.lald (n := 1) rfl (vp_in_nI (n := 0) (N := 1) (by decide) (by decide)) dL_law_1299 ?_
    show Ev _ _ _ _ _ _ 1300 [some (.ref (BIG + 300)), some (.ref (0)), some (.ref (396)), some (.ref (405)), some (.ref (406)), some (.int (nI i)), some (.int (c)), some (.int (w8)), l8] [.long (L1 405 0)] (N1, SH v1 T1, J, L1, D1)
    rw [gi_eq (hG hc0)]
    refine Ev.sg hX sL_law_1300 (pc' := 1304) (ls' := [some (.ref (BIG + 300)), some (.ref (0)), some (.ref (396)), some (.ref (405)), some (.ref (406)), some (.int (nI i)), some (.int (c)), some (.int (w8)), l8]) (st' := [.int (lg_cmp w8.toInt64 w8.toInt64)]) (h' := (N1, SH v1 T1, J, L1, D1)) rfl ?_
    rw [lcmp_self]
    refine Ev.if_eq (tgt := 1309) dL_law_1304 (by decide) (fun _ => ?_) (fun q => absurd rfl q)
    refine Ev.sg hX sL_law_1309 (pc' := 2699) (ls' := [some (.ref (BIG + 300)), some (.ref (0)), some (.ref (396)), some (.ref (405)), some (.ref (406)), some (.int (nI i)), some (.int (c)), some (.int (w8)), l8]) (st' := []) (h' := (N1, SH v1 T1, J, L1, D1)) rfl ?_
    exact Ev.roomL (by omega) (by omega) (bk _ _ _ _ _ _ _ _ _ hN1 hN2 (hinv.mono (by omega) hK))
theorem br_areConnected (hX : JXok X) (hI : INV K N v T I L Dd) (hK : K + 8 ≤ 5000) (hN : N + 1500 < BIG) (hs : i + 6 ≤ jSn X ∧ jSn X ≤ 3072) (hm : 1160 ≤ mc ∧ 1160 ≤ ms) (bk : BK X mc ms N (K + 8) i) : Ev X (jm jdL_law) 20 mc ms lwR 1312 (lsW i l6 l7 l8) [] (N, SH v T, I, L, Dd) := by
  have hI0 := hI
  obtain ⟨g, gs, d, sv, qq, tx, er, fl, w, hp, hq⟩ := hI
  have hN4 := hp.N4
  refine Ev.sg hX sL_law_1312 (pc' := 1318) (ls' := [some (.ref (BIG + 300)), some (.ref (0)), some (.ref (396)), some (.ref (405)), some (.ref (406)), some (.int (nI i)), l6, l7, l8]) (st' := [.int ((nI i) + 1), .ref (BIG + 300), .ref (0)]) (h' := (N, SH v T, I, L, Dd)) rfl ?_
  refine Ev.ialdX (n := i + 1) (naI rfl rfl) (by omega) (by omega) dL_law_1318 ?_
  show Ev _ _ _ _ _ _ 1319 [some (.ref (BIG + 300)), some (.ref (0)), some (.ref (396)), some (.ref (405)), some (.ref (406)), some (.int (nI i)), l6, l7, l8] [.int (jSf X (i + 1)), .ref (0)] (N, SH v T, I, L, Dd)
  refine Ev.sg hX sL_law_1319 (pc' := 1324) (ls' := [some (.ref (BIG + 300)), some (.ref (0)), some (.ref (396)), some (.ref (405)), some (.ref (406)), some (.int (nI i)), l6, l7, l8]) (st' := [.int ((nI i) + 2), .ref (BIG + 300), .int (jSf X (i + 1)), .ref (0)]) (h' := (N, SH v T, I, L, Dd)) rfl ?_
  refine Ev.ialdX (n := i + 2) (naI rfl rfl) (by omega) (by omega) dL_law_1324 ?_
  show Ev _ _ _ _ _ _ 1325 [some (.ref (BIG + 300)), some (.ref (0)), some (.ref (396)), some (.ref (405)), some (.ref (406)), some (.int (nI i)), l6, l7, l8] [.int (jSf X (i + 2)), .int (jSf X (i + 1)), .ref (0)] (N, SH v T, I, L, Dd)
  refine Ev.sg hX sL_law_1325 (pc' := 1326) (ls' := [some (.ref (BIG + 300)), some (.ref (0)), some (.ref (396)), some (.ref (405)), some (.ref (406)), some (.int (nI i)), l6, l7, l8]) (st' := [.ref (405), .int (jSf X (i + 2)), .int (jSf X (i + 1)), .ref (0)]) (h' := (N, SH v T, I, L, Dd)) rfl ?_
  obtain ⟨Q', C, hC⟩ := CLS.cr (show CLS X _ _ _ jdX6_areConnected [.int (jSf X (i + 1)), .int (jSf X (i + 2))] jdX7_areConnected [.int (jSf X (i + 1)), .int (jSf X (i + 2))] _ _ N v T I L Dd from b_areConnected hX hp hq (by omega))
  refine Ev.callSX (As := [.ref (0), .int (jSf X (i + 1)), .int (jSf X (i + 2)), .ref (405)]) (rest := []) dhL_areConnected mkL_211 dL_law_1326 (wL_areConnected hX rfl C (cr_hI hC) (fun E h' e => by obtain ⟨k, hk⟩ := cr_ex hC e; exact xor1 hk)) ⟨by decide, by decide⟩ ⟨by omega, by omega⟩ rfl (Nat.le_of_ble_eq_true rfl) (fun v9 h9 e9 => ?_) (fun E9 h9 e9 => (wq_no e9).elim)
  obtain ⟨N1, v1, T1, I1, L1, D1, c, hN1, hN2, e8, hM⟩ := wq_g (G := GZ) hC (cd_of (l := ["java/lang/IndexOutOfBoundsException"]) (by decide +kernel) (by decide)) (fun x N1 v1 T1 I1 L1 h2 hb hw => w_Z hw) e9
  cases e8
  show Ev _ _ _ _ _ _ 1329 [some (.ref (BIG + 300)), some (.ref (0)), some (.ref (396)), some (.ref (405)), some (.ref (406)), some (.int (nI i)), l6, l7, l8] [.int (c)] (N1, SH v1 T1, I1, L1, D1)
  refine Ev.sg hX sL_law_1329 (pc' := 1337) (ls' := [some (.ref (BIG + 300)), some (.ref (0)), some (.ref (396)), some (.ref (405)), some (.ref (406)), some (.int (nI i)), some (.int (c)), l7, l8]) (st' := [.int ((nI i) + 1), .ref (BIG + 300), .ref (396)]) (h' := (N1, SH v1 T1, I1, L1, D1)) rfl ?_
  refine Ev.ialdX (n := i + 1) (naI rfl rfl) (by omega) (by omega) dL_law_1337 ?_
  show Ev _ _ _ _ _ _ 1338 [some (.ref (BIG + 300)), some (.ref (0)), some (.ref (396)), some (.ref (405)), some (.ref (406)), some (.int (nI i)), some (.int (c)), l7, l8] [.int (jSf X (i + 1)), .ref (396)] (N1, SH v1 T1, I1, L1, D1)
  refine Ev.sg hX sL_law_1338 (pc' := 1343) (ls' := [some (.ref (BIG + 300)), some (.ref (0)), some (.ref (396)), some (.ref (405)), some (.ref (406)), some (.int (nI i)), some (.int (c)), l7, l8]) (st' := [.int ((nI i) + 2), .ref (BIG + 300), .int (jSf X (i + 1)), .ref (396)]) (h' := (N1, SH v1 T1, I1, L1, D1)) rfl ?_
  refine Ev.ialdX (n := i + 2) (naI rfl rfl) (by omega) (by omega) dL_law_1343 ?_
  show Ev _ _ _ _ _ _ 1344 [some (.ref (BIG + 300)), some (.ref (0)), some (.ref (396)), some (.ref (405)), some (.ref (406)), some (.int (nI i)), some (.int (c)), l7, l8] [.int (jSf X (i + 2)), .int (jSf X (i + 1)), .ref (396)] (N1, SH v1 T1, I1, L1, D1)
  refine Ev.callV (As := [.int (jSf X (i + 1)), .int (jSf X (i + 2))]) (rest := []) dvX7_areConnected mkL_213 rfl rfl dL_law_1344 hM ⟨by decide, by decide⟩ ⟨Nat.zero_le _, Nat.zero_le _⟩ rfl (Nat.le_of_ble_eq_true rfl) (fun v9 h9 e9 => ?_) (fun E9 h9 e9 => by obtain ⟨_, _, e, _⟩ := e9; cases e)
  obtain ⟨b, J, e7, ⟨⟨x8, w8, f1, f2⟩, hG⟩, h12, hinv⟩ := e9
  cases e7
  subst f2
  show Ev _ _ _ _ _ _ 1347 [some (.ref (BIG + 300)), some (.ref (0)), some (.ref (396)), some (.ref (405)), some (.ref (406)), some (.int (nI i)), some (.int (c)), l7, l8] [.int (w8)] (N1, SH v1 T1, J, L1, D1)
  refine Ev.sg hX sL_law_1347 (pc' := 1350) (ls' := [some (.ref (BIG + 300)), some (.ref (0)), some (.ref (396)), some (.ref (405)), some (.ref (406)), some (.int (nI i)), some (.int (c)), some (.int (w8)), l8]) (st' := [.ref (396)]) (h' := (N1, SH v1 T1, J, L1, D1)) rfl ?_
  refine Ev.callV (As := []) (rest := []) dvX7_thrown mkL_156 rfl rfl dL_law_1350 (m_thrown (d := 12) hX (by decide)) ⟨by decide, by decide⟩ ⟨Nat.zero_le _, Nat.zero_le _⟩ rfl (Nat.le_of_ble_eq_true rfl) (fun v9 h9 e9 => ?_) (fun E9 h9 e9 => nomatch e9)
  cases e9
  show Ev _ _ _ _ _ _ 1353 [some (.ref (BIG + 300)), some (.ref (0)), some (.ref (396)), some (.ref (405)), some (.ref (406)), some (.int (nI i)), some (.int (c)), some (.int (w8)), l8] [.int (J 396 12)] (N1, SH v1 T1, J, L1, D1)
  rw [h12]
  refine Ev.sg hX sL_law_1353 (pc' := 1355) (ls' := [some (.ref (BIG + 300)), some (.ref (0)), some (.ref (396)), some (.ref (405)), some (.ref (406)), some (.int (nI i)), some (.int (c)), some (.int (w8)), l8]) (st' := [.int (c), .int (c)]) (h' := (N1, SH v1 T1, J, L1, D1)) rfl ?_
  refine Ev.icmp_eq (tgt := 1360) dL_law_1355 (by decide) (fun _ => ?_) (fun q => absurd rfl q)
  refine Ev.sg hX sL_law_1360 (pc' := 1362) (ls' := [some (.ref (BIG + 300)), some (.ref (0)), some (.ref (396)), some (.ref (405)), some (.ref (406)), some (.int (nI i)), some (.int (c)), some (.int (w8)), l8]) (st' := [.int (c)]) (h' := (N1, SH v1 T1, J, L1, D1)) rfl ?_
  refine Ev.if_ne (tgt := 1384) dL_law_1362 (by decide) (fun hc0 => ?_) (fun hc0 => ?_)
  · refine Ev.sg hX sL_law_1384 (pc' := 2699) (ls' := [some (.ref (BIG + 300)), some (.ref (0)), some (.ref (396)), some (.ref (405)), some (.ref (406)), some (.int (nI i)), some (.int (c)), some (.int (w8)), l8]) (st' := []) (h' := (N1, SH v1 T1, J, L1, D1)) rfl ?_
    exact Ev.roomL (by omega) (by omega) (bk _ _ _ _ _ _ _ _ _ hN1 hN2 (hinv.mono (by omega) hK))
  · refine Ev.sg hX sL_law_1365 (pc' := 1367) (ls' := [some (.ref (BIG + 300)), some (.ref (0)), some (.ref (396)), some (.ref (405)), some (.ref (406)), some (.int (nI i)), some (.int (c)), some (.int (w8)), l8]) (st' := [.int (0), .ref (405)]) (h' := (N1, SH v1 T1, J, L1, D1)) rfl ?_
    refine Ev.lald (n := 1) rfl (vp_in_nI (n := 0) (N := 1) (by decide) (by decide)) dL_law_1367 ?_
    show Ev _ _ _ _ _ _ 1368 [some (.ref (BIG + 300)), some (.ref (0)), some (.ref (396)), some (.ref (405)), some (.ref (406)), some (.int (nI i)), some (.int (c)), some (.int (w8)), l8] [.long (L1 405 0)] (N1, SH v1 T1, J, L1, D1)
    rw [gz_eq (hG hc0)]
    refine Ev.sg hX sL_law_1368 (pc' := 1370) (ls' := [some (.ref (BIG + 300)), some (.ref (0)), some (.ref (396)), some (.ref (405)), some (.ref (406)), some (.int (nI i)), some (.int (c)), some (.int (w8)), l8]) (st' := [.int (w8), .long (if w8 = 0 then 0 else 1)]) (h' := (N1, SH v1 T1, J, L1, D1)) rfl ?_
    refine Ev.if_eq (tgt := 1377) dL_law_1370 (by decide) (fun q7 => ?_) (fun q7 => ?_)
    · rw [if_pos q7]
      refine Ev.sg hX sL_law_1377 (pc' := 1378) (ls' := [some (.ref (BIG + 300)), some (.ref (0)), some (.ref (396)), some (.ref (405)), some (.ref (406)), some (.int (nI i)), some (.int (c)), some (.int (w8)), l8]) (st' := [.long (0), .long (0)]) (h' := (N1, SH v1 T1, J, L1, D1)) rfl ?_
      refine Ev.sg hX sL_law_1378 (pc' := 1379) (ls' := [some (.ref (BIG + 300)), some (.ref (0)), some (.ref (396)), some (.ref (405)), some (.ref (406)), some (.int (nI i)), some (.int (c)), some (.int (w8)), l8]) (st' := [.int (lg_cmp 0 0)]) (h' := (N1, SH v1 T1, J, L1, D1)) rfl ?_
      rw [lcmp_self]
      refine Ev.if_eq (tgt := 1384) dL_law_1379 (by decide) (fun _ => ?_) (fun q => absurd rfl q)
      refine Ev.sg hX sL_law_1384 (pc' := 2699) (ls' := [some (.ref (BIG + 300)), some (.ref (0)), some (.ref (396)), some (.ref (405)), some (.ref (406)), some (.int (nI i)), some (.int (c)), some (.int (w8)), l8]) (st' := []) (h' := (N1, SH v1 T1, J, L1, D1)) rfl ?_
      exact Ev.roomL (by omega) (by omega) (bk _ _ _ _ _ _ _ _ _ hN1 hN2 (hinv.mono (by omega) hK))
    · rw [if_neg q7]
      refine Ev.sg hX sL_law_1373 (pc' := 1378) (ls' := [some (.ref (BIG + 300)), some (.ref (0)), some (.ref (396)), some (.ref (405)), some (.ref (406)), some (.int (nI i)), some (.int (c)), some (.int (w8)), l8]) (st' := [.long (1), .long (1)]) (h' := (N1, SH v1 T1, J, L1, D1)) rfl ?_
      refine Ev.sg hX sL_law_1378 (pc' := 1379) (ls' := [some (.ref (BIG + 300)), some (.ref (0)), some (.ref (396)), some (.ref (405)), some (.ref (406)), some (.int (nI i)), some (.int (c)), some (.int (w8)), l8]) (st' := [.int (lg_cmp 1 1)]) (h' := (N1, SH v1 T1, J, L1, D1)) rfl ?_
      rw [lcmp_self]
      refine Ev.if_eq (tgt := 1384) dL_law_1379 (by decide) (fun _ => ?_) (fun q => absurd rfl q)
      refine Ev.sg hX sL_law_1384 (pc' := 2699) (ls' := [some (.ref (BIG + 300)), some (.ref (0)), some (.ref (396)), some (.ref (405)), some (.ref (406)), some (.int (nI i)), some (.int (c)), some (.int (w8)), l8]) (st' := []) (h' := (N1, SH v1 T1, J, L1, D1)) rfl ?_
      exact Ev.roomL (by omega) (by omega) (bk _ _ _ _ _ _ _ _ _ hN1 hN2 (hinv.mono (by omega) hK))
theorem br_routeLength (hX : JXok X) (hI : INV K N v T I L Dd) (hK : K + 8 ≤ 5000) (hN : N + 1500 < BIG) (hs : i + 6 ≤ jSn X ∧ jSn X ≤ 3072) (hm : 1160 ≤ mc ∧ 1160 ≤ ms) (bk : BK X mc ms N (K + 8) i) : Ev X (jm jdL_law) 20 mc ms lwR 1387 (lsW i l6 l7 l8) [] (N, SH v T, I, L, Dd) := by
  have hI0 := hI
  obtain ⟨g, gs, d, sv, qq, tx, er, fl, w, hp, hq⟩ := hI
  have hN4 := hp.N4
  refine Ev.sg hX sL_law_1387 (pc' := 1393) (ls' := [some (.ref (BIG + 300)), some (.ref (0)), some (.ref (396)), some (.ref (405)), some (.ref (406)), some (.int (nI i)), l6, l7, l8]) (st' := [.int ((nI i) + 1), .ref (BIG + 300), .ref (0)]) (h' := (N, SH v T, I, L, Dd)) rfl ?_
  refine Ev.ialdX (n := i + 1) (naI rfl rfl) (by omega) (by omega) dL_law_1393 ?_
  show Ev _ _ _ _ _ _ 1394 [some (.ref (BIG + 300)), some (.ref (0)), some (.ref (396)), some (.ref (405)), some (.ref (406)), some (.int (nI i)), l6, l7, l8] [.int (jSf X (i + 1)), .ref (0)] (N, SH v T, I, L, Dd)
  refine Ev.sg hX sL_law_1394 (pc' := 1399) (ls' := [some (.ref (BIG + 300)), some (.ref (0)), some (.ref (396)), some (.ref (405)), some (.ref (406)), some (.int (nI i)), l6, l7, l8]) (st' := [.int ((nI i) + 2), .ref (BIG + 300), .int (jSf X (i + 1)), .ref (0)]) (h' := (N, SH v T, I, L, Dd)) rfl ?_
  refine Ev.ialdX (n := i + 2) (naI rfl rfl) (by omega) (by omega) dL_law_1399 ?_
  show Ev _ _ _ _ _ _ 1400 [some (.ref (BIG + 300)), some (.ref (0)), some (.ref (396)), some (.ref (405)), some (.ref (406)), some (.int (nI i)), l6, l7, l8] [.int (jSf X (i + 2)), .int (jSf X (i + 1)), .ref (0)] (N, SH v T, I, L, Dd)
  refine Ev.sg hX sL_law_1400 (pc' := 1401) (ls' := [some (.ref (BIG + 300)), some (.ref (0)), some (.ref (396)), some (.ref (405)), some (.ref (406)), some (.int (nI i)), l6, l7, l8]) (st' := [.ref (405), .int (jSf X (i + 2)), .int (jSf X (i + 1)), .ref (0)]) (h' := (N, SH v T, I, L, Dd)) rfl ?_
  obtain ⟨Q', C, hC⟩ := CLS.cr (show CLS X _ _ _ jdX6_routeLength [.int (jSf X (i + 1)), .int (jSf X (i + 2))] jdX7_routeLength [.int (jSf X (i + 1)), .int (jSf X (i + 2))] _ _ N v T I L Dd from b_routeLength hX hp hq (by omega))
  refine Ev.callSX (As := [.ref (0), .int (jSf X (i + 1)), .int (jSf X (i + 2)), .ref (405)]) (rest := []) dhL_routeLength mkL_214 dL_law_1401 (wL_routeLength hX rfl C (cr_hI hC) (fun E h' e => by obtain ⟨k, hk⟩ := cr_ex hC e; exact xor2 hk)) ⟨by decide, by decide⟩ ⟨by omega, by omega⟩ rfl (Nat.le_of_ble_eq_true rfl) (fun v9 h9 e9 => ?_) (fun E9 h9 e9 => (wq_no e9).elim)
  obtain ⟨N1, v1, T1, I1, L1, D1, c, hN1, hN2, e8, hM⟩ := wq_g (G := GI) hC (cd_of (l := ["java/lang/IndexOutOfBoundsException", "java/util/NoSuchElementException"]) (by decide +kernel) (by decide)) (fun x N1 v1 T1 I1 L1 h2 hb hw => w_I hw) e9
  cases e8
  show Ev _ _ _ _ _ _ 1404 [some (.ref (BIG + 300)), some (.ref (0)), some (.ref (396)), some (.ref (405)), some (.ref (406)), some (.int (nI i)), l6, l7, l8] [.int (c)] (N1, SH v1 T1, I1, L1, D1)
  refine Ev.sg hX sL_law_1404 (pc' := 1412) (ls' := [some (.ref (BIG + 300)), some (.ref (0)), some (.ref (396)), some (.ref (405)), some (.ref (406)), some (.int (nI i)), some (.int (c)), l7, l8]) (st' := [.int ((nI i) + 1), .ref (BIG + 300), .ref (396)]) (h' := (N1, SH v1 T1, I1, L1, D1)) rfl ?_
  refine Ev.ialdX (n := i + 1) (naI rfl rfl) (by omega) (by omega) dL_law_1412 ?_
  show Ev _ _ _ _ _ _ 1413 [some (.ref (BIG + 300)), some (.ref (0)), some (.ref (396)), some (.ref (405)), some (.ref (406)), some (.int (nI i)), some (.int (c)), l7, l8] [.int (jSf X (i + 1)), .ref (396)] (N1, SH v1 T1, I1, L1, D1)
  refine Ev.sg hX sL_law_1413 (pc' := 1418) (ls' := [some (.ref (BIG + 300)), some (.ref (0)), some (.ref (396)), some (.ref (405)), some (.ref (406)), some (.int (nI i)), some (.int (c)), l7, l8]) (st' := [.int ((nI i) + 2), .ref (BIG + 300), .int (jSf X (i + 1)), .ref (396)]) (h' := (N1, SH v1 T1, I1, L1, D1)) rfl ?_
  refine Ev.ialdX (n := i + 2) (naI rfl rfl) (by omega) (by omega) dL_law_1418 ?_
  show Ev _ _ _ _ _ _ 1419 [some (.ref (BIG + 300)), some (.ref (0)), some (.ref (396)), some (.ref (405)), some (.ref (406)), some (.int (nI i)), some (.int (c)), l7, l8] [.int (jSf X (i + 2)), .int (jSf X (i + 1)), .ref (396)] (N1, SH v1 T1, I1, L1, D1)
  refine Ev.callV (As := [.int (jSf X (i + 1)), .int (jSf X (i + 2))]) (rest := []) dvX7_routeLength mkL_216 rfl rfl dL_law_1419 hM ⟨by decide, by decide⟩ ⟨Nat.zero_le _, Nat.zero_le _⟩ rfl (Nat.le_of_ble_eq_true rfl) (fun v9 h9 e9 => ?_) (fun E9 h9 e9 => by obtain ⟨_, _, e, _⟩ := e9; cases e)
  obtain ⟨b, J, e7, ⟨⟨x8, w8, f1, f2⟩, hG⟩, h12, hinv⟩ := e9
  cases e7
  subst f2
  show Ev _ _ _ _ _ _ 1422 [some (.ref (BIG + 300)), some (.ref (0)), some (.ref (396)), some (.ref (405)), some (.ref (406)), some (.int (nI i)), some (.int (c)), l7, l8] [.int (w8)] (N1, SH v1 T1, J, L1, D1)
  refine Ev.sg hX sL_law_1422 (pc' := 1425) (ls' := [some (.ref (BIG + 300)), some (.ref (0)), some (.ref (396)), some (.ref (405)), some (.ref (406)), some (.int (nI i)), some (.int (c)), some (.int (w8)), l8]) (st' := [.ref (396)]) (h' := (N1, SH v1 T1, J, L1, D1)) rfl ?_
  refine Ev.callV (As := []) (rest := []) dvX7_thrown mkL_156 rfl rfl dL_law_1425 (m_thrown (d := 12) hX (by decide)) ⟨by decide, by decide⟩ ⟨Nat.zero_le _, Nat.zero_le _⟩ rfl (Nat.le_of_ble_eq_true rfl) (fun v9 h9 e9 => ?_) (fun E9 h9 e9 => nomatch e9)
  cases e9
  show Ev _ _ _ _ _ _ 1428 [some (.ref (BIG + 300)), some (.ref (0)), some (.ref (396)), some (.ref (405)), some (.ref (406)), some (.int (nI i)), some (.int (c)), some (.int (w8)), l8] [.int (J 396 12)] (N1, SH v1 T1, J, L1, D1)
  rw [h12]
  refine Ev.sg hX sL_law_1428 (pc' := 1430) (ls' := [some (.ref (BIG + 300)), some (.ref (0)), some (.ref (396)), some (.ref (405)), some (.ref (406)), some (.int (nI i)), some (.int (c)), some (.int (w8)), l8]) (st' := [.int (c), .int (c)]) (h' := (N1, SH v1 T1, J, L1, D1)) rfl ?_
  refine Ev.icmp_eq (tgt := 1435) dL_law_1430 (by decide) (fun _ => ?_) (fun q => absurd rfl q)
  refine Ev.sg hX sL_law_1435 (pc' := 1437) (ls' := [some (.ref (BIG + 300)), some (.ref (0)), some (.ref (396)), some (.ref (405)), some (.ref (406)), some (.int (nI i)), some (.int (c)), some (.int (w8)), l8]) (st' := [.int (c)]) (h' := (N1, SH v1 T1, J, L1, D1)) rfl ?_
  refine Ev.if_ne (tgt := 1452) dL_law_1437 (by decide) (fun hc0 => ?_) (fun hc0 => ?_)
  · refine Ev.sg hX sL_law_1452 (pc' := 2699) (ls' := [some (.ref (BIG + 300)), some (.ref (0)), some (.ref (396)), some (.ref (405)), some (.ref (406)), some (.int (nI i)), some (.int (c)), some (.int (w8)), l8]) (st' := []) (h' := (N1, SH v1 T1, J, L1, D1)) rfl ?_
    exact Ev.roomL (by omega) (by omega) (bk _ _ _ _ _ _ _ _ _ hN1 hN2 (hinv.mono (by omega) hK))
  · refine Ev.sg hX sL_law_1440 (pc' := 1442) (ls' := [some (.ref (BIG + 300)), some (.ref (0)), some (.ref (396)), some (.ref (405)), some (.ref (406)), some (.int (nI i)), some (.int (c)), some (.int (w8)), l8]) (st' := [.int (0), .ref (405)]) (h' := (N1, SH v1 T1, J, L1, D1)) rfl ?_
    refine Ev.lald (n := 1) rfl (vp_in_nI (n := 0) (N := 1) (by decide) (by decide)) dL_law_1442 ?_
    show Ev _ _ _ _ _ _ 1443 [some (.ref (BIG + 300)), some (.ref (0)), some (.ref (396)), some (.ref (405)), some (.ref (406)), some (.int (nI i)), some (.int (c)), some (.int (w8)), l8] [.long (L1 405 0)] (N1, SH v1 T1, J, L1, D1)
    rw [gi_eq (hG hc0)]
    refine Ev.sg hX sL_law_1443 (pc' := 1447) (ls' := [some (.ref (BIG + 300)), some (.ref (0)), some (.ref (396)), some (.ref (405)), some (.ref (406)), some (.int (nI i)), some (.int (c)), some (.int (w8)), l8]) (st' := [.int (lg_cmp w8.toInt64 w8.toInt64)]) (h' := (N1, SH v1 T1, J, L1, D1)) rfl ?_
    rw [lcmp_self]
    refine Ev.if_eq (tgt := 1452) dL_law_1447 (by decide) (fun _ => ?_) (fun q => absurd rfl q)
    refine Ev.sg hX sL_law_1452 (pc' := 2699) (ls' := [some (.ref (BIG + 300)), some (.ref (0)), some (.ref (396)), some (.ref (405)), some (.ref (406)), some (.int (nI i)), some (.int (c)), some (.int (w8)), l8]) (st' := []) (h' := (N1, SH v1 T1, J, L1, D1)) rfl ?_
    exact Ev.roomL (by omega) (by omega) (bk _ _ _ _ _ _ _ _ _ hN1 hN2 (hinv.mono (by omega) hK))
theorem br_routeLengthByMatrix (hX : JXok X) (hI : INV K N v T I L Dd) (hK : K + 8 ≤ 5000) (hN : N + 1500 < BIG) (hs : i + 6 ≤ jSn X ∧ jSn X ≤ 3072) (hm : 1160 ≤ mc ∧ 1160 ≤ ms) (bk : BK X mc ms N (K + 8) i) : Ev X (jm jdL_law) 20 mc ms lwR 1455 (lsW i l6 l7 l8) [] (N, SH v T, I, L, Dd) := by
  have hI0 := hI
  obtain ⟨g, gs, d, sv, qq, tx, er, fl, w, hp, hq⟩ := hI
  have hN4 := hp.N4
  refine Ev.sg hX sL_law_1455 (pc' := 1461) (ls' := [some (.ref (BIG + 300)), some (.ref (0)), some (.ref (396)), some (.ref (405)), some (.ref (406)), some (.int (nI i)), l6, l7, l8]) (st' := [.int ((nI i) + 1), .ref (BIG + 300), .ref (0)]) (h' := (N, SH v T, I, L, Dd)) rfl ?_
  refine Ev.ialdX (n := i + 1) (naI rfl rfl) (by omega) (by omega) dL_law_1461 ?_
  show Ev _ _ _ _ _ _ 1462 [some (.ref (BIG + 300)), some (.ref (0)), some (.ref (396)), some (.ref (405)), some (.ref (406)), some (.int (nI i)), l6, l7, l8] [.int (jSf X (i + 1)), .ref (0)] (N, SH v T, I, L, Dd)
  refine Ev.sg hX sL_law_1462 (pc' := 1467) (ls' := [some (.ref (BIG + 300)), some (.ref (0)), some (.ref (396)), some (.ref (405)), some (.ref (406)), some (.int (nI i)), l6, l7, l8]) (st' := [.int ((nI i) + 2), .ref (BIG + 300), .int (jSf X (i + 1)), .ref (0)]) (h' := (N, SH v T, I, L, Dd)) rfl ?_
  refine Ev.ialdX (n := i + 2) (naI rfl rfl) (by omega) (by omega) dL_law_1467 ?_
  show Ev _ _ _ _ _ _ 1468 [some (.ref (BIG + 300)), some (.ref (0)), some (.ref (396)), some (.ref (405)), some (.ref (406)), some (.int (nI i)), l6, l7, l8] [.int (jSf X (i + 2)), .int (jSf X (i + 1)), .ref (0)] (N, SH v T, I, L, Dd)
  refine Ev.sg hX sL_law_1468 (pc' := 1469) (ls' := [some (.ref (BIG + 300)), some (.ref (0)), some (.ref (396)), some (.ref (405)), some (.ref (406)), some (.int (nI i)), l6, l7, l8]) (st' := [.ref (405), .int (jSf X (i + 2)), .int (jSf X (i + 1)), .ref (0)]) (h' := (N, SH v T, I, L, Dd)) rfl ?_
  obtain ⟨Q', C, hC⟩ := CLS.cr (show CLS X _ _ _ jdX6_routeLengthByMatrix [.int (jSf X (i + 1)), .int (jSf X (i + 2))] jdX7_routeLengthByMatrix [.int (jSf X (i + 1)), .int (jSf X (i + 2))] _ _ N v T I L Dd from b_routeLengthByMatrix hX hp hq (by omega))
  refine Ev.callSX (As := [.ref (0), .int (jSf X (i + 1)), .int (jSf X (i + 2)), .ref (405)]) (rest := []) dhL_routeLengthByMatrix mkL_217 dL_law_1469 (wL_routeLengthByMatrix hX rfl C (cr_hI hC) (fun E h' e => by obtain ⟨k, hk⟩ := cr_ex hC e; exact xor2 hk)) ⟨by decide, by decide⟩ ⟨by omega, by omega⟩ rfl (Nat.le_of_ble_eq_true rfl) (fun v9 h9 e9 => ?_) (fun E9 h9 e9 => (wq_no e9).elim)
  obtain ⟨N1, v1, T1, I1, L1, D1, c, hN1, hN2, e8, hM⟩ := wq_g (G := GI) hC (cd_of (l := ["java/lang/IndexOutOfBoundsException", "java/util/NoSuchElementException"]) (by decide +kernel) (by decide)) (fun x N1 v1 T1 I1 L1 h2 hb hw => w_I hw) e9
  cases e8
  show Ev _ _ _ _ _ _ 1472 [some (.ref (BIG + 300)), some (.ref (0)), some (.ref (396)), some (.ref (405)), some (.ref (406)), some (.int (nI i)), l6, l7, l8] [.int (c)] (N1, SH v1 T1, I1, L1, D1)
  refine Ev.sg hX sL_law_1472 (pc' := 1480) (ls' := [some (.ref (BIG + 300)), some (.ref (0)), some (.ref (396)), some (.ref (405)), some (.ref (406)), some (.int (nI i)), some (.int (c)), l7, l8]) (st' := [.int ((nI i) + 1), .ref (BIG + 300), .ref (396)]) (h' := (N1, SH v1 T1, I1, L1, D1)) rfl ?_
  refine Ev.ialdX (n := i + 1) (naI rfl rfl) (by omega) (by omega) dL_law_1480 ?_
  show Ev _ _ _ _ _ _ 1481 [some (.ref (BIG + 300)), some (.ref (0)), some (.ref (396)), some (.ref (405)), some (.ref (406)), some (.int (nI i)), some (.int (c)), l7, l8] [.int (jSf X (i + 1)), .ref (396)] (N1, SH v1 T1, I1, L1, D1)
  refine Ev.sg hX sL_law_1481 (pc' := 1486) (ls' := [some (.ref (BIG + 300)), some (.ref (0)), some (.ref (396)), some (.ref (405)), some (.ref (406)), some (.int (nI i)), some (.int (c)), l7, l8]) (st' := [.int ((nI i) + 2), .ref (BIG + 300), .int (jSf X (i + 1)), .ref (396)]) (h' := (N1, SH v1 T1, I1, L1, D1)) rfl ?_
  refine Ev.ialdX (n := i + 2) (naI rfl rfl) (by omega) (by omega) dL_law_1486 ?_
  show Ev _ _ _ _ _ _ 1487 [some (.ref (BIG + 300)), some (.ref (0)), some (.ref (396)), some (.ref (405)), some (.ref (406)), some (.int (nI i)), some (.int (c)), l7, l8] [.int (jSf X (i + 2)), .int (jSf X (i + 1)), .ref (396)] (N1, SH v1 T1, I1, L1, D1)
  refine Ev.callV (As := [.int (jSf X (i + 1)), .int (jSf X (i + 2))]) (rest := []) dvX7_routeLengthByMatrix mkL_219 rfl rfl dL_law_1487 hM ⟨by decide, by decide⟩ ⟨Nat.zero_le _, Nat.zero_le _⟩ rfl (Nat.le_of_ble_eq_true rfl) (fun v9 h9 e9 => ?_) (fun E9 h9 e9 => by obtain ⟨_, _, e, _⟩ := e9; cases e)
  obtain ⟨b, J, e7, ⟨⟨x8, w8, f1, f2⟩, hG⟩, h12, hinv⟩ := e9
  cases e7
  subst f2
  show Ev _ _ _ _ _ _ 1490 [some (.ref (BIG + 300)), some (.ref (0)), some (.ref (396)), some (.ref (405)), some (.ref (406)), some (.int (nI i)), some (.int (c)), l7, l8] [.int (w8)] (N1, SH v1 T1, J, L1, D1)
  refine Ev.sg hX sL_law_1490 (pc' := 1493) (ls' := [some (.ref (BIG + 300)), some (.ref (0)), some (.ref (396)), some (.ref (405)), some (.ref (406)), some (.int (nI i)), some (.int (c)), some (.int (w8)), l8]) (st' := [.ref (396)]) (h' := (N1, SH v1 T1, J, L1, D1)) rfl ?_
  refine Ev.callV (As := []) (rest := []) dvX7_thrown mkL_156 rfl rfl dL_law_1493 (m_thrown (d := 12) hX (by decide)) ⟨by decide, by decide⟩ ⟨Nat.zero_le _, Nat.zero_le _⟩ rfl (Nat.le_of_ble_eq_true rfl) (fun v9 h9 e9 => ?_) (fun E9 h9 e9 => nomatch e9)
  cases e9
  show Ev _ _ _ _ _ _ 1496 [some (.ref (BIG + 300)), some (.ref (0)), some (.ref (396)), some (.ref (405)), some (.ref (406)), some (.int (nI i)), some (.int (c)), some (.int (w8)), l8] [.int (J 396 12)] (N1, SH v1 T1, J, L1, D1)
  rw [h12]
  refine Ev.sg hX sL_law_1496 (pc' := 1498) (ls' := [some (.ref (BIG + 300)), some (.ref (0)), some (.ref (396)), some (.ref (405)), some (.ref (406)), some (.int (nI i)), some (.int (c)), some (.int (w8)), l8]) (st' := [.int (c), .int (c)]) (h' := (N1, SH v1 T1, J, L1, D1)) rfl ?_
  refine Ev.icmp_eq (tgt := 1503) dL_law_1498 (by decide) (fun _ => ?_) (fun q => absurd rfl q)
  refine Ev.sg hX sL_law_1503 (pc' := 1505) (ls' := [some (.ref (BIG + 300)), some (.ref (0)), some (.ref (396)), some (.ref (405)), some (.ref (406)), some (.int (nI i)), some (.int (c)), some (.int (w8)), l8]) (st' := [.int (c)]) (h' := (N1, SH v1 T1, J, L1, D1)) rfl ?_
  refine Ev.if_ne (tgt := 1520) dL_law_1505 (by decide) (fun hc0 => ?_) (fun hc0 => ?_)
  · refine Ev.sg hX sL_law_1520 (pc' := 2699) (ls' := [some (.ref (BIG + 300)), some (.ref (0)), some (.ref (396)), some (.ref (405)), some (.ref (406)), some (.int (nI i)), some (.int (c)), some (.int (w8)), l8]) (st' := []) (h' := (N1, SH v1 T1, J, L1, D1)) rfl ?_
    exact Ev.roomL (by omega) (by omega) (bk _ _ _ _ _ _ _ _ _ hN1 hN2 (hinv.mono (by omega) hK))
  · refine Ev.sg hX sL_law_1508 (pc' := 1510) (ls' := [some (.ref (BIG + 300)), some (.ref (0)), some (.ref (396)), some (.ref (405)), some (.ref (406)), some (.int (nI i)), some (.int (c)), some (.int (w8)), l8]) (st' := [.int (0), .ref (405)]) (h' := (N1, SH v1 T1, J, L1, D1)) rfl ?_
    refine Ev.lald (n := 1) rfl (vp_in_nI (n := 0) (N := 1) (by decide) (by decide)) dL_law_1510 ?_
    show Ev _ _ _ _ _ _ 1511 [some (.ref (BIG + 300)), some (.ref (0)), some (.ref (396)), some (.ref (405)), some (.ref (406)), some (.int (nI i)), some (.int (c)), some (.int (w8)), l8] [.long (L1 405 0)] (N1, SH v1 T1, J, L1, D1)
    rw [gi_eq (hG hc0)]
    refine Ev.sg hX sL_law_1511 (pc' := 1515) (ls' := [some (.ref (BIG + 300)), some (.ref (0)), some (.ref (396)), some (.ref (405)), some (.ref (406)), some (.int (nI i)), some (.int (c)), some (.int (w8)), l8]) (st' := [.int (lg_cmp w8.toInt64 w8.toInt64)]) (h' := (N1, SH v1 T1, J, L1, D1)) rfl ?_
    rw [lcmp_self]
    refine Ev.if_eq (tgt := 1520) dL_law_1515 (by decide) (fun _ => ?_) (fun q => absurd rfl q)
    refine Ev.sg hX sL_law_1520 (pc' := 2699) (ls' := [some (.ref (BIG + 300)), some (.ref (0)), some (.ref (396)), some (.ref (405)), some (.ref (406)), some (.int (nI i)), some (.int (c)), some (.int (w8)), l8]) (st' := []) (h' := (N1, SH v1 T1, J, L1, D1)) rfl ?_
    exact Ev.roomL (by omega) (by omega) (bk _ _ _ _ _ _ _ _ _ hN1 hN2 (hinv.mono (by omega) hK))
theorem br_routeTrack (hX : JXok X) (hI : INV K N v T I L Dd) (hK : K + 8 ≤ 5000) (hN : N + 1500 < BIG) (hs : i + 6 ≤ jSn X ∧ jSn X ≤ 3072) (hm : 1160 ≤ mc ∧ 1160 ≤ ms) (bk : BK X mc ms N (K + 8) i) : Ev X (jm jdL_law) 20 mc ms lwR 1523 (lsW i l6 l7 l8) [] (N, SH v T, I, L, Dd) := by
  have hI0 := hI
  obtain ⟨g, gs, d, sv, qq, tx, er, fl, w, hp, hq⟩ := hI
  have hN4 := hp.N4
  refine Ev.sg hX sL_law_1523 (pc' := 1529) (ls' := [some (.ref (BIG + 300)), some (.ref (0)), some (.ref (396)), some (.ref (405)), some (.ref (406)), some (.int (nI i)), l6, l7, l8]) (st' := [.int ((nI i) + 1), .ref (BIG + 300), .ref (0)]) (h' := (N, SH v T, I, L, Dd)) rfl ?_
  refine Ev.ialdX (n := i + 1) (naI rfl rfl) (by omega) (by omega) dL_law_1529 ?_
  show Ev _ _ _ _ _ _ 1530 [some (.ref (BIG + 300)), some (.ref (0)), some (.ref (396)), some (.ref (405)), some (.ref (406)), some (.int (nI i)), l6, l7, l8] [.int (jSf X (i + 1)), .ref (0)] (N, SH v T, I, L, Dd)
  refine Ev.sg hX sL_law_1530 (pc' := 1535) (ls' := [some (.ref (BIG + 300)), some (.ref (0)), some (.ref (396)), some (.ref (405)), some (.ref (406)), some (.int (nI i)), l6, l7, l8]) (st' := [.int ((nI i) + 2), .ref (BIG + 300), .int (jSf X (i + 1)), .ref (0)]) (h' := (N, SH v T, I, L, Dd)) rfl ?_
  refine Ev.ialdX (n := i + 2) (naI rfl rfl) (by omega) (by omega) dL_law_1535 ?_
  show Ev _ _ _ _ _ _ 1536 [some (.ref (BIG + 300)), some (.ref (0)), some (.ref (396)), some (.ref (405)), some (.ref (406)), some (.int (nI i)), l6, l7, l8] [.int (jSf X (i + 2)), .int (jSf X (i + 1)), .ref (0)] (N, SH v T, I, L, Dd)
  refine Ev.sg hX sL_law_1536 (pc' := 1541) (ls' := [some (.ref (BIG + 300)), some (.ref (0)), some (.ref (396)), some (.ref (405)), some (.ref (406)), some (.int (nI i)), l6, l7, l8]) (st' := [.int ((nI i) + 3), .ref (BIG + 300), .int (jSf X (i + 2)), .int (jSf X (i + 1)), .ref (0)]) (h' := (N, SH v T, I, L, Dd)) rfl ?_
  refine Ev.ialdX (n := i + 3) (naI rfl rfl) (by omega) (by omega) dL_law_1541 ?_
  show Ev _ _ _ _ _ _ 1542 [some (.ref (BIG + 300)), some (.ref (0)), some (.ref (396)), some (.ref (405)), some (.ref (406)), some (.int (nI i)), l6, l7, l8] [.int (jSf X (i + 3)), .int (jSf X (i + 2)), .int (jSf X (i + 1)), .ref (0)] (N, SH v T, I, L, Dd)
  refine Ev.sg hX sL_law_1542 (pc' := 1543) (ls' := [some (.ref (BIG + 300)), some (.ref (0)), some (.ref (396)), some (.ref (405)), some (.ref (406)), some (.int (nI i)), l6, l7, l8]) (st' := [.ref (405), .int (jSf X (i + 3)), .int (jSf X (i + 2)), .int (jSf X (i + 1)), .ref (0)]) (h' := (N, SH v T, I, L, Dd)) rfl ?_
  obtain ⟨Q', C, hC⟩ := CLS.cr (show CLS X _ _ _ jdX6_routeTrack [.int (jSf X (i + 1)), .int (jSf X (i + 2)), .int (jSf X (i + 3))] jdX7_routeTrack [.int (jSf X (i + 1)), .int (jSf X (i + 2)), .int (jSf X (i + 3))] _ _ N v T I L Dd from b_routeTrack hX hp hq (by omega))
  refine Ev.callSX (As := [.ref (0), .int (jSf X (i + 1)), .int (jSf X (i + 2)), .int (jSf X (i + 3)), .ref (405)]) (rest := []) dhL_routeTrack mkL_220 dL_law_1543 (wL_routeTrack hX rfl C (cr_hI hC) (fun E h' e => by obtain ⟨k, hk⟩ := cr_ex hC e; exact xor2 hk)) ⟨by decide, by decide⟩ ⟨by omega, by omega⟩ rfl (Nat.le_of_ble_eq_true rfl) (fun v9 h9 e9 => ?_) (fun E9 h9 e9 => (wq_no e9).elim)
  obtain ⟨N1, v1, T1, I1, L1, D1, c, hN1, hN2, e8, hM⟩ := wq_g (G := GI) hC (cd_of (l := ["java/lang/IndexOutOfBoundsException", "java/util/NoSuchElementException"]) (by decide +kernel) (by decide)) (fun x N1 v1 T1 I1 L1 h2 hb hw => w_I hw) e9
  cases e8
  show Ev _ _ _ _ _ _ 1546 [some (.ref (BIG + 300)), some (.ref (0)), some (.ref (396)), some (.ref (405)), some (.ref (406)), some (.int (nI i)), l6, l7, l8] [.int (c)] (N1, SH v1 T1, I1, L1, D1)
  refine Ev.sg hX sL_law_1546 (pc' := 1554) (ls' := [some (.ref (BIG + 300)), some (.ref (0)), some (.ref (396)), some (.ref (405)), some (.ref (406)), some (.int (nI i)), some (.int (c)), l7, l8]) (st' := [.int ((nI i) + 1), .ref (BIG + 300), .ref (396)]) (h' := (N1, SH v1 T1, I1, L1, D1)) rfl ?_
  refine Ev.ialdX (n := i + 1) (naI rfl rfl) (by omega) (by omega) dL_law_1554 ?_
  show Ev _ _ _ _ _ _ 1555 [some (.ref (BIG + 300)), some (.ref (0)), some (.ref (396)), some (.ref (405)), some (.ref (406)), some (.int (nI i)), some (.int (c)), l7, l8] [.int (jSf X (i + 1)), .ref (396)] (N1, SH v1 T1, I1, L1, D1)
  refine Ev.sg hX sL_law_1555 (pc' := 1560) (ls' := [some (.ref (BIG + 300)), some (.ref (0)), some (.ref (396)), some (.ref (405)), some (.ref (406)), some (.int (nI i)), some (.int (c)), l7, l8]) (st' := [.int ((nI i) + 2), .ref (BIG + 300), .int (jSf X (i + 1)), .ref (396)]) (h' := (N1, SH v1 T1, I1, L1, D1)) rfl ?_
  refine Ev.ialdX (n := i + 2) (naI rfl rfl) (by omega) (by omega) dL_law_1560 ?_
  show Ev _ _ _ _ _ _ 1561 [some (.ref (BIG + 300)), some (.ref (0)), some (.ref (396)), some (.ref (405)), some (.ref (406)), some (.int (nI i)), some (.int (c)), l7, l8] [.int (jSf X (i + 2)), .int (jSf X (i + 1)), .ref (396)] (N1, SH v1 T1, I1, L1, D1)
  refine Ev.sg hX sL_law_1561 (pc' := 1566) (ls' := [some (.ref (BIG + 300)), some (.ref (0)), some (.ref (396)), some (.ref (405)), some (.ref (406)), some (.int (nI i)), some (.int (c)), l7, l8]) (st' := [.int ((nI i) + 3), .ref (BIG + 300), .int (jSf X (i + 2)), .int (jSf X (i + 1)), .ref (396)]) (h' := (N1, SH v1 T1, I1, L1, D1)) rfl ?_
  refine Ev.ialdX (n := i + 3) (naI rfl rfl) (by omega) (by omega) dL_law_1566 ?_
  show Ev _ _ _ _ _ _ 1567 [some (.ref (BIG + 300)), some (.ref (0)), some (.ref (396)), some (.ref (405)), some (.ref (406)), some (.int (nI i)), some (.int (c)), l7, l8] [.int (jSf X (i + 3)), .int (jSf X (i + 2)), .int (jSf X (i + 1)), .ref (396)] (N1, SH v1 T1, I1, L1, D1)
  refine Ev.callV (As := [.int (jSf X (i + 1)), .int (jSf X (i + 2)), .int (jSf X (i + 3))]) (rest := []) dvX7_routeTrack mkL_222 rfl rfl dL_law_1567 hM ⟨by decide, by decide⟩ ⟨Nat.zero_le _, Nat.zero_le _⟩ rfl (Nat.le_of_ble_eq_true rfl) (fun v9 h9 e9 => ?_) (fun E9 h9 e9 => by obtain ⟨_, _, e, _⟩ := e9; cases e)
  obtain ⟨b, J, e7, ⟨⟨x8, w8, f1, f2⟩, hG⟩, h12, hinv⟩ := e9
  cases e7
  subst f2
  show Ev _ _ _ _ _ _ 1570 [some (.ref (BIG + 300)), some (.ref (0)), some (.ref (396)), some (.ref (405)), some (.ref (406)), some (.int (nI i)), some (.int (c)), l7, l8] [.int (w8)] (N1, SH v1 T1, J, L1, D1)
  refine Ev.sg hX sL_law_1570 (pc' := 1573) (ls' := [some (.ref (BIG + 300)), some (.ref (0)), some (.ref (396)), some (.ref (405)), some (.ref (406)), some (.int (nI i)), some (.int (c)), some (.int (w8)), l8]) (st' := [.ref (396)]) (h' := (N1, SH v1 T1, J, L1, D1)) rfl ?_
  refine Ev.callV (As := []) (rest := []) dvX7_thrown mkL_156 rfl rfl dL_law_1573 (m_thrown (d := 12) hX (by decide)) ⟨by decide, by decide⟩ ⟨Nat.zero_le _, Nat.zero_le _⟩ rfl (Nat.le_of_ble_eq_true rfl) (fun v9 h9 e9 => ?_) (fun E9 h9 e9 => nomatch e9)
  cases e9
  show Ev _ _ _ _ _ _ 1576 [some (.ref (BIG + 300)), some (.ref (0)), some (.ref (396)), some (.ref (405)), some (.ref (406)), some (.int (nI i)), some (.int (c)), some (.int (w8)), l8] [.int (J 396 12)] (N1, SH v1 T1, J, L1, D1)
  rw [h12]
  refine Ev.sg hX sL_law_1576 (pc' := 1578) (ls' := [some (.ref (BIG + 300)), some (.ref (0)), some (.ref (396)), some (.ref (405)), some (.ref (406)), some (.int (nI i)), some (.int (c)), some (.int (w8)), l8]) (st' := [.int (c), .int (c)]) (h' := (N1, SH v1 T1, J, L1, D1)) rfl ?_
  refine Ev.icmp_eq (tgt := 1583) dL_law_1578 (by decide) (fun _ => ?_) (fun q => absurd rfl q)
  refine Ev.sg hX sL_law_1583 (pc' := 1585) (ls' := [some (.ref (BIG + 300)), some (.ref (0)), some (.ref (396)), some (.ref (405)), some (.ref (406)), some (.int (nI i)), some (.int (c)), some (.int (w8)), l8]) (st' := [.int (c)]) (h' := (N1, SH v1 T1, J, L1, D1)) rfl ?_
  refine Ev.if_ne (tgt := 1600) dL_law_1585 (by decide) (fun hc0 => ?_) (fun hc0 => ?_)
  · refine Ev.sg hX sL_law_1600 (pc' := 2699) (ls' := [some (.ref (BIG + 300)), some (.ref (0)), some (.ref (396)), some (.ref (405)), some (.ref (406)), some (.int (nI i)), some (.int (c)), some (.int (w8)), l8]) (st' := []) (h' := (N1, SH v1 T1, J, L1, D1)) rfl ?_
    exact Ev.roomL (by omega) (by omega) (bk _ _ _ _ _ _ _ _ _ hN1 hN2 (hinv.mono (by omega) hK))
  · refine Ev.sg hX sL_law_1588 (pc' := 1590) (ls' := [some (.ref (BIG + 300)), some (.ref (0)), some (.ref (396)), some (.ref (405)), some (.ref (406)), some (.int (nI i)), some (.int (c)), some (.int (w8)), l8]) (st' := [.int (0), .ref (405)]) (h' := (N1, SH v1 T1, J, L1, D1)) rfl ?_
    refine Ev.lald (n := 1) rfl (vp_in_nI (n := 0) (N := 1) (by decide) (by decide)) dL_law_1590 ?_
    show Ev _ _ _ _ _ _ 1591 [some (.ref (BIG + 300)), some (.ref (0)), some (.ref (396)), some (.ref (405)), some (.ref (406)), some (.int (nI i)), some (.int (c)), some (.int (w8)), l8] [.long (L1 405 0)] (N1, SH v1 T1, J, L1, D1)
    rw [gi_eq (hG hc0)]
    refine Ev.sg hX sL_law_1591 (pc' := 1595) (ls' := [some (.ref (BIG + 300)), some (.ref (0)), some (.ref (396)), some (.ref (405)), some (.ref (406)), some (.int (nI i)), some (.int (c)), some (.int (w8)), l8]) (st' := [.int (lg_cmp w8.toInt64 w8.toInt64)]) (h' := (N1, SH v1 T1, J, L1, D1)) rfl ?_
    rw [lcmp_self]
    refine Ev.if_eq (tgt := 1600) dL_law_1595 (by decide) (fun _ => ?_) (fun q => absurd rfl q)
    refine Ev.sg hX sL_law_1600 (pc' := 2699) (ls' := [some (.ref (BIG + 300)), some (.ref (0)), some (.ref (396)), some (.ref (405)), some (.ref (406)), some (.int (nI i)), some (.int (c)), some (.int (w8)), l8]) (st' := []) (h' := (N1, SH v1 T1, J, L1, D1)) rfl ?_
    exact Ev.roomL (by omega) (by omega) (bk _ _ _ _ _ _ _ _ _ hN1 hN2 (hinv.mono (by omega) hK))
theorem br_shuntingTime (hX : JXok X) (hI : INV K N v T I L Dd) (hK : K + 8 ≤ 5000) (hN : N + 1500 < BIG) (hs : i + 6 ≤ jSn X ∧ jSn X ≤ 3072) (hm : 1160 ≤ mc ∧ 1160 ≤ ms) (bk : BK X mc ms N (K + 8) i) : Ev X (jm jdL_law) 20 mc ms lwR 1603 (lsW i l6 l7 l8) [] (N, SH v T, I, L, Dd) := by
  have hI0 := hI
  obtain ⟨g, gs, d, sv, qq, tx, er, fl, w, hp, hq⟩ := hI
  have hN4 := hp.N4
  refine Ev.sg hX sL_law_1603 (pc' := 1609) (ls' := [some (.ref (BIG + 300)), some (.ref (0)), some (.ref (396)), some (.ref (405)), some (.ref (406)), some (.int (nI i)), l6, l7, l8]) (st' := [.int ((nI i) + 1), .ref (BIG + 300), .ref (0)]) (h' := (N, SH v T, I, L, Dd)) rfl ?_
  refine Ev.ialdX (n := i + 1) (naI rfl rfl) (by omega) (by omega) dL_law_1609 ?_
  show Ev _ _ _ _ _ _ 1610 [some (.ref (BIG + 300)), some (.ref (0)), some (.ref (396)), some (.ref (405)), some (.ref (406)), some (.int (nI i)), l6, l7, l8] [.int (jSf X (i + 1)), .ref (0)] (N, SH v T, I, L, Dd)
  refine Ev.sg hX sL_law_1610 (pc' := 1615) (ls' := [some (.ref (BIG + 300)), some (.ref (0)), some (.ref (396)), some (.ref (405)), some (.ref (406)), some (.int (nI i)), l6, l7, l8]) (st' := [.int ((nI i) + 2), .ref (BIG + 300), .int (jSf X (i + 1)), .ref (0)]) (h' := (N, SH v T, I, L, Dd)) rfl ?_
  refine Ev.ialdX (n := i + 2) (naI rfl rfl) (by omega) (by omega) dL_law_1615 ?_
  show Ev _ _ _ _ _ _ 1616 [some (.ref (BIG + 300)), some (.ref (0)), some (.ref (396)), some (.ref (405)), some (.ref (406)), some (.int (nI i)), l6, l7, l8] [.int (jSf X (i + 2)), .int (jSf X (i + 1)), .ref (0)] (N, SH v T, I, L, Dd)
  refine Ev.sg hX sL_law_1616 (pc' := 1621) (ls' := [some (.ref (BIG + 300)), some (.ref (0)), some (.ref (396)), some (.ref (405)), some (.ref (406)), some (.int (nI i)), l6, l7, l8]) (st' := [.int ((nI i) + 3), .ref (BIG + 300), .int (jSf X (i + 2)), .int (jSf X (i + 1)), .ref (0)]) (h' := (N, SH v T, I, L, Dd)) rfl ?_
  refine Ev.ialdX (n := i + 3) (naI rfl rfl) (by omega) (by omega) dL_law_1621 ?_
  show Ev _ _ _ _ _ _ 1622 [some (.ref (BIG + 300)), some (.ref (0)), some (.ref (396)), some (.ref (405)), some (.ref (406)), some (.int (nI i)), l6, l7, l8] [.int (jSf X (i + 3)), .int (jSf X (i + 2)), .int (jSf X (i + 1)), .ref (0)] (N, SH v T, I, L, Dd)
  refine Ev.sg hX sL_law_1622 (pc' := 1623) (ls' := [some (.ref (BIG + 300)), some (.ref (0)), some (.ref (396)), some (.ref (405)), some (.ref (406)), some (.int (nI i)), l6, l7, l8]) (st' := [.ref (405), .int (jSf X (i + 3)), .int (jSf X (i + 2)), .int (jSf X (i + 1)), .ref (0)]) (h' := (N, SH v T, I, L, Dd)) rfl ?_
  obtain ⟨Q', C, hC⟩ := CLS.cr (show CLS X _ _ _ jdX6_shuntingTime [.int (jSf X (i + 1)), .int (jSf X (i + 2)), .int (jSf X (i + 3))] jdX7_shuntingTime [.int (jSf X (i + 1)), .int (jSf X (i + 2)), .int (jSf X (i + 3))] _ _ N v T I L Dd from b_shuntingTime hX hp hq (by omega))
  refine Ev.callSX (As := [.ref (0), .int (jSf X (i + 1)), .int (jSf X (i + 2)), .int (jSf X (i + 3)), .ref (405)]) (rest := []) dhL_shuntingTime mkL_223 dL_law_1623 (wL_shuntingTime hX rfl C (cr_hI hC) (fun E h' e => by obtain ⟨k, hk⟩ := cr_ex hC e; exact xor3 hk)) ⟨by decide, by decide⟩ ⟨by omega, by omega⟩ rfl (Nat.le_of_ble_eq_true rfl) (fun v9 h9 e9 => ?_) (fun E9 h9 e9 => (wq_no e9).elim)
  obtain ⟨N1, v1, T1, I1, L1, D1, c, hN1, hN2, e8, hM⟩ := wq_g (G := GI) hC (cd_of (l := ["java/lang/IndexOutOfBoundsException", "java/lang/IllegalArgumentException", "java/util/NoSuchElementException"]) (by decide +kernel) (by decide)) (fun x N1 v1 T1 I1 L1 h2 hb hw => w_I hw) e9
  cases e8
  show Ev _ _ _ _ _ _ 1626 [some (.ref (BIG + 300)), some (.ref (0)), some (.ref (396)), some (.ref (405)), some (.ref (406)), some (.int (nI i)), l6, l7, l8] [.int (c)] (N1, SH v1 T1, I1, L1, D1)
  refine Ev.sg hX sL_law_1626 (pc' := 1634) (ls' := [some (.ref (BIG + 300)), some (.ref (0)), some (.ref (396)), some (.ref (405)), some (.ref (406)), some (.int (nI i)), some (.int (c)), l7, l8]) (st' := [.int ((nI i) + 1), .ref (BIG + 300), .ref (396)]) (h' := (N1, SH v1 T1, I1, L1, D1)) rfl ?_
  refine Ev.ialdX (n := i + 1) (naI rfl rfl) (by omega) (by omega) dL_law_1634 ?_
  show Ev _ _ _ _ _ _ 1635 [some (.ref (BIG + 300)), some (.ref (0)), some (.ref (396)), some (.ref (405)), some (.ref (406)), some (.int (nI i)), some (.int (c)), l7, l8] [.int (jSf X (i + 1)), .ref (396)] (N1, SH v1 T1, I1, L1, D1)
  refine Ev.sg hX sL_law_1635 (pc' := 1640) (ls' := [some (.ref (BIG + 300)), some (.ref (0)), some (.ref (396)), some (.ref (405)), some (.ref (406)), some (.int (nI i)), some (.int (c)), l7, l8]) (st' := [.int ((nI i) + 2), .ref (BIG + 300), .int (jSf X (i + 1)), .ref (396)]) (h' := (N1, SH v1 T1, I1, L1, D1)) rfl ?_
  refine Ev.ialdX (n := i + 2) (naI rfl rfl) (by omega) (by omega) dL_law_1640 ?_
  show Ev _ _ _ _ _ _ 1641 [some (.ref (BIG + 300)), some (.ref (0)), some (.ref (396)), some (.ref (405)), some (.ref (406)), some (.int (nI i)), some (.int (c)), l7, l8] [.int (jSf X (i + 2)), .int (jSf X (i + 1)), .ref (396)] (N1, SH v1 T1, I1, L1, D1)
  refine Ev.sg hX sL_law_1641 (pc' := 1646) (ls' := [some (.ref (BIG + 300)), some (.ref (0)), some (.ref (396)), some (.ref (405)), some (.ref (406)), some (.int (nI i)), some (.int (c)), l7, l8]) (st' := [.int ((nI i) + 3), .ref (BIG + 300), .int (jSf X (i + 2)), .int (jSf X (i + 1)), .ref (396)]) (h' := (N1, SH v1 T1, I1, L1, D1)) rfl ?_
  refine Ev.ialdX (n := i + 3) (naI rfl rfl) (by omega) (by omega) dL_law_1646 ?_
  show Ev _ _ _ _ _ _ 1647 [some (.ref (BIG + 300)), some (.ref (0)), some (.ref (396)), some (.ref (405)), some (.ref (406)), some (.int (nI i)), some (.int (c)), l7, l8] [.int (jSf X (i + 3)), .int (jSf X (i + 2)), .int (jSf X (i + 1)), .ref (396)] (N1, SH v1 T1, I1, L1, D1)
  refine Ev.callV (As := [.int (jSf X (i + 1)), .int (jSf X (i + 2)), .int (jSf X (i + 3))]) (rest := []) dvX7_shuntingTime mkL_225 rfl rfl dL_law_1647 hM ⟨by decide, by decide⟩ ⟨Nat.zero_le _, Nat.zero_le _⟩ rfl (Nat.le_of_ble_eq_true rfl) (fun v9 h9 e9 => ?_) (fun E9 h9 e9 => by obtain ⟨_, _, e, _⟩ := e9; cases e)
  obtain ⟨b, J, e7, ⟨⟨x8, w8, f1, f2⟩, hG⟩, h12, hinv⟩ := e9
  cases e7
  subst f2
  show Ev _ _ _ _ _ _ 1650 [some (.ref (BIG + 300)), some (.ref (0)), some (.ref (396)), some (.ref (405)), some (.ref (406)), some (.int (nI i)), some (.int (c)), l7, l8] [.int (w8)] (N1, SH v1 T1, J, L1, D1)
  refine Ev.sg hX sL_law_1650 (pc' := 1653) (ls' := [some (.ref (BIG + 300)), some (.ref (0)), some (.ref (396)), some (.ref (405)), some (.ref (406)), some (.int (nI i)), some (.int (c)), some (.int (w8)), l8]) (st' := [.ref (396)]) (h' := (N1, SH v1 T1, J, L1, D1)) rfl ?_
  refine Ev.callV (As := []) (rest := []) dvX7_thrown mkL_156 rfl rfl dL_law_1653 (m_thrown (d := 12) hX (by decide)) ⟨by decide, by decide⟩ ⟨Nat.zero_le _, Nat.zero_le _⟩ rfl (Nat.le_of_ble_eq_true rfl) (fun v9 h9 e9 => ?_) (fun E9 h9 e9 => nomatch e9)
  cases e9
  show Ev _ _ _ _ _ _ 1656 [some (.ref (BIG + 300)), some (.ref (0)), some (.ref (396)), some (.ref (405)), some (.ref (406)), some (.int (nI i)), some (.int (c)), some (.int (w8)), l8] [.int (J 396 12)] (N1, SH v1 T1, J, L1, D1)
  rw [h12]
  refine Ev.sg hX sL_law_1656 (pc' := 1658) (ls' := [some (.ref (BIG + 300)), some (.ref (0)), some (.ref (396)), some (.ref (405)), some (.ref (406)), some (.int (nI i)), some (.int (c)), some (.int (w8)), l8]) (st' := [.int (c), .int (c)]) (h' := (N1, SH v1 T1, J, L1, D1)) rfl ?_
  refine Ev.icmp_eq (tgt := 1663) dL_law_1658 (by decide) (fun _ => ?_) (fun q => absurd rfl q)
  refine Ev.sg hX sL_law_1663 (pc' := 1665) (ls' := [some (.ref (BIG + 300)), some (.ref (0)), some (.ref (396)), some (.ref (405)), some (.ref (406)), some (.int (nI i)), some (.int (c)), some (.int (w8)), l8]) (st' := [.int (c)]) (h' := (N1, SH v1 T1, J, L1, D1)) rfl ?_
  refine Ev.if_ne (tgt := 1680) dL_law_1665 (by decide) (fun hc0 => ?_) (fun hc0 => ?_)
  · refine Ev.sg hX sL_law_1680 (pc' := 2699) (ls' := [some (.ref (BIG + 300)), some (.ref (0)), some (.ref (396)), some (.ref (405)), some (.ref (406)), some (.int (nI i)), some (.int (c)), some (.int (w8)), l8]) (st' := []) (h' := (N1, SH v1 T1, J, L1, D1)) rfl ?_
    exact Ev.roomL (by omega) (by omega) (bk _ _ _ _ _ _ _ _ _ hN1 hN2 (hinv.mono (by omega) hK))
  · refine Ev.sg hX sL_law_1668 (pc' := 1670) (ls' := [some (.ref (BIG + 300)), some (.ref (0)), some (.ref (396)), some (.ref (405)), some (.ref (406)), some (.int (nI i)), some (.int (c)), some (.int (w8)), l8]) (st' := [.int (0), .ref (405)]) (h' := (N1, SH v1 T1, J, L1, D1)) rfl ?_
    refine Ev.lald (n := 1) rfl (vp_in_nI (n := 0) (N := 1) (by decide) (by decide)) dL_law_1670 ?_
    show Ev _ _ _ _ _ _ 1671 [some (.ref (BIG + 300)), some (.ref (0)), some (.ref (396)), some (.ref (405)), some (.ref (406)), some (.int (nI i)), some (.int (c)), some (.int (w8)), l8] [.long (L1 405 0)] (N1, SH v1 T1, J, L1, D1)
    rw [gi_eq (hG hc0)]
    refine Ev.sg hX sL_law_1671 (pc' := 1675) (ls' := [some (.ref (BIG + 300)), some (.ref (0)), some (.ref (396)), some (.ref (405)), some (.ref (406)), some (.int (nI i)), some (.int (c)), some (.int (w8)), l8]) (st' := [.int (lg_cmp w8.toInt64 w8.toInt64)]) (h' := (N1, SH v1 T1, J, L1, D1)) rfl ?_
    rw [lcmp_self]
    refine Ev.if_eq (tgt := 1680) dL_law_1675 (by decide) (fun _ => ?_) (fun q => absurd rfl q)
    refine Ev.sg hX sL_law_1680 (pc' := 2699) (ls' := [some (.ref (BIG + 300)), some (.ref (0)), some (.ref (396)), some (.ref (405)), some (.ref (406)), some (.int (nI i)), some (.int (c)), some (.int (w8)), l8]) (st' := []) (h' := (N1, SH v1 T1, J, L1, D1)) rfl ?_
    exact Ev.roomL (by omega) (by omega) (bk _ _ _ _ _ _ _ _ _ hN1 hN2 (hinv.mono (by omega) hK))
theorem br_nearestFreeTrack (hX : JXok X) (hI : INV K N v T I L Dd) (hK : K + 8 ≤ 5000) (hN : N + 1500 < BIG) (hs : i + 6 ≤ jSn X ∧ jSn X ≤ 3072) (hm : 1160 ≤ mc ∧ 1160 ≤ ms) (bk : BK X mc ms N (K + 8) i) : Ev X (jm jdL_law) 20 mc ms lwR 1683 (lsW i l6 l7 l8) [] (N, SH v T, I, L, Dd) := by
  have hI0 := hI
  obtain ⟨g, gs, d, sv, qq, tx, er, fl, w, hp, hq⟩ := hI
  have hN4 := hp.N4
  refine Ev.sg hX sL_law_1683 (pc' := 1689) (ls' := [some (.ref (BIG + 300)), some (.ref (0)), some (.ref (396)), some (.ref (405)), some (.ref (406)), some (.int (nI i)), l6, l7, l8]) (st' := [.int ((nI i) + 1), .ref (BIG + 300), .ref (0)]) (h' := (N, SH v T, I, L, Dd)) rfl ?_
  refine Ev.ialdX (n := i + 1) (naI rfl rfl) (by omega) (by omega) dL_law_1689 ?_
  show Ev _ _ _ _ _ _ 1690 [some (.ref (BIG + 300)), some (.ref (0)), some (.ref (396)), some (.ref (405)), some (.ref (406)), some (.int (nI i)), l6, l7, l8] [.int (jSf X (i + 1)), .ref (0)] (N, SH v T, I, L, Dd)
  refine Ev.sg hX sL_law_1690 (pc' := 1691) (ls' := [some (.ref (BIG + 300)), some (.ref (0)), some (.ref (396)), some (.ref (405)), some (.ref (406)), some (.int (nI i)), l6, l7, l8]) (st' := [.ref (405), .int (jSf X (i + 1)), .ref (0)]) (h' := (N, SH v T, I, L, Dd)) rfl ?_
  obtain ⟨Q', C, hC⟩ := CLS.cr (show CLS X _ _ _ jdX6_nearestFreeTrack [.int (jSf X (i + 1))] jdX7_nearestFreeTrack [.int (jSf X (i + 1))] _ _ N v T I L Dd from b_nearestFreeTrack hX hp hq (by omega))
  refine Ev.callSX (As := [.ref (0), .int (jSf X (i + 1)), .ref (405)]) (rest := []) dhL_nearestFreeTrack mkL_226 dL_law_1691 (wL_nearestFreeTrack hX rfl C (cr_hI hC) (fun E h' e => by obtain ⟨k, hk⟩ := cr_ex hC e; exact xor2 hk)) ⟨by decide, by decide⟩ ⟨by omega, by omega⟩ rfl (Nat.le_of_ble_eq_true rfl) (fun v9 h9 e9 => ?_) (fun E9 h9 e9 => (wq_no e9).elim)
  obtain ⟨N1, v1, T1, I1, L1, D1, c, hN1, hN2, e8, hM⟩ := wq_g (G := GI) hC (cd_of (l := ["java/lang/IndexOutOfBoundsException", "java/util/NoSuchElementException"]) (by decide +kernel) (by decide)) (fun x N1 v1 T1 I1 L1 h2 hb hw => w_I hw) e9
  cases e8
  show Ev _ _ _ _ _ _ 1694 [some (.ref (BIG + 300)), some (.ref (0)), some (.ref (396)), some (.ref (405)), some (.ref (406)), some (.int (nI i)), l6, l7, l8] [.int (c)] (N1, SH v1 T1, I1, L1, D1)
  refine Ev.sg hX sL_law_1694 (pc' := 1702) (ls' := [some (.ref (BIG + 300)), some (.ref (0)), some (.ref (396)), some (.ref (405)), some (.ref (406)), some (.int (nI i)), some (.int (c)), l7, l8]) (st' := [.int ((nI i) + 1), .ref (BIG + 300), .ref (396)]) (h' := (N1, SH v1 T1, I1, L1, D1)) rfl ?_
  refine Ev.ialdX (n := i + 1) (naI rfl rfl) (by omega) (by omega) dL_law_1702 ?_
  show Ev _ _ _ _ _ _ 1703 [some (.ref (BIG + 300)), some (.ref (0)), some (.ref (396)), some (.ref (405)), some (.ref (406)), some (.int (nI i)), some (.int (c)), l7, l8] [.int (jSf X (i + 1)), .ref (396)] (N1, SH v1 T1, I1, L1, D1)
  refine Ev.callV (As := [.int (jSf X (i + 1))]) (rest := []) dvX7_nearestFreeTrack mkL_228 rfl rfl dL_law_1703 hM ⟨by decide, by decide⟩ ⟨Nat.zero_le _, Nat.zero_le _⟩ rfl (Nat.le_of_ble_eq_true rfl) (fun v9 h9 e9 => ?_) (fun E9 h9 e9 => by obtain ⟨_, _, e, _⟩ := e9; cases e)
  obtain ⟨b, J, e7, ⟨⟨x8, w8, f1, f2⟩, hG⟩, h12, hinv⟩ := e9
  cases e7
  subst f2
  show Ev _ _ _ _ _ _ 1706 [some (.ref (BIG + 300)), some (.ref (0)), some (.ref (396)), some (.ref (405)), some (.ref (406)), some (.int (nI i)), some (.int (c)), l7, l8] [.int (w8)] (N1, SH v1 T1, J, L1, D1)
  refine Ev.sg hX sL_law_1706 (pc' := 1709) (ls' := [some (.ref (BIG + 300)), some (.ref (0)), some (.ref (396)), some (.ref (405)), some (.ref (406)), some (.int (nI i)), some (.int (c)), some (.int (w8)), l8]) (st' := [.ref (396)]) (h' := (N1, SH v1 T1, J, L1, D1)) rfl ?_
  refine Ev.callV (As := []) (rest := []) dvX7_thrown mkL_156 rfl rfl dL_law_1709 (m_thrown (d := 12) hX (by decide)) ⟨by decide, by decide⟩ ⟨Nat.zero_le _, Nat.zero_le _⟩ rfl (Nat.le_of_ble_eq_true rfl) (fun v9 h9 e9 => ?_) (fun E9 h9 e9 => nomatch e9)
  cases e9
  show Ev _ _ _ _ _ _ 1712 [some (.ref (BIG + 300)), some (.ref (0)), some (.ref (396)), some (.ref (405)), some (.ref (406)), some (.int (nI i)), some (.int (c)), some (.int (w8)), l8] [.int (J 396 12)] (N1, SH v1 T1, J, L1, D1)
  rw [h12]
  refine Ev.sg hX sL_law_1712 (pc' := 1714) (ls' := [some (.ref (BIG + 300)), some (.ref (0)), some (.ref (396)), some (.ref (405)), some (.ref (406)), some (.int (nI i)), some (.int (c)), some (.int (w8)), l8]) (st' := [.int (c), .int (c)]) (h' := (N1, SH v1 T1, J, L1, D1)) rfl ?_
  refine Ev.icmp_eq (tgt := 1719) dL_law_1714 (by decide) (fun _ => ?_) (fun q => absurd rfl q)
  refine Ev.sg hX sL_law_1719 (pc' := 1721) (ls' := [some (.ref (BIG + 300)), some (.ref (0)), some (.ref (396)), some (.ref (405)), some (.ref (406)), some (.int (nI i)), some (.int (c)), some (.int (w8)), l8]) (st' := [.int (c)]) (h' := (N1, SH v1 T1, J, L1, D1)) rfl ?_
  refine Ev.if_ne (tgt := 1736) dL_law_1721 (by decide) (fun hc0 => ?_) (fun hc0 => ?_)
  · refine Ev.sg hX sL_law_1736 (pc' := 2699) (ls' := [some (.ref (BIG + 300)), some (.ref (0)), some (.ref (396)), some (.ref (405)), some (.ref (406)), some (.int (nI i)), some (.int (c)), some (.int (w8)), l8]) (st' := []) (h' := (N1, SH v1 T1, J, L1, D1)) rfl ?_
    exact Ev.roomL (by omega) (by omega) (bk _ _ _ _ _ _ _ _ _ hN1 hN2 (hinv.mono (by omega) hK))
  · refine Ev.sg hX sL_law_1724 (pc' := 1726) (ls' := [some (.ref (BIG + 300)), some (.ref (0)), some (.ref (396)), some (.ref (405)), some (.ref (406)), some (.int (nI i)), some (.int (c)), some (.int (w8)), l8]) (st' := [.int (0), .ref (405)]) (h' := (N1, SH v1 T1, J, L1, D1)) rfl ?_
    refine Ev.lald (n := 1) rfl (vp_in_nI (n := 0) (N := 1) (by decide) (by decide)) dL_law_1726 ?_
    show Ev _ _ _ _ _ _ 1727 [some (.ref (BIG + 300)), some (.ref (0)), some (.ref (396)), some (.ref (405)), some (.ref (406)), some (.int (nI i)), some (.int (c)), some (.int (w8)), l8] [.long (L1 405 0)] (N1, SH v1 T1, J, L1, D1)
    rw [gi_eq (hG hc0)]
    refine Ev.sg hX sL_law_1727 (pc' := 1731) (ls' := [some (.ref (BIG + 300)), some (.ref (0)), some (.ref (396)), some (.ref (405)), some (.ref (406)), some (.int (nI i)), some (.int (c)), some (.int (w8)), l8]) (st' := [.int (lg_cmp w8.toInt64 w8.toInt64)]) (h' := (N1, SH v1 T1, J, L1, D1)) rfl ?_
    rw [lcmp_self]
    refine Ev.if_eq (tgt := 1736) dL_law_1731 (by decide) (fun _ => ?_) (fun q => absurd rfl q)
    refine Ev.sg hX sL_law_1736 (pc' := 2699) (ls' := [some (.ref (BIG + 300)), some (.ref (0)), some (.ref (396)), some (.ref (405)), some (.ref (406)), some (.int (nI i)), some (.int (c)), some (.int (w8)), l8]) (st' := []) (h' := (N1, SH v1 T1, J, L1, D1)) rfl ?_
    exact Ev.roomL (by omega) (by omega) (bk _ _ _ _ _ _ _ _ _ hN1 hN2 (hinv.mono (by omega) hK))
theorem br_carCount (hX : JXok X) (hI : INV K N v T I L Dd) (hK : K + 8 ≤ 5000) (hN : N + 1500 < BIG) (hs : i + 6 ≤ jSn X ∧ jSn X ≤ 3072) (hm : 1160 ≤ mc ∧ 1160 ≤ ms) (bk : BK X mc ms N (K + 8) i) : Ev X (jm jdL_law) 20 mc ms lwR 1739 (lsW i l6 l7 l8) [] (N, SH v T, I, L, Dd) := by
  have hI0 := hI
  obtain ⟨g, gs, d, sv, qq, tx, er, fl, w, hp, hq⟩ := hI
  have hN4 := hp.N4
  refine Ev.sg hX sL_law_1739 (pc' := 1740) (ls' := [some (.ref (BIG + 300)), some (.ref (0)), some (.ref (396)), some (.ref (405)), some (.ref (406)), some (.int (nI i)), l6, l7, l8]) (st' := [.ref (0)]) (h' := (N, SH v T, I, L, Dd)) rfl ?_
  obtain ⟨Q', C, hC⟩ := CLS.cr (show CLS X _ _ _ jdX6_carCount [] jdX7_carCount [] _ _ N v T I L Dd from b_carCount hX hp hq)
  refine Ev.callV (As := []) (rest := []) dvX6_carCount mkL_229 rfl rfl dL_law_1740 C ⟨by decide, by decide⟩ ⟨Nat.zero_le _, Nat.zero_le _⟩ rfl (Nat.le_of_ble_eq_true rfl) (fun v9 h9 e9 => ?_) (fun E9 h9 e9 => by obtain ⟨_, _, _, _, _, _, _, _, e, _⟩ := cr_d hC e9; cases e)
  obtain ⟨N1, v1, T1, I1, L1, x9, hN1, hN2, e8, ⟨b0, w9, f1, -⟩, hM⟩ := cr_d hC e9
  cases e8
  subst f1
  show Ev _ _ _ _ _ _ 1743 [some (.ref (BIG + 300)), some (.ref (0)), some (.ref (396)), some (.ref (405)), some (.ref (406)), some (.int (nI i)), l6, l7, l8] [.int (w9)] (N1, SH v1 T1, I1, L1, Dd)
  refine Ev.sg hX sL_law_1743 (pc' := 1744) (ls' := [some (.ref (BIG + 300)), some (.ref (0)), some (.ref (396)), some (.ref (405)), some (.ref (406)), some (.int (nI i)), l6, l7, l8]) (st' := [.ref (396), .int (w9)]) (h' := (N1, SH v1 T1, I1, L1, Dd)) rfl ?_
  refine Ev.callV (As := []) (rest := [.int (w9)]) dvX7_carCount mkL_232 rfl rfl dL_law_1744 hM ⟨by decide, by decide⟩ ⟨Nat.zero_le _, Nat.zero_le _⟩ rfl (Nat.le_of_ble_eq_true rfl) (fun v9 h9 e9 => ?_) (fun E9 h9 e9 => by obtain ⟨_, _, e, _⟩ := e9; cases e)
  obtain ⟨b, J, e7, ⟨w8, f2, f3⟩, h12, hinv⟩ := e9
  cases e7
  cases f2
  subst f3
  show Ev _ _ _ _ _ _ 1747 [some (.ref (BIG + 300)), some (.ref (0)), some (.ref (396)), some (.ref (405)), some (.ref (406)), some (.int (nI i)), l6, l7, l8] [.int (w9), .int (w9)] (N1, SH v1 T1, J, L1, Dd)
  refine Ev.icmp_eq (tgt := 2699) dL_law_1747 (by decide) (fun _ => ?_) (fun q => absurd rfl q)
  exact Ev.roomL (by omega) (by omega) (bk _ _ _ _ _ _ _ _ _ hN1 hN2 (hinv.mono (by omega) hK))
theorem br_isInYard (hX : JXok X) (hI : INV K N v T I L Dd) (hK : K + 8 ≤ 5000) (hN : N + 1500 < BIG) (hs : i + 6 ≤ jSn X ∧ jSn X ≤ 3072) (hm : 1160 ≤ mc ∧ 1160 ≤ ms) (bk : BK X mc ms N (K + 8) i) : Ev X (jm jdL_law) 20 mc ms lwR 1752 (lsW i l6 l7 l8) [] (N, SH v T, I, L, Dd) := by
  have hI0 := hI
  obtain ⟨g, gs, d, sv, qq, tx, er, fl, w, hp, hq⟩ := hI
  have hN4 := hp.N4
  refine Ev.sg hX sL_law_1752 (pc' := 1758) (ls' := [some (.ref (BIG + 300)), some (.ref (0)), some (.ref (396)), some (.ref (405)), some (.ref (406)), some (.int (nI i)), l6, l7, l8]) (st' := [.int ((nI i) + 1), .ref (BIG + 300), .ref (0)]) (h' := (N, SH v T, I, L, Dd)) rfl ?_
  refine Ev.ialdX (n := i + 1) (naI rfl rfl) (by omega) (by omega) dL_law_1758 ?_
  show Ev _ _ _ _ _ _ 1759 [some (.ref (BIG + 300)), some (.ref (0)), some (.ref (396)), some (.ref (405)), some (.ref (406)), some (.int (nI i)), l6, l7, l8] [.int (jSf X (i + 1)), .ref (0)] (N, SH v T, I, L, Dd)
  obtain ⟨Q', C, hC⟩ := CLS.cr (show CLS X _ _ _ jdX6_isInYard [.int (jSf X (i + 1))] jdX7_isInYard [.int (jSf X (i + 1))] _ _ N v T I L Dd from b_isInYard hX hp hq)
  refine Ev.callV (As := [.int (jSf X (i + 1))]) (rest := []) dvX6_isInYard mkL_233 rfl rfl dL_law_1759 C ⟨by decide, by decide⟩ ⟨Nat.zero_le _, Nat.zero_le _⟩ rfl (Nat.le_of_ble_eq_true rfl) (fun v9 h9 e9 => ?_) (fun E9 h9 e9 => by obtain ⟨_, _, _, _, _, _, _, _, e, _⟩ := cr_d hC e9; cases e)
  obtain ⟨N1, v1, T1, I1, L1, x9, hN1, hN2, e8, ⟨b0, w9, f1, -⟩, hM⟩ := cr_d hC e9
  cases e8
  subst f1
  show Ev _ _ _ _ _ _ 1762 [some (.ref (BIG + 300)), some (.ref (0)), some (.ref (396)), some (.ref (405)), some (.ref (406)), some (.int (nI i)), l6, l7, l8] [.int (w9)] (N1, SH v1 T1, I1, L1, Dd)
  refine Ev.sg hX sL_law_1762 (pc' := 1768) (ls' := [some (.ref (BIG + 300)), some (.ref (0)), some (.ref (396)), some (.ref (405)), some (.ref (406)), some (.int (nI i)), l6, l7, l8]) (st' := [.int ((nI i) + 1), .ref (BIG + 300), .ref (396), .int (w9)]) (h' := (N1, SH v1 T1, I1, L1, Dd)) rfl ?_
  refine Ev.ialdX (n := i + 1) (naI rfl rfl) (by omega) (by omega) dL_law_1768 ?_
  show Ev _ _ _ _ _ _ 1769 [some (.ref (BIG + 300)), some (.ref (0)), some (.ref (396)), some (.ref (405)), some (.ref (406)), some (.int (nI i)), l6, l7, l8] [.int (jSf X (i + 1)), .ref (396), .int (w9)] (N1, SH v1 T1, I1, L1, Dd)
  refine Ev.callV (As := [.int (jSf X (i + 1))]) (rest := [.int (w9)]) dvX7_isInYard mkL_236 rfl rfl dL_law_1769 hM ⟨by decide, by decide⟩ ⟨Nat.zero_le _, Nat.zero_le _⟩ rfl (Nat.le_of_ble_eq_true rfl) (fun v9 h9 e9 => ?_) (fun E9 h9 e9 => by obtain ⟨_, _, e, _⟩ := e9; cases e)
  obtain ⟨b, J, e7, ⟨w8, f2, f3⟩, h12, hinv⟩ := e9
  cases e7
  cases f2
  subst f3
  show Ev _ _ _ _ _ _ 1772 [some (.ref (BIG + 300)), some (.ref (0)), some (.ref (396)), some (.ref (405)), some (.ref (406)), some (.int (nI i)), l6, l7, l8] [.int (w9), .int (w9)] (N1, SH v1 T1, J, L1, Dd)
  refine Ev.icmp_eq (tgt := 2699) dL_law_1772 (by decide) (fun _ => ?_) (fun q => absurd rfl q)
  exact Ev.roomL (by omega) (by omega) (bk _ _ _ _ _ _ _ _ _ hN1 hN2 (hinv.mono (by omega) hK))
theorem br_trackOf (hX : JXok X) (hI : INV K N v T I L Dd) (hK : K + 8 ≤ 5000) (hN : N + 1500 < BIG) (hs : i + 6 ≤ jSn X ∧ jSn X ≤ 3072) (hm : 1160 ≤ mc ∧ 1160 ≤ ms) (bk : BK X mc ms N (K + 8) i) : Ev X (jm jdL_law) 20 mc ms lwR 1777 (lsW i l6 l7 l8) [] (N, SH v T, I, L, Dd) := by
  have hI0 := hI
  obtain ⟨g, gs, d, sv, qq, tx, er, fl, w, hp, hq⟩ := hI
  have hN4 := hp.N4
  refine Ev.sg hX sL_law_1777 (pc' := 1783) (ls' := [some (.ref (BIG + 300)), some (.ref (0)), some (.ref (396)), some (.ref (405)), some (.ref (406)), some (.int (nI i)), l6, l7, l8]) (st' := [.int ((nI i) + 1), .ref (BIG + 300), .ref (0)]) (h' := (N, SH v T, I, L, Dd)) rfl ?_
  refine Ev.ialdX (n := i + 1) (naI rfl rfl) (by omega) (by omega) dL_law_1783 ?_
  show Ev _ _ _ _ _ _ 1784 [some (.ref (BIG + 300)), some (.ref (0)), some (.ref (396)), some (.ref (405)), some (.ref (406)), some (.int (nI i)), l6, l7, l8] [.int (jSf X (i + 1)), .ref (0)] (N, SH v T, I, L, Dd)
  refine Ev.sg hX sL_law_1784 (pc' := 1785) (ls' := [some (.ref (BIG + 300)), some (.ref (0)), some (.ref (396)), some (.ref (405)), some (.ref (406)), some (.int (nI i)), l6, l7, l8]) (st' := [.ref (405), .int (jSf X (i + 1)), .ref (0)]) (h' := (N, SH v T, I, L, Dd)) rfl ?_
  obtain ⟨Q', C, hC⟩ := CLS.cr (show CLS X _ _ _ jdX6_trackOf [.int (jSf X (i + 1))] jdX7_trackOf [.int (jSf X (i + 1))] _ _ N v T I L Dd from b_trackOf hX hp hq (by omega))
  refine Ev.callSX (As := [.ref (0), .int (jSf X (i + 1)), .ref (405)]) (rest := []) dhL_trackOf mkL_237 dL_law_1785 (wL_trackOf hX rfl C (cr_hI hC) (fun E h' e => by obtain ⟨k, hk⟩ := cr_ex hC e; exact xor1 hk)) ⟨by decide, by decide⟩ ⟨by omega, by omega⟩ rfl (Nat.le_of_ble_eq_true rfl) (fun v9 h9 e9 => ?_) (fun E9 h9 e9 => (wq_no e9).elim)
  obtain ⟨N1, v1, T1, I1, L1, D1, c, hN1, hN2, e8, hM⟩ := wq_g (G := GI) hC (cd_of (l := ["java/util/NoSuchElementException"]) (by decide +kernel) (by decide)) (fun x N1 v1 T1 I1 L1 h2 hb hw => w_I hw) e9
  cases e8
  show Ev _ _ _ _ _ _ 1788 [some (.ref (BIG + 300)), some (.ref (0)), some (.ref (396)), some (.ref (405)), some (.ref (406)), some (.int (nI i)), l6, l7, l8] [.int (c)] (N1, SH v1 T1, I1, L1, D1)
  refine Ev.sg hX sL_law_1788 (pc' := 1796) (ls' := [some (.ref (BIG + 300)), some (.ref (0)), some (.ref (396)), some (.ref (405)), some (.ref (406)), some (.int (nI i)), some (.int (c)), l7, l8]) (st' := [.int ((nI i) + 1), .ref (BIG + 300), .ref (396)]) (h' := (N1, SH v1 T1, I1, L1, D1)) rfl ?_
  refine Ev.ialdX (n := i + 1) (naI rfl rfl) (by omega) (by omega) dL_law_1796 ?_
  show Ev _ _ _ _ _ _ 1797 [some (.ref (BIG + 300)), some (.ref (0)), some (.ref (396)), some (.ref (405)), some (.ref (406)), some (.int (nI i)), some (.int (c)), l7, l8] [.int (jSf X (i + 1)), .ref (396)] (N1, SH v1 T1, I1, L1, D1)
  refine Ev.callV (As := [.int (jSf X (i + 1))]) (rest := []) dvX7_trackOf mkL_239 rfl rfl dL_law_1797 hM ⟨by decide, by decide⟩ ⟨Nat.zero_le _, Nat.zero_le _⟩ rfl (Nat.le_of_ble_eq_true rfl) (fun v9 h9 e9 => ?_) (fun E9 h9 e9 => by obtain ⟨_, _, e, _⟩ := e9; cases e)
  obtain ⟨b, J, e7, ⟨⟨x8, w8, f1, f2⟩, hG⟩, h12, hinv⟩ := e9
  cases e7
  subst f2
  show Ev _ _ _ _ _ _ 1800 [some (.ref (BIG + 300)), some (.ref (0)), some (.ref (396)), some (.ref (405)), some (.ref (406)), some (.int (nI i)), some (.int (c)), l7, l8] [.int (w8)] (N1, SH v1 T1, J, L1, D1)
  refine Ev.sg hX sL_law_1800 (pc' := 1803) (ls' := [some (.ref (BIG + 300)), some (.ref (0)), some (.ref (396)), some (.ref (405)), some (.ref (406)), some (.int (nI i)), some (.int (c)), some (.int (w8)), l8]) (st' := [.ref (396)]) (h' := (N1, SH v1 T1, J, L1, D1)) rfl ?_
  refine Ev.callV (As := []) (rest := []) dvX7_thrown mkL_156 rfl rfl dL_law_1803 (m_thrown (d := 12) hX (by decide)) ⟨by decide, by decide⟩ ⟨Nat.zero_le _, Nat.zero_le _⟩ rfl (Nat.le_of_ble_eq_true rfl) (fun v9 h9 e9 => ?_) (fun E9 h9 e9 => nomatch e9)
  cases e9
  show Ev _ _ _ _ _ _ 1806 [some (.ref (BIG + 300)), some (.ref (0)), some (.ref (396)), some (.ref (405)), some (.ref (406)), some (.int (nI i)), some (.int (c)), some (.int (w8)), l8] [.int (J 396 12)] (N1, SH v1 T1, J, L1, D1)
  rw [h12]
  refine Ev.sg hX sL_law_1806 (pc' := 1808) (ls' := [some (.ref (BIG + 300)), some (.ref (0)), some (.ref (396)), some (.ref (405)), some (.ref (406)), some (.int (nI i)), some (.int (c)), some (.int (w8)), l8]) (st' := [.int (c), .int (c)]) (h' := (N1, SH v1 T1, J, L1, D1)) rfl ?_
  refine Ev.icmp_eq (tgt := 1813) dL_law_1808 (by decide) (fun _ => ?_) (fun q => absurd rfl q)
  refine Ev.sg hX sL_law_1813 (pc' := 1815) (ls' := [some (.ref (BIG + 300)), some (.ref (0)), some (.ref (396)), some (.ref (405)), some (.ref (406)), some (.int (nI i)), some (.int (c)), some (.int (w8)), l8]) (st' := [.int (c)]) (h' := (N1, SH v1 T1, J, L1, D1)) rfl ?_
  refine Ev.if_ne (tgt := 1830) dL_law_1815 (by decide) (fun hc0 => ?_) (fun hc0 => ?_)
  · refine Ev.sg hX sL_law_1830 (pc' := 2699) (ls' := [some (.ref (BIG + 300)), some (.ref (0)), some (.ref (396)), some (.ref (405)), some (.ref (406)), some (.int (nI i)), some (.int (c)), some (.int (w8)), l8]) (st' := []) (h' := (N1, SH v1 T1, J, L1, D1)) rfl ?_
    exact Ev.roomL (by omega) (by omega) (bk _ _ _ _ _ _ _ _ _ hN1 hN2 (hinv.mono (by omega) hK))
  · refine Ev.sg hX sL_law_1818 (pc' := 1820) (ls' := [some (.ref (BIG + 300)), some (.ref (0)), some (.ref (396)), some (.ref (405)), some (.ref (406)), some (.int (nI i)), some (.int (c)), some (.int (w8)), l8]) (st' := [.int (0), .ref (405)]) (h' := (N1, SH v1 T1, J, L1, D1)) rfl ?_
    refine Ev.lald (n := 1) rfl (vp_in_nI (n := 0) (N := 1) (by decide) (by decide)) dL_law_1820 ?_
    show Ev _ _ _ _ _ _ 1821 [some (.ref (BIG + 300)), some (.ref (0)), some (.ref (396)), some (.ref (405)), some (.ref (406)), some (.int (nI i)), some (.int (c)), some (.int (w8)), l8] [.long (L1 405 0)] (N1, SH v1 T1, J, L1, D1)
    rw [gi_eq (hG hc0)]
    refine Ev.sg hX sL_law_1821 (pc' := 1825) (ls' := [some (.ref (BIG + 300)), some (.ref (0)), some (.ref (396)), some (.ref (405)), some (.ref (406)), some (.int (nI i)), some (.int (c)), some (.int (w8)), l8]) (st' := [.int (lg_cmp w8.toInt64 w8.toInt64)]) (h' := (N1, SH v1 T1, J, L1, D1)) rfl ?_
    rw [lcmp_self]
    refine Ev.if_eq (tgt := 1830) dL_law_1825 (by decide) (fun _ => ?_) (fun q => absurd rfl q)
    refine Ev.sg hX sL_law_1830 (pc' := 2699) (ls' := [some (.ref (BIG + 300)), some (.ref (0)), some (.ref (396)), some (.ref (405)), some (.ref (406)), some (.int (nI i)), some (.int (c)), some (.int (w8)), l8]) (st' := []) (h' := (N1, SH v1 T1, J, L1, D1)) rfl ?_
    exact Ev.roomL (by omega) (by omega) (bk _ _ _ _ _ _ _ _ _ hN1 hN2 (hinv.mono (by omega) hK))
theorem br_carsBehind (hX : JXok X) (hI : INV K N v T I L Dd) (hK : K + 8 ≤ 5000) (hN : N + 1500 < BIG) (hs : i + 6 ≤ jSn X ∧ jSn X ≤ 3072) (hm : 1160 ≤ mc ∧ 1160 ≤ ms) (bk : BK X mc ms N (K + 8) i) : Ev X (jm jdL_law) 20 mc ms lwR 1833 (lsW i l6 l7 l8) [] (N, SH v T, I, L, Dd) := by
  have hI0 := hI
  obtain ⟨g, gs, d, sv, qq, tx, er, fl, w, hp, hq⟩ := hI
  have hN4 := hp.N4
  refine Ev.sg hX sL_law_1833 (pc' := 1839) (ls' := [some (.ref (BIG + 300)), some (.ref (0)), some (.ref (396)), some (.ref (405)), some (.ref (406)), some (.int (nI i)), l6, l7, l8]) (st' := [.int ((nI i) + 1), .ref (BIG + 300), .ref (0)]) (h' := (N, SH v T, I, L, Dd)) rfl ?_
  refine Ev.ialdX (n := i + 1) (naI rfl rfl) (by omega) (by omega) dL_law_1839 ?_
  show Ev _ _ _ _ _ _ 1840 [some (.ref (BIG + 300)), some (.ref (0)), some (.ref (396)), some (.ref (405)), some (.ref (406)), some (.int (nI i)), l6, l7, l8] [.int (jSf X (i + 1)), .ref (0)] (N, SH v T, I, L, Dd)
  refine Ev.sg hX sL_law_1840 (pc' := 1841) (ls' := [some (.ref (BIG + 300)), some (.ref (0)), some (.ref (396)), some (.ref (405)), some (.ref (406)), some (.int (nI i)), l6, l7, l8]) (st' := [.ref (405), .int (jSf X (i + 1)), .ref (0)]) (h' := (N, SH v T, I, L, Dd)) rfl ?_
  obtain ⟨Q', C, hC⟩ := CLS.cr (show CLS X _ _ _ jdX6_carsBehind [.int (jSf X (i + 1))] jdX7_carsBehind [.int (jSf X (i + 1))] _ _ N v T I L Dd from b_carsBehind hX hp hq (by omega))
  refine Ev.callSX (As := [.ref (0), .int (jSf X (i + 1)), .ref (405)]) (rest := []) dhL_carsBehind mkL_240 dL_law_1841 (wL_carsBehind hX rfl C (cr_hI hC) (fun E h' e => by obtain ⟨k, hk⟩ := cr_ex hC e; exact xor1 hk)) ⟨by decide, by decide⟩ ⟨by omega, by omega⟩ rfl (Nat.le_of_ble_eq_true rfl) (fun v9 h9 e9 => ?_) (fun E9 h9 e9 => (wq_no e9).elim)
  obtain ⟨N1, v1, T1, I1, L1, D1, c, hN1, hN2, e8, hM⟩ := wq_g (G := GI) hC (cd_of (l := ["java/util/NoSuchElementException"]) (by decide +kernel) (by decide)) (fun x N1 v1 T1 I1 L1 h2 hb hw => w_I hw) e9
  cases e8
  show Ev _ _ _ _ _ _ 1844 [some (.ref (BIG + 300)), some (.ref (0)), some (.ref (396)), some (.ref (405)), some (.ref (406)), some (.int (nI i)), l6, l7, l8] [.int (c)] (N1, SH v1 T1, I1, L1, D1)
  refine Ev.sg hX sL_law_1844 (pc' := 1852) (ls' := [some (.ref (BIG + 300)), some (.ref (0)), some (.ref (396)), some (.ref (405)), some (.ref (406)), some (.int (nI i)), some (.int (c)), l7, l8]) (st' := [.int ((nI i) + 1), .ref (BIG + 300), .ref (396)]) (h' := (N1, SH v1 T1, I1, L1, D1)) rfl ?_
  refine Ev.ialdX (n := i + 1) (naI rfl rfl) (by omega) (by omega) dL_law_1852 ?_
  show Ev _ _ _ _ _ _ 1853 [some (.ref (BIG + 300)), some (.ref (0)), some (.ref (396)), some (.ref (405)), some (.ref (406)), some (.int (nI i)), some (.int (c)), l7, l8] [.int (jSf X (i + 1)), .ref (396)] (N1, SH v1 T1, I1, L1, D1)
  refine Ev.callV (As := [.int (jSf X (i + 1))]) (rest := []) dvX7_carsBehind mkL_242 rfl rfl dL_law_1853 hM ⟨by decide, by decide⟩ ⟨Nat.zero_le _, Nat.zero_le _⟩ rfl (Nat.le_of_ble_eq_true rfl) (fun v9 h9 e9 => ?_) (fun E9 h9 e9 => by obtain ⟨_, _, e, _⟩ := e9; cases e)
  obtain ⟨b, J, e7, ⟨⟨x8, w8, f1, f2⟩, hG⟩, h12, hinv⟩ := e9
  cases e7
  subst f2
  show Ev _ _ _ _ _ _ 1856 [some (.ref (BIG + 300)), some (.ref (0)), some (.ref (396)), some (.ref (405)), some (.ref (406)), some (.int (nI i)), some (.int (c)), l7, l8] [.int (w8)] (N1, SH v1 T1, J, L1, D1)
  refine Ev.sg hX sL_law_1856 (pc' := 1859) (ls' := [some (.ref (BIG + 300)), some (.ref (0)), some (.ref (396)), some (.ref (405)), some (.ref (406)), some (.int (nI i)), some (.int (c)), some (.int (w8)), l8]) (st' := [.ref (396)]) (h' := (N1, SH v1 T1, J, L1, D1)) rfl ?_
  refine Ev.callV (As := []) (rest := []) dvX7_thrown mkL_156 rfl rfl dL_law_1859 (m_thrown (d := 12) hX (by decide)) ⟨by decide, by decide⟩ ⟨Nat.zero_le _, Nat.zero_le _⟩ rfl (Nat.le_of_ble_eq_true rfl) (fun v9 h9 e9 => ?_) (fun E9 h9 e9 => nomatch e9)
  cases e9
  show Ev _ _ _ _ _ _ 1862 [some (.ref (BIG + 300)), some (.ref (0)), some (.ref (396)), some (.ref (405)), some (.ref (406)), some (.int (nI i)), some (.int (c)), some (.int (w8)), l8] [.int (J 396 12)] (N1, SH v1 T1, J, L1, D1)
  rw [h12]
  refine Ev.sg hX sL_law_1862 (pc' := 1864) (ls' := [some (.ref (BIG + 300)), some (.ref (0)), some (.ref (396)), some (.ref (405)), some (.ref (406)), some (.int (nI i)), some (.int (c)), some (.int (w8)), l8]) (st' := [.int (c), .int (c)]) (h' := (N1, SH v1 T1, J, L1, D1)) rfl ?_
  refine Ev.icmp_eq (tgt := 1869) dL_law_1864 (by decide) (fun _ => ?_) (fun q => absurd rfl q)
  refine Ev.sg hX sL_law_1869 (pc' := 1871) (ls' := [some (.ref (BIG + 300)), some (.ref (0)), some (.ref (396)), some (.ref (405)), some (.ref (406)), some (.int (nI i)), some (.int (c)), some (.int (w8)), l8]) (st' := [.int (c)]) (h' := (N1, SH v1 T1, J, L1, D1)) rfl ?_
  refine Ev.if_ne (tgt := 1886) dL_law_1871 (by decide) (fun hc0 => ?_) (fun hc0 => ?_)
  · refine Ev.sg hX sL_law_1886 (pc' := 2699) (ls' := [some (.ref (BIG + 300)), some (.ref (0)), some (.ref (396)), some (.ref (405)), some (.ref (406)), some (.int (nI i)), some (.int (c)), some (.int (w8)), l8]) (st' := []) (h' := (N1, SH v1 T1, J, L1, D1)) rfl ?_
    exact Ev.roomL (by omega) (by omega) (bk _ _ _ _ _ _ _ _ _ hN1 hN2 (hinv.mono (by omega) hK))
  · refine Ev.sg hX sL_law_1874 (pc' := 1876) (ls' := [some (.ref (BIG + 300)), some (.ref (0)), some (.ref (396)), some (.ref (405)), some (.ref (406)), some (.int (nI i)), some (.int (c)), some (.int (w8)), l8]) (st' := [.int (0), .ref (405)]) (h' := (N1, SH v1 T1, J, L1, D1)) rfl ?_
    refine Ev.lald (n := 1) rfl (vp_in_nI (n := 0) (N := 1) (by decide) (by decide)) dL_law_1876 ?_
    show Ev _ _ _ _ _ _ 1877 [some (.ref (BIG + 300)), some (.ref (0)), some (.ref (396)), some (.ref (405)), some (.ref (406)), some (.int (nI i)), some (.int (c)), some (.int (w8)), l8] [.long (L1 405 0)] (N1, SH v1 T1, J, L1, D1)
    rw [gi_eq (hG hc0)]
    refine Ev.sg hX sL_law_1877 (pc' := 1881) (ls' := [some (.ref (BIG + 300)), some (.ref (0)), some (.ref (396)), some (.ref (405)), some (.ref (406)), some (.int (nI i)), some (.int (c)), some (.int (w8)), l8]) (st' := [.int (lg_cmp w8.toInt64 w8.toInt64)]) (h' := (N1, SH v1 T1, J, L1, D1)) rfl ?_
    rw [lcmp_self]
    refine Ev.if_eq (tgt := 1886) dL_law_1881 (by decide) (fun _ => ?_) (fun q => absurd rfl q)
    refine Ev.sg hX sL_law_1886 (pc' := 2699) (ls' := [some (.ref (BIG + 300)), some (.ref (0)), some (.ref (396)), some (.ref (405)), some (.ref (406)), some (.int (nI i)), some (.int (c)), some (.int (w8)), l8]) (st' := []) (h' := (N1, SH v1 T1, J, L1, D1)) rfl ?_
    exact Ev.roomL (by omega) (by omega) (bk _ _ _ _ _ _ _ _ _ hN1 hN2 (hinv.mono (by omega) hK))
theorem br_destination (hX : JXok X) (hI : INV K N v T I L Dd) (hK : K + 8 ≤ 5000) (hN : N + 1500 < BIG) (hs : i + 6 ≤ jSn X ∧ jSn X ≤ 3072) (hm : 1160 ≤ mc ∧ 1160 ≤ ms) (bk : BK X mc ms N (K + 8) i) : Ev X (jm jdL_law) 20 mc ms lwR 1889 (lsW i l6 l7 l8) [] (N, SH v T, I, L, Dd) := by
  have hI0 := hI
  obtain ⟨g, gs, d, sv, qq, tx, er, fl, w, hp, hq⟩ := hI
  have hN4 := hp.N4
  refine Ev.sg hX sL_law_1889 (pc' := 1895) (ls' := [some (.ref (BIG + 300)), some (.ref (0)), some (.ref (396)), some (.ref (405)), some (.ref (406)), some (.int (nI i)), l6, l7, l8]) (st' := [.int ((nI i) + 1), .ref (BIG + 300), .ref (0)]) (h' := (N, SH v T, I, L, Dd)) rfl ?_
  refine Ev.ialdX (n := i + 1) (naI rfl rfl) (by omega) (by omega) dL_law_1895 ?_
  show Ev _ _ _ _ _ _ 1896 [some (.ref (BIG + 300)), some (.ref (0)), some (.ref (396)), some (.ref (405)), some (.ref (406)), some (.int (nI i)), l6, l7, l8] [.int (jSf X (i + 1)), .ref (0)] (N, SH v T, I, L, Dd)
  refine Ev.sg hX sL_law_1896 (pc' := 1897) (ls' := [some (.ref (BIG + 300)), some (.ref (0)), some (.ref (396)), some (.ref (405)), some (.ref (406)), some (.int (nI i)), l6, l7, l8]) (st' := [.ref (405), .int (jSf X (i + 1)), .ref (0)]) (h' := (N, SH v T, I, L, Dd)) rfl ?_
  obtain ⟨Q', C, hC⟩ := CLS.cr (show CLS X _ _ _ jdX6_destination [.int (jSf X (i + 1))] jdX7_destination [.int (jSf X (i + 1))] _ _ N v T I L Dd from b_destination hX hp hq (by omega))
  refine Ev.callSX (As := [.ref (0), .int (jSf X (i + 1)), .ref (405)]) (rest := []) dhL_destination mkL_243 dL_law_1897 (wL_destination hX rfl C (cr_hI hC) (fun E h' e => by obtain ⟨k, hk⟩ := cr_ex hC e; exact xor1 hk)) ⟨by decide, by decide⟩ ⟨by omega, by omega⟩ rfl (Nat.le_of_ble_eq_true rfl) (fun v9 h9 e9 => ?_) (fun E9 h9 e9 => (wq_no e9).elim)
  obtain ⟨N1, v1, T1, I1, L1, D1, c, hN1, hN2, e8, hM⟩ := wq_g (G := GI) hC (cd_of (l := ["java/util/NoSuchElementException"]) (by decide +kernel) (by decide)) (fun x N1 v1 T1 I1 L1 h2 hb hw => w_I hw) e9
  cases e8
  show Ev _ _ _ _ _ _ 1900 [some (.ref (BIG + 300)), some (.ref (0)), some (.ref (396)), some (.ref (405)), some (.ref (406)), some (.int (nI i)), l6, l7, l8] [.int (c)] (N1, SH v1 T1, I1, L1, D1)
  refine Ev.sg hX sL_law_1900 (pc' := 1908) (ls' := [some (.ref (BIG + 300)), some (.ref (0)), some (.ref (396)), some (.ref (405)), some (.ref (406)), some (.int (nI i)), some (.int (c)), l7, l8]) (st' := [.int ((nI i) + 1), .ref (BIG + 300), .ref (396)]) (h' := (N1, SH v1 T1, I1, L1, D1)) rfl ?_
  refine Ev.ialdX (n := i + 1) (naI rfl rfl) (by omega) (by omega) dL_law_1908 ?_
  show Ev _ _ _ _ _ _ 1909 [some (.ref (BIG + 300)), some (.ref (0)), some (.ref (396)), some (.ref (405)), some (.ref (406)), some (.int (nI i)), some (.int (c)), l7, l8] [.int (jSf X (i + 1)), .ref (396)] (N1, SH v1 T1, I1, L1, D1)
  refine Ev.callV (As := [.int (jSf X (i + 1))]) (rest := []) dvX7_destination mkL_245 rfl rfl dL_law_1909 hM ⟨by decide, by decide⟩ ⟨Nat.zero_le _, Nat.zero_le _⟩ rfl (Nat.le_of_ble_eq_true rfl) (fun v9 h9 e9 => ?_) (fun E9 h9 e9 => by obtain ⟨_, _, e, _⟩ := e9; cases e)
  obtain ⟨b, J, e7, ⟨⟨x8, w8, f1, f2⟩, hG⟩, h12, hinv⟩ := e9
  cases e7
  subst f2
  show Ev _ _ _ _ _ _ 1912 [some (.ref (BIG + 300)), some (.ref (0)), some (.ref (396)), some (.ref (405)), some (.ref (406)), some (.int (nI i)), some (.int (c)), l7, l8] [.int (w8)] (N1, SH v1 T1, J, L1, D1)
  refine Ev.sg hX sL_law_1912 (pc' := 1915) (ls' := [some (.ref (BIG + 300)), some (.ref (0)), some (.ref (396)), some (.ref (405)), some (.ref (406)), some (.int (nI i)), some (.int (c)), some (.int (w8)), l8]) (st' := [.ref (396)]) (h' := (N1, SH v1 T1, J, L1, D1)) rfl ?_
  refine Ev.callV (As := []) (rest := []) dvX7_thrown mkL_156 rfl rfl dL_law_1915 (m_thrown (d := 12) hX (by decide)) ⟨by decide, by decide⟩ ⟨Nat.zero_le _, Nat.zero_le _⟩ rfl (Nat.le_of_ble_eq_true rfl) (fun v9 h9 e9 => ?_) (fun E9 h9 e9 => nomatch e9)
  cases e9
  show Ev _ _ _ _ _ _ 1918 [some (.ref (BIG + 300)), some (.ref (0)), some (.ref (396)), some (.ref (405)), some (.ref (406)), some (.int (nI i)), some (.int (c)), some (.int (w8)), l8] [.int (J 396 12)] (N1, SH v1 T1, J, L1, D1)
  rw [h12]
  refine Ev.sg hX sL_law_1918 (pc' := 1920) (ls' := [some (.ref (BIG + 300)), some (.ref (0)), some (.ref (396)), some (.ref (405)), some (.ref (406)), some (.int (nI i)), some (.int (c)), some (.int (w8)), l8]) (st' := [.int (c), .int (c)]) (h' := (N1, SH v1 T1, J, L1, D1)) rfl ?_
  refine Ev.icmp_eq (tgt := 1925) dL_law_1920 (by decide) (fun _ => ?_) (fun q => absurd rfl q)
  refine Ev.sg hX sL_law_1925 (pc' := 1927) (ls' := [some (.ref (BIG + 300)), some (.ref (0)), some (.ref (396)), some (.ref (405)), some (.ref (406)), some (.int (nI i)), some (.int (c)), some (.int (w8)), l8]) (st' := [.int (c)]) (h' := (N1, SH v1 T1, J, L1, D1)) rfl ?_
  refine Ev.if_ne (tgt := 1942) dL_law_1927 (by decide) (fun hc0 => ?_) (fun hc0 => ?_)
  · refine Ev.sg hX sL_law_1942 (pc' := 2699) (ls' := [some (.ref (BIG + 300)), some (.ref (0)), some (.ref (396)), some (.ref (405)), some (.ref (406)), some (.int (nI i)), some (.int (c)), some (.int (w8)), l8]) (st' := []) (h' := (N1, SH v1 T1, J, L1, D1)) rfl ?_
    exact Ev.roomL (by omega) (by omega) (bk _ _ _ _ _ _ _ _ _ hN1 hN2 (hinv.mono (by omega) hK))
  · refine Ev.sg hX sL_law_1930 (pc' := 1932) (ls' := [some (.ref (BIG + 300)), some (.ref (0)), some (.ref (396)), some (.ref (405)), some (.ref (406)), some (.int (nI i)), some (.int (c)), some (.int (w8)), l8]) (st' := [.int (0), .ref (405)]) (h' := (N1, SH v1 T1, J, L1, D1)) rfl ?_
    refine Ev.lald (n := 1) rfl (vp_in_nI (n := 0) (N := 1) (by decide) (by decide)) dL_law_1932 ?_
    show Ev _ _ _ _ _ _ 1933 [some (.ref (BIG + 300)), some (.ref (0)), some (.ref (396)), some (.ref (405)), some (.ref (406)), some (.int (nI i)), some (.int (c)), some (.int (w8)), l8] [.long (L1 405 0)] (N1, SH v1 T1, J, L1, D1)
    rw [gi_eq (hG hc0)]
    refine Ev.sg hX sL_law_1933 (pc' := 1937) (ls' := [some (.ref (BIG + 300)), some (.ref (0)), some (.ref (396)), some (.ref (405)), some (.ref (406)), some (.int (nI i)), some (.int (c)), some (.int (w8)), l8]) (st' := [.int (lg_cmp w8.toInt64 w8.toInt64)]) (h' := (N1, SH v1 T1, J, L1, D1)) rfl ?_
    rw [lcmp_self]
    refine Ev.if_eq (tgt := 1942) dL_law_1937 (by decide) (fun _ => ?_) (fun q => absurd rfl q)
    refine Ev.sg hX sL_law_1942 (pc' := 2699) (ls' := [some (.ref (BIG + 300)), some (.ref (0)), some (.ref (396)), some (.ref (405)), some (.ref (406)), some (.int (nI i)), some (.int (c)), some (.int (w8)), l8]) (st' := []) (h' := (N1, SH v1 T1, J, L1, D1)) rfl ?_
    exact Ev.roomL (by omega) (by omega) (bk _ _ _ _ _ _ _ _ _ hN1 hN2 (hinv.mono (by omega) hK))
theorem br_isDefective (hX : JXok X) (hI : INV K N v T I L Dd) (hK : K + 8 ≤ 5000) (hN : N + 1500 < BIG) (hs : i + 6 ≤ jSn X ∧ jSn X ≤ 3072) (hm : 1160 ≤ mc ∧ 1160 ≤ ms) (bk : BK X mc ms N (K + 8) i) : Ev X (jm jdL_law) 20 mc ms lwR 1945 (lsW i l6 l7 l8) [] (N, SH v T, I, L, Dd) := by
  have hI0 := hI
  obtain ⟨g, gs, d, sv, qq, tx, er, fl, w, hp, hq⟩ := hI
  have hN4 := hp.N4
  refine Ev.sg hX sL_law_1945 (pc' := 1951) (ls' := [some (.ref (BIG + 300)), some (.ref (0)), some (.ref (396)), some (.ref (405)), some (.ref (406)), some (.int (nI i)), l6, l7, l8]) (st' := [.int ((nI i) + 1), .ref (BIG + 300), .ref (0)]) (h' := (N, SH v T, I, L, Dd)) rfl ?_
  refine Ev.ialdX (n := i + 1) (naI rfl rfl) (by omega) (by omega) dL_law_1951 ?_
  show Ev _ _ _ _ _ _ 1952 [some (.ref (BIG + 300)), some (.ref (0)), some (.ref (396)), some (.ref (405)), some (.ref (406)), some (.int (nI i)), l6, l7, l8] [.int (jSf X (i + 1)), .ref (0)] (N, SH v T, I, L, Dd)
  refine Ev.sg hX sL_law_1952 (pc' := 1953) (ls' := [some (.ref (BIG + 300)), some (.ref (0)), some (.ref (396)), some (.ref (405)), some (.ref (406)), some (.int (nI i)), l6, l7, l8]) (st' := [.ref (405), .int (jSf X (i + 1)), .ref (0)]) (h' := (N, SH v T, I, L, Dd)) rfl ?_
  obtain ⟨Q', C, hC⟩ := CLS.cr (show CLS X _ _ _ jdX6_isDefective [.int (jSf X (i + 1))] jdX7_isDefective [.int (jSf X (i + 1))] _ _ N v T I L Dd from b_isDefective hX hp hq (by omega))
  refine Ev.callSX (As := [.ref (0), .int (jSf X (i + 1)), .ref (405)]) (rest := []) dhL_isDefective mkL_246 dL_law_1953 (wL_isDefective hX rfl C (cr_hI hC) (fun E h' e => by obtain ⟨k, hk⟩ := cr_ex hC e; exact xor1 hk)) ⟨by decide, by decide⟩ ⟨by omega, by omega⟩ rfl (Nat.le_of_ble_eq_true rfl) (fun v9 h9 e9 => ?_) (fun E9 h9 e9 => (wq_no e9).elim)
  obtain ⟨N1, v1, T1, I1, L1, D1, c, hN1, hN2, e8, hM⟩ := wq_g (G := GZ) hC (cd_of (l := ["java/util/NoSuchElementException"]) (by decide +kernel) (by decide)) (fun x N1 v1 T1 I1 L1 h2 hb hw => w_Z hw) e9
  cases e8
  show Ev _ _ _ _ _ _ 1956 [some (.ref (BIG + 300)), some (.ref (0)), some (.ref (396)), some (.ref (405)), some (.ref (406)), some (.int (nI i)), l6, l7, l8] [.int (c)] (N1, SH v1 T1, I1, L1, D1)
  refine Ev.sg hX sL_law_1956 (pc' := 1964) (ls' := [some (.ref (BIG + 300)), some (.ref (0)), some (.ref (396)), some (.ref (405)), some (.ref (406)), some (.int (nI i)), some (.int (c)), l7, l8]) (st' := [.int ((nI i) + 1), .ref (BIG + 300), .ref (396)]) (h' := (N1, SH v1 T1, I1, L1, D1)) rfl ?_
  refine Ev.ialdX (n := i + 1) (naI rfl rfl) (by omega) (by omega) dL_law_1964 ?_
  show Ev _ _ _ _ _ _ 1965 [some (.ref (BIG + 300)), some (.ref (0)), some (.ref (396)), some (.ref (405)), some (.ref (406)), some (.int (nI i)), some (.int (c)), l7, l8] [.int (jSf X (i + 1)), .ref (396)] (N1, SH v1 T1, I1, L1, D1)
  refine Ev.callV (As := [.int (jSf X (i + 1))]) (rest := []) dvX7_isDefective mkL_248 rfl rfl dL_law_1965 hM ⟨by decide, by decide⟩ ⟨Nat.zero_le _, Nat.zero_le _⟩ rfl (Nat.le_of_ble_eq_true rfl) (fun v9 h9 e9 => ?_) (fun E9 h9 e9 => by obtain ⟨_, _, e, _⟩ := e9; cases e)
  obtain ⟨b, J, e7, ⟨⟨x8, w8, f1, f2⟩, hG⟩, h12, hinv⟩ := e9
  cases e7
  subst f2
  show Ev _ _ _ _ _ _ 1968 [some (.ref (BIG + 300)), some (.ref (0)), some (.ref (396)), some (.ref (405)), some (.ref (406)), some (.int (nI i)), some (.int (c)), l7, l8] [.int (w8)] (N1, SH v1 T1, J, L1, D1)
  refine Ev.sg hX sL_law_1968 (pc' := 1971) (ls' := [some (.ref (BIG + 300)), some (.ref (0)), some (.ref (396)), some (.ref (405)), some (.ref (406)), some (.int (nI i)), some (.int (c)), some (.int (w8)), l8]) (st' := [.ref (396)]) (h' := (N1, SH v1 T1, J, L1, D1)) rfl ?_
  refine Ev.callV (As := []) (rest := []) dvX7_thrown mkL_156 rfl rfl dL_law_1971 (m_thrown (d := 12) hX (by decide)) ⟨by decide, by decide⟩ ⟨Nat.zero_le _, Nat.zero_le _⟩ rfl (Nat.le_of_ble_eq_true rfl) (fun v9 h9 e9 => ?_) (fun E9 h9 e9 => nomatch e9)
  cases e9
  show Ev _ _ _ _ _ _ 1974 [some (.ref (BIG + 300)), some (.ref (0)), some (.ref (396)), some (.ref (405)), some (.ref (406)), some (.int (nI i)), some (.int (c)), some (.int (w8)), l8] [.int (J 396 12)] (N1, SH v1 T1, J, L1, D1)
  rw [h12]
  refine Ev.sg hX sL_law_1974 (pc' := 1976) (ls' := [some (.ref (BIG + 300)), some (.ref (0)), some (.ref (396)), some (.ref (405)), some (.ref (406)), some (.int (nI i)), some (.int (c)), some (.int (w8)), l8]) (st' := [.int (c), .int (c)]) (h' := (N1, SH v1 T1, J, L1, D1)) rfl ?_
  refine Ev.icmp_eq (tgt := 1981) dL_law_1976 (by decide) (fun _ => ?_) (fun q => absurd rfl q)
  refine Ev.sg hX sL_law_1981 (pc' := 1983) (ls' := [some (.ref (BIG + 300)), some (.ref (0)), some (.ref (396)), some (.ref (405)), some (.ref (406)), some (.int (nI i)), some (.int (c)), some (.int (w8)), l8]) (st' := [.int (c)]) (h' := (N1, SH v1 T1, J, L1, D1)) rfl ?_
  refine Ev.if_ne (tgt := 2005) dL_law_1983 (by decide) (fun hc0 => ?_) (fun hc0 => ?_)
  · refine Ev.sg hX sL_law_2005 (pc' := 2699) (ls' := [some (.ref (BIG + 300)), some (.ref (0)), some (.ref (396)), some (.ref (405)), some (.ref (406)), some (.int (nI i)), some (.int (c)), some (.int (w8)), l8]) (st' := []) (h' := (N1, SH v1 T1, J, L1, D1)) rfl ?_
    exact Ev.roomL (by omega) (by omega) (bk _ _ _ _ _ _ _ _ _ hN1 hN2 (hinv.mono (by omega) hK))
  · refine Ev.sg hX sL_law_1986 (pc' := 1988) (ls' := [some (.ref (BIG + 300)), some (.ref (0)), some (.ref (396)), some (.ref (405)), some (.ref (406)), some (.int (nI i)), some (.int (c)), some (.int (w8)), l8]) (st' := [.int (0), .ref (405)]) (h' := (N1, SH v1 T1, J, L1, D1)) rfl ?_
    refine Ev.lald (n := 1) rfl (vp_in_nI (n := 0) (N := 1) (by decide) (by decide)) dL_law_1988 ?_
    show Ev _ _ _ _ _ _ 1989 [some (.ref (BIG + 300)), some (.ref (0)), some (.ref (396)), some (.ref (405)), some (.ref (406)), some (.int (nI i)), some (.int (c)), some (.int (w8)), l8] [.long (L1 405 0)] (N1, SH v1 T1, J, L1, D1)
    rw [gz_eq (hG hc0)]
    refine Ev.sg hX sL_law_1989 (pc' := 1991) (ls' := [some (.ref (BIG + 300)), some (.ref (0)), some (.ref (396)), some (.ref (405)), some (.ref (406)), some (.int (nI i)), some (.int (c)), some (.int (w8)), l8]) (st' := [.int (w8), .long (if w8 = 0 then 0 else 1)]) (h' := (N1, SH v1 T1, J, L1, D1)) rfl ?_
    refine Ev.if_eq (tgt := 1998) dL_law_1991 (by decide) (fun q7 => ?_) (fun q7 => ?_)
    · rw [if_pos q7]
      refine Ev.sg hX sL_law_1998 (pc' := 1999) (ls' := [some (.ref (BIG + 300)), some (.ref (0)), some (.ref (396)), some (.ref (405)), some (.ref (406)), some (.int (nI i)), some (.int (c)), some (.int (w8)), l8]) (st' := [.long (0), .long (0)]) (h' := (N1, SH v1 T1, J, L1, D1)) rfl ?_
      refine Ev.sg hX sL_law_1999 (pc' := 2000) (ls' := [some (.ref (BIG + 300)), some (.ref (0)), some (.ref (396)), some (.ref (405)), some (.ref (406)), some (.int (nI i)), some (.int (c)), some (.int (w8)), l8]) (st' := [.int (lg_cmp 0 0)]) (h' := (N1, SH v1 T1, J, L1, D1)) rfl ?_
      rw [lcmp_self]
      refine Ev.if_eq (tgt := 2005) dL_law_2000 (by decide) (fun _ => ?_) (fun q => absurd rfl q)
      refine Ev.sg hX sL_law_2005 (pc' := 2699) (ls' := [some (.ref (BIG + 300)), some (.ref (0)), some (.ref (396)), some (.ref (405)), some (.ref (406)), some (.int (nI i)), some (.int (c)), some (.int (w8)), l8]) (st' := []) (h' := (N1, SH v1 T1, J, L1, D1)) rfl ?_
      exact Ev.roomL (by omega) (by omega) (bk _ _ _ _ _ _ _ _ _ hN1 hN2 (hinv.mono (by omega) hK))
    · rw [if_neg q7]
      refine Ev.sg hX sL_law_1994 (pc' := 1999) (ls' := [some (.ref (BIG + 300)), some (.ref (0)), some (.ref (396)), some (.ref (405)), some (.ref (406)), some (.int (nI i)), some (.int (c)), some (.int (w8)), l8]) (st' := [.long (1), .long (1)]) (h' := (N1, SH v1 T1, J, L1, D1)) rfl ?_
      refine Ev.sg hX sL_law_1999 (pc' := 2000) (ls' := [some (.ref (BIG + 300)), some (.ref (0)), some (.ref (396)), some (.ref (405)), some (.ref (406)), some (.int (nI i)), some (.int (c)), some (.int (w8)), l8]) (st' := [.int (lg_cmp 1 1)]) (h' := (N1, SH v1 T1, J, L1, D1)) rfl ?_
      rw [lcmp_self]
      refine Ev.if_eq (tgt := 2005) dL_law_2000 (by decide) (fun _ => ?_) (fun q => absurd rfl q)
      refine Ev.sg hX sL_law_2005 (pc' := 2699) (ls' := [some (.ref (BIG + 300)), some (.ref (0)), some (.ref (396)), some (.ref (405)), some (.ref (406)), some (.int (nI i)), some (.int (c)), some (.int (w8)), l8]) (st' := []) (h' := (N1, SH v1 T1, J, L1, D1)) rfl ?_
      exact Ev.roomL (by omega) (by omega) (bk _ _ _ _ _ _ _ _ _ hN1 hN2 (hinv.mono (by omega) hK))
theorem br_carsFor (hX : JXok X) (hI : INV K N v T I L Dd) (hK : K + 8 ≤ 5000) (hN : N + 1500 < BIG) (hs : i + 6 ≤ jSn X ∧ jSn X ≤ 3072) (hm : 1160 ≤ mc ∧ 1160 ≤ ms) (bk : BK X mc ms N (K + 8) i) : Ev X (jm jdL_law) 20 mc ms lwR 2008 (lsW i l6 l7 l8) [] (N, SH v T, I, L, Dd) := by
  have hI0 := hI
  obtain ⟨g, gs, d, sv, qq, tx, er, fl, w, hp, hq⟩ := hI
  have hN4 := hp.N4
  refine Ev.sg hX sL_law_2008 (pc' := 2014) (ls' := [some (.ref (BIG + 300)), some (.ref (0)), some (.ref (396)), some (.ref (405)), some (.ref (406)), some (.int (nI i)), l6, l7, l8]) (st' := [.int ((nI i) + 1), .ref (BIG + 300), .ref (0)]) (h' := (N, SH v T, I, L, Dd)) rfl ?_
  refine Ev.ialdX (n := i + 1) (naI rfl rfl) (by omega) (by omega) dL_law_2014 ?_
  show Ev _ _ _ _ _ _ 2015 [some (.ref (BIG + 300)), some (.ref (0)), some (.ref (396)), some (.ref (405)), some (.ref (406)), some (.int (nI i)), l6, l7, l8] [.int (jSf X (i + 1)), .ref (0)] (N, SH v T, I, L, Dd)
  refine Ev.sg hX sL_law_2015 (pc' := 2016) (ls' := [some (.ref (BIG + 300)), some (.ref (0)), some (.ref (396)), some (.ref (405)), some (.ref (406)), some (.int (nI i)), l6, l7, l8]) (st' := [.ref (405), .int (jSf X (i + 1)), .ref (0)]) (h' := (N, SH v T, I, L, Dd)) rfl ?_
  obtain ⟨Q', C, hC⟩ := CLS.cr (show CLS X _ _ _ jdX6_carsFor [.int (jSf X (i + 1))] jdX7_carsFor [.int (jSf X (i + 1))] _ _ N v T I L Dd from b_carsFor hX hp hq (by omega))
  refine Ev.callSX (As := [.ref (0), .int (jSf X (i + 1)), .ref (405)]) (rest := []) dhL_carsFor mkL_249 dL_law_2016 (wL_carsFor hX rfl C (cr_hI hC) (fun E h' e => by obtain ⟨k, hk⟩ := cr_ex hC e; exact xor1 hk)) ⟨by decide, by decide⟩ ⟨by omega, by omega⟩ rfl (Nat.le_of_ble_eq_true rfl) (fun v9 h9 e9 => ?_) (fun E9 h9 e9 => (wq_no e9).elim)
  obtain ⟨N1, v1, T1, I1, L1, D1, c, hN1, hN2, e8, hM⟩ := wq_g (G := GI) hC (cd_of (l := ["java/lang/IllegalArgumentException"]) (by decide +kernel) (by decide)) (fun x N1 v1 T1 I1 L1 h2 hb hw => w_I hw) e9
  cases e8
  show Ev _ _ _ _ _ _ 2019 [some (.ref (BIG + 300)), some (.ref (0)), some (.ref (396)), some (.ref (405)), some (.ref (406)), some (.int (nI i)), l6, l7, l8] [.int (c)] (N1, SH v1 T1, I1, L1, D1)
  refine Ev.sg hX sL_law_2019 (pc' := 2027) (ls' := [some (.ref (BIG + 300)), some (.ref (0)), some (.ref (396)), some (.ref (405)), some (.ref (406)), some (.int (nI i)), some (.int (c)), l7, l8]) (st' := [.int ((nI i) + 1), .ref (BIG + 300), .ref (396)]) (h' := (N1, SH v1 T1, I1, L1, D1)) rfl ?_
  refine Ev.ialdX (n := i + 1) (naI rfl rfl) (by omega) (by omega) dL_law_2027 ?_
  show Ev _ _ _ _ _ _ 2028 [some (.ref (BIG + 300)), some (.ref (0)), some (.ref (396)), some (.ref (405)), some (.ref (406)), some (.int (nI i)), some (.int (c)), l7, l8] [.int (jSf X (i + 1)), .ref (396)] (N1, SH v1 T1, I1, L1, D1)
  refine Ev.callV (As := [.int (jSf X (i + 1))]) (rest := []) dvX7_carsFor mkL_251 rfl rfl dL_law_2028 hM ⟨by decide, by decide⟩ ⟨Nat.zero_le _, Nat.zero_le _⟩ rfl (Nat.le_of_ble_eq_true rfl) (fun v9 h9 e9 => ?_) (fun E9 h9 e9 => by obtain ⟨_, _, e, _⟩ := e9; cases e)
  obtain ⟨b, J, e7, ⟨⟨x8, w8, f1, f2⟩, hG⟩, h12, hinv⟩ := e9
  cases e7
  subst f2
  show Ev _ _ _ _ _ _ 2031 [some (.ref (BIG + 300)), some (.ref (0)), some (.ref (396)), some (.ref (405)), some (.ref (406)), some (.int (nI i)), some (.int (c)), l7, l8] [.int (w8)] (N1, SH v1 T1, J, L1, D1)
  refine Ev.sg hX sL_law_2031 (pc' := 2034) (ls' := [some (.ref (BIG + 300)), some (.ref (0)), some (.ref (396)), some (.ref (405)), some (.ref (406)), some (.int (nI i)), some (.int (c)), some (.int (w8)), l8]) (st' := [.ref (396)]) (h' := (N1, SH v1 T1, J, L1, D1)) rfl ?_
  refine Ev.callV (As := []) (rest := []) dvX7_thrown mkL_156 rfl rfl dL_law_2034 (m_thrown (d := 12) hX (by decide)) ⟨by decide, by decide⟩ ⟨Nat.zero_le _, Nat.zero_le _⟩ rfl (Nat.le_of_ble_eq_true rfl) (fun v9 h9 e9 => ?_) (fun E9 h9 e9 => nomatch e9)
  cases e9
  show Ev _ _ _ _ _ _ 2037 [some (.ref (BIG + 300)), some (.ref (0)), some (.ref (396)), some (.ref (405)), some (.ref (406)), some (.int (nI i)), some (.int (c)), some (.int (w8)), l8] [.int (J 396 12)] (N1, SH v1 T1, J, L1, D1)
  rw [h12]
  refine Ev.sg hX sL_law_2037 (pc' := 2039) (ls' := [some (.ref (BIG + 300)), some (.ref (0)), some (.ref (396)), some (.ref (405)), some (.ref (406)), some (.int (nI i)), some (.int (c)), some (.int (w8)), l8]) (st' := [.int (c), .int (c)]) (h' := (N1, SH v1 T1, J, L1, D1)) rfl ?_
  refine Ev.icmp_eq (tgt := 2044) dL_law_2039 (by decide) (fun _ => ?_) (fun q => absurd rfl q)
  refine Ev.sg hX sL_law_2044 (pc' := 2046) (ls' := [some (.ref (BIG + 300)), some (.ref (0)), some (.ref (396)), some (.ref (405)), some (.ref (406)), some (.int (nI i)), some (.int (c)), some (.int (w8)), l8]) (st' := [.int (c)]) (h' := (N1, SH v1 T1, J, L1, D1)) rfl ?_
  refine Ev.if_ne (tgt := 2061) dL_law_2046 (by decide) (fun hc0 => ?_) (fun hc0 => ?_)
  · refine Ev.sg hX sL_law_2061 (pc' := 2699) (ls' := [some (.ref (BIG + 300)), some (.ref (0)), some (.ref (396)), some (.ref (405)), some (.ref (406)), some (.int (nI i)), some (.int (c)), some (.int (w8)), l8]) (st' := []) (h' := (N1, SH v1 T1, J, L1, D1)) rfl ?_
    exact Ev.roomL (by omega) (by omega) (bk _ _ _ _ _ _ _ _ _ hN1 hN2 (hinv.mono (by omega) hK))
  · refine Ev.sg hX sL_law_2049 (pc' := 2051) (ls' := [some (.ref (BIG + 300)), some (.ref (0)), some (.ref (396)), some (.ref (405)), some (.ref (406)), some (.int (nI i)), some (.int (c)), some (.int (w8)), l8]) (st' := [.int (0), .ref (405)]) (h' := (N1, SH v1 T1, J, L1, D1)) rfl ?_
    refine Ev.lald (n := 1) rfl (vp_in_nI (n := 0) (N := 1) (by decide) (by decide)) dL_law_2051 ?_
    show Ev _ _ _ _ _ _ 2052 [some (.ref (BIG + 300)), some (.ref (0)), some (.ref (396)), some (.ref (405)), some (.ref (406)), some (.int (nI i)), some (.int (c)), some (.int (w8)), l8] [.long (L1 405 0)] (N1, SH v1 T1, J, L1, D1)
    rw [gi_eq (hG hc0)]
    refine Ev.sg hX sL_law_2052 (pc' := 2056) (ls' := [some (.ref (BIG + 300)), some (.ref (0)), some (.ref (396)), some (.ref (405)), some (.ref (406)), some (.int (nI i)), some (.int (c)), some (.int (w8)), l8]) (st' := [.int (lg_cmp w8.toInt64 w8.toInt64)]) (h' := (N1, SH v1 T1, J, L1, D1)) rfl ?_
    rw [lcmp_self]
    refine Ev.if_eq (tgt := 2061) dL_law_2056 (by decide) (fun _ => ?_) (fun q => absurd rfl q)
    refine Ev.sg hX sL_law_2061 (pc' := 2699) (ls' := [some (.ref (BIG + 300)), some (.ref (0)), some (.ref (396)), some (.ref (405)), some (.ref (406)), some (.int (nI i)), some (.int (c)), some (.int (w8)), l8]) (st' := []) (h' := (N1, SH v1 T1, J, L1, D1)) rfl ?_
    exact Ev.roomL (by omega) (by omega) (bk _ _ _ _ _ _ _ _ _ hN1 hN2 (hinv.mono (by omega) hK))
theorem br_carAtRank (hX : JXok X) (hI : INV K N v T I L Dd) (hK : K + 8 ≤ 5000) (hN : N + 1500 < BIG) (hs : i + 6 ≤ jSn X ∧ jSn X ≤ 3072) (hm : 1160 ≤ mc ∧ 1160 ≤ ms) (bk : BK X mc ms N (K + 8) i) : Ev X (jm jdL_law) 20 mc ms lwR 2064 (lsW i l6 l7 l8) [] (N, SH v T, I, L, Dd) := by
  have hI0 := hI
  obtain ⟨g, gs, d, sv, qq, tx, er, fl, w, hp, hq⟩ := hI
  have hN4 := hp.N4
  refine Ev.sg hX sL_law_2064 (pc' := 2070) (ls' := [some (.ref (BIG + 300)), some (.ref (0)), some (.ref (396)), some (.ref (405)), some (.ref (406)), some (.int (nI i)), l6, l7, l8]) (st' := [.int ((nI i) + 1), .ref (BIG + 300), .ref (0)]) (h' := (N, SH v T, I, L, Dd)) rfl ?_
  refine Ev.ialdX (n := i + 1) (naI rfl rfl) (by omega) (by omega) dL_law_2070 ?_
  show Ev _ _ _ _ _ _ 2071 [some (.ref (BIG + 300)), some (.ref (0)), some (.ref (396)), some (.ref (405)), some (.ref (406)), some (.int (nI i)), l6, l7, l8] [.int (jSf X (i + 1)), .ref (0)] (N, SH v T, I, L, Dd)
  refine Ev.sg hX sL_law_2071 (pc' := 2072) (ls' := [some (.ref (BIG + 300)), some (.ref (0)), some (.ref (396)), some (.ref (405)), some (.ref (406)), some (.int (nI i)), l6, l7, l8]) (st' := [.ref (405), .int (jSf X (i + 1)), .ref (0)]) (h' := (N, SH v T, I, L, Dd)) rfl ?_
  obtain ⟨Q', C, hC⟩ := CLS.cr (show CLS X _ _ _ jdX6_carAtRank [.int (jSf X (i + 1))] jdX7_carAtRank [.int (jSf X (i + 1))] _ _ N v T I L Dd from b_carAtRank hX hp hq (by omega))
  refine Ev.callSX (As := [.ref (0), .int (jSf X (i + 1)), .ref (405)]) (rest := []) dhL_carAtRank mkL_252 dL_law_2072 (wL_carAtRank hX rfl C (cr_hI hC) (fun E h' e => by obtain ⟨k, hk⟩ := cr_ex hC e; exact xor1 hk)) ⟨by decide, by decide⟩ ⟨by omega, by omega⟩ rfl (Nat.le_of_ble_eq_true rfl) (fun v9 h9 e9 => ?_) (fun E9 h9 e9 => (wq_no e9).elim)
  obtain ⟨N1, v1, T1, I1, L1, D1, c, hN1, hN2, e8, hM⟩ := wq_g (G := GI) hC (cd_of (l := ["java/util/NoSuchElementException"]) (by decide +kernel) (by decide)) (fun x N1 v1 T1 I1 L1 h2 hb hw => w_I hw) e9
  cases e8
  show Ev _ _ _ _ _ _ 2075 [some (.ref (BIG + 300)), some (.ref (0)), some (.ref (396)), some (.ref (405)), some (.ref (406)), some (.int (nI i)), l6, l7, l8] [.int (c)] (N1, SH v1 T1, I1, L1, D1)
  refine Ev.sg hX sL_law_2075 (pc' := 2083) (ls' := [some (.ref (BIG + 300)), some (.ref (0)), some (.ref (396)), some (.ref (405)), some (.ref (406)), some (.int (nI i)), some (.int (c)), l7, l8]) (st' := [.int ((nI i) + 1), .ref (BIG + 300), .ref (396)]) (h' := (N1, SH v1 T1, I1, L1, D1)) rfl ?_
  refine Ev.ialdX (n := i + 1) (naI rfl rfl) (by omega) (by omega) dL_law_2083 ?_
  show Ev _ _ _ _ _ _ 2084 [some (.ref (BIG + 300)), some (.ref (0)), some (.ref (396)), some (.ref (405)), some (.ref (406)), some (.int (nI i)), some (.int (c)), l7, l8] [.int (jSf X (i + 1)), .ref (396)] (N1, SH v1 T1, I1, L1, D1)
  refine Ev.callV (As := [.int (jSf X (i + 1))]) (rest := []) dvX7_carAtRank mkL_254 rfl rfl dL_law_2084 hM ⟨by decide, by decide⟩ ⟨Nat.zero_le _, Nat.zero_le _⟩ rfl (Nat.le_of_ble_eq_true rfl) (fun v9 h9 e9 => ?_) (fun E9 h9 e9 => by obtain ⟨_, _, e, _⟩ := e9; cases e)
  obtain ⟨b, J, e7, ⟨⟨x8, w8, f1, f2⟩, hG⟩, h12, hinv⟩ := e9
  cases e7
  subst f2
  show Ev _ _ _ _ _ _ 2087 [some (.ref (BIG + 300)), some (.ref (0)), some (.ref (396)), some (.ref (405)), some (.ref (406)), some (.int (nI i)), some (.int (c)), l7, l8] [.int (w8)] (N1, SH v1 T1, J, L1, D1)
  refine Ev.sg hX sL_law_2087 (pc' := 2090) (ls' := [some (.ref (BIG + 300)), some (.ref (0)), some (.ref (396)), some (.ref (405)), some (.ref (406)), some (.int (nI i)), some (.int (c)), some (.int (w8)), l8]) (st' := [.ref (396)]) (h' := (N1, SH v1 T1, J, L1, D1)) rfl ?_
  refine Ev.callV (As := []) (rest := []) dvX7_thrown mkL_156 rfl rfl dL_law_2090 (m_thrown (d := 12) hX (by decide)) ⟨by decide, by decide⟩ ⟨Nat.zero_le _, Nat.zero_le _⟩ rfl (Nat.le_of_ble_eq_true rfl) (fun v9 h9 e9 => ?_) (fun E9 h9 e9 => nomatch e9)
  cases e9
  show Ev _ _ _ _ _ _ 2093 [some (.ref (BIG + 300)), some (.ref (0)), some (.ref (396)), some (.ref (405)), some (.ref (406)), some (.int (nI i)), some (.int (c)), some (.int (w8)), l8] [.int (J 396 12)] (N1, SH v1 T1, J, L1, D1)
  rw [h12]
  refine Ev.sg hX sL_law_2093 (pc' := 2095) (ls' := [some (.ref (BIG + 300)), some (.ref (0)), some (.ref (396)), some (.ref (405)), some (.ref (406)), some (.int (nI i)), some (.int (c)), some (.int (w8)), l8]) (st' := [.int (c), .int (c)]) (h' := (N1, SH v1 T1, J, L1, D1)) rfl ?_
  refine Ev.icmp_eq (tgt := 2100) dL_law_2095 (by decide) (fun _ => ?_) (fun q => absurd rfl q)
  refine Ev.sg hX sL_law_2100 (pc' := 2102) (ls' := [some (.ref (BIG + 300)), some (.ref (0)), some (.ref (396)), some (.ref (405)), some (.ref (406)), some (.int (nI i)), some (.int (c)), some (.int (w8)), l8]) (st' := [.int (c)]) (h' := (N1, SH v1 T1, J, L1, D1)) rfl ?_
  refine Ev.if_ne (tgt := 2117) dL_law_2102 (by decide) (fun hc0 => ?_) (fun hc0 => ?_)
  · refine Ev.sg hX sL_law_2117 (pc' := 2699) (ls' := [some (.ref (BIG + 300)), some (.ref (0)), some (.ref (396)), some (.ref (405)), some (.ref (406)), some (.int (nI i)), some (.int (c)), some (.int (w8)), l8]) (st' := []) (h' := (N1, SH v1 T1, J, L1, D1)) rfl ?_
    exact Ev.roomL (by omega) (by omega) (bk _ _ _ _ _ _ _ _ _ hN1 hN2 (hinv.mono (by omega) hK))
  · refine Ev.sg hX sL_law_2105 (pc' := 2107) (ls' := [some (.ref (BIG + 300)), some (.ref (0)), some (.ref (396)), some (.ref (405)), some (.ref (406)), some (.int (nI i)), some (.int (c)), some (.int (w8)), l8]) (st' := [.int (0), .ref (405)]) (h' := (N1, SH v1 T1, J, L1, D1)) rfl ?_
    refine Ev.lald (n := 1) rfl (vp_in_nI (n := 0) (N := 1) (by decide) (by decide)) dL_law_2107 ?_
    show Ev _ _ _ _ _ _ 2108 [some (.ref (BIG + 300)), some (.ref (0)), some (.ref (396)), some (.ref (405)), some (.ref (406)), some (.int (nI i)), some (.int (c)), some (.int (w8)), l8] [.long (L1 405 0)] (N1, SH v1 T1, J, L1, D1)
    rw [gi_eq (hG hc0)]
    refine Ev.sg hX sL_law_2108 (pc' := 2112) (ls' := [some (.ref (BIG + 300)), some (.ref (0)), some (.ref (396)), some (.ref (405)), some (.ref (406)), some (.int (nI i)), some (.int (c)), some (.int (w8)), l8]) (st' := [.int (lg_cmp w8.toInt64 w8.toInt64)]) (h' := (N1, SH v1 T1, J, L1, D1)) rfl ?_
    rw [lcmp_self]
    refine Ev.if_eq (tgt := 2117) dL_law_2112 (by decide) (fun _ => ?_) (fun q => absurd rfl q)
    refine Ev.sg hX sL_law_2117 (pc' := 2699) (ls' := [some (.ref (BIG + 300)), some (.ref (0)), some (.ref (396)), some (.ref (405)), some (.ref (406)), some (.int (nI i)), some (.int (c)), some (.int (w8)), l8]) (st' := []) (h' := (N1, SH v1 T1, J, L1, D1)) rfl ?_
    exact Ev.roomL (by omega) (by omega) (bk _ _ _ _ _ _ _ _ _ hN1 hN2 (hinv.mono (by omega) hK))
end LBY
