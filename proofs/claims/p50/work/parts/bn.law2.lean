/-! the law's walk: the run against the calls, taken back; programs that fail -/
section LW2
variable {X : JX} {mc ms : Nat} {Q : JR → Prop} {h : MH} {bY n Kx Ky K0 : Nat} {now : Int32} {s sx sy : GS}
/-- x behind the run of the first text -/
def xr (s : GS) (n : Nat) : GS := (canonG (r3 s.1 n), pushG s.2.1 s.2.2.1 s.1, min 8 (s.2.2.1 + 1), s.2.2.2.1, 0, ((T1 n).foldl appS s).2.2.2.2.2.1, s.2.2.2.2.2.2.1, s.2.2.2.2.2.2.2.1, s.2.2.2.2.2.2.2.2)
set_option maxRecDepth 100000 in
theorem law_3a (hX : JXok X) (hM : jM X ≤ 396) (bY4 : 396 ≤ bY) (h7 : n < 7) (ox : OB Kx 0 395 ((T1 n).foldl appS sx) h) (oy : OB Ky bY 395 s h) (R : rnG ((T1 n).foldl appS sx) = (3, 0, xr sx n)) (hn : s.1 0 = n) (hK : Kx + 8 ≤ 4000 ∧ Ky + 3 ≤ 4000) (hN : zN h ≤ 8000) (hm : 100 ≤ mc ∧ 1000 ≤ ms)
    (kk : ∀ h' mc' ms', OB (Kx + 8) 0 395 (xr sx n) h' → OB (Ky + 1 + 1) bY 395 (y2 s) h' → zN h' ≤ zN h + 12 → mc - 12 ≤ mc' → ms - 72 ≤ ms' → Ev X (jm jdL_law) 17 mc' ms' Q 102 [some (.ref (BIG + 300)), some (.ref 0), some (.ref bY), some (.int now), some (.int (nI n)), none, none, none, none] [] h') :
    Ev X (jm jdL_law) 17 mc ms Q 68 [some (.ref (BIG + 300)), some (.ref 0), some (.ref bY), some (.int now), some (.int (nI n)), none, none, none, none] [] h := by
  have b0 : (0 : Nat) = 0 ∨ 396 ≤ 0 := Or.inl rfl
  have by0 : bY = 0 ∨ 396 ≤ bY := Or.inr bY4
  have hBIG : 100000 < BIG := by decide
  have djx : DJ bY 395 0 395 := dj_of (Or.inr (by omega))
  have djy : DJ 0 395 bY 395 := dj_of (Or.inl (by omega))
  obtain ⟨v1, cd1, e1⟩ := y1_ok hn h7
  obtain ⟨v2, cd2, e2⟩ := y2_ok hn h7
  obtain ⟨s2, hs2⟩ : ∃ t, t = xr sx n := ⟨_, rfl⟩
  obtain ⟨s1, hs1⟩ : ∃ t, t = (T1 n).foldl appS sx := ⟨_, rfl⟩
  rw [← hs2] at R kk
  rw [← hs1] at R ox
  refine Ev.sg hX sL_law_68 (pc' := 69) (ls' := [some (.ref (BIG + 300)), some (.ref 0), some (.ref bY), some (.int now), some (.int (nI n)), none, none, none, none]) (st' := [.ref 0]) (h' := h) rfl ?_
  refine Ev.askW (K' := Kx + 8) (mc1 := 4) (ms1 := 24) (As := []) (rest := []) (xs := [xIA, xUO]) (val := some (.int (3))) (s' := s2) hX hM b0 by0 djx ox oy (by omega) dvX6_run mkL_164 rfl dL_law_69 (by decide) (by decide) ⟨⟨by omega, by omega⟩, by omega, by omega⟩ rfl (Nat.le_of_ble_eq_true rfl) nr_0 (fun _ => rfl) (by decide) (fun X' T I L D hX' c9 => by
    have q := q_run hX' c9 (by omega) (by omega)
    have R' := R
    unfold rnG at R'
    rw [R'] at q
    exact q) (fun g1 mc1 ms1 a1 c1 o1 p1 m1 k1 => ?_)
  show Ev _ _ _ _ _ _ 72 [some (.ref (BIG + 300)), some (.ref 0), some (.ref bY), some (.int now), some (.int (nI n)), none, none, none, none] [.int (3)] g1
  refine Ev.sg hX sL_law_72 (pc' := 73) (ls' := [some (.ref (BIG + 300)), some (.ref 0), some (.ref bY), some (.int now), some (.int (nI n)), none, none, none, none]) (st' := [.int 3, .int 3]) (h' := g1) rfl ?_
  refine Ev.icmp_ne (tgt := 127) dL_law_73 (by decide) (fun b1 => absurd rfl b1) (fun _ => ?_)
  refine Ev.sg hX sL_law_76 (pc' := 80) (ls' := [some (.ref (BIG + 300)), some (.ref 0), some (.ref bY), some (.int now), some (.int (nI n)), none, none, none, none]) (st' := [.int 1, .int 30, .ref bY]) (h' := g1) rfl ?_
  refine Ev.askW (K' := Ky + 1) (mc1 := 4) (ms1 := 24) (As := [.int 30, .int 1]) (rest := []) (xs := xsK 0) (val := some (.int (nI n))) (s' := y1 s) hX hM by0 b0 djy p1 o1 (by omega) dvX6_addTrack mkL_41 rfl dL_law_80 (by decide) (by decide) ⟨⟨by omega, by omega⟩, by omega, by omega⟩ rfl (Nat.le_of_ble_eq_true rfl) nr_2 (fun _ => rfl) (by decide) (fun X' T I L D hX' c9 => by
    have q := q_addTrack (a := 30) (b := 1) hX' c9 (by omega) (by omega)
    have v1' := v1
    have cd1' := cd1
    unfold cmF at v1' cd1'
    rw [v1', cd1'] at q
    exact q) (fun g2 mc2 ms2 a2 c2 o2 p2 m2 k2 => ?_)
  show Ev _ _ _ _ _ _ 83 [some (.ref (BIG + 300)), some (.ref 0), some (.ref bY), some (.int now), some (.int (nI n)), none, none, none, none] [.int (nI n)] g2
  refine Ev.sg hX sL_law_83 (pc' := 85) (ls' := [some (.ref (BIG + 300)), some (.ref 0), some (.ref bY), some (.int now), some (.int (nI n)), none, none, none, none]) (st' := [.int (nI n), .int (nI n)]) (h' := g2) rfl ?_
  refine Ev.icmp_ne (tgt := 127) dL_law_85 (by decide) (fun b1 => absurd rfl b1) (fun _ => ?_)
  refine Ev.sg hX sL_law_88 (pc' := 92) (ls' := [some (.ref (BIG + 300)), some (.ref 0), some (.ref bY), some (.int now), some (.int (nI n)), none, none, none, none]) (st' := [.int 5, .int 99, .ref bY]) (h' := g2) rfl ?_
  refine Ev.askW (K' := Ky + 1 + 1) (mc1 := 4) (ms1 := 24) (As := [.int 99, .int 5]) (rest := []) (xs := xsK 0) (val := some (.int (nI (n + 1)))) (s' := y2 s) hX hM by0 b0 djy o2 p2 (by omega) dvX6_addTrack mkL_41 rfl dL_law_92 (by decide) (by decide) ⟨⟨by omega, by omega⟩, by omega, by omega⟩ rfl (Nat.le_of_ble_eq_true rfl) nr_2 (fun _ => rfl) (by decide) (fun X' T I L D hX' c9 => by
    have q := q_addTrack (a := 99) (b := 5) hX' c9 (by omega) (by omega)
    have v1' := v2
    have cd1' := cd2
    unfold cmF at v1' cd1'
    rw [v1', cd1'] at q
    exact q) (fun g3 mc3 ms3 a3 c3 o3 p3 m3 k3 => ?_)
  show Ev _ _ _ _ _ _ 95 [some (.ref (BIG + 300)), some (.ref 0), some (.ref bY), some (.int now), some (.int (nI n)), none, none, none, none] [.int (nI (n + 1))] g3
  refine Ev.sg hX sL_law_95 (pc' := 99) (ls' := [some (.ref (BIG + 300)), some (.ref 0), some (.ref bY), some (.int now), some (.int (nI n)), none, none, none, none]) (st' := [.int (nI n + 1), .int (nI (n + 1))]) (h' := g3) rfl ?_
  refine Ev.icmp_ne (tgt := 127) dL_law_99 (by decide) (fun b1 => absurd (by rw [nI_1]) b1) (fun _ => ?_)
  exact kk g3 _ _ p3 o3 (by omega) (by omega) (by omega)
set_option maxRecDepth 100000 in
theorem law_3b (hX : JXok X) (hM : jM X ≤ 396) (bY4 : 396 ≤ bY) (h7 : n < 7) (ox : OB Kx 0 395 sx h) (oy : OB Ky bY 395 (y2 s) h) (W : WG K0 s.1) (hc : cano s.1) (hn : s.1 0 = n) (eg : sx.1 = (y3 s n).1) (hK : Ky + 1 ≤ 4000) (hN : zN h ≤ 8100) (hm : 6000 ≤ mc ∧ 40000 ≤ ms)
    (kk : ∀ h' mc' ms', OB Kx 0 395 sx h' → OB (Ky + 1) bY 395 (y3 s n) h' → zN h' ≤ zN h + 5000 → mc - 5000 ≤ mc' → ms - 32000 ≤ ms' → Ev X (jm jdL_law) 17 mc' ms' Q 129 [some (.ref (BIG + 300)), some (.ref 0), some (.ref bY), some (.int now), some (.int (nI n)), none, none, none, none] [] h') :
    Ev X (jm jdL_law) 17 mc ms Q 102 [some (.ref (BIG + 300)), some (.ref 0), some (.ref bY), some (.int now), some (.int (nI n)), none, none, none, none] [] h := by
  have b0 : (0 : Nat) = 0 ∨ 396 ≤ 0 := Or.inl rfl
  have by0 : bY = 0 ∨ 396 ≤ bY := Or.inr bY4
  have hBIG : 100000 < BIG := by decide
  have djx : DJ bY 395 0 395 := dj_of (Or.inr (by omega))
  have djy : DJ 0 395 bY 395 := dj_of (Or.inl (by omega))
  obtain ⟨⟨q, q1, q64, v3⟩, cd3, e3⟩ := y3_ok W hc hn h7
  obtain ⟨s3, hs3⟩ : ∃ t, t = y3 s n := ⟨_, rfl⟩
  obtain ⟨s2, hs2⟩ : ∃ t, t = y2 s := ⟨_, rfl⟩
  have e9 : s3 = cmG s2 (nI n) (nI (n + 1)) 0 0 0 1 := by rw [hs3, hs2]; rfl
  rw [← hs3] at eg kk
  rw [← hs2] at oy v3 cd3
  refine Ev.sg hX sL_law_102 (pc' := 109) (ls' := [some (.ref (BIG + 300)), some (.ref 0), some (.ref bY), some (.int now), some (.int (nI n)), none, none, none, none]) (st' := [.int (nI n + 1), .int (nI n), .ref bY]) (h' := h) rfl ?_
  rw [nI_1]
  refine Ev.askW (K' := Ky + 1) (mc1 := 4) (ms1 := 24) (As := [.int (nI n), .int (nI (n + 1))]) (rest := []) (xs := xsK 1) (val := some (.int (nI q))) (s' := s3) hX hM by0 b0 djy oy ox (by omega) dvX6_connect mkL_45 rfl dL_law_109 (by decide) (by decide) ⟨⟨by omega, by omega⟩, by omega, by omega⟩ rfl (Nat.le_of_ble_eq_true rfl) nr_2 (fun _ => rfl) (by decide) (fun X' T I L D hX' c9 => by
    have q := q_connect (a := nI n) (b := nI (n + 1)) hX' c9 (by omega) (by omega)
    have v1' := v3
    have cd1' := cd3
    unfold cmF at v1' cd1'
    rw [v1', cd1'] at q
    rw [e9]
    exact q) (fun g1 mc1 ms1 a1 c1 o1 p1 m1 k1 => ?_)
  show Ev _ _ _ _ _ _ 112 [some (.ref (BIG + 300)), some (.ref 0), some (.ref bY), some (.int now), some (.int (nI n)), none, none, none, none] [.int (nI q)] g1
  refine Ev.sg hX sL_law_112 (pc' := 113) (ls' := [some (.ref (BIG + 300)), some (.ref 0), some (.ref bY), some (.int now), some (.int (nI n)), none, none, none, none]) (st' := [.int 1, .int (nI q)]) (h' := g1) rfl ?_
  refine Ev.icmp_lt (tgt := 127) dL_law_113 (by decide) (fun b1 => absurd ((nI_ltI (a := q) (b := 1) (by omega) (by omega)).mp b1) (by omega)) (fun _ => ?_)
  refine Ev.sg hX sL_law_116 (pc' := 117) (ls' := [some (.ref (BIG + 300)), some (.ref 0), some (.ref bY), some (.int now), some (.int (nI n)), none, none, none, none]) (st' := [.ref 0]) (h' := g1) rfl ?_
  refine Ev.lawW (As := [.ref 0]) (rest := []) b0 by0 djx o1 dsL_state mkL_139 dL_law_117 (c_state hX hM b0 p1 (by omega)) ⟨by decide, by show 7 + 19 + 40 * _ ≤ 40 * _; omega⟩ ⟨by omega, by omega⟩ rfl (Nat.le_of_ble_eq_true rfl) (fun g2 mc2 ms2 a2 c2 o2 p2 m2 k2 => ?_)
  show Ev _ _ _ _ _ _ 120 [some (.ref (BIG + 300)), some (.ref 0), some (.ref bY), some (.int now), some (.int (nI n)), none, none, none, none] [.int (stGF sx.1)] g2
  refine Ev.sg hX sL_law_120 (pc' := 121) (ls' := [some (.ref (BIG + 300)), some (.ref 0), some (.ref bY), some (.int now), some (.int (nI n)), none, none, none, none]) (st' := [.ref bY, .int (stGF sx.1)]) (h' := g2) rfl ?_
  refine Ev.lawW (As := [.ref bY]) (rest := [.int (stGF sx.1)]) by0 b0 djy o2 dsL_state mkL_139 dL_law_121 (c_state hX hM by0 p2 (by omega)) ⟨by decide, by show 7 + 19 + 40 * _ ≤ 40 * _; omega⟩ ⟨by omega, by omega⟩ rfl (Nat.le_of_ble_eq_true rfl) (fun g3 mc3 ms3 a3 c3 o3 p3 m3 k3 => ?_)
  show Ev _ _ _ _ _ _ 124 [some (.ref (BIG + 300)), some (.ref 0), some (.ref bY), some (.int now), some (.int (nI n)), none, none, none, none] [.int (stGF s3.1), .int (stGF sx.1)] g3
  refine Ev.icmp_eq (tgt := 129) dL_law_124 (by decide) (fun _ => ?_) (fun b1 => absurd (by rw [eg]) b1)
  exact kk g3 _ _ p3 o3 (by omega) (by omega) (by omega)
/-- a yard, one call back -/
def ub (s : GS) : GS := (s.2.1 (s.2.2.1 - 1), s.2.1, s.2.2.1 - 1, s.2.2.2)
theorem q_ub {X : JX} {K N v : Nat} {T : Nat → Option JS} {I : HI} {L : HL} {D : HD} (hX : JXok X) (c : CPs K N v T I L D s) (hN : N + 1 < BIG) (hd : ¬ s.2.2.1 = 0) : CQ X K 4 24 jdX6_undo [] [xIS] (some (.int (nI (s.2.2.1 - 1)))) 0 (ub s) N v T I L D := by
  have q := q_undo hX c hN
  rw [if_neg hd, if_neg hd] at q
  exact q
set_option maxRecDepth 100000 in
theorem law_4 (hX : JXok X) (hM : jM X ≤ 396) (bY4 : 396 ≤ bY) (ox : OB Kx 0 395 sx h) (oy : OB Ky bY 395 sy h) (hdx : 1 ≤ sx.2.2.1 ∧ sx.2.2.1 ≤ 8) (hgx : stGF (sx.2.1 (sx.2.2.1 - 1)) = now) (hdy : 3 ≤ sy.2.2.1 ∧ sy.2.2.1 ≤ 8) (hgy : stGF (sy.2.1 (sy.2.2.1 - 1 - 1 - 1)) = now) (hN : zN h ≤ 20000) (hm : 6000 ≤ mc ∧ 40000 ≤ ms)
    (kk : ∀ h' mc' ms', OB Kx 0 395 (ub sx) h' → OB Ky bY 395 (ub (ub (ub sy))) h' → zN h' ≤ zN h + 6000 → mc - 6000 ≤ mc' → ms - 40000 ≤ ms' → Ev X (jm jdL_law) 17 mc' ms' Q 175 [some (.ref (BIG + 300)), some (.ref 0), some (.ref bY), some (.int now), some (.int (nI n)), none, none, none, none] [] h') :
    Ev X (jm jdL_law) 17 mc ms Q 129 [some (.ref (BIG + 300)), some (.ref 0), some (.ref bY), some (.int now), some (.int (nI n)), none, none, none, none] [] h := by
  have b0 : (0 : Nat) = 0 ∨ 396 ≤ 0 := Or.inl rfl
  have by0 : bY = 0 ∨ 396 ≤ bY := Or.inr bY4
  have hBIG : 100000 < BIG := by decide
  have djx : DJ bY 395 0 395 := dj_of (Or.inr (by omega))
  have djy : DJ 0 395 bY 395 := dj_of (Or.inl (by omega))
  refine Ev.sg hX sL_law_129 (pc' := 130) (ls' := [some (.ref (BIG + 300)), some (.ref 0), some (.ref bY), some (.int now), some (.int (nI n)), none, none, none, none]) (st' := [.ref 0]) (h' := h) rfl ?_
  refine Ev.askW (K' := Kx) (mc1 := 4) (ms1 := 24) (As := []) (rest := []) (xs := [xIS]) (val := some (.int (nI (sx.2.2.1 - 1)))) (s' := ub sx) hX hM b0 by0 djx ox oy (by omega) dvX6_undo mkL_167 rfl dL_law_130 (by decide) (by decide) ⟨⟨by omega, by omega⟩, by omega, by omega⟩ rfl (Nat.le_of_ble_eq_true rfl) nr_0 (fun _ => rfl) (by decide) (fun X' T I L D hX' c9 => q_ub hX' c9 (by omega) (by omega)) (fun g1 mc1 ms1 a1 c1 o1 p1 m1 k1 => ?_)
  show Ev _ _ _ _ _ _ 133 [some (.ref (BIG + 300)), some (.ref 0), some (.ref bY), some (.int now), some (.int (nI n)), none, none, none, none] [.int (nI (sx.2.2.1 - 1))] g1
  refine Ev.if_lt (tgt := 173) dL_law_133 (by decide) (fun b1 => absurd b1 (nI_pos (by omega))) (fun _ => ?_)
  refine Ev.sg hX sL_law_136 (pc' := 137) (ls' := [some (.ref (BIG + 300)), some (.ref 0), some (.ref bY), some (.int now), some (.int (nI n)), none, none, none, none]) (st' := [.ref 0]) (h' := g1) rfl ?_
  refine Ev.lawW (As := [.ref 0]) (rest := []) b0 by0 djx p1 dsL_state mkL_139 dL_law_137 (c_state hX hM b0 o1 (by omega)) ⟨by decide, by show 7 + 19 + 40 * _ ≤ 40 * _; omega⟩ ⟨by omega, by omega⟩ rfl (Nat.le_of_ble_eq_true rfl) (fun g2 mc2 ms2 a2 c2 o2 p2 m2 k2 => ?_)
  show Ev _ _ _ _ _ _ 140 [some (.ref (BIG + 300)), some (.ref 0), some (.ref bY), some (.int now), some (.int (nI n)), none, none, none, none] [.int (stGF (ub sx).1)] g2
  rw [show stGF (ub sx).1 = now from hgx]
  refine Ev.sg hX sL_law_140 (pc' := 141) (ls' := [some (.ref (BIG + 300)), some (.ref 0), some (.ref bY), some (.int now), some (.int (nI n)), none, none, none, none]) (st' := [.int now, .int now]) (h' := g2) rfl ?_
  refine Ev.icmp_ne (tgt := 173) dL_law_141 (by decide) (fun b1 => absurd rfl b1) (fun _ => ?_)
  refine Ev.sg hX sL_law_144 (pc' := 145) (ls' := [some (.ref (BIG + 300)), some (.ref 0), some (.ref bY), some (.int now), some (.int (nI n)), none, none, none, none]) (st' := [.ref bY]) (h' := g2) rfl ?_
  refine Ev.askW (K' := Ky) (mc1 := 4) (ms1 := 24) (As := []) (rest := []) (xs := [xIS]) (val := some (.int (nI (sy.2.2.1 - 1)))) (s' := ub sy) hX hM by0 b0 djy p2 o2 (by omega) dvX6_undo mkL_167 rfl dL_law_145 (by decide) (by decide) ⟨⟨by omega, by omega⟩, by omega, by omega⟩ rfl (Nat.le_of_ble_eq_true rfl) nr_0 (fun _ => rfl) (by decide) (fun X' T I L D hX' c9 => q_ub hX' c9 (by omega) (by show ¬ sy.2.2.1 = 0; omega)) (fun g3 mc3 ms3 a3 c3 o3 p3 m3 k3 => ?_)
  show Ev _ _ _ _ _ _ 148 [some (.ref (BIG + 300)), some (.ref 0), some (.ref bY), some (.int now), some (.int (nI n)), none, none, none, none] [.int (nI (sy.2.2.1 - 1))] g3
  refine Ev.if_lt (tgt := 173) dL_law_148 (by decide) (fun b1 => absurd b1 (nI_pos (by show sy.2.2.1 - 1 < _; omega))) (fun _ => ?_)
  refine Ev.sg hX sL_law_151 (pc' := 152) (ls' := [some (.ref (BIG + 300)), some (.ref 0), some (.ref bY), some (.int now), some (.int (nI n)), none, none, none, none]) (st' := [.ref bY]) (h' := g3) rfl ?_
  refine Ev.askW (K' := Ky) (mc1 := 4) (ms1 := 24) (As := []) (rest := []) (xs := [xIS]) (val := some (.int (nI ((ub sy).2.2.1 - 1)))) (s' := ub (ub sy)) hX hM by0 b0 djy o3 p3 (by omega) dvX6_undo mkL_167 rfl dL_law_152 (by decide) (by decide) ⟨⟨by omega, by omega⟩, by omega, by omega⟩ rfl (Nat.le_of_ble_eq_true rfl) nr_0 (fun _ => rfl) (by decide) (fun X' T I L D hX' c9 => q_ub hX' c9 (by omega) (by show ¬ sy.2.2.1 - 1 = 0; omega)) (fun g4 mc4 ms4 a4 c4 o4 p4 m4 k4 => ?_)
  show Ev _ _ _ _ _ _ 155 [some (.ref (BIG + 300)), some (.ref 0), some (.ref bY), some (.int now), some (.int (nI n)), none, none, none, none] [.int (nI ((ub sy).2.2.1 - 1))] g4
  refine Ev.if_lt (tgt := 173) dL_law_155 (by decide) (fun b1 => absurd b1 (nI_pos (by show sy.2.2.1 - 1 - 1 < _; omega))) (fun _ => ?_)
  refine Ev.sg hX sL_law_158 (pc' := 159) (ls' := [some (.ref (BIG + 300)), some (.ref 0), some (.ref bY), some (.int now), some (.int (nI n)), none, none, none, none]) (st' := [.ref bY]) (h' := g4) rfl ?_
  refine Ev.askW (K' := Ky) (mc1 := 4) (ms1 := 24) (As := []) (rest := []) (xs := [xIS]) (val := some (.int (nI ((ub (ub sy)).2.2.1 - 1)))) (s' := ub (ub (ub sy))) hX hM by0 b0 djy o4 p4 (by omega) dvX6_undo mkL_167 rfl dL_law_159 (by decide) (by decide) ⟨⟨by omega, by omega⟩, by omega, by omega⟩ rfl (Nat.le_of_ble_eq_true rfl) nr_0 (fun _ => rfl) (by decide) (fun X' T I L D hX' c9 => q_ub hX' c9 (by omega) (by show ¬ sy.2.2.1 - 1 - 1 = 0; omega)) (fun g5 mc5 ms5 a5 c5 o5 p5 m5 k5 => ?_)
  show Ev _ _ _ _ _ _ 162 [some (.ref (BIG + 300)), some (.ref 0), some (.ref bY), some (.int now), some (.int (nI n)), none, none, none, none] [.int (nI ((ub (ub sy)).2.2.1 - 1))] g5
  refine Ev.if_lt (tgt := 173) dL_law_162 (by decide) (fun b1 => absurd b1 (nI_pos (by show sy.2.2.1 - 1 - 1 - 1 < _; omega))) (fun _ => ?_)
  refine Ev.sg hX sL_law_165 (pc' := 166) (ls' := [some (.ref (BIG + 300)), some (.ref 0), some (.ref bY), some (.int now), some (.int (nI n)), none, none, none, none]) (st' := [.ref bY]) (h' := g5) rfl ?_
  refine Ev.lawW (As := [.ref bY]) (rest := []) by0 b0 djy p5 dsL_state mkL_139 dL_law_166 (c_state hX hM by0 o5 (by omega)) ⟨by decide, by show 7 + 19 + 40 * _ ≤ 40 * _; omega⟩ ⟨by omega, by omega⟩ rfl (Nat.le_of_ble_eq_true rfl) (fun g6 mc6 ms6 a6 c6 o6 p6 m6 k6 => ?_)
  show Ev _ _ _ _ _ _ 169 [some (.ref (BIG + 300)), some (.ref 0), some (.ref bY), some (.int now), some (.int (nI n)), none, none, none, none] [.int (stGF (ub (ub (ub sy))).1)] g6
  rw [show stGF (ub (ub (ub sy))).1 = now from hgy]
  refine Ev.sg hX sL_law_169 (pc' := 170) (ls' := [some (.ref (BIG + 300)), some (.ref 0), some (.ref bY), some (.int now), some (.int (nI n)), none, none, none, none]) (st' := [.int now, .int now]) (h' := g6) rfl ?_
  refine Ev.icmp_eq (tgt := 175) dL_law_170 (by decide) (fun _ => ?_) (fun b1 => absurd rfl b1)
  exact kk g6 _ _ p6 o6 (by omega) (by omega) (by omega)
/-- x behind a program that failed at its command j -/
def xf (s : GS) (i j : Nat) : GS := (s.1, s.2.1, s.2.2.1, s.2.2.2.1, 0, ((jshb.getD i []).foldl appS s).2.2.2.2.2.1, s.2.2.2.2.2.2.1, nI j, s.2.2.2.2.2.2.2.2)
theorem q_fc {X : JX} {K N v : Nat} {T : Nat → Option JS} {I : HI} {L : HL} {D : HD} {j : Nat} (hX : JXok X) (c : CPs K N v T I L D s) (hN : N + 1 < BIG) (hj : j < 100) (hf : s.2.2.2.2.2.2.2.1 = nI j) : CQ X K 4 24 jdX6_failedCommand [] [xNE] (some (.int (nI j))) 0 s N v T I L D := by
  have q := q_failedCommand hX c hN
  rw [hf, if_neg (nI_mi (by omega)), ← hf] at q
  rw [← hf]
  exact q
set_option maxRecDepth 100000 in
theorem law_5 (hX : JXok X) (hM : jM X ≤ 396) (bY4 : 396 ≤ bY) (ox : OB Kx 0 395 sx h) (oy : OB Ky bY 395 sy h) (hq : sx.2.2.2.2.1 = 0) (hg : stGF sx.1 = now) (hr : rnG ((jshb.getD 9 []).foldl appS sx) = (0, 2, xf sx 9 1)) (hK : Kx + 8 ≤ 4000) (hN : zN h ≤ 30000) (hm : 3000 ≤ mc ∧ 20000 ≤ ms)
    (kk : ∀ h' mc' ms', OB (Kx + 8) 0 395 (xf sx 9 1) h' → OB Ky bY 395 sy h' → zN h' ≤ zN h + 3000 → mc - 3000 ≤ mc' → ms - 20000 ≤ ms' → Ev X (jm jdL_law) 17 mc' ms' Q 208 [some (.ref (BIG + 300)), some (.ref 0), some (.ref bY), some (.int now), some (.int (nI n)), none, none, none, none] [] h') :
    Ev X (jm jdL_law) 17 mc ms Q 175 [some (.ref (BIG + 300)), some (.ref 0), some (.ref bY), some (.int now), some (.int (nI n)), none, none, none, none] [] h := by
  have b0 : (0 : Nat) = 0 ∨ 396 ≤ 0 := Or.inl rfl
  have by0 : bY = 0 ∨ 396 ≤ bY := Or.inr bY4
  have hBIG : 100000 < BIG := by decide
  have djx : DJ bY 395 0 395 := dj_of (Or.inr (by omega))
  have djy : DJ 0 395 bY 395 := dj_of (Or.inl (by omega))
  have hi : 9 < jnS := by decide
  have hl40 := jshl_leN 9 hi
  have hlen := jsh_len 9 hi
  have rv : rnV ((jshb.getD 9 []).foldl appS sx) = -2 := by
    unfold rnV
    rw [hr]
    rfl
  have rg : (rnG ((jshb.getD 9 []).foldl appS sx)).2.2 = xf sx 9 1 := by rw [hr]
  refine Ev.sg hX sL_law_175 (pc' := 176) (ls' := [some (.ref (BIG + 300)), some (.ref 0), some (.ref bY), some (.int now), some (.int (nI n)), none, none, none, none]) (st' := [.ref 0]) (h' := h) rfl ?_
  refine Ev.ldcS (si := 45) rfl dL_law_176 ?_
  show Ev _ _ _ _ _ _ 178 [some (.ref (BIG + 300)), some (.ref 0), some (.ref bY), some (.int now), some (.int (nI n)), none, none, none, none] [.ref (jsh0 + 9), .ref 0] h
  refine Ev.lawW (As := [.ref 0, .ref (jsh0 + 9)]) (rest := []) b0 by0 djx oy dsL_put mkL_160 dL_law_178 (c_put0 hX hM b0 hi ox hq (by omega)) ⟨by decide, by show 3 + 19 + 40 * _ ≤ 40 * _; omega⟩ ⟨by omega, by omega⟩ rfl (Nat.le_of_ble_eq_true rfl) (fun g1 mc1 ms1 a1 c1 o1 p1 m1 k1 => ?_)
  show Ev _ _ _ _ _ _ 181 [some (.ref (BIG + 300)), some (.ref 0), some (.ref bY), some (.int now), some (.int (nI n)), none, none, none, none] [] g1
  refine Ev.sg hX sL_law_181 (pc' := 182) (ls' := [some (.ref (BIG + 300)), some (.ref 0), some (.ref bY), some (.int now), some (.int (nI n)), none, none, none, none]) (st' := [.ref 0]) (h' := g1) rfl ?_
  have C := c_runs hX hM (by omega) b0 o1 (by omega : Kx + 8 ≤ 5000)
  rw [rg, rv] at C
  refine Ev.lawX (ex := 4) (As := [.ref 0]) (rest := []) b0 by0 djx p1 dhL_runs mkL_172 dL_law_182 C ⟨by decide, by show 2 + 19 + 40 * _ ≤ 40 * _; omega⟩ ⟨by omega, by omega⟩ rfl (Nat.le_of_ble_eq_true rfl) (fun g2 mc2 ms2 a2 c2 o2 p2 m2 k2 => ?_)
  show Ev _ _ _ _ _ _ 185 [some (.ref (BIG + 300)), some (.ref 0), some (.ref bY), some (.int now), some (.int (nI n)), none, none, none, none] [.int (-2)] g2
  refine Ev.sg hX sL_law_185 (pc' := 187) (ls' := [some (.ref (BIG + 300)), some (.ref 0), some (.ref bY), some (.int now), some (.int (nI n)), none, none, none, none]) (st' := [.int (-2), .int (-2)]) (h' := g2) rfl ?_
  refine Ev.icmp_ne (tgt := 206) dL_law_187 (by decide) (fun b1 => absurd rfl b1) (fun _ => ?_)
  refine Ev.sg hX sL_law_190 (pc' := 191) (ls' := [some (.ref (BIG + 300)), some (.ref 0), some (.ref bY), some (.int now), some (.int (nI n)), none, none, none, none]) (st' := [.ref 0]) (h' := g2) rfl ?_
  refine Ev.askW (K' := Kx + 8) (mc1 := 4) (ms1 := 24) (As := []) (rest := []) (xs := [xNE]) (val := some (.int (nI 1))) (s' := xf sx 9 1) hX hM b0 by0 djx o2 p2 (by omega) dvX6_failedCommand mkL_175 rfl dL_law_191 (by decide) (by decide) ⟨⟨by omega, by omega⟩, by omega, by omega⟩ rfl (Nat.le_of_ble_eq_true rfl) nr_0 (fun _ => rfl) (by decide) (fun X' T I L D hX' c9 => q_fc hX' c9 (by omega) (by decide) rfl) (fun g3 mc3 ms3 a3 c3 o3 p3 m3 k3 => ?_)
  show Ev _ _ _ _ _ _ 194 [some (.ref (BIG + 300)), some (.ref 0), some (.ref bY), some (.int now), some (.int (nI n)), none, none, none, none] [.int (nI 1)] g3
  refine Ev.sg hX sL_law_194 (pc' := 195) (ls' := [some (.ref (BIG + 300)), some (.ref 0), some (.ref bY), some (.int now), some (.int (nI n)), none, none, none, none]) (st' := [.int 1, .int (nI 1)]) (h' := g3) rfl ?_
  refine Ev.icmp_ne (tgt := 206) dL_law_195 (by decide) (fun b1 => absurd rfl b1) (fun _ => ?_)
  refine Ev.sg hX sL_law_198 (pc' := 199) (ls' := [some (.ref (BIG + 300)), some (.ref 0), some (.ref bY), some (.int now), some (.int (nI n)), none, none, none, none]) (st' := [.ref 0]) (h' := g3) rfl ?_
  refine Ev.lawW (As := [.ref 0]) (rest := []) b0 by0 djx p3 dsL_state mkL_139 dL_law_199 (c_state hX hM b0 o3 (by omega)) ⟨by decide, by show 7 + 19 + 40 * _ ≤ 40 * _; omega⟩ ⟨by omega, by omega⟩ rfl (Nat.le_of_ble_eq_true rfl) (fun g4 mc4 ms4 a4 c4 o4 p4 m4 k4 => ?_)
  show Ev _ _ _ _ _ _ 202 [some (.ref (BIG + 300)), some (.ref 0), some (.ref bY), some (.int now), some (.int (nI n)), none, none, none, none] [.int (stGF (xf sx 9 1).1)] g4
  rw [show stGF (xf sx 9 1).1 = now from hg]
  refine Ev.sg hX sL_law_202 (pc' := 203) (ls' := [some (.ref (BIG + 300)), some (.ref 0), some (.ref bY), some (.int now), some (.int (nI n)), none, none, none, none]) (st' := [.int now, .int now]) (h' := g4) rfl ?_
  refine Ev.icmp_eq (tgt := 208) dL_law_203 (by decide) (fun _ => ?_) (fun b1 => absurd rfl b1)
  exact kk g4 _ _ o4 p4 (by omega) (by omega) (by omega)
set_option maxRecDepth 100000 in
theorem law_6 (hX : JXok X) (hM : jM X ≤ 396) (bY4 : 396 ≤ bY) (ox : OB Kx 0 395 sx h) (oy : OB Ky bY 395 sy h) (hq : sx.2.2.2.2.1 = 0) (hg : stGF sx.1 = now) (hr : rnG ((jshb.getD 10 []).foldl appS sx) = (0, 2, xf sx 10 0)) (hK : Kx + 8 ≤ 4000) (hN : zN h ≤ 30000) (hm : 3000 ≤ mc ∧ 20000 ≤ ms)
    (kk : ∀ h' mc' ms', OB (Kx + 8) 0 395 (xf sx 10 0) h' → OB Ky bY 395 sy h' → zN h' ≤ zN h + 3000 → mc - 3000 ≤ mc' → ms - 20000 ≤ ms' → Ev X (jm jdL_law) 17 mc' ms' Q 240 [some (.ref (BIG + 300)), some (.ref 0), some (.ref bY), some (.int now), some (.int (nI n)), none, none, none, none] [] h') :
    Ev X (jm jdL_law) 17 mc ms Q 208 [some (.ref (BIG + 300)), some (.ref 0), some (.ref bY), some (.int now), some (.int (nI n)), none, none, none, none] [] h := by
  have b0 : (0 : Nat) = 0 ∨ 396 ≤ 0 := Or.inl rfl
  have by0 : bY = 0 ∨ 396 ≤ bY := Or.inr bY4
  have hBIG : 100000 < BIG := by decide
  have djx : DJ bY 395 0 395 := dj_of (Or.inr (by omega))
  have djy : DJ 0 395 bY 395 := dj_of (Or.inl (by omega))
  have hi : 10 < jnS := by decide
  have hl40 := jshl_leN 10 hi
  have hlen := jsh_len 10 hi
  have rv : rnV ((jshb.getD 10 []).foldl appS sx) = -2 := by
    unfold rnV
    rw [hr]
    rfl
  have rg : (rnG ((jshb.getD 10 []).foldl appS sx)).2.2 = xf sx 10 0 := by rw [hr]
  refine Ev.sg hX sL_law_208 (pc' := 209) (ls' := [some (.ref (BIG + 300)), some (.ref 0), some (.ref bY), some (.int now), some (.int (nI n)), none, none, none, none]) (st' := [.ref 0]) (h' := h) rfl ?_
  refine Ev.ldcS (si := 46) rfl dL_law_209 ?_
  show Ev _ _ _ _ _ _ 211 [some (.ref (BIG + 300)), some (.ref 0), some (.ref bY), some (.int now), some (.int (nI n)), none, none, none, none] [.ref (jsh0 + 10), .ref 0] h
  refine Ev.lawW (As := [.ref 0, .ref (jsh0 + 10)]) (rest := []) b0 by0 djx oy dsL_put mkL_160 dL_law_211 (c_put0 hX hM b0 hi ox hq (by omega)) ⟨by decide, by show 3 + 19 + 40 * _ ≤ 40 * _; omega⟩ ⟨by omega, by omega⟩ rfl (Nat.le_of_ble_eq_true rfl) (fun g1 mc1 ms1 a1 c1 o1 p1 m1 k1 => ?_)
  show Ev _ _ _ _ _ _ 214 [some (.ref (BIG + 300)), some (.ref 0), some (.ref bY), some (.int now), some (.int (nI n)), none, none, none, none] [] g1
  refine Ev.sg hX sL_law_214 (pc' := 215) (ls' := [some (.ref (BIG + 300)), some (.ref 0), some (.ref bY), some (.int now), some (.int (nI n)), none, none, none, none]) (st' := [.ref 0]) (h' := g1) rfl ?_
  have C := c_runs hX hM (by omega) b0 o1 (by omega : Kx + 8 ≤ 5000)
  rw [rg, rv] at C
  refine Ev.lawX (ex := 4) (As := [.ref 0]) (rest := []) b0 by0 djx p1 dhL_runs mkL_172 dL_law_215 C ⟨by decide, by show 2 + 19 + 40 * _ ≤ 40 * _; omega⟩ ⟨by omega, by omega⟩ rfl (Nat.le_of_ble_eq_true rfl) (fun g2 mc2 ms2 a2 c2 o2 p2 m2 k2 => ?_)
  show Ev _ _ _ _ _ _ 218 [some (.ref (BIG + 300)), some (.ref 0), some (.ref bY), some (.int now), some (.int (nI n)), none, none, none, none] [.int (-2)] g2
  refine Ev.sg hX sL_law_218 (pc' := 220) (ls' := [some (.ref (BIG + 300)), some (.ref 0), some (.ref bY), some (.int now), some (.int (nI n)), none, none, none, none]) (st' := [.int (-2), .int (-2)]) (h' := g2) rfl ?_
  refine Ev.icmp_ne (tgt := 238) dL_law_220 (by decide) (fun b1 => absurd rfl b1) (fun _ => ?_)
  refine Ev.sg hX sL_law_223 (pc' := 224) (ls' := [some (.ref (BIG + 300)), some (.ref 0), some (.ref bY), some (.int now), some (.int (nI n)), none, none, none, none]) (st' := [.ref 0]) (h' := g2) rfl ?_
  refine Ev.askW (K' := Kx + 8) (mc1 := 4) (ms1 := 24) (As := []) (rest := []) (xs := [xNE]) (val := some (.int (nI 0))) (s' := xf sx 10 0) hX hM b0 by0 djx o2 p2 (by omega) dvX6_failedCommand mkL_175 rfl dL_law_224 (by decide) (by decide) ⟨⟨by omega, by omega⟩, by omega, by omega⟩ rfl (Nat.le_of_ble_eq_true rfl) nr_0 (fun _ => rfl) (by decide) (fun X' T I L D hX' c9 => q_fc hX' c9 (by omega) (by decide) rfl) (fun g3 mc3 ms3 a3 c3 o3 p3 m3 k3 => ?_)
  show Ev _ _ _ _ _ _ 227 [some (.ref (BIG + 300)), some (.ref 0), some (.ref bY), some (.int now), some (.int (nI n)), none, none, none, none] [.int (nI 0)] g3
  refine Ev.if_ne (tgt := 238) dL_law_227 (by decide) (fun b1 => absurd rfl b1) (fun _ => ?_)
  refine Ev.sg hX sL_law_230 (pc' := 231) (ls' := [some (.ref (BIG + 300)), some (.ref 0), some (.ref bY), some (.int now), some (.int (nI n)), none, none, none, none]) (st' := [.ref 0]) (h' := g3) rfl ?_
  refine Ev.lawW (As := [.ref 0]) (rest := []) b0 by0 djx p3 dsL_state mkL_139 dL_law_231 (c_state hX hM b0 o3 (by omega)) ⟨by decide, by show 7 + 19 + 40 * _ ≤ 40 * _; omega⟩ ⟨by omega, by omega⟩ rfl (Nat.le_of_ble_eq_true rfl) (fun g4 mc4 ms4 a4 c4 o4 p4 m4 k4 => ?_)
  show Ev _ _ _ _ _ _ 234 [some (.ref (BIG + 300)), some (.ref 0), some (.ref bY), some (.int now), some (.int (nI n)), none, none, none, none] [.int (stGF (xf sx 10 0).1)] g4
  rw [show stGF (xf sx 10 0).1 = now from hg]
  refine Ev.sg hX sL_law_234 (pc' := 235) (ls' := [some (.ref (BIG + 300)), some (.ref 0), some (.ref bY), some (.int now), some (.int (nI n)), none, none, none, none]) (st' := [.int now, .int now]) (h' := g4) rfl ?_
  refine Ev.icmp_eq (tgt := 240) dL_law_235 (by decide) (fun _ => ?_) (fun b1 => absurd rfl b1)
  exact kk g4 _ _ o4 p4 (by omega) (by omega) (by omega)
end LW2
