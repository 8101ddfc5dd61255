/-! the law's walk: z's line -/
section LWH
variable {X : JX} {mc ms : Nat} {Q : JR → Prop} {h : MH} {bY b k w K Kz : Nat} {now c n : Int32} {sx s : GS}
set_option maxHeartbeats 8000000 in
set_option maxRecDepth 100000 in
theorem law_h (hX : JXok X) (hM : jM X ≤ 396) (b4 : 396 ≤ b) (hk : k < 4) (ox : OB K 0 395 sx h) (oz : OB Kz b 395 s h) (hs : ZL (zl10 k) s) (hN : zN h ≤ 70000) (hm : 4000 ≤ mc ∧ 20000 ≤ ms)
    (kk : ∀ h' v mc' ms' s', OB K 0 395 sx h' → OB Kz b v s' h' → DJ 0 395 b v → ZL (zl10 k) s' → zN h' ≤ zN h + 2000 → mc ≤ mc' + 2000 → ms ≤ ms' + 4000 → Ev X (jm jdL_law) 17 mc' ms' Q 1062 [some (.ref (BIG + 300)), some (.ref 0), some (.ref bY), some (.int now), some (.int n), some (.int c), some (.int (nI k)), some (.int (nI w)), some (.ref b)] [] h') :
    Ev X (jm jdL_law) 17 mc ms Q 1035 [some (.ref (BIG + 300)), some (.ref 0), some (.ref bY), some (.int now), some (.int n), some (.int c), some (.int (nI k)), some (.int (nI w)), some (.ref b)] [] h := by
  have b0 : (0 : Nat) = 0 ∨ 396 ≤ 0 := Or.inl rfl
  have bz : b = 0 ∨ 396 ≤ b := Or.inr b4
  have hBIG : 500000 < BIG := by decide
  have dj : DJ 0 395 b 395 := dj_of (Or.inl (by omega))
  have z0 : s.1 0 = 3 := (hs 0 (by decide) (by decide)).trans (zl_01 k hk).2.2.2.2.2.2.2.2.2.2.1.1
  obtain ⟨⟨f1, f2⟩, f3, -, -⟩ := zn10 k hk
  have zl := z_line hk hs
  have len : (wrG s.1 2).length = 18 := by rw [zl]; exact z_text.2
  obtain ⟨s', es⟩ : ∃ t : GS, t = (s.1, s.2.1, s.2.2.1, s.2.2.2.1, s.2.2.2.2.1, s.2.2.2.2.2.1, s.2.2.2.2.2.2.1, s.2.2.2.2.2.2.2.1, wrG s.1 2) := ⟨_, rfl⟩
  have e1 : s'.1 = s.1 := by rw [es]
  have ew : s'.2.2.2.2.2.2.2.2 = jshb.getD 24 [] := by rw [es]; exact zl
  have hs' : ZL (zl10 k) s' := fun j h6 h7 => by rw [e1]; exact hs j h6 h7
  have y1 : s'.1 1 = 2 := (hs' 1 (by decide) (by decide)).trans (zl_01 k hk).2.2.2.2.2.2.2.2.2.2.1.2
  have z33 : (GJ s'.1 397 (31 + (2 : Int32).toNatClampNeg)).toNatClampNeg = 2 := by
    show (nI (s'.1 33)).toNatClampNeg = 2
    rw [(hs' 33 (by decide) (by decide)).trans f3]
    decide
  have E := hs'.e6
  have d1 := dn_c (t := 2) (e := 1) E (pa_c (x := 2) (n := 2) E (show 2 ≤ 20 by decide))
  obtain ⟨fs9, h0⟩ := oz.at0 bz
  refine Ev.sg hX sL_law_1035 (pc' := 1040) (ls' := [some (.ref (BIG + 300)), some (.ref 0), some (.ref bY), some (.int now), some (.int n), some (.int c), some (.int (nI k)), some (.int (nI w)), some (.ref b)]) (st' := [.int 2, .ref b, .ref b]) (h' := h) rfl ?_
  have C : MT X 12 1160 1160 jdX6_writeTrack (.ref b :: [.int 2]) h _ := OB.callw (K' := Kz) (val := some (.int (nI 18))) (s' := s') hX hM (by omega) bz oz nr_1 (fun _ => rfl) (fun X' T I L D hX' c9 => by
    have q := q_writeTrack (x := 2) hX' c9 (by omega) rfl (by rw [z0]; decide)
    rw [len] at q
    rw [es]
    exact q)
  refine Ev.callV (As := [.int 2]) (rest := [.ref b]) dvX6_writeTrack mkL_262 h0 rfl dL_law_1040 C ⟨by decide, by show 4 + 19 + 40 * _ ≤ 40 * _; omega⟩ ⟨by omega, by omega⟩ rfl (Nat.le_of_ble_eq_true rfl) (fun v9 h9 e9 => ?_) (fun E9 h9 e9 => ?_)
  · obtain ⟨v1, h1, st1, ob1, hv1, e⟩ := e9
    cases e
    have s1 := st1.2.1
    have ozN := oz.1
    have djv : DJ 0 395 b v1 := dj_v b4 (by rcases hv1 with q | q; exact Or.inl q; exact Or.inr (by omega))
    have ox1 := ox.keep b0 st1 dj (ob1.fresh bz).2
    show Ev _ _ _ _ _ _ 1043 [some (.ref (BIG + 300)), some (.ref 0), some (.ref bY), some (.int now), some (.int n), some (.int c), some (.int (nI k)), some (.int (nI w)), some (.ref b)] [.int (nI 18), .ref b] h9
    refine Ev.ldcSW (si := 60) rfl dL_law_1043 ?_
    show Ev _ _ _ _ _ _ 1046 [some (.ref (BIG + 300)), some (.ref 0), some (.ref bY), some (.int now), some (.int n), some (.int c), some (.int (nI k)), some (.int (nI w)), some (.ref b)] [.ref (jsh0 + 24), .int (nI 18), .ref b] h9
    have L := c_isLine (i := 24) hX hM bz (by decide) ew ob1 (by omega)
    rw [z_text.2] at L
    refine Ev.callS (As := [.ref b, .int (nI 18), .ref (jsh0 + 24)]) (rest := []) dsL_isLine mkL_267 dL_law_1046 L ⟨by decide, by show 4 + 19 + 40 * _ ≤ 40 * _; omega⟩ ⟨by omega, by omega⟩ rfl (Nat.le_of_ble_eq_true rfl) (fun v8 h8 e8 => ?_) (fun E8 h8 e8 => ?_)
    · obtain ⟨h2, st2, ob2, e⟩ := e8
      cases e
      have s2 := st2.2.1
      have ox2 := ox1.keep b0 st2 djv (ob2.fresh bz).2
      show Ev _ _ _ _ _ _ 1049 [some (.ref (BIG + 300)), some (.ref 0), some (.ref bY), some (.int now), some (.int n), some (.int c), some (.int (nI k)), some (.int (nI w)), some (.ref b)] [.int 1] h8
      refine Ev.if_eq (tgt := 1163) dL_law_1049 (by decide) (fun b1 => absurd b1 (by decide)) (fun _ => ?_)
      refine Ev.sg hX sL_law_1052 (pc' := 1055) (ls' := [some (.ref (BIG + 300)), some (.ref 0), some (.ref bY), some (.int now), some (.int n), some (.int c), some (.int (nI k)), some (.int (nI w)), some (.ref b)]) (st' := [.int 2, .ref b]) (h' := h8) rfl ?_
      refine Ev.askV (K' := Kz) (mc1 := 4) (ms1 := 24) (As := [.int 2]) (rest := []) (xs := [xIO]) (val := some (.int (1))) (s' := s') hX hM bz b0 djv ob2 ox2 (by omega) dvX6_disorder mkL_223 rfl dL_law_1055 (by decide) (by decide) ⟨⟨by omega, by omega⟩, by omega, by omega⟩ rfl (Nat.le_of_ble_eq_true rfl) nr_1 (fun _ => rfl) (by decide) (fun X' T I L D hX' c9 => by
        have q := q_disorder (t := 2) hX' c9 (by omega)
        have t2 : (2 : Int32).toNatClampNeg = 2 := rfl
        rw [y1, z33, t2, d1.1, d1.2, f1, f2] at q
        exact q) (fun g1 mc1 ms1 a1 c1 o1 p1 m1 k1 => ?_)
      show Ev _ _ _ _ _ _ 1058 [some (.ref (BIG + 300)), some (.ref 0), some (.ref bY), some (.int now), some (.int n), some (.int c), some (.int (nI k)), some (.int (nI w)), some (.ref b)] [.int (1)] g1
      refine Ev.sg hX sL_law_1058 (pc' := 1059) (ls' := [some (.ref (BIG + 300)), some (.ref 0), some (.ref bY), some (.int now), some (.int n), some (.int c), some (.int (nI k)), some (.int (nI w)), some (.ref b)]) (st' := [.int 1, .int 1]) (h' := g1) rfl ?_
      refine Ev.icmp_ne (tgt := 1163) dL_law_1059 (by decide) (fun b1 => absurd rfl b1) (fun _ => ?_)
      exact kk g1 v1 _ _ s' p1 o1 djv hs' (by omega) (by omega) (by omega)
    · obtain ⟨h2, st2, ob2, e⟩ := e8
      cases e
  · obtain ⟨v1, h1, st1, ob1, hv1, e⟩ := e9
    cases e
end LWH
