/-! the law's walk: z's shunting times -/
section LWC
variable {X : JX} {mc ms : Nat} {Q : JR → Prop} {h : MH} {bY b k w K Kz : Nat} {now c n : Int32} {sx s : GS}
set_option maxRecDepth 100000 in
theorem zb1 : ∀ k, k < 4 → ((stiM (GJ (LN (zl3 k))) 3 3 0 1 2).1 = nI (3 + k) ∧ (stiM (GJ (LN (zl3 k))) 3 3 0 1 2).2 396 12 = 0) ∧ ((stiM (GJ (LN (zl3 k))) 3 3 0 2 3).1 = 14 ∧ (stiM (GJ (LN (zl3 k))) 3 3 0 2 3).2 396 12 = 0) := by decide +kernel
set_option maxRecDepth 100000 in
theorem law_c (hX : JXok X) (hM : jM X ≤ 396) (b4 : 396 ≤ b) (hk : k < 4) (ox : OB K 0 395 sx h) (oz : OB Kz b 395 s h) (hs : ZL (zl3 k) s) (hKz : Kz ≤ 1000) (hN : zN h ≤ 60000) (hm : 2000 ≤ mc ∧ 20000 ≤ ms)
    (kk : ∀ h' mc' ms', OB K 0 395 sx h' → OB (Kz + 1) b 395 s h' → zN h' ≤ zN h + 100 → mc ≤ mc' + 100 → ms ≤ ms' + 1000 → Ev X (jm jdL_law) 17 mc' ms' Q 724 [some (.ref (BIG + 300)), some (.ref 0), some (.ref bY), some (.int now), some (.int n), some (.int c), some (.int (nI k)), some (.int (nI w)), some (.ref b)] [] h') :
    Ev X (jm jdL_law) 17 mc ms Q 682 [some (.ref (BIG + 300)), some (.ref 0), some (.ref bY), some (.int now), some (.int n), some (.int c), some (.int (nI k)), some (.int (nI w)), some (.ref b)] [] h := by
  have b0 : (0 : Nat) = 0 ∨ 396 ≤ 0 := Or.inl rfl
  have bz : b = 0 ∨ 396 ≤ b := Or.inr b4
  have hBIG : 500000 < BIG := by decide
  have dj : DJ 0 395 b 395 := dj_of (Or.inl (by omega))
  have z0 : s.1 0 = 3 := (hs 0 (by decide) (by decide)).trans (zl_01 k hk).2.2.2.1.1
  have z1 : s.1 1 = 3 := (hs 1 (by decide) (by decide)).trans (zl_01 k hk).2.2.2.1.2
  have E := hs.e6
  obtain ⟨⟨f1, f2⟩, f3, f4⟩ := zb1 k hk
  have d1 := sti_c (m := 3) (z := 3) (a := 0) (b := 1) (c := 2) E (by decide) (by decide) (by decide) (by decide)
  have d2 := sti_c (m := 3) (z := 3) (a := 0) (b := 2) (c := 3) E (by decide) (by decide) (by decide) (by decide)
  have q4 := z_f4 hk hs
  have v4 : cmV s 0 1 3 0 0 4 = -5 := (cmV_x (j := 4) (E := xUO) q4 rfl (by decide)).trans (by decide +kernel)
  have n4 : cmG s 0 1 3 0 0 4 = s := cm_no (by rw [q4]; decide)
  refine Ev.sg hX sL_law_682 (pc' := 687) (ls' := [some (.ref (BIG + 300)), some (.ref 0), some (.ref bY), some (.int now), some (.int n), some (.int c), some (.int (nI k)), some (.int (nI w)), some (.ref b)]) (st' := [.int 2, .int 1, .int 0, .ref b]) (h' := h) rfl ?_
  refine Ev.askW (K' := Kz) (mc1 := 4) (ms1 := 24) (As := [.int 0, .int 1, .int 2]) (rest := []) (xs := [xIO, xIA, xNE]) (val := some (.int (nI (3 + k)))) (s' := s) hX hM bz b0 dj oz ox (by omega) dvX6_shuntingTime mkL_62 rfl dL_law_687 (by decide) (by decide) ⟨⟨by omega, by omega⟩, by omega, by omega⟩ rfl (Nat.le_of_ble_eq_true rfl) nr_3 (fun _ => rfl) (by decide) (fun X' T I L D hX' c9 => by
    have q := q_shuntingTime (a := 0) (b := 1) (c := 2) hX' c9 (by omega)
    rw [z0, z1, d1.1, d1.2.1 396 (by decide), f1, f2] at q
    exact q) (fun g1 mc1 ms1 a1 c1 o1 p1 m1 k1 => ?_)
  show Ev _ _ _ _ _ _ 690 [some (.ref (BIG + 300)), some (.ref 0), some (.ref bY), some (.int now), some (.int n), some (.int c), some (.int (nI k)), some (.int (nI w)), some (.ref b)] [.int (nI (3 + k))] g1
  refine Ev.sg hX sL_law_690 (pc' := 694) (ls' := [some (.ref (BIG + 300)), some (.ref 0), some (.ref bY), some (.int now), some (.int n), some (.int c), some (.int (nI k)), some (.int (nI w)), some (.ref b)]) (st' := [.int (3 + nI k), .int (nI (3 + k))]) (h' := g1) rfl ?_
  have e3 : (3 : Int32) + nI k = nI (3 + k) := nI_add (a := 3) (b := k)
  rw [e3]
  refine Ev.icmp_ne (tgt := 870) dL_law_694 (by decide) (fun b1 => absurd rfl b1) (fun _ => ?_)
  refine Ev.sg hX sL_law_697 (pc' := 702) (ls' := [some (.ref (BIG + 300)), some (.ref 0), some (.ref bY), some (.int now), some (.int n), some (.int c), some (.int (nI k)), some (.int (nI w)), some (.ref b)]) (st' := [.int 3, .int 2, .int 0, .ref b]) (h' := g1) rfl ?_
  refine Ev.askW (K' := Kz) (mc1 := 4) (ms1 := 24) (As := [.int 0, .int 2, .int 3]) (rest := []) (xs := [xIO, xIA, xNE]) (val := some (.int (14))) (s' := s) hX hM bz b0 dj o1 p1 (by omega) dvX6_shuntingTime mkL_62 rfl dL_law_702 (by decide) (by decide) ⟨⟨by omega, by omega⟩, by omega, by omega⟩ rfl (Nat.le_of_ble_eq_true rfl) nr_3 (fun _ => rfl) (by decide) (fun X' T I L D hX' c9 => by
    have q := q_shuntingTime (a := 0) (b := 2) (c := 3) hX' c9 (by omega)
    rw [z0, z1, d2.1, d2.2.1 396 (by decide), f3, f4] at q
    exact q) (fun g2 mc2 ms2 a2 c2 o2 p2 m2 k2 => ?_)
  show Ev _ _ _ _ _ _ 705 [some (.ref (BIG + 300)), some (.ref 0), some (.ref bY), some (.int now), some (.int n), some (.int c), some (.int (nI k)), some (.int (nI w)), some (.ref b)] [.int (14)] g2
  refine Ev.sg hX sL_law_705 (pc' := 707) (ls' := [some (.ref (BIG + 300)), some (.ref 0), some (.ref bY), some (.int now), some (.int n), some (.int c), some (.int (nI k)), some (.int (nI w)), some (.ref b)]) (st' := [.int 14, .int 14]) (h' := g2) rfl ?_
  refine Ev.icmp_ne (tgt := 870) dL_law_707 (by decide) (fun b1 => absurd rfl b1) (fun _ => ?_)
  refine Ev.sg hX sL_law_710 (pc' := 716) (ls' := [some (.ref (BIG + 300)), some (.ref 0), some (.ref bY), some (.int now), some (.int n), some (.int c), some (.int (nI k)), some (.int (nI w)), some (.ref b)]) (st' := [.int 3, .int 1, .int 0, .int 3, .ref b]) (h' := g2) rfl ?_
  have C3 := c_act3 (a0 := 0) (a1 := 1) (a2 := 3) hX hM (by omega) bz o2 (by omega)
  rw [n4, v4] at C3
  refine Ev.lawX (ex := 4) (As := [.ref b, .int 3, .int 0, .int 1, .int 3]) (rest := []) bz b0 dj p2 dhL_act mkL_30 dL_law_716 C3 ⟨by decide, by show 6 + 19 + 40 * _ ≤ 40 * _; omega⟩ ⟨by omega, by omega⟩ rfl (Nat.le_of_ble_eq_true rfl) (fun g3 mc3 ms3 a3 c3 o3 p3 m3 k3 => ?_)
  show Ev _ _ _ _ _ _ 719 [some (.ref (BIG + 300)), some (.ref 0), some (.ref bY), some (.int now), some (.int n), some (.int c), some (.int (nI k)), some (.int (nI w)), some (.ref b)] [.int (-5)] g3
  refine Ev.sg hX sL_law_719 (pc' := 721) (ls' := [some (.ref (BIG + 300)), some (.ref 0), some (.ref bY), some (.int now), some (.int n), some (.int c), some (.int (nI k)), some (.int (nI w)), some (.ref b)]) (st' := [.int (-5), .int (-5)]) (h' := g3) rfl ?_
  refine Ev.icmp_ne (tgt := 870) dL_law_721 (by decide) (fun b1 => absurd rfl b1) (fun _ => ?_)
  exact kk g3 _ _ p3 o3 (by omega) (by omega) (by omega)
end LWC
