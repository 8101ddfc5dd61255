/-! the law's walk: z's first track is asked -/
section LWA
variable {X : JX} {mc ms : Nat} {Q : JR → Prop} {h : MH} {bY b k w K Kz m : Nat} {now c n t e : Int32} {sx s : GS} {I J : HI}
theorem dn_c {u v : Int32} (h : E6 I J) (hu : u = v) : (dnM (tkM I t) u I e).1 = (dnM (tkM J t) v J e).1 ∧ (dnM (tkM I t) u I e).2 396 12 = (dnM (tkM J t) v J e).2 396 12 := by
  subst hu
  unfold dnM
  simp only [tk_c h]
  split
  · exact ⟨rfl, by dsimp only; exact up2_hit.trans up2_hit.symm⟩
  · exact ⟨rfl, by dsimp only; exact up2_hit.trans up2_hit.symm⟩
theorem srt_c (h : E6 I J) (hm : m ≤ 20) (ht : t.toNatClampNeg < 8) : (srtM I m t).1 = (srtM J m t).1 ∧ (srtM I m t).2 396 12 = (srtM J m t).2 396 12 := by
  unfold srtM
  simp only [tk_c h, h.2 (31 + t.toNatClampNeg) (by omega) (by omega), pa_c h hm]
  split
  · exact ⟨rfl, by dsimp only; exact up2_hit.trans up2_hit.symm⟩
  · exact ⟨rfl, by dsimp only; exact up2_hit.trans up2_hit.symm⟩
set_option maxRecDepth 100000 in
theorem za1 : ∀ k, k < 4 → ((dnM (tkM (GJ (LN (zl3 k))) 0) (paM (GJ (LN (zl3 k))) 3 0 3) (GJ (LN (zl3 k))) 1).1 = 1 ∧ (dnM (tkM (GJ (LN (zl3 k))) 0) (paM (GJ (LN (zl3 k))) 3 0 3) (GJ (LN (zl3 k))) 1).2 396 12 = 0) ∧ ((srtM (GJ (LN (zl3 k))) 3 0).1 = 0 ∧ (srtM (GJ (LN (zl3 k))) 3 0).2 396 12 = 0) ∧ ((dnM (tkM (GJ (LN (zl3 k))) 0) (trN (GJ (LN (zl3 k))) 3 0) (GJ (LN (zl3 k))) 1).1 = 1 ∧ (dnM (tkM (GJ (LN (zl3 k))) 0) (trN (GJ (LN (zl3 k))) 3 0) (GJ (LN (zl3 k))) 1).2 396 12 = 0) ∧ ((dnM (tkM (GJ (LN (zl3 k))) 0) (roM (GJ (LN (zl3 k))) 3 0) (GJ (LN (zl3 k))) 1).1 = 15 ∧ (dnM (tkM (GJ (LN (zl3 k))) 0) (roM (GJ (LN (zl3 k))) 3 0) (GJ (LN (zl3 k))) 1).2 396 12 = 0) := by decide +kernel
theorem za2 : ∀ k, k < 4 → LN (zl3 k) 31 = 3 := by decide +kernel
set_option maxRecDepth 100000 in
theorem law_a (hX : JXok X) (hM : jM X ≤ 396) (b4 : 396 ≤ b) (hk : k < 4) (ox : OB K 0 395 sx h) (oz : OB Kz b 395 s h) (hs : ZL (zl3 k) s) (hN : zN h ≤ 60000) (hm : 2000 ≤ mc ∧ 20000 ≤ ms)
    (kk : ∀ h' mc' ms', OB K 0 395 sx h' → OB Kz b 395 s h' → zN h' ≤ zN h + 100 → mc ≤ mc' + 100 → ms ≤ ms' + 1000 → Ev X (jm jdL_law) 17 mc' ms' Q 651 [some (.ref (BIG + 300)), some (.ref 0), some (.ref bY), some (.int now), some (.int n), some (.int c), some (.int (nI k)), some (.int (nI w)), some (.ref b)] [] h') :
    Ev X (jm jdL_law) 17 mc ms Q 601 [some (.ref (BIG + 300)), some (.ref 0), some (.ref bY), some (.int now), some (.int n), some (.int c), some (.int (nI k)), some (.int (nI w)), some (.ref b)] [] h := by
  have b0 : (0 : Nat) = 0 ∨ 396 ≤ 0 := Or.inl rfl
  have bz : b = 0 ∨ 396 ≤ b := Or.inr b4
  have hBIG : 500000 < BIG := by decide
  have dj : DJ 0 395 b 395 := dj_of (Or.inl (by omega))
  have z1 : s.1 1 = 3 := (hs 1 (by decide) (by decide)).trans (zl_01 k hk).2.2.2.1.2
  have z31 : (GJ s.1 397 (31 + (0 : Int32).toNatClampNeg)).toNatClampNeg = 3 := by
    show (nI (s.1 31)).toNatClampNeg = 3
    rw [(hs 31 (by decide) (by decide)).trans (za2 k hk)]
    decide
  have E := hs.e6
  obtain ⟨⟨f1, f2⟩, ⟨f3, f4⟩, ⟨f5, f6⟩, f7, f8⟩ := za1 k hk
  have d1 := dn_c (t := 0) (e := 1) E (pa_c (x := 0) (n := 3) E (show 3 ≤ 20 by decide))
  have d2 := srt_c (t := 0) E (show 3 ≤ 20 by decide) (by decide)
  have d3 := dn_c (t := 0) (e := 1) E (trN_c (x := 0) E (show 3 ≤ 20 by decide) (by decide))
  have d4 := dn_c (t := 0) (e := 1) E (ro_c (x := 0) E (show 3 ≤ 20 by decide) (by decide))
  refine Ev.sg hX sL_law_601 (pc' := 604) (ls' := [some (.ref (BIG + 300)), some (.ref 0), some (.ref bY), some (.int now), some (.int n), some (.int c), some (.int (nI k)), some (.int (nI w)), some (.ref b)]) (st' := [.int 0, .ref b]) (h' := h) rfl ?_
  refine Ev.askW (K' := Kz) (mc1 := 4) (ms1 := 24) (As := [.int 0]) (rest := []) (xs := [xIO]) (val := some (.int (1))) (s' := s) hX hM bz b0 dj oz ox (by omega) dvX6_disorder mkL_223 rfl dL_law_604 (by decide) (by decide) ⟨⟨by omega, by omega⟩, by omega, by omega⟩ rfl (Nat.le_of_ble_eq_true rfl) nr_1 (fun _ => rfl) (by decide) (fun X' T I L D hX' c9 => by
    have q := q_disorder (t := 0) hX' c9 (by omega)
    rw [z1, z31] at q
    have d9 := d1
    rw [f1, f2] at d9
    have t0 : (0 : Int32).toNatClampNeg = 0 := rfl
    rw [t0, d9.1, d9.2] at q
    exact q) (fun g1 mc1 ms1 a1 c1 o1 p1 m1 k1 => ?_)
  show Ev _ _ _ _ _ _ 607 [some (.ref (BIG + 300)), some (.ref 0), some (.ref bY), some (.int now), some (.int n), some (.int c), some (.int (nI k)), some (.int (nI w)), some (.ref b)] [.int (1)] g1
  refine Ev.sg hX sL_law_607 (pc' := 608) (ls' := [some (.ref (BIG + 300)), some (.ref 0), some (.ref bY), some (.int now), some (.int n), some (.int c), some (.int (nI k)), some (.int (nI w)), some (.ref b)]) (st' := [.int 1, .int 1]) (h' := g1) rfl ?_
  refine Ev.icmp_ne (tgt := 680) dL_law_608 (by decide) (fun b1 => absurd rfl b1) (fun _ => ?_)
  refine Ev.sg hX sL_law_611 (pc' := 614) (ls' := [some (.ref (BIG + 300)), some (.ref 0), some (.ref bY), some (.int now), some (.int n), some (.int c), some (.int (nI k)), some (.int (nI w)), some (.ref b)]) (st' := [.int 0, .ref b]) (h' := g1) rfl ?_
  refine Ev.askW (K' := Kz) (mc1 := 4) (ms1 := 24) (As := [.int 0]) (rest := []) (xs := [xIO]) (val := some (.int (1))) (s' := s) hX hM bz b0 dj o1 p1 (by omega) dvX6_disorderByInsertion mkL_226 rfl dL_law_614 (by decide) (by decide) ⟨⟨by omega, by omega⟩, by omega, by omega⟩ rfl (Nat.le_of_ble_eq_true rfl) nr_1 (fun _ => rfl) (by decide) (fun X' T I L D hX' c9 => by
    have q := q_disorderByInsertion (t := 0) hX' c9 (by omega)
    rw [z1, z31] at q
    have d9 := d1
    rw [f1, f2] at d9
    have t0 : (0 : Int32).toNatClampNeg = 0 := rfl
    rw [t0, d9.1, d9.2] at q
    exact q) (fun g2 mc2 ms2 a2 c2 o2 p2 m2 k2 => ?_)
  show Ev _ _ _ _ _ _ 617 [some (.ref (BIG + 300)), some (.ref 0), some (.ref bY), some (.int now), some (.int n), some (.int c), some (.int (nI k)), some (.int (nI w)), some (.ref b)] [.int (1)] g2
  refine Ev.sg hX sL_law_617 (pc' := 618) (ls' := [some (.ref (BIG + 300)), some (.ref 0), some (.ref bY), some (.int now), some (.int n), some (.int c), some (.int (nI k)), some (.int (nI w)), some (.ref b)]) (st' := [.int 1, .int 1]) (h' := g2) rfl ?_
  refine Ev.icmp_ne (tgt := 680) dL_law_618 (by decide) (fun b1 => absurd rfl b1) (fun _ => ?_)
  refine Ev.sg hX sL_law_621 (pc' := 624) (ls' := [some (.ref (BIG + 300)), some (.ref 0), some (.ref bY), some (.int now), some (.int n), some (.int c), some (.int (nI k)), some (.int (nI w)), some (.ref b)]) (st' := [.int 0, .ref b]) (h' := g2) rfl ?_
  refine Ev.askW (K' := Kz) (mc1 := 4) (ms1 := 24) (As := [.int 0]) (rest := []) (xs := [xIO]) (val := some (.int (0))) (s' := s) hX hM bz b0 dj o2 p2 (by omega) dvX6_isSorted mkL_229 rfl dL_law_624 (by decide) (by decide) ⟨⟨by omega, by omega⟩, by omega, by omega⟩ rfl (Nat.le_of_ble_eq_true rfl) nr_1 (fun _ => rfl) (by decide) (fun X' T I L D hX' c9 => by
    have q := q_isSorted (t := 0) hX' c9 (by omega)
    rw [z1] at q
    have d9 := d2
    rw [f3, f4] at d9
    have t0 : (0 : Int32).toNatClampNeg = 0 := rfl
    rw [d9.1, d9.2] at q
    exact q) (fun g3 mc3 ms3 a3 c3 o3 p3 m3 k3 => ?_)
  show Ev _ _ _ _ _ _ 627 [some (.ref (BIG + 300)), some (.ref 0), some (.ref bY), some (.int now), some (.int n), some (.int c), some (.int (nI k)), some (.int (nI w)), some (.ref b)] [.int (0)] g3
  refine Ev.if_ne (tgt := 680) dL_law_627 (by decide) (fun b1 => absurd rfl b1) (fun _ => ?_)
  refine Ev.sg hX sL_law_630 (pc' := 633) (ls' := [some (.ref (BIG + 300)), some (.ref 0), some (.ref bY), some (.int now), some (.int n), some (.int c), some (.int (nI k)), some (.int (nI w)), some (.ref b)]) (st' := [.int 0, .ref b]) (h' := g3) rfl ?_
  refine Ev.askW (K' := Kz) (mc1 := 4) (ms1 := 24) (As := [.int 0]) (rest := []) (xs := [xIO]) (val := some (.int (1))) (s' := s) hX hM bz b0 dj o3 p3 (by omega) dvX6_trainLength mkL_232 rfl dL_law_633 (by decide) (by decide) ⟨⟨by omega, by omega⟩, by omega, by omega⟩ rfl (Nat.le_of_ble_eq_true rfl) nr_1 (fun _ => rfl) (by decide) (fun X' T I L D hX' c9 => by
    have q := q_trainLength (t := 0) hX' c9 (by omega)
    rw [z1] at q
    have d9 := d3
    rw [f5, f6] at d9
    have t0 : (0 : Int32).toNatClampNeg = 0 := rfl
    rw [t0, d9.1, d9.2] at q
    exact q) (fun g4 mc4 ms4 a4 c4 o4 p4 m4 k4 => ?_)
  show Ev _ _ _ _ _ _ 636 [some (.ref (BIG + 300)), some (.ref 0), some (.ref bY), some (.int now), some (.int n), some (.int c), some (.int (nI k)), some (.int (nI w)), some (.ref b)] [.int (1)] g4
  refine Ev.sg hX sL_law_636 (pc' := 637) (ls' := [some (.ref (BIG + 300)), some (.ref 0), some (.ref bY), some (.int now), some (.int n), some (.int c), some (.int (nI k)), some (.int (nI w)), some (.ref b)]) (st' := [.int 1, .int 1]) (h' := g4) rfl ?_
  refine Ev.icmp_ne (tgt := 680) dL_law_637 (by decide) (fun b1 => absurd rfl b1) (fun _ => ?_)
  refine Ev.sg hX sL_law_640 (pc' := 643) (ls' := [some (.ref (BIG + 300)), some (.ref 0), some (.ref bY), some (.int now), some (.int n), some (.int c), some (.int (nI k)), some (.int (nI w)), some (.ref b)]) (st' := [.int 0, .ref b]) (h' := g4) rfl ?_
  refine Ev.askW (K' := Kz) (mc1 := 4) (ms1 := 24) (As := [.int 0]) (rest := []) (xs := [xIO]) (val := some (.int (15))) (s' := s) hX hM bz b0 dj o4 p4 (by omega) dvX6_freeLength mkL_98 rfl dL_law_643 (by decide) (by decide) ⟨⟨by omega, by omega⟩, by omega, by omega⟩ rfl (Nat.le_of_ble_eq_true rfl) nr_1 (fun _ => rfl) (by decide) (fun X' T I L D hX' c9 => by
    have q := q_freeLength (t := 0) hX' c9 (by omega)
    rw [z1] at q
    have d9 := d4
    rw [f7, f8] at d9
    have t0 : (0 : Int32).toNatClampNeg = 0 := rfl
    rw [t0, d9.1, d9.2] at q
    exact q) (fun g5 mc5 ms5 a5 c5 o5 p5 m5 k5 => ?_)
  show Ev _ _ _ _ _ _ 646 [some (.ref (BIG + 300)), some (.ref 0), some (.ref bY), some (.int now), some (.int n), some (.int c), some (.int (nI k)), some (.int (nI w)), some (.ref b)] [.int (15)] g5
  refine Ev.sg hX sL_law_646 (pc' := 648) (ls' := [some (.ref (BIG + 300)), some (.ref 0), some (.ref bY), some (.int now), some (.int n), some (.int c), some (.int (nI k)), some (.int (nI w)), some (.ref b)]) (st' := [.int 15, .int 15]) (h' := g5) rfl ?_
  refine Ev.icmp_ne (tgt := 680) dL_law_648 (by decide) (fun b1 => absurd rfl b1) (fun _ => ?_)
  exact kk g5 _ _ p5 o5 (by omega) (by omega) (by omega)
end LWA
