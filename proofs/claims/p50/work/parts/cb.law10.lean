/-! the law's walk: two departures refused -/
section LWB
variable {X : JX} {mc ms : Nat} {Q : JR → Prop} {h : MH} {bY b k w K Kz m z kk : Nat} {now c n t dd a c0 e f cd : Int32} {sx s : GS} {I J : HI} {l : List Nat}
theorem dep_cd (h : E6 I J) (hm : m ≤ 20) (ht : t.toNatClampNeg < 8) : (depM I m t dd).2 396 12 = (depM J m t dd).2 396 12 := by
  have l1 := fe_lt (I := J) (x := t.toNatClampNeg) (a := 0) hm
  unfold depM
  simp only [tk_c h, h.2 (31 + t.toNatClampNeg) (by omega) (by omega), fe_c h hm ht, h.2 (99 + (feM J m t.toNatClampNeg 0).toNatClampNeg) (by omega) (by omega), trN_c h hm ht, ba_c h hm ht]
  (repeat' split) <;> dsimp only <;> exact up2_hit.trans up2_hit.symm
theorem z_badc (hg : ZL l s) (hz : LN l 0 = z) (hm : LN l 1 = m) (hc : (mK (GJ s.1) z m a t c0 e f kk).2 396 12 = (mK (GJ (LN l)) z m a t c0 e f kk).2 396 12) (hv : (mK (GJ (LN l)) z m a t c0 e f kk).2 396 12 = cd) : (cmF s a t c0 e f kk).2 396 12 = cd := by
  have e0 : s.1 0 = z := (hg 0 (by decide) (by decide)).trans hz
  have e1 : s.1 1 = m := (hg 1 (by decide) (by decide)).trans hm
  have ef : cmF s a t c0 e f kk = mK (GJ s.1) z m a t c0 e f kk := by
    unfold cmF
    rw [e0, e1]
  rw [ef, hc]
  exact hv
theorem z_f2 (hk : k < 4) (h : ZL (zl3 k) s) : (cmF s 0 7 0 0 0 6).2 396 12 = 4 := by
  have Z := zl_01 k hk
  exact z_badc h Z.2.2.2.1.1 Z.2.2.2.1.2 (dep_cd h.e6 (by decide) (by decide)) (zf2 k hk)
theorem z_f3 (hk : k < 4) (h : ZL (zl3 k) s) : (cmF s 0 2 0 0 0 6).2 396 12 = 3 := by
  have Z := zl_01 k hk
  exact z_badc h Z.2.2.2.1.1 Z.2.2.2.1.2 (dep_cd h.e6 (by decide) (by decide)) (zf3 k hk)
theorem z_f5 (hk : k < 4) (h : ZL (zl7 k) s) : (cmF s 0 7 0 0 0 6).2 396 12 = 4 := by
  have Z := zl_01 k hk
  exact z_badc h Z.2.2.2.2.2.2.2.1.1 Z.2.2.2.2.2.2.2.1.2 (dep_cd h.e6 (by decide) (by decide)) (zf5 k hk)
set_option maxRecDepth 100000 in
theorem law_b (hX : JXok X) (hM : jM X ≤ 396) (b4 : 396 ≤ b) (hk : k < 4) (ox : OB K 0 395 sx h) (oz : OB Kz b 395 s h) (hs : ZL (zl3 k) s) (hKz : Kz ≤ 1000) (hN : zN h ≤ 60000) (hm : 2000 ≤ mc ∧ 20000 ≤ ms)
    (kk : ∀ h' mc' ms', OB K 0 395 sx h' → OB (Kz + 2) b 395 s h' → zN h' ≤ zN h + 100 → mc ≤ mc' + 100 → ms ≤ ms' + 1000 → Ev X (jm jdL_law) 17 mc' ms' Q 682 [some (.ref (BIG + 300)), some (.ref 0), some (.ref bY), some (.int now), some (.int n), some (.int c), some (.int (nI k)), some (.int (nI w)), some (.ref b)] [] h') :
    Ev X (jm jdL_law) 17 mc ms Q 651 [some (.ref (BIG + 300)), some (.ref 0), some (.ref bY), some (.int now), some (.int n), some (.int c), some (.int (nI k)), some (.int (nI w)), some (.ref b)] [] h := by
  have b0 : (0 : Nat) = 0 ∨ 396 ≤ 0 := Or.inl rfl
  have bz : b = 0 ∨ 396 ≤ b := Or.inr b4
  have hBIG : 500000 < BIG := by decide
  have dj : DJ 0 395 b 395 := dj_of (Or.inl (by omega))
  have q2 := z_f2 hk hs
  have q3 := z_f3 hk hs
  have v2 : cmV s 0 7 0 0 0 6 = -5 := (cmV_x (j := 3) (E := xUO) q2 rfl (by decide)).trans (by decide +kernel)
  have v3 : cmV s 0 2 0 0 0 6 = -3 := (cmV_x (j := 2) (E := xIS) q3 rfl (by decide)).trans (by decide +kernel)
  have n2 : cmG s 0 7 0 0 0 6 = s := cm_no (by rw [q2]; decide)
  have n3 : cmG s 0 2 0 0 0 6 = s := cm_no (by rw [q3]; decide)
  refine Ev.sg hX sL_law_651 (pc' := 658) (ls' := [some (.ref (BIG + 300)), some (.ref 0), some (.ref bY), some (.int now), some (.int n), some (.int c), some (.int (nI k)), some (.int (nI w)), some (.ref b)]) (st' := [.int 0, .int 7, .int 0, .int 5, .ref b]) (h' := h) rfl ?_
  have C1 := c_act5 (a0 := 0) (a1 := 7) (a2 := 0) hX hM (by omega) bz oz (by omega)
  rw [n2, v2] at C1
  refine Ev.lawX (ex := 4) (As := [.ref b, .int 5, .int 0, .int 7, .int 0]) (rest := []) bz b0 dj ox dhL_act mkL_30 dL_law_658 C1 ⟨by decide, by show 6 + 19 + 40 * _ ≤ 40 * _; omega⟩ ⟨by omega, by omega⟩ rfl (Nat.le_of_ble_eq_true rfl) (fun g1 mc1 ms1 a1 c1 o1 p1 m1 k1 => ?_)
  show Ev _ _ _ _ _ _ 661 [some (.ref (BIG + 300)), some (.ref 0), some (.ref bY), some (.int now), some (.int n), some (.int c), some (.int (nI k)), some (.int (nI w)), some (.ref b)] [.int (-5)] g1
  refine Ev.sg hX sL_law_661 (pc' := 663) (ls' := [some (.ref (BIG + 300)), some (.ref 0), some (.ref bY), some (.int now), some (.int n), some (.int c), some (.int (nI k)), some (.int (nI w)), some (.ref b)]) (st' := [.int (-5), .int (-5)]) (h' := g1) rfl ?_
  refine Ev.icmp_ne (tgt := 680) dL_law_663 (by decide) (fun b1 => absurd rfl b1) (fun _ => ?_)
  refine Ev.sg hX sL_law_666 (pc' := 672) (ls' := [some (.ref (BIG + 300)), some (.ref 0), some (.ref bY), some (.int now), some (.int n), some (.int c), some (.int (nI k)), some (.int (nI w)), some (.ref b)]) (st' := [.int 0, .int 2, .int 0, .int 5, .ref b]) (h' := g1) rfl ?_
  have C2 := c_act5 (a0 := 0) (a1 := 2) (a2 := 0) hX hM (by omega) bz o1 (by omega)
  rw [n3, v3] at C2
  refine Ev.lawX (ex := 4) (As := [.ref b, .int 5, .int 0, .int 2, .int 0]) (rest := []) bz b0 dj p1 dhL_act mkL_30 dL_law_672 C2 ⟨by decide, by show 6 + 19 + 40 * _ ≤ 40 * _; omega⟩ ⟨by omega, by omega⟩ rfl (Nat.le_of_ble_eq_true rfl) (fun g2 mc2 ms2 a2 c2 o2 p2 m2 k2 => ?_)
  show Ev _ _ _ _ _ _ 675 [some (.ref (BIG + 300)), some (.ref 0), some (.ref bY), some (.int now), some (.int n), some (.int c), some (.int (nI k)), some (.int (nI w)), some (.ref b)] [.int (-3)] g2
  refine Ev.sg hX sL_law_675 (pc' := 677) (ls' := [some (.ref (BIG + 300)), some (.ref 0), some (.ref bY), some (.int now), some (.int n), some (.int c), some (.int (nI k)), some (.int (nI w)), some (.ref b)]) (st' := [.int (-3), .int (-3)]) (h' := g2) rfl ?_
  refine Ev.icmp_eq (tgt := 682) dL_law_677 (by decide) (fun _ => ?_) (fun b1 => absurd rfl b1)
  exact kk g2 _ _ p2 o2 (by omega) (by omega) (by omega)
end LWB
