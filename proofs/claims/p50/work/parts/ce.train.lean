/-! constants of the pool; what a shunt, a repair leave as it was; the train that leaves -/
section CEA
variable {X : JX} {M : JM} {d mc ms : Nat} {Q : JR → Prop} {pc : Nat} {ls : List (Option Value)} {st : List Value} {h : MH}
theorem Ev.ldcJ {idx : Nat} {v : Int64} (hl : Cond.constantLong M.1.cls idx v ∈ BW) (hdg : decode M.2.1 pc = .ok (.ldc2_w idx, 3)) (k : Ev X M d mc ms Q (pc + 3) ls (.long v :: st) h) : Ev X M d mc ms Q pc ls st h := by
  intro p ev R s m args below meth c H locs cells slots lsA hB hK hH hS hL hR
  exact lv_ldc2 hB.1 hB.2.1 hB.2.2.2.1 (hK.word hl args) hdg (k p ev R s m args below meth c H locs cells slots lsA hB hK hH hS hL hR)
theorem Ev.ldcD {idx : Nat} {v : UInt64} (hl : Cond.constantDouble M.1.cls idx v ∈ BW) (hdg : decode M.2.1 pc = .ok (.ldc2_w idx, 3)) (k : Ev X M d mc ms Q (pc + 3) ls (.double v :: st) h) : Ev X M d mc ms Q pc ls st h := by
  intro p ev R s m args below meth c H locs cells slots lsA hB hK hH hS hL hR
  exact lv_ldc2d hB.1 hB.2.1 hB.2.2.2.1 (hK.word hl args) hdg (k p ev R s m args below meth c H locs cells slots lsA hB hK hH hS hL hR)
theorem va_ldcwF {p : Program} {l : Launch} {e : Env} {R : Room} {s : State} {m : MethodId} {args : Array Value} {below : List Frame} {meth : Method} {c : Code} {locs : List Loc} {cells slots : Nat} {T : State} (X : Stand p l e R s m args below meth c T locs cells slots) (hexec : p.tables.exec = Jvm.exec) {own : String} {index : Nat} {v : UInt32} (hown : s.vm.findClass own = some m.cls)
    (hconst : (Cond.constantFloat own index v).before args s = true) {g : JFrame} (hg : g.method = m) (hdg : decode c.code g.pc = .ok (.ldc_w index, 3)) :
    ∀ target, Steps p.tables e below (T.setTop { g with pc := g.pc + 3, stack := .float v :: g.stack }) target → Steps p.tables e below (T.setTop g) target := by
  obtain ⟨k, cf, hk, hcf, hcp⟩ := Cond.constantFloat_spec hown hconst
  obtain ⟨k', hk', he⟩ := X.warmed.alike.2.2 _ _ hk
  intro target hrest
  subst hg
  jvm_step X.here [hexec, hdg, ldc_w.wp_float (s := T) (f := g) X.here.top hk' (by rw [he]; exact hcf) hcp]
  exact hrest
theorem Ev.ldcFW {idx : Nat} {v : UInt32} (hl : Cond.constantFloat M.1.cls idx v ∈ BW) (hdg : decode M.2.1 pc = .ok (.ldc_w idx, 3)) (k : Ev X M d mc ms Q (pc + 3) ls (.float v :: st) h) : Ev X M d mc ms Q pc ls st h := by
  intro p ev R s m args below meth c H locs cells slots lsA hB hK hH hS hL hR T hT XT
  obtain ⟨t, a1, b1⟩ := k p ev R s m args below meth c H locs cells slots lsA hB hK hH hS hL hR T hT XT
  exact ⟨t, va_ldcwF XT hB.1 hB.2.2.2.1 (hK.word hl args) (g := F0 m pc lsA (st.map (trV X))) rfl (by rw [hB.2.1]; exact hdg) t a1, b1⟩
end CEA
section CEB
variable {I J : HI} {m z x y q k w j : Nat} {a b c e f t dd v : Int32} {g : GS} {p r : Int32}
/-- what left, the first car's weight -/
def W67 (p r : Int32) (I : HI) : Prop := I 397 6 = p ∧ I 397 79 = r
theorem W67.up {n : Nat} (h : W67 p r I) (hj : n ≠ 397 ∨ (j ≠ 6 ∧ j ≠ 79)) : W67 p r (up2 I n j v) := by
  rcases hj with h1 | ⟨h1, h2⟩
  · have e : up2 I n j v 397 = I 397 := up2_ne (Ne.symm h1)
    exact ⟨(congrFun e 6).trans h.1, (congrFun e 79).trans h.2⟩
  · exact ⟨(up2_i (Ne.symm h1)).trans h.1, (up2_i (Ne.symm h2)).trans h.2⟩
theorem W67.eq (h : W67 p r I) (e : J 397 = I 397) : W67 p r J := ⟨by rw [e]; exact h.1, by rw [e]; exact h.2⟩
theorem shK_67 (hx : x < 8) (hy : y < 8) (h : W67 p r I) : W67 p r (shK I m z x y q) := by
  unfold shK
  refine fo_inv (P := W67 p r) (fun k A hA => ?_) _ _ _ ?_
  · unfold mvS mvM
    exact (((hA.up (Or.inr ⟨by omega, by omega⟩)).up (Or.inr ⟨by omega, by omega⟩)).up (Or.inr ⟨by omega, by omega⟩)).up (Or.inr ⟨by omega, by omega⟩)
  · exact h.eq (by rw [exM_ne (by decide), exM_ne (by decide)])
theorem shu_67 (ha : a.toNatClampNeg < 8) (hb : b.toNatClampNeg < 8) (h : W67 p r I) : W67 p r (shuM I m z a b c).2 := by
  unfold shuM
  split
  · exact (h.eq (whM_ne (by decide))).up (Or.inl (by decide))
  · exact (((shK_67 ha hb h).up (Or.inr (by decide))).up (Or.inr (by decide))).up (Or.inl (by decide))
theorem rep_67 (h : W67 p r I) : W67 p r (repM I m c).2 := by
  unfold repM
  (repeat' split) <;> first | exact h.up (Or.inl (by decide)) | exact (h.up (Or.inr ⟨by omega, by omega⟩)).up (Or.inl (by decide))
/-- a command that leaves the two as they were -/
theorem z_67 {kk : Nat} (h : ∀ p r, W67 p r (GJ g.1) → W67 p r (cmF g a b c e f kk).2) (h0 : (cmF g a b c e f kk).2 396 12 = 0) {u n : Nat} (hu : u < 2 ^ 31) (hn : n < 2 ^ 31) (e6 : g.1 6 = u) (e7 : g.1 79 = n) : (cmG g a b c e f kk).1 6 = u ∧ (cmG g a b c e f kk).1 79 = n := by
  have q := h (nI u) (nI n) ⟨congrArg nI e6, congrArg nI e7⟩
  unfold cmG cmS
  rw [if_pos h0]
  show canonG ((cmF g a b c e f kk).2 397) 6 = u ∧ canonG ((cmF g a b c e f kk).2 397) 79 = n
  unfold canonG
  rw [if_pos (by decide), if_pos (by decide), q.1, q.2]
  exact ⟨nI_clamp hu, nI_clamp hn⟩
/-- the first car's weight, once it is in -/
theorem zl_6 : ∀ k, k < 4 → LN (zl0 k) 6 = 0 ∧ LN (zl0 k) 79 = 0 := by decide +kernel
theorem z_1w (hk : k < 4) (hw : 10 ≤ w ∧ w ≤ 73) (h : g.1 = LN (zl0 k)) : (cmG g 0 15 (nI w) 7 1 3).1 6 = 0 ∧ (cmG g 0 15 (nI w) 7 1 3).1 79 = w := by
  have hz : ZL (zl0 k) g := fun j _ _ => by rw [h]
  have q := z_1 hk hw hz
  have Z := zl_01 k hk
  have e1 : g.1 1 = 0 := (hz 1 (by decide) (by decide)).trans Z.1.2
  have e6 : g.1 6 = 0 := by rw [h]; exact (zl_6 k hk).1
  have ef : (cmF g 0 15 (nI w) 7 1 3).2 = (accM (GJ g.1) 0 0 15 (nI w) 7 1).2 := by
    unfold cmF
    rw [e1]
    rfl
  have cd := q.2.1
  have ew : (accM (GJ g.1) 0 0 15 (nI w) 7 1).2 397 6 = nI 0 ∧ (accM (GJ g.1) 0 0 15 (nI w) 7 1).2 397 79 = nI w := by
    rw [ef] at cd
    have e60 : GJ g.1 397 6 = nI 0 := congrArg nI e6
    unfold accM at cd ⊢
    by_cases c1 : ¬ tkM (GJ g.1) 0
    · rw [if_pos c1] at cd
      exact absurd (show (1 : Int32) = 0 from (up2_hit (f := GJ g.1) (a := 396) (k := 12) (v := 1)).symm.trans cd) (by decide)
    rw [if_neg c1] at cd ⊢
    by_cases c2 : ¬ (((5 : Int32) ≤ 15 ∧ (15 : Int32) ≤ 30) ∧ (10 ≤ nI w ∧ nI w ≤ 90) ∧ ((0 : Int32) ≤ 7 ∧ (7 : Int32) ≤ 9))
    · exact absurd ⟨by decide, zwt_ok w hw.1 hw.2, by decide⟩ c2
    rw [if_neg c2] at cd ⊢
    rw [if_neg (show ¬ (0 : Nat) = 20 by decide)] at cd ⊢
    by_cases c3 : roM (GJ g.1) 0 (0 : Int32).toNatClampNeg < 15
    · rw [if_pos c3] at cd
      exact absurd (show (4 : Int32) = 0 from (up2_hit (f := GJ g.1) (a := 396) (k := 12) (v := 4)).symm.trans cd) (by decide)
    rw [if_neg c3]
    have t0 : (0 : Int32).toNatClampNeg = 0 := rfl
    have q : W67 (nI 0) (nI w) (accI (GJ g.1) 0 (0 : Int32).toNatClampNeg 15 (nI w) 7 1) := by
      rw [t0]
      unfold accI
      refine (((((((?_ : W67 _ _ _).up (Or.inr (by decide))).up (Or.inr (by decide))).up (Or.inr (by decide))).up (Or.inr (by decide))).up (Or.inr (by decide))).up (Or.inr (by decide))).up (Or.inr (by decide))
      exact ⟨(up2_i (by decide)).trans ((up2_i (by decide)).trans ((up2_i (by decide)).trans e60)), up2_hit⟩
    have q2 : W67 (nI 0) (nI w) (up2 (accI (GJ g.1) 0 (0 : Int32).toNatClampNeg 15 (nI w) 7 1) 396 12 0) := q.up (Or.inl (by decide))
    exact q2
  unfold cmG cmS
  rw [if_pos cd]
  show canonG ((cmF g 0 15 (nI w) 7 1 3).2 397) 6 = 0 ∧ canonG ((cmF g 0 15 (nI w) 7 1 3).2 397) 79 = w
  rw [ef]
  unfold canonG
  rw [if_pos (by decide), if_pos (by decide), ew.1, ew.2]
  exact ⟨nI_clamp (by decide), nI_clamp (by omega)⟩
end CEB
section CEC
variable {I J : HI} {m x k w s : Nat} {t dd : Int32} {g : GS}
theorem lvM_6 : lvM I m s 397 6 = I 397 6 + I 397 (79 + s) := by
  unfold lvM
  rw [up2_i (by decide), lvF_i (by decide)]
  unfold lv0
  exact (up2_i (by omega)).trans up2_hit
theorem dep_1 (h : E6 I J) (hm : m ≤ 20) (ht : t.toNatClampNeg < 8) (hf : E6 (fo (dpS m t.toNatClampNeg) (trN J m t.toNatClampNeg).toNatClampNeg 0 I) (fo (dpS m t.toNatClampNeg) (trN J m t.toNatClampNeg).toNatClampNeg 0 J)) : (depM I m t dd).1 = (depM J m t dd).1 ∧ E6 (depM I m t dd).2 (depM J m t dd).2 := by
  have l1 := fe_lt (I := J) (x := t.toNatClampNeg) (a := 0) hm
  unfold depM
  simp only [tk_c h, h.2 (31 + t.toNatClampNeg) (by omega) (by omega), fe_c h hm ht, h.2 (99 + (feM J m t.toNatClampNeg 0).toNatClampNeg) (by omega) (by omega), trN_c h hm ht, ba_c h hm ht]
  (repeat' split) <;> first | exact ⟨rfl, h.up rfl⟩ | exact ⟨rfl, hf.up rfl⟩
theorem dep_6 (h0 : (depM I m t dd).2 396 12 = 0) : (depM I m t dd).2 397 6 = fo (dpS m t.toNatClampNeg) (trN I m t.toNatClampNeg).toNatClampNeg 0 I 397 6 := by
  have no : ∀ v : Int32, ¬ v = 0 → ¬ up2 I 396 12 v 396 12 = 0 := fun v hv q => hv ((up2_hit (f := I) (a := 396) (k := 12) (v := v)).symm.trans q)
  unfold depM at h0 ⊢
  by_cases c1 : ¬ tkM I t
  · rw [if_pos c1] at h0
    exact absurd h0 (no 1 (by decide))
  rw [if_neg c1] at h0 ⊢
  by_cases c2 : ¬ (0 ≤ dd ∧ dd ≤ 9)
  · rw [if_pos c2] at h0
    exact absurd h0 (no 2 (by decide))
  rw [if_neg c2] at h0 ⊢
  by_cases c3 : I 397 (31 + t.toNatClampNeg) = 0 ∨ ¬ I 397 (99 + (feM I m t.toNatClampNeg 0).toNatClampNeg) = dd
  · rw [if_pos c3] at h0
    exact absurd h0 (no 3 (by decide))
  rw [if_neg c3] at h0 ⊢
  by_cases c4 : ¬ fo (baS I m t.toNatClampNeg) (trN I m t.toNatClampNeg).toNatClampNeg 0 0 = 0
  · rw [if_pos c4] at h0
    exact absurd h0 (no 4 (by decide))
  rw [if_neg c4]
  show up2 (fo (dpS m t.toNatClampNeg) (trN I m t.toNatClampNeg).toNatClampNeg 0 I) 396 12 0 397 6 = _
  rw [up2_ne (by decide)]
theorem fo_in {P : HI → Prop} {f : Nat → HI → HI} : ∀ (n k : Nat) (A : HI), (∀ i A, k ≤ i → i < k + n → P A → P (f i A)) → P A → P (fo f n k A)
  | 0, _, _, _, h => h
  | n + 1, k, A, h, e => fo_in n (k + 1) _ (fun i A h1 h2 e => h i A (by omega) (by omega) e) (h k A (Nat.le_refl _) (by omega) e)
theorem lvM_79 (hs : 1 ≤ s ∧ s < 20) (ht : (I 397 (139 + s)).toNatClampNeg < 8) : lvM I m s 397 79 = I 397 79 := by
  unfold lvM
  rw [up2_i (by decide)]
  refine fo_in (P := fun J => J 397 79 = I 397 79) 7 0 _ (fun j A _ hj e => ?_) ?_
  · unfold lvR
    refine fo_in (P := fun J => J 397 79 = I 397 79) _ _ _ (fun k A h1 h2 e => ?_) e
    unfold lvS
    exact (up2_i (by omega)).trans e
  · unfold lv0
    exact (up2_i (by omega)).trans ((up2_i (by decide)).trans (up2_i (by decide)))
set_option maxRecDepth 100000 in
theorem zd9 : ∀ k, k < 4 → (feM (GJ (LN (zl8 k))) 3 0 0 = 2 ∧ (GJ (LN (zl8 k)) 397 (139 + 2)).toNatClampNeg < 8) ∧ (feM (lvM (GJ (LN (zl8 k))) 3 2) 2 0 0 = 0 ∧ (lvM (GJ (LN (zl8 k))) 3 2 397 (139 + 0)).toNatClampNeg < 8 ∧ GJ (LN (zl8 k)) 397 81 = 10) ∧ trN (GJ (LN (zl8 k))) 3 0 = 2 := by decide +kernel
/-- the train that leaves -/
theorem z_9 (hk : k < 4) (h : ZL (zl8 k) g) (h6 : g.1 6 = 0) (h7 : g.1 79 = w) (hw : w ≤ 73) : (cmF g 0 7 0 0 0 6).1 = nI 2 ∧ (cmF g 0 7 0 0 0 6).2 396 12 = 0 ∧ ZL (zl9 k) (cmG g 0 7 0 0 0 6) ∧ (cmG g 0 7 0 0 0 6).1 6 = w + 10 := by
  have L := zl_len k hk
  have Z := zl_01 k hk
  obtain ⟨⟨f1, f2⟩, ⟨f3, f4, f5⟩, f6⟩ := zd9 k hk
  have E := h.e6
  have t0 : (0 : Int32).toNatClampNeg = 0 := rfl
  have t2 : (2 : Int32).toNatClampNeg = 2 := rfl
  have g1 : feM (GJ g.1) 3 0 0 = 2 := (fe_c E (by decide) (by decide)).trans f1
  have E1 : E6 (lvM (GJ g.1) 3 2) (lvM (GJ (LN (zl8 k))) 3 2) := lv_c E (by decide) (by decide) f2
  have g2 : feM (lvM (GJ g.1) 3 2) 2 0 0 = 0 := (fe_c E1 (by decide) (by decide)).trans f3
  have E2 : E6 (lvM (lvM (GJ g.1) 3 2) 2 0) (lvM (lvM (GJ (LN (zl8 k))) 3 2) 2 0) := lv_c E1 (by decide) (by decide) f4
  have u1 : ∀ I : HI, feM I 3 0 0 = 2 → feM (lvM I 3 2) 2 0 0 = 0 → fo (dpS 3 0) 2 0 I = lvM (lvM I 3 2) 2 0 := fun I a b => by
    show lvM (lvM I 3 (feM I 3 0 0).toNatClampNeg) 2 (feM (lvM I 3 (feM I 3 0 0).toNatClampNeg) 2 0 0).toNatClampNeg = _
    rw [a, t2, b, t0]
  have hf : E6 (fo (dpS 3 0) 2 0 (GJ g.1)) (fo (dpS 3 0) 2 0 (GJ (LN (zl8 k)))) := by
    rw [u1 _ g1 g2, u1 _ f1 f3]
    exact E2
  have D := dep_1 (t := 0) (dd := 7) (m := 3) E (by decide) (by decide) (by rw [t0, f6, t2]; exact hf)
  have q : (cmF g 0 7 0 0 0 6).1 = nI 2 ∧ (cmF g 0 7 0 0 0 6).2 396 12 = 0 ∧ ZL (zl9 k) (cmG g 0 7 0 0 0 6) := z_step (c' := 0) h Z.2.2.2.2.2.2.2.2.1.1 Z.2.2.2.2.2.2.2.2.1.2 (by omega) D (zc9v k hk) (zc9r k hk)
  refine ⟨q.1, q.2.1, q.2.2, ?_⟩
  have cd := q.2.1
  have e1 : g.1 1 = 3 := (h 1 (by decide) (by decide)).trans Z.2.2.2.2.2.2.2.2.1.2
  have ef : (cmF g 0 7 0 0 0 6).2 = (depM (GJ g.1) 3 0 7).2 := by
    unfold cmF
    rw [e1]
    rfl
  have d6 : (depM (GJ g.1) 3 0 7).2 397 6 = nI (w + 10) := by
    have cd' := cd
    rw [ef] at cd'
    have x6 : GJ g.1 397 6 = nI 0 := congrArg nI h6
    have x7 : lvM (GJ g.1) 3 2 397 (79 + 0) = nI w := (lvM_79 ⟨by decide, by decide⟩ (by rw [E.2 (139 + 2) (by decide) (by decide)]; exact f2)).trans (congrArg nI h7)
    have x8 : GJ g.1 397 (79 + 2) = nI 10 := (E.2 81 (by decide) (by decide)).trans f5
    rw [dep_6 cd', t0, (trN_c E (by decide) (by decide)).trans f6, t2, u1 _ g1 g2, lvM_6, lvM_6, x6, x7, x8, nI_add, nI_add, Nat.zero_add, Nat.add_comm]
  unfold cmG cmS
  rw [if_pos cd]
  show canonG ((cmF g 0 7 0 0 0 6).2 397) 6 = w + 10
  unfold canonG
  rw [if_pos (by decide), ef, d6]
  exact nI_clamp (by omega)
/-- the run of z's program, its numbers whole -/
theorem rn_T3 (hk : k < 4) : ∃ s : GS, rnG ((T2 k).foldl appS st_s) = (nI 5, 0, s) ∧ s.1 = LN (zl0 k) ∧ s.2.2.2.2.1 = 0 := by
  obtain ⟨⟨r1, r2, r3⟩, -⟩ := T2_rd k hk
  obtain ⟨q1, q2⟩ := zrun k hk
  have L := (zl_len k hk).1
  have R : rnG ((T2 k).foldl appS st_s) = rnT (T2 k) st_s := rn_good rfl ⟨r2, r3⟩
  have n := @rnT_none (T2 k) st_s
  rw [r1, stG] at n
  obtain ⟨M, hM⟩ : ∃ M, M = mrL 5 0 (GR st_g 0 (rdT (T2 k)).2.2.2) := ⟨_, rfl⟩
  rw [← hM] at n q1 q2
  have e := n q1
  rw [e] at R
  refine ⟨_, R, funext fun j => ?_, rfl⟩
  show canonG (M.2 397) j = LN (zl0 k) j
  by_cases hj : j < 179
  · exact q2 j hj
  · unfold canonG LN
    rw [if_neg hj, List.getD_eq_getElem?_getD, List.getElem?_eq_none (by omega)]
    rfl
end CEC
