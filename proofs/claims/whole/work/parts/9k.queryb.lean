/-! the queries, class and model -/
section YQI
variable {X : JX} {K N v d qq z m : Nat} {T : Nat → Option JS} {I J A : HI} {L : HL} {Dd : HD} {g σ : Nat → Nat} {gs : Nat → Nat → Nat} {sv : Option (Nat → Nat)} {tx : Nat → Int32} {er fl : Int32} {w : List Int32} {a b c e t : Int32} {x y k s : Nat} {ad : Nat → Nat → Prop}
theorem seqX_eq {f : Option String} {k : Option String × Int32 × HI} (h1 : eqS A I) (h2 : eqS k.2.2 I) : eqS (seqX f A k).2.2 I := by
  unfold seqX
  split
  · exact h1
  · exact h2
theorem seqX_l {f : Option String} {x : Int32} (h : eqS A I) : eqS (seqX f I (none, x, A)).2.2 I := seqX_eq (eqS.rf I) h
theorem near_eq {z f : Nat} : eqS (nearU I z f).1 I := fo_inv (P := fun (u : HI × Int32 × Int32) => eqS u.1 I) (fun k u h => by
  unfold stNr
  split
  · split
    · exact bfsI_eq.tr (move_eq.tr h)
    · exact bfsI_eq.tr (move_eq.tr h)
  · exact move_eq.tr h) z 0 _ (eqS.rf I)
theorem sound_eq : ∀ n k (O : HI), eqS O I → eqS (soundF n k O).2 I
  | 0, k, O, h => h
  | n + 1, k, O, h => by
    have l0 : eqS (listO (listO O (nI k)) (nI k)) I := listO_eq.tr (listO_eq.tr h)
    have l1 : eqS (shiftsF (listO (listO O (nI k)) (nI k)) (O 31 k).toNatClampNeg).1 I := shifts_eq l0
    unfold soundF
    generalize shiftsF (listO (listO O (nI k)) (nI k)) (O 31 k).toNatClampNeg = A at l1 ⊢
    have l2 : eqS (listO A.1 (nI k)) I := listO_eq.tr l1
    generalize listO A.1 (nI k) = B at l2 ⊢
    have fin : ∀ (p q r : Prop) [Decidable p] [Decidable q] [Decidable r], eqS (if p then (if q then (if r then ((0 : Int32), B) else soundF n (k + 1) B) else (0, B)) else (0, A.1)).2 I := fun p q r _ _ _ => by
      by_cases c1 : p
      · rw [if_pos c1]
        by_cases c2 : q
        · rw [if_pos c2]
          by_cases c3 : r
          · rw [if_pos c3]
            exact l2
          · rw [if_neg c3]
            exact sound_eq n (k + 1) B l2
        · rw [if_neg c2]
          exact l2
      · rw [if_neg c1]
        exact l1
    exact fin _ _ _
theorem cons_eq {z : Nat} : eqS (consF I z).2 I := by
  have w1 := way_eq (I := I) (sz := z) z 0 (matI I z) mat_eq
  unfold consF
  split
  · exact w1
  · exact sound_eq z 0 _ w1
theorem dnM_q {p : Prop} [Decidable p] {c e : Int32} : FQ J (dnM p c J e).2 := by
  unfold dnM
  split
  · exact FQ.rf.th
  · exact FQ.rf.th
theorem carAtM_q : FQ J (carAtM J m t c).2 := by
  unfold carAtM
  split
  · exact FQ.rf.th
  · exact dnM_q
theorem srtM_q : FQ J (srtM J m t).2 := by
  unfold srtM
  split
  · exact FQ.rf.th
  · exact FQ.rf.th
theorem rkP_q : FQ J (rkP J c).2 := by
  unfold rkP
  split
  · exact FQ.rf.th
  · exact FQ.rf.th
theorem acM_q : FQ J (acM J a b).2 := by
  unfold acM
  split
  · exact FQ.rf.th
  · exact FQ.rf.th
theorem rlM_q : FQ J (rlM J z a b).2 := by
  unfold rlM
  split
  · exact FQ.rf.th
  · split
    · exact (FQ.rf.xx (fun r h => exM_ne h)).th
    · exact (FQ.rf.xx (fun r h => exM_ne h)).th
theorem rtM_q : FQ J (rtM J z a b c).2 := by
  unfold rtM
  split
  · exact rlM_q
  · split
    · exact rlM_q.th
    · exact rlM_q.th
theorem stiM_q : FQ J (stiM J m z a b c).2 := by
  unfold stiM
  split
  · exact (FQ.rf.xx (fun r h => whM_ne h)).th
  · exact (FQ.rf.xx (fun r h => (exM_ne h).trans (exM_ne h))).th
theorem nfS_o {x : Nat} : ∀ r, r ≠ 403 → (fo (nfS m z x) z 0 (-1, J)).2 r = J r := by
  refine fo_inv (P := fun (w : Int32 × HI) => ∀ r, r ≠ 403 → w.2 r = J r) (fun k w h => ?_) z 0 _ (fun _ _ => rfl)
  intro r hr
  unfold nfS
  split
  · exact (whM_ne hr).trans (h r hr)
  · split
    · exact (whM_ne hr).trans (h r hr)
    · exact (exM_ne hr).trans ((exM_ne hr).trans ((whM_ne hr).trans (h r hr)))
theorem nfM_q : FQ J (nfM J m z t).2 := by
  unfold nfM
  split
  · exact FQ.rf.th
  · split
    · exact (FQ.rf.xx nfS_o).th
    · exact (FQ.rf.xx nfS_o).th
theorem slP_q {f : Nat → Int32} : FQ J (slP J m c f).2 := by
  unfold slP
  split
  · exact FQ.rf.th
  · exact FQ.rf.th
theorem crP_q : FQ J (crP J m c m 0).2 := by
  rcases crP_or (J := J) (m := m) (c := c) m 0 with ⟨h, -⟩ | ⟨i, -, -, -, h⟩
  · rw [h]
    exact FQ.rf.th
  · rw [h]
    exact FQ.rf.th
/-- the model's part, seen from the heap behind the class's call -/
theorem mq (h : CP K N v T I L Dd g gs d sv qq tx er fl w) (hm : MP I g gs d sv qq tx er fl w) (he : eqS J I) : (∃ σ, YR K I L (J 397) g σ) ∧ g 1 ≤ 20 ∧ J 397 1 = nI (g 1) ∧ g 0 ≤ 8 ∧ J 397 0 = nI (g 0) ∧ PLM J (g 1) ∧ MP J g gs d sv qq tx er fl w := by
  have m1 : MP J g gs d sv qq tx er fl w := hm.fr (fun a h1 h2 => he a (by omega) (by omega) (by omega) (by omega))
  obtain ⟨⟨σ, y⟩, -⟩ := h
  exact ⟨⟨σ, y.yr m1.1⟩, y.2.1.1.2.1, m1.1 1 (by decide), y.2.1.1.1, m1.1 0 (by decide), PLM_g y.1 y.2.1 m1.1, m1⟩
/-- the class's search from or to what is no track -/
theorem bfs_hi {s : Nat} (hl : ∀ i k, i < 8 → k < 8 → (I 8 (i * 8 + k) = 1 ↔ ad i k)) (hs : ∀ i j, ad i j → ad j i) (hz : ∀ i j, ad i j → i < z ∧ j < z) (hz8 : z ≤ 8) (hs8 : s < 8) (hi : x < 8) (h : z ≤ x ∨ z ≤ s) : bfsI I z s 10 x = 1000 ∨ bfsI I z s 10 x = 0 := by
  have ini : ∀ j, j < 8 → up2 (up2 (fillI I 10 8 1000) 10 s 0) 12 0 (nI s) 10 j = if j = s then 0 else 1000 := fun j hj => by
    rw [up2_ne (by decide), up2_v]
    by_cases c : j = s
    · rw [if_pos c, if_pos c]
    · rw [if_neg c, if_neg c, fillI_v hj]
  by_cases hsz : s < z
  · have h0 : bqJ I ad z s 0 0 (up2 (up2 (fillI I 10 8 1000) 10 s 0) 12 0 (nI s), 1) (fun j => if j = s then 0 else 1000) (fun _ => s) 1 := by
      refine ⟨fun a ha ha2 => ?_, ⟨rfl, by omega, by omega⟩, fun p hp => ?_, fun j hj => ?_, fun p hp => ?_, fun j hj hd => ?_, fun p p' h1 h2 => by omega, fun j hj hd => ?_, fun p p' h1 h2 => Nat.le_refl _, fun p hp => by omega, fun hh p hp => Nat.le_succ _, fun hh n hn => by omega, if_pos rfl⟩
      · show up2 (up2 (fillI I 10 8 1000) 10 s 0) 12 0 (nI s) a = I a
        rw [up2_ne ha2, up2_ne ha, fillI_ne ha]
      · refine ⟨hsz, ?_⟩
        show up2 (up2 (fillI I 10 8 1000) 10 s 0) 12 0 (nI s) 12 p = nI s
        rw [up2_v, if_pos (by omega)]
      · show up2 (up2 (fillI I 10 8 1000) 10 s 0) 12 0 (nI s) 10 j = nI (if j = s then 0 else 1000) ∧ ((if j = s then 0 else 1000) < 8 ∨ (if j = s then 0 else 1000) = 1000)
        rw [ini j hj]
        by_cases c : j = s
        · rw [if_pos c, if_pos c]; exact ⟨rfl, Or.inl (by omega)⟩
        · rw [if_neg c, if_neg c]; exact ⟨rfl, Or.inr rfl⟩
      · show (if s = s then 0 else 1000) ≤ p
        rw [if_pos rfl]; exact Nat.zero_le _
      · refine ⟨0, by omega, ?_⟩
        by_cases c : j = s
        · exact c.symm
        · exact absurd (if_neg c) hd
      · show wk ad s (if j = s then 0 else 1000) j
        by_cases c : j = s
        · rw [if_pos c]; exact c
        · exact absurd (if_neg c) hd
    obtain ⟨D, Q, q, h', hqh, ⟨h1, h2, h3, h4, h5, h6, h7, h8, h9, h10, h11, h12, h13⟩⟩ := bq_lo (fun i k hi hk => hl i k (by omega) (by omega)) hs hz8 8 0 _ _ _ _ (by omega) h0
    refine Or.inl ?_
    have e : D x = 1000 := by
      by_cases c : D x = 1000
      · exact c
      · obtain ⟨p, hp, e⟩ := h6 x hi c
        have := (h3 p hp).1
        omega
    have e2 := (h4 x hi).1
    rw [e] at e2
    exact e2
  · have st : ∀ k (u : HI × Int32), k < z → u.1 8 = I 8 → stN (nI s) k u = u := fun k u hk h8 => by
      unfold stN
      rw [if_neg (fun c => by
        have c1 := c.1
        rw [cix, rg_nI (by omega) (by decide), h8] at c1
        have := hz _ _ ((hl s k hs8 (by omega)).mp c1)
        omega)]
    have sc : ∀ (u : HI × Int32), u.1 8 = I 8 → fo (stN (nI s)) z 0 u = u := fun u h8 => by
      have := fo_at (e := z) (P := fun _ (w : HI × Int32) => w = u) (f := stN (nI s)) (fun k w hk hw => by rw [hw]; exact st k u hk h8) z 0 u (by omega) rfl
      exact this
    have r : bfsI I z s = up2 (up2 (fillI I 10 8 1000) 10 s 0) 12 0 (nI s) := by
      have b1 : bfs z 8 0 (up2 (up2 (fillI I 10 8 1000) 10 s 0) 12 0 (nI s), 1) = bfs z 7 1 (up2 (up2 (fillI I 10 8 1000) 10 s 0) 12 0 (nI s), 1) := by
        show (if nI 0 < (1 : Int32) then bfs z 7 1 (fo (stN (up2 (up2 (fillI I 10 8 1000) 10 s 0) 12 0 (nI s) 12 0)) z 0 (up2 (up2 (fillI I 10 8 1000) 10 s 0) 12 0 (nI s), 1)) else _) = _
        rw [if_pos (by decide), up2_v, if_pos rfl, sc _ (by show up2 (up2 (fillI I 10 8 1000) 10 s 0) 12 0 (nI s) 8 = I 8; rw [up2_ne (by decide), up2_ne (by decide), fillI_ne (by decide)])]
      have b2 : bfs z 7 1 (up2 (up2 (fillI I 10 8 1000) 10 s 0) 12 0 (nI s), 1) = (up2 (up2 (fillI I 10 8 1000) 10 s 0) 12 0 (nI s), 1) := by
        show (if nI 1 < (1 : Int32) then _ else _) = _
        exact if_neg (by decide)
      unfold bfsI
      rw [b1, b2]
    rw [r, ini x hi]
    by_cases c : x = s
    · rw [if_pos c]; exact Or.inr rfl
    · rw [if_neg c]; exact Or.inl rfl
theorem hst_g (H : YR K I L (J 397) g σ) : ∀ i j, i < 8 → j < 8 → stepsF I (g 0) i j ≠ 1000 → ∃ q, q < 8 ∧ stepsF I (g 0) i j = nI q := fun i j hi hj hne => by
  have W := H.2.2.1
  by_cases c : i < g 0 ∧ j < g 0
  · have D := bfs_d H.2.2.2.2.2.1 W c.1 c.2
    have e : stepsF I (g 0) i j = nI (dsN g i j) := D.1
    rcases isD_1000 D.2 with q | q
    · rw [e, q] at hne
      exact absurd rfl hne
    · exact ⟨_, q, e⟩
  · have hl : ∀ i k, i < 8 → k < 8 → (I 8 (i * 8 + k) = 1 ↔ adN g i k) := fun i k hi hk => by
      rw [H.2.2.2.2.2.1 i k hi hk]
      by_cases c : (g (23 + i)).testBit k = true
      · rw [if_pos c]
        exact ⟨fun _ => ⟨hi, hk, c⟩, fun _ => rfl⟩
      · rw [if_neg c]
        exact ⟨fun e => absurd e (by decide), fun e => absurd e.2.2 c⟩
    rcases bfs_hi (x := i) hl (adN_s W) (adN_z W) W.1.1 hj hi (by omega) with q | q
    · exact absurd q hne
    · exact ⟨0, by decide, q⟩

theorem b_freeLength (hX : JXok X) (h : CP K N v T I L Dd g gs d sv qq tx er fl w) (hm : MP I g gs d sv qq tx er fl w) (hN : N + 1 < BIG) : CLS X K 4 24 jdX6_freeLength [.int t] jdX7_freeLength [.int t] [xIO] PIv N v T I L Dd := by
  obtain ⟨p1, p2, p3, -⟩ := h.pre
  have he : eqS (freeQ I t).2.2 I := seqX_eq (eqS.rf I) (eqS.rf I)
  obtain ⟨J, hJ⟩ : ∃ J, J = (freeQ I t).2.2 := ⟨_, rfl⟩
  rw [← hJ] at he
  obtain ⟨⟨σ, Y⟩, m20, m1, z8, z0, pl, mp⟩ := mq h hm he
  have tk9 : ∀ s, s < g 1 → ∃ t9, t9 < 8 ∧ J 397 (139 + s) = nI t9 := fun s hs => by
    have cb := Y.2.2.1.car Y.1 hs
    exact ⟨g (139 + s), by omega, Y.2.1 _ (by omega)⟩
  refine cls_q (r := dnM (tkM J t) (roM J (g 1) t.toNatClampNeg) J 1) h hm (c_freeLength hX (by decide) h.N4 hN p1 p2 p3) (by rw [← hJ]; exact he) (fun N v T L Dd => ?_) ?_ (ag_free Y t)
  · rw [← hJ]
    exact m_freeLength hX (by decide) m20 m1 z8 z0
  · rw [← hJ]
    exact dnM_q
theorem b_carsOn (hX : JXok X) (h : CP K N v T I L Dd g gs d sv qq tx er fl w) (hm : MP I g gs d sv qq tx er fl w) (hN : N + 1 < BIG) : CLS X K 4 24 jdX6_carsOn [.int t] jdX7_carsOn [.int t] [xIO] PIv N v T I L Dd := by
  obtain ⟨p1, p2, p3, -⟩ := h.pre
  have he : eqS (heightQ I t).2.2 I := seqX_eq (eqS.rf I) (eqS.rf I)
  obtain ⟨J, hJ⟩ : ∃ J, J = (heightQ I t).2.2 := ⟨_, rfl⟩
  rw [← hJ] at he
  obtain ⟨⟨σ, Y⟩, m20, m1, z8, z0, pl, mp⟩ := mq h hm he
  have tk9 : ∀ s, s < g 1 → ∃ t9, t9 < 8 ∧ J 397 (139 + s) = nI t9 := fun s hs => by
    have cb := Y.2.2.1.car Y.1 hs
    exact ⟨g (139 + s), by omega, Y.2.1 _ (by omega)⟩
  refine cls_q (r := dnM (tkM J t) (J 397 (31 + t.toNatClampNeg)) J 1) h hm (c_carsOn hX (by decide) h.N4 hN p1 p2 p3) (by rw [← hJ]; exact he) (fun N v T L Dd => ?_) ?_ (ag_carsOn Y t)
  · rw [← hJ]
    exact m_carsOn hX (by decide) m20 m1 z8 z0
  · rw [← hJ]
    exact dnM_q
theorem b_weightOn (hX : JXok X) (h : CP K N v T I L Dd g gs d sv qq tx er fl w) (hm : MP I g gs d sv qq tx er fl w) (hN : N + 1 < BIG) : CLS X K 4 24 jdX6_weightOn [.int t] jdX7_weightOn [.int t] [xIO] PIv N v T I L Dd := by
  obtain ⟨p1, p2, p3, -⟩ := h.pre
  have he : eqS (weightQ I t).2.2 I := seqX_eq (eqS.rf I) (eqS.rf I)
  obtain ⟨J, hJ⟩ : ∃ J, J = (weightQ I t).2.2 := ⟨_, rfl⟩
  rw [← hJ] at he
  obtain ⟨⟨σ, Y⟩, m20, m1, z8, z0, pl, mp⟩ := mq h hm he
  have tk9 : ∀ s, s < g 1 → ∃ t9, t9 < 8 ∧ J 397 (139 + s) = nI t9 := fun s hs => by
    have cb := Y.2.2.1.car Y.1 hs
    exact ⟨g (139 + s), by omega, Y.2.1 _ (by omega)⟩
  refine cls_q (r := dnM (tkM J t) (smM J (g 1) t 79) J 1) h hm (c_weightOnQ hX (by decide) h.N4 hN p1 p2 p3) (by rw [← hJ]; exact he) (fun N v T L Dd => ?_) ?_ (ag_weight Y t)
  · rw [← hJ]
    exact m_weightOn hX (by decide) m20 m1 z8 z0
  · rw [← hJ]
    exact dnM_q
theorem b_carAt (hX : JXok X) (h : CP K N v T I L Dd g gs d sv qq tx er fl w) (hm : MP I g gs d sv qq tx er fl w) (hN : N + 1 < BIG) : CLS X K 4 24 jdX6_carAt [.int t, .int c] jdX7_carAt [.int t, .int c] [xIO, xNE] PIv N v T I L Dd := by
  obtain ⟨p1, p2, p3, -⟩ := h.pre
  have he : eqS (carAtQ I t c).2.2 I := seqX_eq (eqS.rf I) (seqX_eq (eqS.rf I) (eqS.rf I))
  obtain ⟨J, hJ⟩ : ∃ J, J = (carAtQ I t c).2.2 := ⟨_, rfl⟩
  rw [← hJ] at he
  obtain ⟨⟨σ, Y⟩, m20, m1, z8, z0, pl, mp⟩ := mq h hm he
  have tk9 : ∀ s, s < g 1 → ∃ t9, t9 < 8 ∧ J 397 (139 + s) = nI t9 := fun s hs => by
    have cb := Y.2.2.1.car Y.1 hs
    exact ⟨g (139 + s), by omega, Y.2.1 _ (by omega)⟩
  refine cls_q (r := carAtM J (g 1) t c) h hm (c_carAt hX (by decide) h.N4 hN p1 p2 p3) (by rw [← hJ]; exact he) (fun N v T L Dd => ?_) ?_ (ag_carAt Y t c)
  · rw [← hJ]
    exact m_carAt hX (by decide) m20 m1 z8 z0 pl
  · rw [← hJ]
    exact carAtM_q
theorem b_isSorted (hX : JXok X) (h : CP K N v T I L Dd g gs d sv qq tx er fl w) (hm : MP I g gs d sv qq tx er fl w) (hN : N + 1 < BIG) : CLS X K 4 24 jdX6_isSorted [.int t] jdX7_isSorted [.int t] [xIO] PIv N v T I L Dd := by
  obtain ⟨p1, p2, p3, -⟩ := h.pre
  have he : eqS (sortedQ I t).2.2 I := by
    unfold sortedQ
    exact seqX_l listO_eq
  obtain ⟨J, hJ⟩ : ∃ J, J = (sortedQ I t).2.2 := ⟨_, rfl⟩
  rw [← hJ] at he
  obtain ⟨⟨σ, Y⟩, m20, m1, z8, z0, pl, mp⟩ := mq h hm he
  have tk9 : ∀ s, s < g 1 → ∃ t9, t9 < 8 ∧ J 397 (139 + s) = nI t9 := fun s hs => by
    have cb := Y.2.2.1.car Y.1 hs
    exact ⟨g (139 + s), by omega, Y.2.1 _ (by omega)⟩
  refine cls_q (r := srtM J (g 1) t) h hm (c_isSorted hX (by decide) h.N4 hN p1 p2 p3) (by rw [← hJ]; exact he) (fun N v T L Dd => ?_) ?_ (ag_sorted Y t)
  · rw [← hJ]
    exact m_isSorted hX (by decide) m20 m1 z8 z0 pl
  · rw [← hJ]
    exact srtM_q
theorem b_disorder (hX : JXok X) (h : CP K N v T I L Dd g gs d sv qq tx er fl w) (hm : MP I g gs d sv qq tx er fl w) (hN : N + 1 < BIG) : CLS X K 4 24 jdX6_disorder [.int t] jdX7_disorder [.int t] [xIO] PIv N v T I L Dd := by
  obtain ⟨p1, p2, p3, -⟩ := h.pre
  have he : eqS (disQ I t).2.2 I := by
    unfold disQ
    exact seqX_l listO_eq
  obtain ⟨J, hJ⟩ : ∃ J, J = (disQ I t).2.2 := ⟨_, rfl⟩
  rw [← hJ] at he
  obtain ⟨⟨σ, Y⟩, m20, m1, z8, z0, pl, mp⟩ := mq h hm he
  have tk9 : ∀ s, s < g 1 → ∃ t9, t9 < 8 ∧ J 397 (139 + s) = nI t9 := fun s hs => by
    have cb := Y.2.2.1.car Y.1 hs
    exact ⟨g (139 + s), by omega, Y.2.1 _ (by omega)⟩
  refine cls_q (r := dnM (tkM J t) (paM J (g 1) t.toNatClampNeg (J 397 (31 + t.toNatClampNeg)).toNatClampNeg) J 1) h hm (c_disorder hX (by decide) h.N4 hN p1 p2 p3) (by rw [← hJ]; exact he) (fun N v T L Dd => ?_) ?_ (ag_dis Y t)
  · rw [← hJ]
    exact m_disorder hX (by decide) m20 m1 z8 z0 pl
  · rw [← hJ]
    exact dnM_q
theorem b_disorderByInsertion (hX : JXok X) (h : CP K N v T I L Dd g gs d sv qq tx er fl w) (hm : MP I g gs d sv qq tx er fl w) (hN : N + 1 < BIG) : CLS X K 4 24 jdX6_disorderByInsertion [.int t] jdX7_disorderByInsertion [.int t] [xIO] PIv N v T I L Dd := by
  obtain ⟨p1, p2, p3, -⟩ := h.pre
  have he : eqS (disIQ I t).2.2 I := seqX_eq (eqS.rf I) (shifts_eq listO_eq)
  obtain ⟨J, hJ⟩ : ∃ J, J = (disIQ I t).2.2 := ⟨_, rfl⟩
  rw [← hJ] at he
  obtain ⟨⟨σ, Y⟩, m20, m1, z8, z0, pl, mp⟩ := mq h hm he
  have tk9 : ∀ s, s < g 1 → ∃ t9, t9 < 8 ∧ J 397 (139 + s) = nI t9 := fun s hs => by
    have cb := Y.2.2.1.car Y.1 hs
    exact ⟨g (139 + s), by omega, Y.2.1 _ (by omega)⟩
  refine cls_q (r := dnM (tkM J t) (paM J (g 1) t.toNatClampNeg (J 397 (31 + t.toNatClampNeg)).toNatClampNeg) J 1) h hm (c_disorderI hX (by decide) h.N4 hN p1 p2 p3) (by rw [← hJ]; exact he) (fun N v T L Dd => ?_) ?_ (ag_disI Y t)
  · rw [← hJ]
    exact m_disorderByInsertion hX (by decide) m20 m1 z8 z0 pl
  · rw [← hJ]
    exact dnM_q
theorem b_trainLength (hX : JXok X) (h : CP K N v T I L Dd g gs d sv qq tx er fl w) (hm : MP I g gs d sv qq tx er fl w) (hN : N + 1 < BIG) : CLS X K 4 24 jdX6_trainLength [.int t] jdX7_trainLength [.int t] [xIO] PIv N v T I L Dd := by
  obtain ⟨p1, p2, p3, -⟩ := h.pre
  have he : eqS (trainQ I t).2.2 I := by
    unfold trainQ
    exact seqX_l listO_eq
  obtain ⟨J, hJ⟩ : ∃ J, J = (trainQ I t).2.2 := ⟨_, rfl⟩
  rw [← hJ] at he
  obtain ⟨⟨σ, Y⟩, m20, m1, z8, z0, pl, mp⟩ := mq h hm he
  have tk9 : ∀ s, s < g 1 → ∃ t9, t9 < 8 ∧ J 397 (139 + s) = nI t9 := fun s hs => by
    have cb := Y.2.2.1.car Y.1 hs
    exact ⟨g (139 + s), by omega, Y.2.1 _ (by omega)⟩
  refine cls_q (r := dnM (tkM J t) (trN J (g 1) t.toNatClampNeg) J 1) h hm (c_trainLength hX (by decide) h.N4 hN p1 p2 p3) (by rw [← hJ]; exact he) (fun N v T L Dd => ?_) ?_ (ag_trainL Y t)
  · rw [← hJ]
    exact m_trainLength hX (by decide) m20 m1 z8 z0 pl
  · rw [← hJ]
    exact dnM_q
theorem b_trackAtRank (hX : JXok X) (h : CP K N v T I L Dd g gs d sv qq tx er fl w) (hm : MP I g gs d sv qq tx er fl w) (hN : N + 1 < BIG) : CLS X K 4 24 jdX6_trackAtRank [.int c] jdX7_trackAtRank [.int c] [xNE] PIv N v T I L Dd := by
  obtain ⟨p1, p2, p3, -⟩ := h.pre
  have he : eqS (tRankQ I (g 0) c).2.2 I := seqX_eq (eqS.rf I) (eqS.rf I)
  obtain ⟨J, hJ⟩ : ∃ J, J = (tRankQ I (g 0) c).2.2 := ⟨_, rfl⟩
  rw [← hJ] at he
  obtain ⟨⟨σ, Y⟩, m20, m1, z8, z0, pl, mp⟩ := mq h hm he
  have tk9 : ∀ s, s < g 1 → ∃ t9, t9 < 8 ∧ J 397 (139 + s) = nI t9 := fun s hs => by
    have cb := Y.2.2.1.car Y.1 hs
    exact ⟨g (139 + s), by omega, Y.2.1 _ (by omega)⟩
  refine cls_q (r := rkP J (rkF J (g 1) (g 0) c (g 0) 0)) h hm (c_trackAtRank hX (by decide) h.N4 hN p1 p2 p3) (by rw [← hJ]; exact he) (fun N v T L Dd => ?_) ?_ (ag_trackRank Y c)
  · rw [← hJ]
    exact m_trackAtRank hX (by decide) m20 m1 z8 z0
  · rw [← hJ]
    exact rkP_q
theorem b_areConnected (hX : JXok X) (h : CP K N v T I L Dd g gs d sv qq tx er fl w) (hm : MP I g gs d sv qq tx er fl w) (hN : N + 1 < BIG) : CLS X K 4 24 jdX6_areConnected [.int a, .int b] jdX7_areConnected [.int a, .int b] [xIO] PIv N v T I L Dd := by
  obtain ⟨p1, p2, p3, -⟩ := h.pre
  have he : eqS (joinedQ I a b).2.2 I := seqX_eq (eqS.rf I) (seqX_eq (eqS.rf I) (eqS.rf I))
  obtain ⟨J, hJ⟩ : ∃ J, J = (joinedQ I a b).2.2 := ⟨_, rfl⟩
  rw [← hJ] at he
  obtain ⟨⟨σ, Y⟩, m20, m1, z8, z0, pl, mp⟩ := mq h hm he
  have tk9 : ∀ s, s < g 1 → ∃ t9, t9 < 8 ∧ J 397 (139 + s) = nI t9 := fun s hs => by
    have cb := Y.2.2.1.car Y.1 hs
    exact ⟨g (139 + s), by omega, Y.2.1 _ (by omega)⟩
  refine cls_q (r := acM J a b) h hm (c_areConnected hX (by decide) h.N4 hN p1 p2 p3) (by rw [← hJ]; exact he) (fun N v T L Dd => ?_) ?_ (ag_joined Y a b)
  · rw [← hJ]
    exact m_areConnected hX (by decide) z8 z0
  · rw [← hJ]
    exact acM_q
theorem b_routeLength (hX : JXok X) (h : CP K N v T I L Dd g gs d sv qq tx er fl w) (hm : MP I g gs d sv qq tx er fl w) (hN : N + 1 < BIG) : CLS X K 4 24 jdX6_routeLength [.int a, .int b] jdX7_routeLength [.int a, .int b] [xIO, xNE] PIv N v T I L Dd := by
  obtain ⟨p1, p2, p3, -⟩ := h.pre
  have he : eqS (routeQ I (g 0) a b).2.2 I := seqX_eq (eqS.rf I) (seqX_eq (eqS.rf I) (seqX_eq bfsI_eq bfsI_eq))
  obtain ⟨J, hJ⟩ : ∃ J, J = (routeQ I (g 0) a b).2.2 := ⟨_, rfl⟩
  rw [← hJ] at he
  obtain ⟨⟨σ, Y⟩, m20, m1, z8, z0, pl, mp⟩ := mq h hm he
  have tk9 : ∀ s, s < g 1 → ∃ t9, t9 < 8 ∧ J 397 (139 + s) = nI t9 := fun s hs => by
    have cb := Y.2.2.1.car Y.1 hs
    exact ⟨g (139 + s), by omega, Y.2.1 _ (by omega)⟩
  refine cls_q (r := rlM J (g 0) a b) h hm (c_routeLength hX (by decide) h.N4 hN p1 p2 p3) (by rw [← hJ]; exact he) (fun N v T L Dd => ?_) ?_ (ag_route Y a b)
  · rw [← hJ]
    exact m_routeLength hX (by decide) z8 z0
  · rw [← hJ]
    exact rlM_q
theorem b_routeLengthByMatrix (hX : JXok X) (h : CP K N v T I L Dd g gs d sv qq tx er fl w) (hm : MP I g gs d sv qq tx er fl w) (hN : N + 1 < BIG) : CLS X K 4 24 jdX6_routeLengthByMatrix [.int a, .int b] jdX7_routeLengthByMatrix [.int a, .int b] [xIO, xNE] PIv N v T I L Dd := by
  obtain ⟨p1, p2, p3, -⟩ := h.pre
  have he : eqS (routeMQ I (g 0) a b).2.2 I := seqX_eq (eqS.rf I) (seqX_eq (eqS.rf I) (seqX_eq mat_eq mat_eq))
  obtain ⟨J, hJ⟩ : ∃ J, J = (routeMQ I (g 0) a b).2.2 := ⟨_, rfl⟩
  rw [← hJ] at he
  obtain ⟨⟨σ, Y⟩, m20, m1, z8, z0, pl, mp⟩ := mq h hm he
  have tk9 : ∀ s, s < g 1 → ∃ t9, t9 < 8 ∧ J 397 (139 + s) = nI t9 := fun s hs => by
    have cb := Y.2.2.1.car Y.1 hs
    exact ⟨g (139 + s), by omega, Y.2.1 _ (by omega)⟩
  refine cls_q (r := rlM J (g 0) a b) h hm (c_routeLengthM hX (by decide) h.N4 hN p1 p2 p3) (by rw [← hJ]; exact he) (fun N v T L Dd => ?_) ?_ (ag_routeM Y a b)
  · rw [← hJ]
    exact m_routeLengthByMatrix hX (by decide) z8 z0
  · rw [← hJ]
    exact rlM_q
theorem b_routeTrack (hX : JXok X) (h : CP K N v T I L Dd g gs d sv qq tx er fl w) (hm : MP I g gs d sv qq tx er fl w) (hN : N + 1 < BIG) : CLS X K 4 24 jdX6_routeTrack [.int a, .int b, .int c] jdX7_routeTrack [.int a, .int b, .int c] [xIO, xNE] PIv N v T I L Dd := by
  obtain ⟨p1, p2, p3, -⟩ := h.pre
  have he : eqS (routeTQ I (g 0) a b c).2.2 I := seqX_eq (eqS.rf I) (seqX_eq (eqS.rf I) (seqX_eq bfsI_eq (seqX_eq bfsI_eq (bfsI_eq.tr bfsI_eq))))
  obtain ⟨J, hJ⟩ : ∃ J, J = (routeTQ I (g 0) a b c).2.2 := ⟨_, rfl⟩
  rw [← hJ] at he
  obtain ⟨⟨σ, Y⟩, m20, m1, z8, z0, pl, mp⟩ := mq h hm he
  have tk9 : ∀ s, s < g 1 → ∃ t9, t9 < 8 ∧ J 397 (139 + s) = nI t9 := fun s hs => by
    have cb := Y.2.2.1.car Y.1 hs
    exact ⟨g (139 + s), by omega, Y.2.1 _ (by omega)⟩
  refine cls_q (r := rtM J (g 0) a b c) h hm (c_routeTrack hX (by decide) h.N4 hN p1 p2 (hst_g Y)) (by rw [← hJ]; exact he) (fun N v T L Dd => ?_) ?_ ((ag_routeT Y a b c).1)
  · rw [← hJ]
    exact m_routeTrack hX (by decide) z8 z0 (ag_routeT Y a b c).2
  · rw [← hJ]
    exact rtM_q
theorem b_shuntingTime (hX : JXok X) (h : CP K N v T I L Dd g gs d sv qq tx er fl w) (hm : MP I g gs d sv qq tx er fl w) (hN : N + 1 < BIG) : CLS X K 4 24 jdX6_shuntingTime [.int a, .int b, .int c] jdX7_shuntingTime [.int a, .int b, .int c] [xIO, xIA, xNE] PIv N v T I L Dd := by
  obtain ⟨p1, p2, p3, -⟩ := h.pre
  have he : eqS (shuntTQ I (g 0) a b c).2.2 I := seqX_eq move_eq (bfsI_eq.tr move_eq)
  obtain ⟨J, hJ⟩ : ∃ J, J = (shuntTQ I (g 0) a b c).2.2 := ⟨_, rfl⟩
  rw [← hJ] at he
  obtain ⟨⟨σ, Y⟩, m20, m1, z8, z0, pl, mp⟩ := mq h hm he
  have tk9 : ∀ s, s < g 1 → ∃ t9, t9 < 8 ∧ J 397 (139 + s) = nI t9 := fun s hs => by
    have cb := Y.2.2.1.car Y.1 hs
    exact ⟨g (139 + s), by omega, Y.2.1 _ (by omega)⟩
  refine cls_q (r := stiM J (g 1) (g 0) a b c) h hm (c_shuntingTime hX (by decide) h.N4 hN p1 p2) (by rw [← hJ]; exact he) (fun N v T L Dd => ?_) ?_ (ag_shuntT Y a b c)
  · rw [← hJ]
    exact m_shuntingTime hX (by decide) m20 m1 z8 z0 pl
  · rw [← hJ]
    exact stiM_q
theorem b_nearestFreeTrack (hX : JXok X) (h : CP K N v T I L Dd g gs d sv qq tx er fl w) (hm : MP I g gs d sv qq tx er fl w) (hN : N + 1 < BIG) : CLS X K 4 24 jdX6_nearestFreeTrack [.int t] jdX7_nearestFreeTrack [.int t] [xIO, xNE] PIv N v T I L Dd := by
  obtain ⟨p1, p2, p3, -⟩ := h.pre
  have he : eqS (nearQ I (g 0) t).2.2 I := seqX_eq (eqS.rf I) (seqX_eq near_eq near_eq)
  obtain ⟨J, hJ⟩ : ∃ J, J = (nearQ I (g 0) t).2.2 := ⟨_, rfl⟩
  rw [← hJ] at he
  obtain ⟨⟨σ, Y⟩, m20, m1, z8, z0, pl, mp⟩ := mq h hm he
  have tk9 : ∀ s, s < g 1 → ∃ t9, t9 < 8 ∧ J 397 (139 + s) = nI t9 := fun s hs => by
    have cb := Y.2.2.1.car Y.1 hs
    exact ⟨g (139 + s), by omega, Y.2.1 _ (by omega)⟩
  refine cls_q (r := nfM J (g 1) (g 0) t) h hm (c_nearestFree hX (by decide) h.N4 hN p1 p2) (by rw [← hJ]; exact he) (fun N v T L Dd => ?_) ?_ (ag_near Y t)
  · rw [← hJ]
    exact m_nearestFreeTrack hX (by decide) m20 m1 z8 z0 pl
  · rw [← hJ]
    exact nfM_q
theorem b_trackOf (hX : JXok X) (h : CP K N v T I L Dd g gs d sv qq tx er fl w) (hm : MP I g gs d sv qq tx er fl w) (hN : N + 1 < BIG) : CLS X K 4 24 jdX6_trackOf [.int c] jdX7_trackOf [.int c] [xNE] PIv N v T I L Dd := by
  obtain ⟨p1, p2, p3, -⟩ := h.pre
  have he : eqS (trackOfQ I c).2.2 I := seqX_eq (eqS.rf I) (eqS.rf I)
  obtain ⟨J, hJ⟩ : ∃ J, J = (trackOfQ I c).2.2 := ⟨_, rfl⟩
  rw [← hJ] at he
  obtain ⟨⟨σ, Y⟩, m20, m1, z8, z0, pl, mp⟩ := mq h hm he
  have tk9 : ∀ s, s < g 1 → ∃ t9, t9 < 8 ∧ J 397 (139 + s) = nI t9 := fun s hs => by
    have cb := Y.2.2.1.car Y.1 hs
    exact ⟨g (139 + s), by omega, Y.2.1 _ (by omega)⟩
  refine cls_q (r := slP J (g 1) c (fun s => J 397 (139 + s))) h hm (c_trackOf hX (by decide) h.N4 hN) (by rw [← hJ]; exact he) (fun N v T L Dd => ?_) ?_ (ag_trackOf Y c)
  · rw [← hJ]
    exact m_trackOf hX (by decide) m20 m1
  · rw [← hJ]
    exact slP_q
theorem b_carsBehind (hX : JXok X) (h : CP K N v T I L Dd g gs d sv qq tx er fl w) (hm : MP I g gs d sv qq tx er fl w) (hN : N + 1 < BIG) : CLS X K 4 24 jdX6_carsBehind [.int c] jdX7_carsBehind [.int c] [xNE] PIv N v T I L Dd := by
  obtain ⟨p1, p2, p3, -⟩ := h.pre
  have he : eqS (behQ I c).2.2 I := seqX_eq (eqS.rf I) (eqS.rf I)
  obtain ⟨J, hJ⟩ : ∃ J, J = (behQ I c).2.2 := ⟨_, rfl⟩
  rw [← hJ] at he
  obtain ⟨⟨σ, Y⟩, m20, m1, z8, z0, pl, mp⟩ := mq h hm he
  have tk9 : ∀ s, s < g 1 → ∃ t9, t9 < 8 ∧ J 397 (139 + s) = nI t9 := fun s hs => by
    have cb := Y.2.2.1.car Y.1 hs
    exact ⟨g (139 + s), by omega, Y.2.1 _ (by omega)⟩
  refine cls_q (r := slP J (g 1) c (fun s => J 397 (31 + (J 397 (139 + s)).toNatClampNeg) - 1 - J 397 (159 + s))) h hm (c_carsBehind hX (by decide) h.N4 hN) (by rw [← hJ]; exact he) (fun N v T L Dd => ?_) ?_ (ag_beh Y c)
  · rw [← hJ]
    exact m_carsBehind hX (by decide) m20 m1 tk9
  · rw [← hJ]
    exact slP_q
theorem b_destination (hX : JXok X) (h : CP K N v T I L Dd g gs d sv qq tx er fl w) (hm : MP I g gs d sv qq tx er fl w) (hN : N + 1 < BIG) : CLS X K 4 24 jdX6_destination [.int c] jdX7_destination [.int c] [xNE] PIv N v T I L Dd := by
  obtain ⟨p1, p2, p3, -⟩ := h.pre
  have he : eqS (destQ I c).2.2 I := seqX_eq (eqS.rf I) (eqS.rf I)
  obtain ⟨J, hJ⟩ : ∃ J, J = (destQ I c).2.2 := ⟨_, rfl⟩
  rw [← hJ] at he
  obtain ⟨⟨σ, Y⟩, m20, m1, z8, z0, pl, mp⟩ := mq h hm he
  have tk9 : ∀ s, s < g 1 → ∃ t9, t9 < 8 ∧ J 397 (139 + s) = nI t9 := fun s hs => by
    have cb := Y.2.2.1.car Y.1 hs
    exact ⟨g (139 + s), by omega, Y.2.1 _ (by omega)⟩
  refine cls_q (r := slP J (g 1) c (fun s => J 397 (99 + s))) h hm (c_destination hX (by decide) h.N4 hN) (by rw [← hJ]; exact he) (fun N v T L Dd => ?_) ?_ (ag_dest Y c)
  · rw [← hJ]
    exact m_destination hX (by decide) m20 m1
  · rw [← hJ]
    exact slP_q
theorem b_isDefective (hX : JXok X) (h : CP K N v T I L Dd g gs d sv qq tx er fl w) (hm : MP I g gs d sv qq tx er fl w) (hN : N + 1 < BIG) : CLS X K 4 24 jdX6_isDefective [.int c] jdX7_isDefective [.int c] [xNE] PIv N v T I L Dd := by
  obtain ⟨p1, p2, p3, -⟩ := h.pre
  have he : eqS (defQ I c).2.2 I := seqX_eq (eqS.rf I) (eqS.rf I)
  obtain ⟨J, hJ⟩ : ∃ J, J = (defQ I c).2.2 := ⟨_, rfl⟩
  rw [← hJ] at he
  obtain ⟨⟨σ, Y⟩, m20, m1, z8, z0, pl, mp⟩ := mq h hm he
  have tk9 : ∀ s, s < g 1 → ∃ t9, t9 < 8 ∧ J 397 (139 + s) = nI t9 := fun s hs => by
    have cb := Y.2.2.1.car Y.1 hs
    exact ⟨g (139 + s), by omega, Y.2.1 _ (by omega)⟩
  refine cls_q (r := (bi ((slP J (g 1) c (fun s => J 397 (119 + s))).1 = 1), (slP J (g 1) c (fun s => J 397 (119 + s))).2)) h hm (c_isDefective hX (by decide) h.N4 hN) (by rw [← hJ]; exact he) (fun N v T L Dd => ?_) ?_ (ag_def Y c)
  · rw [← hJ]
    exact m_isDefective hX (by decide) m20 m1
  · rw [← hJ]
    exact slP_q
theorem b_carsFor (hX : JXok X) (h : CP K N v T I L Dd g gs d sv qq tx er fl w) (hm : MP I g gs d sv qq tx er fl w) (hN : N + 1 < BIG) : CLS X K 4 24 jdX6_carsFor [.int c] jdX7_carsFor [.int c] [xIA] PIv N v T I L Dd := by
  obtain ⟨p1, p2, p3, -⟩ := h.pre
  have he : eqS (forQ I c).2.2 I := seqX_eq (eqS.rf I) (eqS.rf I)
  obtain ⟨J, hJ⟩ : ∃ J, J = (forQ I c).2.2 := ⟨_, rfl⟩
  rw [← hJ] at he
  obtain ⟨⟨σ, Y⟩, m20, m1, z8, z0, pl, mp⟩ := mq h hm he
  have tk9 : ∀ s, s < g 1 → ∃ t9, t9 < 8 ∧ J 397 (139 + s) = nI t9 := fun s hs => by
    have cb := Y.2.2.1.car Y.1 hs
    exact ⟨g (139 + s), by omega, Y.2.1 _ (by omega)⟩
  refine cls_q (r := (if 0 ≤ c ∧ c ≤ 9 then (fo (cfS J c) (g 1) 0 0, up2 J 396 12 0) else ((0 : Int32), up2 J 396 12 1))) h hm (c_carsFor hX (by decide) h.N4 hN) (by rw [← hJ]; exact he) (fun N v T L Dd => ?_) ?_ (ag_for Y c)
  · rw [← hJ]
    exact m_carsFor hX (by decide) m20 m1
  · rw [← hJ]
    exact (by
    split
    · exact FQ.rf.th
    · exact FQ.rf.th)
theorem b_carAtRank (hX : JXok X) (h : CP K N v T I L Dd g gs d sv qq tx er fl w) (hm : MP I g gs d sv qq tx er fl w) (hN : N + 1 < BIG) : CLS X K 4 24 jdX6_carAtRank [.int c] jdX7_carAtRank [.int c] [xNE] PIv N v T I L Dd := by
  obtain ⟨p1, p2, p3, -⟩ := h.pre
  have he : eqS (cRankQ I c).2.2 I := seqX_eq (eqS.rf I) (eqS.rf I)
  obtain ⟨J, hJ⟩ : ∃ J, J = (cRankQ I c).2.2 := ⟨_, rfl⟩
  rw [← hJ] at he
  obtain ⟨⟨σ, Y⟩, m20, m1, z8, z0, pl, mp⟩ := mq h hm he
  have tk9 : ∀ s, s < g 1 → ∃ t9, t9 < 8 ∧ J 397 (139 + s) = nI t9 := fun s hs => by
    have cb := Y.2.2.1.car Y.1 hs
    exact ⟨g (139 + s), by omega, Y.2.1 _ (by omega)⟩
  refine cls_q (r := crP J (g 1) c (g 1) 0) h hm (c_carAtRank hX (by decide) h.N4 hN) (by rw [← hJ]; exact he) (fun N v T L Dd => ?_) ?_ (ag_carRank Y c)
  · rw [← hJ]
    exact m_carAtRank hX (by decide) m20 m1
  · rw [← hJ]
    exact crP_q
theorem b_errorPosition (hX : JXok X) (h : CP K N v T I L Dd g gs d sv qq tx er fl w) (hm : MP I g gs d sv qq tx er fl w) (hN : N + 1 < BIG) : CLS X K 4 24 jdX6_errorPosition [] jdX7_errorPosition [] [xNE] PIv N v T I L Dd := by
  have he : eqS (errorPositionQ I).2.2 I := seqX_eq (eqS.rf I) (eqS.rf I)
  obtain ⟨J, hJ⟩ : ∃ J, J = (errorPositionQ I).2.2 := ⟨_, rfl⟩
  rw [← hJ] at he
  obtain ⟨⟨σ, Y⟩, m20, m1, z8, z0, pl, mp⟩ := mq h hm he
  have e1 : I 0 5 = er := h.2.2.2.1.2.2.2.1
  have e2 : J 396 8 = er := mp.2.2.2.1.2.2.1
  refine cls_q (r := if J 396 8 = -1 then ((0 : Int32), up2 J 396 12 1) else (J 396 8, up2 J 396 12 0)) h hm (c_errorPosition hX (by decide) h.N4 hN) (by rw [← hJ]; exact he) (fun N v T L Dd => ?_) ?_ ?_
  · rw [← hJ]
    exact m_errorPosition hX (by decide)
  · rw [← hJ]
    split
    · exact FQ.rf.th
    · exact FQ.rf.th
  · unfold errorPositionQ
    rw [e1, e2]
    by_cases c : er = -1
    · rw [if_pos c, if_pos c]
      exact AG.ex 0 rfl rfl (thr J 1)
    · rw [if_neg c, if_neg c]
      exact AG.ok rfl (thr J 0)
theorem b_failedCommand (hX : JXok X) (h : CP K N v T I L Dd g gs d sv qq tx er fl w) (hm : MP I g gs d sv qq tx er fl w) (hN : N + 1 < BIG) : CLS X K 4 24 jdX6_failedCommand [] jdX7_failedCommand [] [xNE] PIv N v T I L Dd := by
  have he : eqS (failedCommandQ I).2.2 I := seqX_eq (eqS.rf I) (eqS.rf I)
  obtain ⟨J, hJ⟩ : ∃ J, J = (failedCommandQ I).2.2 := ⟨_, rfl⟩
  rw [← hJ] at he
  obtain ⟨⟨σ, Y⟩, m20, m1, z8, z0, pl, mp⟩ := mq h hm he
  have e1 : I 0 6 = fl := h.2.2.2.1.2.2.2.2
  have e2 : J 396 9 = fl := mp.2.2.2.1.2.2.2
  refine cls_q (r := if J 396 9 = -1 then ((0 : Int32), up2 J 396 12 1) else (J 396 9, up2 J 396 12 0)) h hm (c_failedCommand hX (by decide) h.N4 hN) (by rw [← hJ]; exact he) (fun N v T L Dd => ?_) ?_ ?_
  · rw [← hJ]
    exact m_failedCommand hX (by decide)
  · rw [← hJ]
    split
    · exact FQ.rf.th
    · exact FQ.rf.th
  · unfold failedCommandQ
    rw [e1, e2]
    by_cases c : fl = -1
    · rw [if_pos c, if_pos c]
      exact AG.ex 0 rfl rfl (thr J 1)
    · rw [if_neg c, if_neg c]
      exact AG.ok rfl (thr J 0)
end YQI
