/-! the queries, class and model -/
section YQI
variable {X : JX} {K N v d qq z m : Nat} {T : Nat → Option JS} {I J A : HI} {L : HL} {Dd : HD} {g σ : Nat → Nat} {gs : Nat → Nat → Nat} {sv : Option (Nat → Nat)} {tx : Nat → Int32} {er fl : Int32} {w : List Int32} {a b c e t : Int32} {x y k s : Nat} {ad : Nat → Nat → Prop}
theorem seqX_eq {f : Option String} {k : Option String × Int32 × HI} (h1 : eqS A I) (h2 : eqS k.2.2 I) : eqS (seqX f A k).2.2 I := by
  unfold seqX
  split
  · exact h1
  · exact h2
theorem seqX_l {f : Option String} {x : Int32} (h : eqS A I) : eqS (seqX f I (none, x, A)).2.2 I := seqX_eq (eqS.rf I) h
theorem near_eq {z f : Nat} : eqS (nearU I z f).1 I := fo_inv (P := fun (u : HI × Int32 × Int32) => eqS u.1 I) (fun k u h => by
  unfold stNr
  split
  · split
    · exact bfsI_eq.tr (move_eq.tr h)
    · exact bfsI_eq.tr (move_eq.tr h)
  · exact move_eq.tr h) z 0 _ (eqS.rf I)
theorem sound_eq : ∀ n k (O : HI), eqS O I → eqS (soundF n k O).2 I
  | 0, k, O, h => h
  | n + 1, k, O, h => by
    have l0 : eqS (listO (listO O (nI k)) (nI k)) I := listO_eq.tr (listO_eq.tr h)
    have l1 : eqS (shiftsF (listO (listO O (nI k)) (nI k)) (O 31 k).toNatClampNeg).1 I := shifts_eq l0
    unfold soundF
    generalize shiftsF (listO (listO O (nI k)) (nI k)) (O 31 k).toNatClampNeg = A at l1 ⊢
    have l2 : eqS (listO A.1 (nI k)) I := listO_eq.tr l1
    generalize listO A.1 (nI k) = B at l2 ⊢
    have fin : ∀ (p q r : Prop) [Decidable p] [Decidable q] [Decidable r], eqS (if p then (if q then (if r then ((0 : Int32), B) else soundF n (k + 1) B) else (0, B)) else (0, A.1)).2 I := fun p q r _ _ _ => by
      by_cases c1 : p
      · rw [if_pos c1]
        by_cases c2 : q
        · rw [if_pos c2]
          by_cases c3 : r
          · rw [if_pos c3]
            exact l2
          · rw [if_neg c3]
            exact sound_eq n (k + 1) B l2
        · rw [if_neg c2]
          exact l2
      · rw [if_neg c1]
        exact l1
    exact fin _ _ _
theorem cons_eq {z : Nat} : eqS (consF I z).2 I := by
  have w1 := way_eq (I := I) (sz := z) z 0 (matI I z) mat_eq
  unfold consF
  split
  · exact w1
  · exact sound_eq z 0 _ w1
theorem nfS_o {x : Nat} : ∀ r, r ≠ 403 → (fo (nfS m z x) z 0 (-1, J)).2 r = J r := by
  refine fo_inv (P := fun (w : Int32 × HI) => ∀ r, r ≠ 403 → w.2 r = J r) (fun k w h => ?_) z 0 _ (fun _ _ => rfl)
  intro r hr
  unfold nfS
  split
  · exact (whM_ne hr).trans (h r hr)
  · split
    · exact (whM_ne hr).trans (h r hr)
    · exact (exM_ne hr).trans ((exM_ne hr).trans ((whM_ne hr).trans (h r hr)))
/-- the class's search from or to what is no track -/
theorem bfs_hi {s : Nat} (hl : ∀ i k, i < 8 → k < 8 → (I 8 (i * 8 + k) = 1 ↔ ad i k)) (hs : ∀ i j, ad i j → ad j i) (hz : ∀ i j, ad i j → i < z ∧ j < z) (hz8 : z ≤ 8) (hs8 : s < 8) (hi : x < 8) (h : z ≤ x ∨ z ≤ s) : bfsI I z s 10 x = 1000 ∨ bfsI I z s 10 x = 0 := by
  have ini : ∀ j, j < 8 → up2 (up2 (fillI I 10 8 1000) 10 s 0) 12 0 (nI s) 10 j = if j = s then 0 else 1000 := fun j hj => by
    rw [up2_ne (by decide), up2_v]
    by_cases c : j = s
    · rw [if_pos c, if_pos c]
    · rw [if_neg c, if_neg c, fillI_v hj]
  by_cases hsz : s < z
  · have h0 : bqJ I ad z s 0 0 (up2 (up2 (fillI I 10 8 1000) 10 s 0) 12 0 (nI s), 1) (fun j => if j = s then 0 else 1000) (fun _ => s) 1 := by
      refine ⟨fun a ha ha2 => ?_, ⟨rfl, by omega, by omega⟩, fun p hp => ?_, fun j hj => ?_, fun p hp => ?_, fun j hj hd => ?_, fun p p' h1 h2 => by omega, fun j hj hd => ?_, fun p p' h1 h2 => Nat.le_refl _, fun p hp => by omega, fun hh p hp => Nat.le_succ _, fun hh n hn => by omega, if_pos rfl⟩
      · show up2 (up2 (fillI I 10 8 1000) 10 s 0) 12 0 (nI s) a = I a
        rw [up2_ne ha2, up2_ne ha, fillI_ne ha]
      · refine ⟨hsz, ?_⟩
        show up2 (up2 (fillI I 10 8 1000) 10 s 0) 12 0 (nI s) 12 p = nI s
        rw [up2_v, if_pos (by omega)]
      · show up2 (up2 (fillI I 10 8 1000) 10 s 0) 12 0 (nI s) 10 j = nI (if j = s then 0 else 1000) ∧ ((if j = s then 0 else 1000) < 8 ∨ (if j = s then 0 else 1000) = 1000)
        rw [ini j hj]
        by_cases c : j = s
        · rw [if_pos c, if_pos c]; exact ⟨rfl, Or.inl (by omega)⟩
        · rw [if_neg c, if_neg c]; exact ⟨rfl, Or.inr rfl⟩
      · show (if s = s then 0 else 1000) ≤ p
        rw [if_pos rfl]; exact Nat.zero_le _
      · refine ⟨0, by omega, ?_⟩
        by_cases c : j = s
        · exact c.symm
        · exact absurd (if_neg c) hd
      · show wk ad s (if j = s then 0 else 1000) j
        by_cases c : j = s
        · rw [if_pos c]; exact c
        · exact absurd (if_neg c) hd
    obtain ⟨D, Q, q, h', hqh, ⟨h1, h2, h3, h4, h5, h6, h7, h8, h9, h10, h11, h12, h13⟩⟩ := bq_lo (fun i k hi hk => hl i k (by omega) (by omega)) hs hz8 8 0 _ _ _ _ (by omega) h0
    refine Or.inl ?_
    have e : D x = 1000 := by
      by_cases c : D x = 1000
      · exact c
      · obtain ⟨p, hp, e⟩ := h6 x hi c
        have := (h3 p hp).1
        omega
    have e2 := (h4 x hi).1
    rw [e] at e2
    exact e2
  · have st : ∀ k (u : HI × Int32), k < z → u.1 8 = I 8 → stN (nI s) k u = u := fun k u hk h8 => by
      unfold stN
      rw [if_neg (fun c => by
        have c1 := c.1
        rw [cix, rg_nI (by omega) (by decide), h8] at c1
        have := hz _ _ ((hl s k hs8 (by omega)).mp c1)
        omega)]
    have sc : ∀ (u : HI × Int32), u.1 8 = I 8 → fo (stN (nI s)) z 0 u = u := fun u h8 => by
      have := fo_at (e := z) (P := fun _ (w : HI × Int32) => w = u) (f := stN (nI s)) (fun k w hk hw => by rw [hw]; exact st k u hk h8) z 0 u (by omega) rfl
      exact this
    have r : bfsI I z s = up2 (up2 (fillI I 10 8 1000) 10 s 0) 12 0 (nI s) := by
      have b1 : bfs z 8 0 (up2 (up2 (fillI I 10 8 1000) 10 s 0) 12 0 (nI s), 1) = bfs z 7 1 (up2 (up2 (fillI I 10 8 1000) 10 s 0) 12 0 (nI s), 1) := by
        show (if nI 0 < (1 : Int32) then bfs z 7 1 (fo (stN (up2 (up2 (fillI I 10 8 1000) 10 s 0) 12 0 (nI s) 12 0)) z 0 (up2 (up2 (fillI I 10 8 1000) 10 s 0) 12 0 (nI s), 1)) else _) = _
        rw [if_pos (by decide), up2_v, if_pos rfl, sc _ (by show up2 (up2 (fillI I 10 8 1000) 10 s 0) 12 0 (nI s) 8 = I 8; rw [up2_ne (by decide), up2_ne (by decide), fillI_ne (by decide)])]
      have b2 : bfs z 7 1 (up2 (up2 (fillI I 10 8 1000) 10 s 0) 12 0 (nI s), 1) = (up2 (up2 (fillI I 10 8 1000) 10 s 0) 12 0 (nI s), 1) := by
        show (if nI 1 < (1 : Int32) then _ else _) = _
        exact if_neg (by decide)
      unfold bfsI
      rw [b1, b2]
    rw [r, ini x hi]
    by_cases c : x = s
    · rw [if_pos c]; exact Or.inr rfl
    · rw [if_neg c]; exact Or.inl rfl
theorem hst_g (H : YR K I L (J 397) g σ) : ∀ i j, i < 8 → j < 8 → stepsF I (g 0) i j ≠ 1000 → ∃ q, q < 8 ∧ stepsF I (g 0) i j = nI q := fun i j hi hj hne => by
  have W := H.2.2.1
  by_cases c : i < g 0 ∧ j < g 0
  · have D := bfs_d H.2.2.2.2.2.1 W c.1 c.2
    have e : stepsF I (g 0) i j = nI (dsN g i j) := D.1
    rcases isD_1000 D.2 with q | q
    · rw [e, q] at hne
      exact absurd rfl hne
    · exact ⟨_, q, e⟩
  · have hl : ∀ i k, i < 8 → k < 8 → (I 8 (i * 8 + k) = 1 ↔ adN g i k) := fun i k hi hk => by
      rw [H.2.2.2.2.2.1 i k hi hk]
      by_cases c : (g (23 + i)).testBit k = true
      · rw [if_pos c]
        exact ⟨fun _ => ⟨hi, hk, c⟩, fun _ => rfl⟩
      · rw [if_neg c]
        exact ⟨fun e => absurd e (by decide), fun e => absurd e.2.2 c⟩
    rcases bfs_hi (x := i) hl (adN_s W) (adN_z W) W.1.1 hj hi (by omega) with q | q
    · exact absurd q hne
    · exact ⟨0, by decide, q⟩
theorem q_freeLength (hX : JXok X) (h : CP K N v T I L Dd g gs d sv qq tx er fl w) (hN : N + 1 < BIG) : CQ X K 4 24 jdX6_freeLength [.int t] [xIO] (some (.int (dnM (tkM (GJ g) t) (roM (GJ g) (g 1) t.toNatClampNeg) (GJ g) 1).1)) ((dnM (tkM (GJ g) t) (roM (GJ g) (g 1) t.toNatClampNeg) (GJ g) 1).2 396 12) (g, gs, d, sv, qq, tx, er, fl, w) N v T I L Dd := by
  obtain ⟨p1, p2, p3, -⟩ := h.pre
  have he : eqS (freeQ I t).2.2 I := seqX_eq (eqS.rf I) (eqS.rf I)
  obtain ⟨σ, Y⟩ := h.yg
  exact cq_q (val := (dnM (tkM (GJ g) t) (roM (GJ g) (g 1) t.toNatClampNeg) (GJ g) 1).1) (cd := (dnM (tkM (GJ g) t) (roM (GJ g) (g 1) t.toNatClampNeg) (GJ g) 1).2 396 12) h (c_freeLength hX (by decide) h.N4 hN p1 p2 p3) he (ag_free Y t)
theorem q_carsOn (hX : JXok X) (h : CP K N v T I L Dd g gs d sv qq tx er fl w) (hN : N + 1 < BIG) : CQ X K 4 24 jdX6_carsOn [.int t] [xIO] (some (.int (dnM (tkM (GJ g) t) ((GJ g) 397 (31 + t.toNatClampNeg)) (GJ g) 1).1)) ((dnM (tkM (GJ g) t) ((GJ g) 397 (31 + t.toNatClampNeg)) (GJ g) 1).2 396 12) (g, gs, d, sv, qq, tx, er, fl, w) N v T I L Dd := by
  obtain ⟨p1, p2, p3, -⟩ := h.pre
  have he : eqS (heightQ I t).2.2 I := seqX_eq (eqS.rf I) (eqS.rf I)
  obtain ⟨σ, Y⟩ := h.yg
  exact cq_q (val := (dnM (tkM (GJ g) t) ((GJ g) 397 (31 + t.toNatClampNeg)) (GJ g) 1).1) (cd := (dnM (tkM (GJ g) t) ((GJ g) 397 (31 + t.toNatClampNeg)) (GJ g) 1).2 396 12) h (c_carsOn hX (by decide) h.N4 hN p1 p2 p3) he (ag_carsOn Y t)
theorem q_weightOn (hX : JXok X) (h : CP K N v T I L Dd g gs d sv qq tx er fl w) (hN : N + 1 < BIG) : CQ X K 4 24 jdX6_weightOn [.int t] [xIO] (some (.int (dnM (tkM (GJ g) t) (smM (GJ g) (g 1) t 79) (GJ g) 1).1)) ((dnM (tkM (GJ g) t) (smM (GJ g) (g 1) t 79) (GJ g) 1).2 396 12) (g, gs, d, sv, qq, tx, er, fl, w) N v T I L Dd := by
  obtain ⟨p1, p2, p3, -⟩ := h.pre
  have he : eqS (weightQ I t).2.2 I := seqX_eq (eqS.rf I) (eqS.rf I)
  obtain ⟨σ, Y⟩ := h.yg
  exact cq_q (val := (dnM (tkM (GJ g) t) (smM (GJ g) (g 1) t 79) (GJ g) 1).1) (cd := (dnM (tkM (GJ g) t) (smM (GJ g) (g 1) t 79) (GJ g) 1).2 396 12) h (c_weightOnQ hX (by decide) h.N4 hN p1 p2 p3) he (ag_weight Y t)
theorem q_carAt (hX : JXok X) (h : CP K N v T I L Dd g gs d sv qq tx er fl w) (hN : N + 1 < BIG) : CQ X K 4 24 jdX6_carAt [.int t, .int c] [xIO, xNE] (some (.int (carAtM (GJ g) (g 1) t c).1)) ((carAtM (GJ g) (g 1) t c).2 396 12) (g, gs, d, sv, qq, tx, er, fl, w) N v T I L Dd := by
  obtain ⟨p1, p2, p3, -⟩ := h.pre
  have he : eqS (carAtQ I t c).2.2 I := seqX_eq (eqS.rf I) (seqX_eq (eqS.rf I) (eqS.rf I))
  obtain ⟨σ, Y⟩ := h.yg
  exact cq_q (val := (carAtM (GJ g) (g 1) t c).1) (cd := (carAtM (GJ g) (g 1) t c).2 396 12) h (c_carAt hX (by decide) h.N4 hN p1 p2 p3) he (ag_carAt Y t c)
theorem q_isSorted (hX : JXok X) (h : CP K N v T I L Dd g gs d sv qq tx er fl w) (hN : N + 1 < BIG) : CQ X K 4 24 jdX6_isSorted [.int t] [xIO] (some (.int (srtM (GJ g) (g 1) t).1)) ((srtM (GJ g) (g 1) t).2 396 12) (g, gs, d, sv, qq, tx, er, fl, w) N v T I L Dd := by
  obtain ⟨p1, p2, p3, -⟩ := h.pre
  have he : eqS (sortedQ I t).2.2 I := by
    unfold sortedQ
    exact seqX_l listO_eq
  obtain ⟨σ, Y⟩ := h.yg
  exact cq_q (val := (srtM (GJ g) (g 1) t).1) (cd := (srtM (GJ g) (g 1) t).2 396 12) h (c_isSorted hX (by decide) h.N4 hN p1 p2 p3) he (ag_sorted Y t)
theorem q_disorder (hX : JXok X) (h : CP K N v T I L Dd g gs d sv qq tx er fl w) (hN : N + 1 < BIG) : CQ X K 4 24 jdX6_disorder [.int t] [xIO] (some (.int (dnM (tkM (GJ g) t) (paM (GJ g) (g 1) t.toNatClampNeg ((GJ g) 397 (31 + t.toNatClampNeg)).toNatClampNeg) (GJ g) 1).1)) ((dnM (tkM (GJ g) t) (paM (GJ g) (g 1) t.toNatClampNeg ((GJ g) 397 (31 + t.toNatClampNeg)).toNatClampNeg) (GJ g) 1).2 396 12) (g, gs, d, sv, qq, tx, er, fl, w) N v T I L Dd := by
  obtain ⟨p1, p2, p3, -⟩ := h.pre
  have he : eqS (disQ I t).2.2 I := by
    unfold disQ
    exact seqX_l listO_eq
  obtain ⟨σ, Y⟩ := h.yg
  exact cq_q (val := (dnM (tkM (GJ g) t) (paM (GJ g) (g 1) t.toNatClampNeg ((GJ g) 397 (31 + t.toNatClampNeg)).toNatClampNeg) (GJ g) 1).1) (cd := (dnM (tkM (GJ g) t) (paM (GJ g) (g 1) t.toNatClampNeg ((GJ g) 397 (31 + t.toNatClampNeg)).toNatClampNeg) (GJ g) 1).2 396 12) h (c_disorder hX (by decide) h.N4 hN p1 p2 p3) he (ag_dis Y t)
theorem q_disorderByInsertion (hX : JXok X) (h : CP K N v T I L Dd g gs d sv qq tx er fl w) (hN : N + 1 < BIG) : CQ X K 4 24 jdX6_disorderByInsertion [.int t] [xIO] (some (.int (dnM (tkM (GJ g) t) (paM (GJ g) (g 1) t.toNatClampNeg ((GJ g) 397 (31 + t.toNatClampNeg)).toNatClampNeg) (GJ g) 1).1)) ((dnM (tkM (GJ g) t) (paM (GJ g) (g 1) t.toNatClampNeg ((GJ g) 397 (31 + t.toNatClampNeg)).toNatClampNeg) (GJ g) 1).2 396 12) (g, gs, d, sv, qq, tx, er, fl, w) N v T I L Dd := by
  obtain ⟨p1, p2, p3, -⟩ := h.pre
  have he : eqS (disIQ I t).2.2 I := seqX_eq (eqS.rf I) (shifts_eq listO_eq)
  obtain ⟨σ, Y⟩ := h.yg
  exact cq_q (val := (dnM (tkM (GJ g) t) (paM (GJ g) (g 1) t.toNatClampNeg ((GJ g) 397 (31 + t.toNatClampNeg)).toNatClampNeg) (GJ g) 1).1) (cd := (dnM (tkM (GJ g) t) (paM (GJ g) (g 1) t.toNatClampNeg ((GJ g) 397 (31 + t.toNatClampNeg)).toNatClampNeg) (GJ g) 1).2 396 12) h (c_disorderI hX (by decide) h.N4 hN p1 p2 p3) he (ag_disI Y t)
theorem q_trainLength (hX : JXok X) (h : CP K N v T I L Dd g gs d sv qq tx er fl w) (hN : N + 1 < BIG) : CQ X K 4 24 jdX6_trainLength [.int t] [xIO] (some (.int (dnM (tkM (GJ g) t) (trN (GJ g) (g 1) t.toNatClampNeg) (GJ g) 1).1)) ((dnM (tkM (GJ g) t) (trN (GJ g) (g 1) t.toNatClampNeg) (GJ g) 1).2 396 12) (g, gs, d, sv, qq, tx, er, fl, w) N v T I L Dd := by
  obtain ⟨p1, p2, p3, -⟩ := h.pre
  have he : eqS (trainQ I t).2.2 I := by
    unfold trainQ
    exact seqX_l listO_eq
  obtain ⟨σ, Y⟩ := h.yg
  exact cq_q (val := (dnM (tkM (GJ g) t) (trN (GJ g) (g 1) t.toNatClampNeg) (GJ g) 1).1) (cd := (dnM (tkM (GJ g) t) (trN (GJ g) (g 1) t.toNatClampNeg) (GJ g) 1).2 396 12) h (c_trainLength hX (by decide) h.N4 hN p1 p2 p3) he (ag_trainL Y t)
theorem q_trackAtRank (hX : JXok X) (h : CP K N v T I L Dd g gs d sv qq tx er fl w) (hN : N + 1 < BIG) : CQ X K 4 24 jdX6_trackAtRank [.int c] [xNE] (some (.int (rkP (GJ g) (rkF (GJ g) (g 1) (g 0) c (g 0) 0)).1)) ((rkP (GJ g) (rkF (GJ g) (g 1) (g 0) c (g 0) 0)).2 396 12) (g, gs, d, sv, qq, tx, er, fl, w) N v T I L Dd := by
  obtain ⟨p1, p2, p3, -⟩ := h.pre
  have he : eqS (tRankQ I (g 0) c).2.2 I := seqX_eq (eqS.rf I) (eqS.rf I)
  obtain ⟨σ, Y⟩ := h.yg
  exact cq_q (val := (rkP (GJ g) (rkF (GJ g) (g 1) (g 0) c (g 0) 0)).1) (cd := (rkP (GJ g) (rkF (GJ g) (g 1) (g 0) c (g 0) 0)).2 396 12) h (c_trackAtRank hX (by decide) h.N4 hN p1 p2 p3) he (ag_trackRank Y c)
theorem q_areConnected (hX : JXok X) (h : CP K N v T I L Dd g gs d sv qq tx er fl w) (hN : N + 1 < BIG) : CQ X K 4 24 jdX6_areConnected [.int a, .int b] [xIO] (some (.int (acM (GJ g) a b).1)) ((acM (GJ g) a b).2 396 12) (g, gs, d, sv, qq, tx, er, fl, w) N v T I L Dd := by
  obtain ⟨p1, p2, p3, -⟩ := h.pre
  have he : eqS (joinedQ I a b).2.2 I := seqX_eq (eqS.rf I) (seqX_eq (eqS.rf I) (eqS.rf I))
  obtain ⟨σ, Y⟩ := h.yg
  exact cq_q (val := (acM (GJ g) a b).1) (cd := (acM (GJ g) a b).2 396 12) h (c_areConnected hX (by decide) h.N4 hN p1 p2 p3) he (ag_joined Y a b)
theorem q_routeLength (hX : JXok X) (h : CP K N v T I L Dd g gs d sv qq tx er fl w) (hN : N + 1 < BIG) : CQ X K 4 24 jdX6_routeLength [.int a, .int b] [xIO, xNE] (some (.int (rlM (GJ g) (g 0) a b).1)) ((rlM (GJ g) (g 0) a b).2 396 12) (g, gs, d, sv, qq, tx, er, fl, w) N v T I L Dd := by
  obtain ⟨p1, p2, p3, -⟩ := h.pre
  have he : eqS (routeQ I (g 0) a b).2.2 I := seqX_eq (eqS.rf I) (seqX_eq (eqS.rf I) (seqX_eq bfsI_eq bfsI_eq))
  obtain ⟨σ, Y⟩ := h.yg
  exact cq_q (val := (rlM (GJ g) (g 0) a b).1) (cd := (rlM (GJ g) (g 0) a b).2 396 12) h (c_routeLength hX (by decide) h.N4 hN p1 p2 p3) he (ag_route Y a b)
theorem q_routeLengthByMatrix (hX : JXok X) (h : CP K N v T I L Dd g gs d sv qq tx er fl w) (hN : N + 1 < BIG) : CQ X K 4 24 jdX6_routeLengthByMatrix [.int a, .int b] [xIO, xNE] (some (.int (rlM (GJ g) (g 0) a b).1)) ((rlM (GJ g) (g 0) a b).2 396 12) (g, gs, d, sv, qq, tx, er, fl, w) N v T I L Dd := by
  obtain ⟨p1, p2, p3, -⟩ := h.pre
  have he : eqS (routeMQ I (g 0) a b).2.2 I := seqX_eq (eqS.rf I) (seqX_eq (eqS.rf I) (seqX_eq mat_eq mat_eq))
  obtain ⟨σ, Y⟩ := h.yg
  exact cq_q (val := (rlM (GJ g) (g 0) a b).1) (cd := (rlM (GJ g) (g 0) a b).2 396 12) h (c_routeLengthM hX (by decide) h.N4 hN p1 p2 p3) he (ag_routeM Y a b)
theorem q_routeTrack (hX : JXok X) (h : CP K N v T I L Dd g gs d sv qq tx er fl w) (hN : N + 1 < BIG) : CQ X K 4 24 jdX6_routeTrack [.int a, .int b, .int c] [xIO, xNE] (some (.int (rtM (GJ g) (g 0) a b c).1)) ((rtM (GJ g) (g 0) a b c).2 396 12) (g, gs, d, sv, qq, tx, er, fl, w) N v T I L Dd := by
  obtain ⟨p1, p2, p3, -⟩ := h.pre
  have he : eqS (routeTQ I (g 0) a b c).2.2 I := seqX_eq (eqS.rf I) (seqX_eq (eqS.rf I) (seqX_eq bfsI_eq (seqX_eq bfsI_eq (bfsI_eq.tr bfsI_eq))))
  obtain ⟨σ, Y⟩ := h.yg
  exact cq_q (val := (rtM (GJ g) (g 0) a b c).1) (cd := (rtM (GJ g) (g 0) a b c).2 396 12) h (c_routeTrack hX (by decide) h.N4 hN p1 p2 (hst_g Y)) he ((ag_routeT Y a b c).1)
theorem q_shuntingTime (hX : JXok X) (h : CP K N v T I L Dd g gs d sv qq tx er fl w) (hN : N + 1 < BIG) : CQ X K 4 24 jdX6_shuntingTime [.int a, .int b, .int c] [xIO, xIA, xNE] (some (.int (stiM (GJ g) (g 1) (g 0) a b c).1)) ((stiM (GJ g) (g 1) (g 0) a b c).2 396 12) (g, gs, d, sv, qq, tx, er, fl, w) N v T I L Dd := by
  obtain ⟨p1, p2, p3, -⟩ := h.pre
  have he : eqS (shuntTQ I (g 0) a b c).2.2 I := seqX_eq move_eq (bfsI_eq.tr move_eq)
  obtain ⟨σ, Y⟩ := h.yg
  exact cq_q (val := (stiM (GJ g) (g 1) (g 0) a b c).1) (cd := (stiM (GJ g) (g 1) (g 0) a b c).2 396 12) h (c_shuntingTime hX (by decide) h.N4 hN p1 p2) he (ag_shuntT Y a b c)
theorem q_nearestFreeTrack (hX : JXok X) (h : CP K N v T I L Dd g gs d sv qq tx er fl w) (hN : N + 1 < BIG) : CQ X K 4 24 jdX6_nearestFreeTrack [.int t] [xIO, xNE] (some (.int (nfM (GJ g) (g 1) (g 0) t).1)) ((nfM (GJ g) (g 1) (g 0) t).2 396 12) (g, gs, d, sv, qq, tx, er, fl, w) N v T I L Dd := by
  obtain ⟨p1, p2, p3, -⟩ := h.pre
  have he : eqS (nearQ I (g 0) t).2.2 I := seqX_eq (eqS.rf I) (seqX_eq near_eq near_eq)
  obtain ⟨σ, Y⟩ := h.yg
  exact cq_q (val := (nfM (GJ g) (g 1) (g 0) t).1) (cd := (nfM (GJ g) (g 1) (g 0) t).2 396 12) h (c_nearestFree hX (by decide) h.N4 hN p1 p2) he (ag_near Y t)
theorem q_carsBehind (hX : JXok X) (h : CP K N v T I L Dd g gs d sv qq tx er fl w) (hN : N + 1 < BIG) : CQ X K 4 24 jdX6_carsBehind [.int c] [xNE] (some (.int (slP (GJ g) (g 1) c (fun s => (GJ g) 397 (31 + ((GJ g) 397 (139 + s)).toNatClampNeg) - 1 - (GJ g) 397 (159 + s))).1)) ((slP (GJ g) (g 1) c (fun s => (GJ g) 397 (31 + ((GJ g) 397 (139 + s)).toNatClampNeg) - 1 - (GJ g) 397 (159 + s))).2 396 12) (g, gs, d, sv, qq, tx, er, fl, w) N v T I L Dd := by
  obtain ⟨p1, p2, p3, -⟩ := h.pre
  have he : eqS (behQ I c).2.2 I := seqX_eq (eqS.rf I) (eqS.rf I)
  obtain ⟨σ, Y⟩ := h.yg
  exact cq_q (val := (slP (GJ g) (g 1) c (fun s => (GJ g) 397 (31 + ((GJ g) 397 (139 + s)).toNatClampNeg) - 1 - (GJ g) 397 (159 + s))).1) (cd := (slP (GJ g) (g 1) c (fun s => (GJ g) 397 (31 + ((GJ g) 397 (139 + s)).toNatClampNeg) - 1 - (GJ g) 397 (159 + s))).2 396 12) h (c_carsBehind hX (by decide) h.N4 hN) he (ag_beh Y c)
theorem q_destination (hX : JXok X) (h : CP K N v T I L Dd g gs d sv qq tx er fl w) (hN : N + 1 < BIG) : CQ X K 4 24 jdX6_destination [.int c] [xNE] (some (.int (slP (GJ g) (g 1) c (fun s => (GJ g) 397 (99 + s))).1)) ((slP (GJ g) (g 1) c (fun s => (GJ g) 397 (99 + s))).2 396 12) (g, gs, d, sv, qq, tx, er, fl, w) N v T I L Dd := by
  obtain ⟨p1, p2, p3, -⟩ := h.pre
  have he : eqS (destQ I c).2.2 I := seqX_eq (eqS.rf I) (eqS.rf I)
  obtain ⟨σ, Y⟩ := h.yg
  exact cq_q (val := (slP (GJ g) (g 1) c (fun s => (GJ g) 397 (99 + s))).1) (cd := (slP (GJ g) (g 1) c (fun s => (GJ g) 397 (99 + s))).2 396 12) h (c_destination hX (by decide) h.N4 hN) he (ag_dest Y c)
theorem q_isDefective (hX : JXok X) (h : CP K N v T I L Dd g gs d sv qq tx er fl w) (hN : N + 1 < BIG) : CQ X K 4 24 jdX6_isDefective [.int c] [xNE] (some (.int ((bi ((slP (GJ g) (g 1) c (fun s => (GJ g) 397 (119 + s))).1 = 1), (slP (GJ g) (g 1) c (fun s => (GJ g) 397 (119 + s))).2)).1)) (((bi ((slP (GJ g) (g 1) c (fun s => (GJ g) 397 (119 + s))).1 = 1), (slP (GJ g) (g 1) c (fun s => (GJ g) 397 (119 + s))).2)).2 396 12) (g, gs, d, sv, qq, tx, er, fl, w) N v T I L Dd := by
  obtain ⟨p1, p2, p3, -⟩ := h.pre
  have he : eqS (defQ I c).2.2 I := seqX_eq (eqS.rf I) (eqS.rf I)
  obtain ⟨σ, Y⟩ := h.yg
  exact cq_q (val := ((bi ((slP (GJ g) (g 1) c (fun s => (GJ g) 397 (119 + s))).1 = 1), (slP (GJ g) (g 1) c (fun s => (GJ g) 397 (119 + s))).2)).1) (cd := ((bi ((slP (GJ g) (g 1) c (fun s => (GJ g) 397 (119 + s))).1 = 1), (slP (GJ g) (g 1) c (fun s => (GJ g) 397 (119 + s))).2)).2 396 12) h (c_isDefective hX (by decide) h.N4 hN) he (ag_def Y c)
theorem q_carsFor (hX : JXok X) (h : CP K N v T I L Dd g gs d sv qq tx er fl w) (hN : N + 1 < BIG) : CQ X K 4 24 jdX6_carsFor [.int c] [xIA] (some (.int ((if 0 ≤ c ∧ c ≤ 9 then (fo (cfS (GJ g) c) (g 1) 0 0, up2 (GJ g) 396 12 0) else ((0 : Int32), up2 (GJ g) 396 12 1))).1)) (((if 0 ≤ c ∧ c ≤ 9 then (fo (cfS (GJ g) c) (g 1) 0 0, up2 (GJ g) 396 12 0) else ((0 : Int32), up2 (GJ g) 396 12 1))).2 396 12) (g, gs, d, sv, qq, tx, er, fl, w) N v T I L Dd := by
  obtain ⟨p1, p2, p3, -⟩ := h.pre
  have he : eqS (forQ I c).2.2 I := seqX_eq (eqS.rf I) (eqS.rf I)
  obtain ⟨σ, Y⟩ := h.yg
  exact cq_q (val := ((if 0 ≤ c ∧ c ≤ 9 then (fo (cfS (GJ g) c) (g 1) 0 0, up2 (GJ g) 396 12 0) else ((0 : Int32), up2 (GJ g) 396 12 1))).1) (cd := ((if 0 ≤ c ∧ c ≤ 9 then (fo (cfS (GJ g) c) (g 1) 0 0, up2 (GJ g) 396 12 0) else ((0 : Int32), up2 (GJ g) 396 12 1))).2 396 12) h (c_carsFor hX (by decide) h.N4 hN) he (ag_for Y c)
theorem q_carAtRank (hX : JXok X) (h : CP K N v T I L Dd g gs d sv qq tx er fl w) (hN : N + 1 < BIG) : CQ X K 4 24 jdX6_carAtRank [.int c] [xNE] (some (.int (crP (GJ g) (g 1) c (g 1) 0).1)) ((crP (GJ g) (g 1) c (g 1) 0).2 396 12) (g, gs, d, sv, qq, tx, er, fl, w) N v T I L Dd := by
  obtain ⟨p1, p2, p3, -⟩ := h.pre
  have he : eqS (cRankQ I c).2.2 I := seqX_eq (eqS.rf I) (eqS.rf I)
  obtain ⟨σ, Y⟩ := h.yg
  exact cq_q (val := (crP (GJ g) (g 1) c (g 1) 0).1) (cd := (crP (GJ g) (g 1) c (g 1) 0).2 396 12) h (c_carAtRank hX (by decide) h.N4 hN) he (ag_carRank Y c)
theorem q_errorPosition (hX : JXok X) (h : CP K N v T I L Dd g gs d sv qq tx er fl w) (hN : N + 1 < BIG) : CQ X K 4 24 jdX6_errorPosition [] [xNE] (some (.int er)) (if er = -1 then 1 else 0) (g, gs, d, sv, qq, tx, er, fl, w) N v T I L Dd := by
  have he : eqS (errorPositionQ I).2.2 I := seqX_eq (eqS.rf I) (eqS.rf I)
  have e1 : I 0 5 = er := h.2.2.2.1.2.2.2.1
  refine cq_q h (c_errorPosition hX (by decide) h.N4 hN) he ?_
  unfold errorPositionQ
  rw [e1]
  by_cases c : er = -1
  · rw [if_pos c, if_pos c]
    exact AG.ex 0 rfl rfl rfl
  · rw [if_neg c, if_neg c]
    exact AG.ok rfl rfl
theorem q_failedCommand (hX : JXok X) (h : CP K N v T I L Dd g gs d sv qq tx er fl w) (hN : N + 1 < BIG) : CQ X K 4 24 jdX6_failedCommand [] [xNE] (some (.int fl)) (if fl = -1 then 1 else 0) (g, gs, d, sv, qq, tx, er, fl, w) N v T I L Dd := by
  have he : eqS (failedCommandQ I).2.2 I := seqX_eq (eqS.rf I) (eqS.rf I)
  have e1 : I 0 6 = fl := h.2.2.2.1.2.2.2.2
  refine cq_q h (c_failedCommand hX (by decide) h.N4 hN) he ?_
  unfold failedCommandQ
  rw [e1]
  by_cases c : fl = -1
  · rw [if_pos c, if_pos c]
    exact AG.ex 0 rfl rfl rfl
  · rw [if_neg c, if_neg c]
    exact AG.ok rfl rfl
end YQI
