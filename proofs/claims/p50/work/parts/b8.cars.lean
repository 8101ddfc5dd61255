/-! the cars of a track, asked one by one -/
section CAR
variable {X : JX} {M : JM} {d mc ms : Nat} {Q : JR → Prop} {pc : Nat} {ls : List (Option Value)} {st : List Value} {K b v r n t : Nat} {s : GS} {h h' : MH} {sh : JS}
theorem Ev.l2i {x : Int64} (hdg : decode M.2.1 pc = .ok (.l2i, 1)) (k : Ev X M d mc ms Q (pc + 1) ls (.int x.toInt32 :: st) h) : Ev X M d mc ms Q pc ls (.long x :: st) h := by
  intro p ev R s m args below meth c H locs cells slots lsA hB hK hH hS hL hR
  exact lv_l2i hB.1 hB.2.1 hdg rfl (k p ev R s m args below meth c H locs cells slots lsA hB hK hH hS hL hR)
theorem c_at {k : Nat} (hX : JXok X) (hk : k ≤ 100000) (hs : jSn X < 2 ^ 31) : MT X d 0 0 jdL_at [.ref (BIG + 300), .int (nI k)] h (fun R => R = .inl (some (.int (if k < jSn X then jSf X k else 0)), h)) := by
  refine MT.mk dsL_at.1 ?_
  refine Ev.sg hX (sL_at_0.sub 0 2) (pc' := 2) (ls' := [some (.ref (BIG + 300)), some (.int (nI k))]) (st' := [.ref (BIG + 300), .int (nI k)]) (h' := h) rfl ?_
  refine Ev.alenX (sL_at_0.dc 2 (q := (2, .arraylength, 0, 0)) rfl) ?_
  show Ev _ _ _ _ _ _ 3 [some (.ref (BIG + 300)), some (.int (nI k))] [.int (nI (jSn X)), .int (nI k)] h
  refine Ev.icmp_ge (tgt := 12) dL_at_3 (by decide) (fun b1 => ?_) (fun b1 => ?_)
  · refine Ev.sg hX sL_at_12 (pc' := 13) (ls' := [some (.ref (BIG + 300)), some (.int (nI k))]) (st' := [.int 0]) (h' := h) rfl ?_
    refine Ev.iret dL_at_13 rfl ?_
    rw [if_neg (by have := (nI_leI (a := jSn X) (b := k) (by omega) (by omega)).mp b1; omega)]
  · have hk2 : k < jSn X := by have := mt (nI_leI (a := jSn X) (b := k) (by omega) (by omega)).mpr b1; omega
    refine Ev.sg hX sL_at_6 (pc' := 8) (ls' := [some (.ref (BIG + 300)), some (.int (nI k))]) (st' := [.int (nI k), .ref (BIG + 300)]) (h' := h) rfl ?_
    refine Ev.ialdX rfl hk2 hk dL_at_8 ?_
    refine Ev.sg hX sL_at_9 (pc' := 13) (ls' := [some (.ref (BIG + 300)), some (.int (nI k))]) (st' := [.int (jSf X k)]) (h' := h) rfl ?_
    refine Ev.iret dL_at_13 rfl ?_
    rw [if_pos hk2]
/-- an object behind changes elsewhere -/
theorem OB.frame (hb : b = 0 ∨ 396 ≤ b) (ho : OB K b v s h) (hN : zN h ≤ zN h') (hs : ∀ a, a < zN h → ((b ≤ a ∧ a < b + 396) ∨ a = swp b v) → zS h' a = zS h a ∧ zI h' a = zI h a ∧ zL h' a = zL h a) (hz : ∀ a, zN h' ≤ a → ∀ j, zI h' a j = 0 ∧ zL h' a j = 0 ∧ zD h' a j = 0) : OB K b v s h' := by
  have hp := swp_p hb
  have hvN := (ho.fresh hb).1
  obtain ⟨hN0, T, e, c⟩ := ho
  have lo : ∀ k, k < 396 → swp b k = b + k := fun k hk => if_pos hk
  have hvN2 : swp b v < zN h := hp.ltB hN0 hvN
  have eA : ∀ k, k < 396 → zS h' (swp b k) = zS h (swp b k) ∧ zI h' (swp b k) = zI h (swp b k) ∧ zL h' (swp b k) = zL h (swp b k) := fun k hk => hs _ (by rw [lo k hk]; omega) (Or.inl (by rw [lo k hk]; omega))
  have ev := hs (swp b v) hvN2 (Or.inr rfl)
  refine ⟨Nat.le_trans hN0 hN, zS (piH (swp b) h'), ?_, ?_⟩
  · funext k
    by_cases hk : k < 396
    · have e1 := congrFun e k
      show (zS h' (swp b k)).map (piS (swp b)) = _
      rw [(eA k hk).1, SH_lo hk (T' := T)]
      exact e1
    · rw [SH_hi (by omega)]
  · refine CP.loc c hN (fun a ha => (eA a ha).2.1) (fun a ha => (eA a ha).2.2) ev.2.1 (fun hv => ?_) (fun a ha j => ?_)
    · show (zS h' (swp b v)).map (piS (swp b)) = T v
      rw [ev.1, ← SH_hi (v := v) (T := T) hv]
      exact congrFun e v
    · have q := hz a ha j
      have e2 : swp b a = a := hp.2 a (by omega)
      show zI h' (swp b a) j = 0 ∧ zL h' (swp b a) j = 0 ∧ zD h' (swp b a) j = 0
      rw [e2]
      exact q
theorem OB.own (hb : b = 0 ∨ 396 ≤ b) (ho : OB K b v s h) : swp b v < zN h := (swp_p hb).ltB ho.1 (ho.fresh hb).1
/-- a cell more -/
theorem OB.cell (hb : b = 0 ∨ 396 ≤ b) (ho : OB K b v s h) : OB K b v s (newS h sh) := by
  have f := (ho.fresh hb).2
  exact ho.frame hb (Nat.le_succ _) (fun a ha _ => ⟨upS_ne (by omega), rfl, rfl⟩) (fun a ha j => f a (by have : zN h + 1 ≤ a := ha; omega) j)
theorem STEP.cell {ex : Nat} (he : 1 ≤ ex) : STEP b v ex h (newS h sh) := ⟨Nat.le_succ _, Nat.add_le_add_left he _, fun a ha _ => ⟨upS_ne (by omega), fun _ => rfl, rfl, rfl⟩⟩
/-- a row elsewhere written -/
theorem OB.row {x : Int32} {j : Nat} (hb : b = 0 ∨ 396 ≤ b) (ho : OB K b v s h) (hr : r < zN h) (h1 : r < b ∨ b + 396 ≤ r) (h2 : r ≠ swp b v) : OB K b v s (setI h r j x) := by
  have f := (ho.fresh hb).2
  refine ho.frame hb (Nat.le_refl _) (fun a ha hn => ⟨rfl, up2_ne (by omega), rfl⟩) (fun a ha j' => ?_)
  have q := f a ha j'
  have ha : zN h ≤ a := ha
  exact ⟨(congrFun (up2_ne (by omega)) j').trans q.1, q.2⟩
/-- what the law may count on: yard numbers in their bounds -/
theorem OB.wg (ho : OB K b v s h) : K ≤ 5000 ∧ WG K s.1 := by
  obtain ⟨-, T, -, c⟩ := ho
  obtain ⟨⟨σ, y⟩, -⟩ := c
  exact ⟨y.1, y.2.1⟩
theorem tk_ok {g : Nat → Nat} (hz : g 0 ≤ 8) (ht : t < g 0) : tkM (GJ g) (nI t) := (tkM_g GJ_v hz (nI t)).mpr ⟨t, ht, rfl⟩
theorem dn_ok {p : Prop} [Decidable p] {c e : Int32} {J : HI} (h : p) : (dnM p c J e).1 = c ∧ (dnM p c J e).2 396 12 = 0 := by
  unfold dnM
  rw [if_pos h]
  exact ⟨rfl, thr J 0⟩
/-- the number of a car -/
def caV (g : Nat → Nat) (t k : Nat) : Int32 := (carAtM (GJ g) (g 1) (nI t) (nI k)).1
theorem ca_ok {g : Nat → Nat} {k : Nat} (hW : WG K g) (ht : t < g 0) (hk : k < g (31 + t)) : (carAtM (GJ g) (g 1) (nI t) (nI k)).2 396 12 = 0 := by
  have z8 := hW.1.1
  have h20 := hW.h20 (t := t) (by omega)
  unfold carAtM
  rw [if_neg (fun q => q (tk_ok z8 ht))]
  refine (dn_ok ?_).2
  have e : GJ g 397 (31 + (nI t).toNatClampNeg) = nI (g (31 + t)) := by
    rw [nI_clamp (by omega)]
    exact GJ_v _ (by omega)
  rw [e, nI_m1 (by omega)]
  exact ⟨nI_pos' (by omega), (nI_leI (by omega) (by omega)).mpr (by omega)⟩
theorem l_cars (hX : JXok X) (hM : jM X ≤ 396) (hb : b = 0 ∨ 396 ≤ b) (ht : t < s.1 0) (hn : n = s.1 (31 + t)) : ∀ (m k : Nat) (h : MH) (mc ms : Nat), k + m = n → OB K b v s h → r < zN h → (r < b ∨ b + 396 ≤ r) → r ≠ swp b v → zS h r = some (.inl (.int, n)) → (∀ j, j < k → zI h r j = caV s.1 t j) → zN h + 4 * m + 1 < BIG → 4 * m ≤ mc → 24 * m ≤ ms →
    (∀ h', (∀ a, a ≠ r → a < zN h → ¬ (b ≤ a ∧ a < b + 396) → zS h' a = zS h a ∧ (a ≠ swp b v → zI h' a = zI h a) ∧ zL h' a = zL h a ∧ zD h' a = zD h a) → zN h ≤ zN h' → zN h' ≤ zN h + 4 * m → OB K b v s h' → zS h' r = some (.inl (.int, n)) → (∀ j, j < n → zI h' r j = caV s.1 t j) → Q (.inl (some (.ref r), h'))) →
    Ev X (jm jdL_cars) 13 mc ms Q 10 [some (.ref b), some (.int (nI t)), some (.ref r), some (.int (nI k))] [] h := by
  intro m
  induction m with
  | zero =>
    intro k h mc ms hk ho hr h1 h2 hS hI hB hm hs hQ
    have hn20 : n ≤ 20 := by rw [hn]; exact ho.wg.2.h20 (by have := ho.wg.2.1.1; omega)
    refine Ev.sg hX (sL_cars_10.sub 0 2) (pc' := 12) (ls' := [some (.ref b), some (.int (nI t)), some (.ref r), some (.int (nI k))]) (st' := [.ref r, .int (nI k)]) (h' := h) rfl ?_
    refine Ev.alenN hS rfl (sL_cars_10.dc 2 (q := (12, .arraylength, 0, 0)) rfl) ?_
    show Ev _ _ _ _ _ _ 13 [some (.ref b), some (.int (nI t)), some (.ref r), some (.int (nI k))] [.int (nI n), .int (nI k)] h
    refine Ev.icmp_ge (tgt := 31) dL_cars_13 (by decide) (fun b1 => ?_) (fun b1 => ?_)
    · refine Ev.sg hX sL_cars_31 (pc' := 32) (ls' := [some (.ref b), some (.int (nI t)), some (.ref r), some (.int (nI k))]) (st' := [.ref r]) (h' := h) rfl ?_
      refine Ev.aret dL_cars_32 rfl (Or.inr ⟨_, rfl⟩) ?_
      exact hQ h (fun a _ _ _ => ⟨rfl, fun _ => rfl, rfl, rfl⟩) (Nat.le_refl _) (Nat.le_add_right _ _) ho hS (fun j hj => hI j (by omega))
    · exact absurd ((nI_leI (a := n) (b := k) (by omega) (by omega)).mpr (by omega)) b1
  | succ m ih =>
    intro k h mc ms hk ho hr h1 h2 hS hI hB hm hs hQ
    have hW := ho.wg.2
    have hn20 : n ≤ 20 := by rw [hn]; exact hW.h20 (by have := hW.1.1; omega)
    obtain ⟨fs9, h0⟩ := ho.at0 hb
    refine Ev.sg hX (sL_cars_10.sub 0 2) (pc' := 12) (ls' := [some (.ref b), some (.int (nI t)), some (.ref r), some (.int (nI k))]) (st' := [.ref r, .int (nI k)]) (h' := h) rfl ?_
    refine Ev.alenN hS rfl (sL_cars_10.dc 2 (q := (12, .arraylength, 0, 0)) rfl) ?_
    show Ev _ _ _ _ _ _ 13 [some (.ref b), some (.int (nI t)), some (.ref r), some (.int (nI k))] [.int (nI n), .int (nI k)] h
    refine Ev.icmp_ge (tgt := 31) dL_cars_13 (by decide) (fun b1 => ?_) (fun b1 => ?_)
    · exact absurd ((nI_leI (a := n) (b := k) (by omega) (by omega)).mp b1) (by omega)
    · refine Ev.sg hX sL_cars_16 (pc' := 21) (ls' := [some (.ref b), some (.int (nI t)), some (.ref r), some (.int (nI k))]) (st' := [.int (nI k), .int (nI t), .ref b, .int (nI k), .ref r]) (h' := h) rfl ?_
      have C : MT X 12 4 24 jdX6_carAt (.ref b :: [.int (nI t), .int (nI k)]) h _ := OB.call (xs := [xIO, xNE]) (val := some (.int (caV s.1 t k))) (cd := 0) (s' := s) hX hM (by omega) hb ho (fun v hv => by rcases List.mem_map.mp (show v ∈ [nI t, nI k].map Value.int from hv) with ⟨x, -, rfl⟩; exact fun _ => rfl) (fun _ => rfl) (fun X' T I L D hX' c => by
        have q := q_carAt (t := nI t) (c := nI k) hX' c (by omega)
        rw [ca_ok hW ht (by omega)] at q
        exact q)
      refine Ev.callV (As := [.int (nI t), .int (nI k)]) (rest := [.int (nI k), .ref r]) dvX6_carAt mkL_82 h0 rfl dL_cars_21 C ⟨Nat.le_refl _, by show 4 + 19 + 40 * _ ≤ 40 * _; omega⟩ ⟨by omega, by omega⟩ rfl (Nat.le_of_ble_eq_true rfl) (fun v9 h9 e9 => ?_) (fun E9 h9 e9 => ?_)
      · obtain ⟨h8, st9, ob9, ⟨c0, e⟩ | ⟨j, E, x1, x2, e⟩⟩ := e9
        · cases e
          have r9 := st9.2.2 r hr (by omega)
          have hS9 : zS h9 r = some (.inl (.int, n)) := r9.1.trans hS
          have eI9 : zI h9 r = zI h r := r9.2.1 h2
          show Ev _ _ _ _ _ _ 24 [some (.ref b), some (.int (nI t)), some (.ref r), some (.int (nI k))] [.int (caV s.1 t k), .int (nI k), .ref r] h9
          refine Ev.iastE hX hS9 rfl (by omega) (by omega) dL_cars_24 ?_
          show Ev _ _ _ _ _ _ 25 [some (.ref b), some (.int (nI t)), some (.ref r), some (.int (nI k))] [] (setI h9 r k (caV s.1 t k))
          refine Ev.sg hX sL_cars_25 (pc' := 10) (ls' := [some (.ref b), some (.int (nI t)), some (.ref r), some (.int (nI k + 1))]) (st' := []) (h' := setI h9 r k (caV s.1 t k)) rfl ?_
          rw [nI_1]
          have a9 := st9.1
          have b9 := st9.2.1
          refine ih (k + 1) (setI h9 r k (caV s.1 t k)) (mc - 4) (ms - 24) (by omega) (ob9.row hb (by omega) h1 h2) (by show r < zN h9; omega) h1 h2 hS9 (fun j hj => ?_) (by show zN h9 + 4 * m + 1 < BIG; omega) (by omega) (by omega) (fun h' f1 f2 f3 f4 f5 f6 => ?_)
          · show up2 (zI h9) r k (caV s.1 t k) r j = _
            rw [up2_v]
            by_cases c : j = k
            · rw [if_pos c, c]
            · rw [if_neg c, eI9]
              exact hI j (by omega)
          · have f2 : zN h9 ≤ zN h' := f2
            have f3 : zN h' ≤ zN h9 + 4 * m := f3
            refine hQ h' (fun a ha haN hn => ?_) (by omega) (by omega) f4 f5 f6
            obtain ⟨p1, p2, p3, p4⟩ := f1 a ha (by show a < zN h9; omega) hn
            obtain ⟨q1, q2, q3, q4⟩ := st9.2.2 a haN hn
            have eu : zI (setI h9 r k (caV s.1 t k)) a = zI h9 a := up2_ne ha
            exact ⟨p1.trans q1, fun hv => (p2 hv).trans (eu.trans (q2 hv)), p3.trans q3, p4.trans q4⟩
        · cases e
      · obtain ⟨h8, st9, ob9, ⟨c0, e⟩ | ⟨j, E, x1, x2, e⟩⟩ := e9
        · cases e
        · rcases j with _ | _ | j
          · exact absurd x2 (by decide)
          · exact absurd x2 (by decide)
          · cases x1
/-- the cars of a track -/
theorem c_cars (hX : JXok X) (hM : jM X ≤ 396) (hb : b = 0 ∨ 396 ≤ b) (ho : OB K b v s h) (ht : t < s.1 0) (hB : zN h + 100 < BIG) : MT X 13 85 524 jdL_cars [.ref b, .int (nI t)] h (fun R => ∃ h' r, STEP b v 85 h h' ∧ OB K b v s h' ∧ zN h ≤ r ∧ r < zN h' ∧ zS h' r = some (.inl (.int, s.1 (31 + t))) ∧ (∀ k, k < s.1 (31 + t) → zI h' r k = caV s.1 t k) ∧ R = .inl (some (.ref r), h')) := by
  have hW := ho.wg.2
  have z8 := hW.1.1
  have h20 := hW.h20 (t := t) (by omega)
  obtain ⟨fs9, h0⟩ := ho.at0 hb
  refine MT.mk dsL_cars.1 ?_
  refine Ev.sg hX sL_cars_0 (pc' := 2) (ls' := [some (.ref b), some (.int (nI t)), none, none]) (st' := [.int (nI t), .ref b]) (h' := h) rfl ?_
  have C : MT X 12 4 24 jdX6_carsOn (.ref b :: [.int (nI t)]) h _ := OB.call (xs := [xIO]) (val := some (.int (nI (s.1 (31 + t))))) (cd := 0) (s' := s) hX hM (by omega) hb ho (fun v hv => by rw [List.mem_singleton.mp hv]; exact fun _ => rfl) (fun _ => rfl) (fun X' T I L D hX' c => by
    have q := q_carsOn (t := nI t) hX' c (by omega)
    have e := dn_ok (c := GJ s.1 397 (31 + (nI t).toNatClampNeg)) (e := 1) (J := GJ s.1) (tk_ok z8 ht)
    have e3 : GJ s.1 397 (31 + (nI t).toNatClampNeg) = nI (s.1 (31 + t)) := by
      rw [nI_clamp (by omega)]
      exact GJ_v _ (by omega)
    rw [e.1, e.2, e3] at q
    exact q)
  refine Ev.callV (As := [.int (nI t)]) (rest := []) dvX6_carsOn mkL_79 h0 rfl dL_cars_2 C ⟨Nat.le_refl _, by show 2 + 19 + 40 * _ ≤ 40 * _; omega⟩ ⟨by omega, by omega⟩ rfl (Nat.le_of_ble_eq_true rfl) (fun v9 h9 e9 => ?_) (fun E9 h9 e9 => ?_)
  · obtain ⟨h8, st9, ob9, ⟨c0, e⟩ | ⟨j, E, x1, x2, e⟩⟩ := e9
    · cases e
      have a9 := st9.1
      have b9 := st9.2.1
      have f9 := (ob9.fresh hb).2
      have own9 := ob9.own hb
      show Ev _ _ _ _ _ _ 5 [some (.ref b), some (.int (nI t)), none, none] [.int (nI (s.1 (31 + t)))] h9
      refine Ev.newI (n := s.1 (31 + t)) hX rfl (by omega) ⟨fun j => (f9 _ (Nat.le_refl _) j).1, fun j => (f9 _ (Nat.le_refl _) j).2.1, fun j => (f9 _ (Nat.le_refl _) j).2.2⟩ ⟨by omega, by omega⟩ (by omega) dL_cars_5 (by decide +kernel) ?_
      show Ev _ _ _ _ _ _ 7 [some (.ref b), some (.int (nI t)), none, none] [.ref (zN h9)] (newS h9 (.inl (.int, s.1 (31 + t))))
      refine Ev.sg hX sL_cars_7 (pc' := 10) (ls' := [some (.ref b), some (.int (nI t)), some (.ref (zN h9)), some (.int 0)]) (st' := []) (h' := newS h9 (.inl (.int, s.1 (31 + t)))) rfl ?_
      have ob8 := ob9.cell (sh := .inl (.int, s.1 (31 + t))) hb
      have hN9 := ob9.1
      refine l_cars (r := zN h9) (n := s.1 (31 + t)) hX hM hb ht rfl (s.1 (31 + t)) 0 _ _ _ (by omega) ob8 (by show zN h9 < zN h9 + 1; omega) (by omega) (by omega) upS_eq (fun j hj => absurd hj (by omega)) (by show zN h9 + 1 + 4 * _ + 1 < BIG; omega) (by omega) (by omega) (fun h' f1 f2 f3 f4 f5 f6 => ?_)
      have f2 : zN h9 + 1 ≤ zN h' := f2
      have f3 : zN h' ≤ zN h9 + 1 + 4 * s.1 (31 + t) := f3
      refine ⟨h', zN h9, ⟨by omega, by omega, fun a ha hn => ?_⟩, f4, a9, by omega, f5, f6, rfl⟩
      obtain ⟨p1, p2, p3, p4⟩ := f1 a (by omega) (by show a < zN h9 + 1; omega) hn
      obtain ⟨q1, q2, q3, q4⟩ := st9.2.2 a ha hn
      have eu : zS (newS h9 (.inl (.int, s.1 (31 + t)))) a = zS h9 a := upS_ne (by omega)
      exact ⟨p1.trans (eu.trans q1), fun hv => (p2 hv).trans (q2 hv), p3.trans q3, p4.trans q4⟩
    · cases e
  · obtain ⟨h8, st9, ob9, ⟨c0, e⟩ | ⟨j, E, x1, x2, e⟩⟩ := e9
    · cases e
    · rcases j with _ | j
      · exact absurd x2 (by decide)
      · cases x1
end CAR
