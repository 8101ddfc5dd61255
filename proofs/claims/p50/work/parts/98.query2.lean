/-! more queries: ranks of cars, routes, the nearest track, consistency -/
section YQV
variable {K : Nat} {I J : HI} {L : HL} {g g' σ : Nat → Nat} {x y s t i k u z : Nat}
/-- a car comes before another one in rank -/
abbrev ahC (g : Nat → Nat) (a b : Nat) : Prop := g (99 + a) < g (99 + b) ∨ (g (99 + a) = g (99 + b) ∧ (g (79 + b) < g (79 + a) ∨ (g (79 + a) = g (79 + b) ∧ g (39 + a) < g (39 + b))))
def rkN (g : Nat → Nat) (b : Nat) : Nat := sN (fun k => if ahC g k b then 1 else 0) (g 1)
theorem sN_lt {f h : Nat → Nat} {k : Nat} : ∀ {n : Nat}, (∀ k, k < n → f k ≤ h k) → k < n → f k < h k → sN f n < sN h n
  | 0, _, h2, _ => by omega
  | n + 1, h1, h2, h3 => by
    show sN f n + f n < sN h n + h n
    by_cases c : k = n
    · have a := sN_mono (f := f) (g := h) (n := n) (fun k hk => h1 k (by omega))
      rw [← c] at a ⊢
      omega
    · have a := sN_lt (f := f) (h := h) (k := k) (n := n) (fun k hk => h1 k (by omega)) (by omega) h3
      have b := h1 n (by omega)
      omega
theorem rkN_lt {a b : Nat} (ha : a < g 1) (h : ahC g a b) : rkN g a < rkN g b := by
  refine sN_lt (k := a) (fun k hk => ?_) ha ?_
  · show (if ahC g k a then 1 else 0) ≤ (if ahC g k b then 1 else 0)
    by_cases c : ahC g k a
    · rw [if_pos c, if_pos (by unfold ahC at *; omega)]
      exact Nat.le_refl _
    · rw [if_neg c]; exact Nat.zero_le _
  · show (if ahC g a a then 1 else 0) < (if ahC g a b then 1 else 0)
    rw [if_pos h, if_neg (by unfold ahC; omega)]
    omega
theorem rkN_inj (W : WG K g) {a b : Nat} (ha : a < g 1) (hb : b < g 1) (h : rkN g a = rkN g b) : a = b := by
  by_cases c : a = b
  · exact c
  · have n : g (39 + a) ≠ g (39 + b) := fun e => c (W.num ha hb e)
    have d : ahC g a b ∨ ahC g b a := by unfold ahC; omega
    rcases d with d | d
    · have := rkN_lt ha d; omega
    · have := rkN_lt hb d; omega
theorem rkN_le (W : WG K g) {b : Nat} : rkN g b ≤ 1 * g 1 := sN_le (fun k hk => by
  show (if ahC g k b then 1 else 0) ≤ 1
  split <;> omega)
theorem rkb_g (hK : K ≤ 5000) (W : WG K g) (C : CRc I g σ) {a b : Nat} (ha : a < g 1) (hb : b < g 1) : rkb I (σ a) (σ b) = true ↔ ahC g a b := by
  have ca := C.1 a ha
  have cb := C.1 b hb
  have wa := W.car hK ha
  have wb := W.car hK hb
  unfold rkb ahC
  rw [ca.2.1, ca.2.2.2.1, ca.2.2.2.2.1, cb.2.1, cb.2.2.2.1, cb.2.2.2.2.1]
  by_cases c : g (99 + a) = g (99 + b)
  · rw [if_pos (by rw [c])]
    by_cases d : g (79 + a) = g (79 + b)
    · rw [if_pos (by rw [d]), decide_eq_true_iff, nI_ltI (by omega) (by omega)]
      omega
    · rw [if_neg (fun q => d (nI_inj (by omega) (by omega) q)), decide_eq_true_iff, nI_ltI (by omega) (by omega)]
      omega
  · rw [if_neg (fun q => c (nI_inj (by omega) (by omega) q)), decide_eq_true_iff, nI_ltI (by omega) (by omega)]
    omega
theorem cahM_g (hK : K ≤ 5000) (W : WG K g) (V : GV (J 397) g) {a b : Nat} (ha : a < g 1) (hb : b < g 1) : cahM J a b ↔ ahC g a b := by
  have wa := W.car hK ha
  have wb := W.car hK hb
  unfold cahM ahC
  rw [V (99 + a) (by omega), V (99 + b) (by omega), V (79 + a) (by omega), V (79 + b) (by omega), V (39 + a) (by omega), V (39 + b) (by omega), (sub_g (by omega) (by omega)).1, (sub_g (by omega) (by omega)).2, (sub_g (by omega) (by omega)).1, (sub_g (by omega) (by omega)).2, nI_ltI (by omega) (by omega)]
  omega
theorem rankC_g (hK : K ≤ 5000) (W : WG K g) (C : CRc I g σ) {b : Nat} (hb : b < g 1) : rankOfC I (σ b) = nI (rkN g b) := by
  refine cl_sum C (fun s hs a => ?_) (fun u hu hs a => ?_)
  · have cs := C.1 s hs
    have ws := W.car hK hs
    have e := rkb_g hK W C hs hb
    unfold stR
    by_cases c : ahC g s b
    · rw [if_pos ⟨fun q => by
        rw [cs.2.1] at q
        have := nI_inj (b := 0) (by omega) (by omega) q
        omega, e.mpr c⟩, if_pos c]; rfl
    · rw [if_neg (fun q => c (e.mp q.2)), if_neg c, nI_0, Int32.add_zero]
  · unfold stR
    rw [(C.2.2 u hu hs).1, if_neg (fun q => q.1 rfl)]
theorem crS_g (hK : K ≤ 5000) (W : WG K g) (V : GV (J 397) g) {b : Nat} (hb : b < g 1) : fo (crS J b) (g 1) 0 0 = nI (rkN g b) := by
  refine fo_sum (fun k a hk => ?_)
  have e := cahM_g hK W V hk hb
  unfold crS
  by_cases c : ahC g k b
  · rw [if_pos (e.mpr c), if_pos c]; rfl
  · rw [if_neg (fun q => c (e.mp q)), if_neg c]; rfl
theorem crP_or {m : Nat} {c : Int32} : ∀ n k, (crP J m c n k = (0, up2 J 396 12 1) ∧ ∀ i, k ≤ i → i < k + n → fo (crS J i) m 0 0 ≠ c) ∨ ∃ i, k ≤ i ∧ i < k + n ∧ fo (crS J i) m 0 0 = c ∧ crP J m c n k = (J 397 (39 + i), up2 J 396 12 0)
  | 0, k => Or.inl ⟨rfl, fun i h1 h2 => by omega⟩
  | n + 1, k => by
    unfold crP
    by_cases h : fo (crS J k) m 0 0 = c
    · rw [if_pos h]
      exact Or.inr ⟨k, Nat.le_refl _, by omega, h, rfl⟩
    · rw [if_neg h]
      rcases crP_or (m := m) (c := c) n (k + 1) with ⟨h1, h2⟩ | ⟨i, h1, h2, h3, h4⟩
      · refine Or.inl ⟨h1, fun i g1 g2 => ?_⟩
        by_cases e : i = k
        · rw [e]; exact h
        · exact h2 i (by omega) (by omega)
      · exact Or.inr ⟨i, by omega, by omega, h3, h4⟩
theorem ag_carRank (H : YR K I L (J 397) g σ) (c : Int32) : AG [xNE] (qo (cRankQ I c)) (crP J (g 1) c (g 1) 0).1 ((crP J (g 1) c (g 1) 0).2 396 12) := by
  obtain ⟨hK, V, W, S, T, Hj, C⟩ := H
  have hm := W.1.2.1
  rcases crP_or (J := J) (m := g 1) (c := c) (g 1) 0 with ⟨h1, h2⟩ | ⟨b, -, hb, h3, h4⟩
  · have e : rankedSlot I c = -1 := fnd_none (fun i hi hp => by
      by_cases r : ∃ s, s < g 1 ∧ σ s = i
      · obtain ⟨s, hs, es⟩ := r
        rw [← es, rankC_g hK W C hs] at hp
        exact h2 s (Nat.zero_le _) (by omega) ((crS_g hK W V hs).trans hp.2)
      · exact hp.1 (C.2.2 i hi (fun s hs e => r ⟨s, hs, e⟩)).1)
    have ec : qo (cRankQ I c) = (some xNE, 0) := by
      unfold cRankQ
      rw [e, if_pos rfl]
      rfl
    rw [h1]
    exact AG.ex 0 rfl ec (thr J 1)
  · have hb2 : b < g 1 := by omega
    rw [crS_g hK W V hb2] at h3
    have cb := C.1 b hb2
    have wb := W.car hK hb2
    have e : rankedSlot I c = nI (σ b) := by
      refine fnd_at cb.1 ⟨fun q => ?_, (rankC_g hK W C hb2).trans h3⟩ (fun i hi hp => ?_)
      · rw [cb.2.1] at q
        have := nI_inj (b := 0) (by omega) (by omega) q
        omega
      · by_cases r : ∃ s, s < g 1 ∧ σ s = i
        · obtain ⟨s, hs, es⟩ := r
          rw [← es, rankC_g hK W C hs] at hp
          have l1 := rkN_le W (b := s)
          have l2 := rkN_le W (b := b)
          have := rkN_inj W hs hb2 (nI_inj (by omega) (by omega) (hp.2.trans h3.symm))
          rw [← es, this]
        · exact absurd (C.2.2 i hi (fun s hs e => r ⟨s, hs, e⟩)).1 hp.1
    have n1 : ¬ nI (σ b) = -1 := nI_mi (by omega)
    have ec : qo (cRankQ I c) = (none, J 397 (39 + b)) := by
      unfold cRankQ
      rw [e, if_neg n1]
      show (none, rg 20 (I 17) (nI (σ b))) = _
      rw [rg_nI cb.1 (by decide), cb.2.1, V _ (by omega)]
    rw [h4]
    exact AG.ok ec (thr J 0)
/-- two tracks are named, or one of them is none -/
theorem two_trk (H : YR K I L (J 397) g σ) (a b : Int32) : (∃ x y, x < g 0 ∧ y < g 0 ∧ a = nI x ∧ b = nI y ∧ a.toNatClampNeg = x ∧ b.toNatClampNeg = y ∧ trkX I a = none ∧ trkX I b = none ∧ tkM J a ∧ tkM J b) ∨ (¬ (tkM J a ∧ tkM J b) ∧ ∀ k, seqX (trkX I a) I (seqX (trkX I b) I k) = (some xIO, 0, I)) := by
  have hz := H.2.2.1.1.1
  have S := H.2.2.2.1
  by_cases h1 : hasT I a
  · by_cases h2 : hasT I b
    · obtain ⟨x, hx, ex⟩ := (hasT_g S hz a).mp h1
      obtain ⟨y, hy, ey⟩ := (hasT_g S hz b).mp h2
      exact Or.inl ⟨x, y, hx, hy, ex, ey, by rw [ex]; exact nI_clamp (by omega), by rw [ey]; exact nI_clamp (by omega), trkX_y h1, trkX_y h2, (tk_iff H a).mp h1, (tk_iff H b).mp h2⟩
    · exact Or.inr ⟨fun e => h2 ((tk_iff H b).mpr e.2), fun k => by rw [trkX_y h1, trkX_n h2]; rfl⟩
  · exact Or.inr ⟨fun e => h1 ((tk_iff H a).mpr e.1), fun k => by rw [trkX_n h1]; rfl⟩
theorem ag_joined (H : YR K I L (J 397) g σ) (a b : Int32) : AG [xIO] (qo (joinedQ I a b)) (acM J a b).1 ((acM J a b).2 396 12) := by
  have hz := H.2.2.1.1.1
  rcases two_trk H a b with ⟨x, y, hx, hy, ex, ey, ax, ay, c1, c2, m1, m2⟩ | ⟨n, hc⟩
  · have em : acM J a b = (bi (lkM (up2 J 396 12 0) x y), up2 J 396 12 0) := by
      unfold acM
      rw [if_pos ⟨m1, m2⟩, ax, ay]
    have e1 := H.2.2.2.2.2.1 x y (by omega) (by omega)
    have e2 := lkM_g (I := up2 J 396 12 0) H.2.2.1 (by rw [up2_ne (by decide)]; exact H.2.1) (a := x) (b := y) (by omega) (by omega)
    have ec : qo (joinedQ I a b) = (none, bi (lkM (up2 J 396 12 0) x y)) := by
      unfold joinedQ
      rw [c1, c2, ax, ay]
      show (none, bi (I 8 (x * 8 + y) = 1)) = _
      rw [e1]
      unfold bi
      by_cases d : (g (23 + x)).testBit y = true
      · rw [if_pos (e2.mpr d), if_pos d]; rfl
      · rw [if_neg (fun q => d (e2.mp q)), if_neg d]; rfl
    exact AG.okM ec em
  · have em : acM J a b = (0, up2 J 396 12 1) := if_neg n
    have ec : qo (joinedQ I a b) = (some xIO, 0) := by
      unfold joinedQ
      rw [hc]
      rfl
    exact AG.exM 0 rfl ec em
theorem rlM_g (H : YR K I L (J 397) g σ) (hx : x < g 0) (hy : y < g 0) {a b : Int32} (ax : a.toNatClampNeg = x) (ay : b.toNatClampNeg = y) (m1 : tkM J a) (m2 : tkM J b) : (dsN g x y = 1000 ∧ rlM J (g 0) a b = (0, up2 (exM J (g 0) y) 396 12 2)) ∨ (dsN g x y < 8 ∧ rlM J (g 0) a b = (nI (dsN g x y), up2 (exM J (g 0) y) 396 12 0)) := by
  have D := ds_isD H.2.2.2.2.2.1 H.2.2.1 hx hy
  have E := ex_d H.2.2.1 H.2.1 D hx hy
  unfold rlM
  rw [if_neg (fun q => q ⟨m1, m2⟩), ax, ay, E]
  rcases isD_1000 D with e | e
  · have d : dmN g x y = 100 := by unfold dmN; rw [if_pos e]
    rw [d, if_pos (show nI 100 = 100 from rfl)]
    exact Or.inl ⟨e, rfl⟩
  · have d : dmN g x y = dsN g x y := by unfold dmN; rw [if_neg (by omega)]
    have n : ¬ nI (dsN g x y) = 100 := fun q => by
      have := nI_inj (b := 100) (by omega) (by omega) q
      omega
    rw [d, if_neg n]
    exact Or.inr ⟨e, rfl⟩
theorem ag_route (H : YR K I L (J 397) g σ) (a b : Int32) : AG [xIO, xNE] (qo (routeQ I (g 0) a b)) (rlM J (g 0) a b).1 ((rlM J (g 0) a b).2 396 12) := by
  have hz := H.2.2.1.1.1
  rcases two_trk H a b with ⟨x, y, hx, hy, ex, ey, ax, ay, c1, c2, m1, m2⟩ | ⟨n, hc⟩
  · have D := steps_d H.2.2.2.2.2.1 H.2.2.1 hx hy
    rcases rlM_g H hx hy ax ay m1 m2 with ⟨d, em⟩ | ⟨d, em⟩
    · have ec : qo (routeQ I (g 0) a b) = (some xNE, 0) := by
        unfold routeQ
        rw [c1, c2, ax, ay, D, d]
        rfl
      exact AG.exM 1 rfl ec em
    · have n : ¬ nI (dsN g x y) = 1000 := fun q => by
        have := nI_inj (b := 1000) (by omega) (by omega) q
        omega
      have ec : qo (routeQ I (g 0) a b) = (none, nI (dsN g x y)) := by
        unfold routeQ routeX
        rw [c1, c2, ax, ay, D, if_neg n]
        rfl
      exact AG.okM ec em
  · have em : rlM J (g 0) a b = (0, up2 J 396 12 1) := if_pos n
    have ec : qo (routeQ I (g 0) a b) = (some xIO, 0) := by
      unfold routeQ
      rw [hc]
      rfl
    exact AG.exM 0 rfl ec em
theorem ag_routeM (H : YR K I L (J 397) g σ) (a b : Int32) : AG [xIO, xNE] (qo (routeMQ I (g 0) a b)) (rlM J (g 0) a b).1 ((rlM J (g 0) a b).2 396 12) := by
  have hz := H.2.2.1.1.1
  rcases two_trk H a b with ⟨x, y, hx, hy, ex, ey, ax, ay, c1, c2, m1, m2⟩ | ⟨n, hc⟩
  · have D := mat_d H.2.2.2.2.2.1 H.2.2.1 hx hy
    rcases rlM_g H hx hy ax ay m1 m2 with ⟨d, em⟩ | ⟨d, em⟩
    · have ec : qo (routeMQ I (g 0) a b) = (some xNE, 0) := by
        unfold routeMQ
        rw [c1, c2, ax, ay, D, d]
        rfl
      exact AG.exM 1 rfl ec em
    · have n : ¬ nI (dsN g x y) = 1000 := fun q => by
        have := nI_inj (b := 1000) (by omega) (by omega) q
        omega
      have ec : qo (routeMQ I (g 0) a b) = (none, nI (dsN g x y)) := by
        unfold routeMQ routeX
        rw [c1, c2, ax, ay, D, if_neg n]
        rfl
      exact AG.okM ec em
  · have em : rlM J (g 0) a b = (0, up2 J 396 12 1) := if_pos n
    have ec : qo (routeMQ I (g 0) a b) = (some xIO, 0) := by
      unfold routeMQ
      rw [hc]
      rfl
    exact AG.exM 0 rfl ec em
theorem fnE_at {p : Nat → Prop} [DecidablePred p] {e j : Nat} : ∀ n k, k ≤ j → j < k + n → p j → (∀ i, k ≤ i → i < j → ¬ p i) → fnE p e n k = j
  | 0, k, h1, h2, h3, h4 => by omega
  | n + 1, k, h1, h2, h3, h4 => by
    unfold fnE
    by_cases c : k = j
    · rw [if_pos (by rw [c]; exact h3)]; exact c
    · rw [if_neg (h4 k (Nat.le_refl _) (by omega))]
      exact fnE_at n (k + 1) (by omega) (by omega) h3 (fun i h5 h6 => h4 i (by omega) h6)
/-- one track further on the route: class and model -/
theorem next_g (H : YR K I L (J 397) g σ) {O P : HI} (hO10 : ∀ i, i < g 0 → O 10 i = nI (dsN g i y)) (hO8 : O 8 = I 8) (hP3 : ∀ i, i < g 0 → P 403 i = nI (dmN g i y)) (hP7 : P 397 = J 397) (hy : y < g 0) (hx : x < g 0) (hd : dsN g x y < 8) (hd1 : 1 ≤ dsN g x y) : ∃ n, n < g 0 ∧ dsN g n y + 1 = dsN g x y ∧ nextF O (g 0) x = n ∧ neM P x 8 0 = nI n := by
  have hz := H.2.2.1.1.1
  have W := H.2.2.1
  have D : ∀ i, i < g 0 → isD (adN g) 1000 y i (dsN g i y) := fun i hi => ds_isD H.2.2.2.2.2.1 W hi hy
  have hex : ∃ n, adN g x n ∧ dsN g n y + 1 = dsN g x y := by
    rcases D x hx with ⟨e, -⟩ | ⟨-, hm⟩
    · omega
    · obtain ⟨d, ed⟩ : ∃ d, dsN g x y = d + 1 := ⟨dsN g x y - 1, by omega⟩
      rw [ed] at hm
      obtain ⟨n, hn, hw⟩ := hm.1
      have hm2 : mnd (adN g) y d n := ⟨hw, fun k hk hw2 => hm.2 (k + 1) (by omega) ⟨n, hn, hw2⟩⟩
      refine ⟨n, hn, ?_⟩
      rcases D n (adN_z W _ _ hn).2 with ⟨-, e⟩ | ⟨-, e⟩
      · exact absurd hw (e d)
      · rw [mnd_eq e hm2, ed]
  obtain ⟨k0, hk0⟩ := hex
  obtain ⟨n, -, ⟨hn1, hn2⟩, hmin⟩ := min_of (p := fun n => adN g x n ∧ dsN g n y + 1 = dsN g x y) k0 hk0
  have hnz := (adN_z W _ _ hn1).2
  have v1000 : ∀ i, i < g 0 → dsN g i y ≤ 1000 := fun i hi => by
    rcases isD_1000 (D i hi) with e | e <;> omega
  have vdm : ∀ i, i < g 0 → dmN g i y ≤ 100 ∧ (dmN g i y < 8 ↔ dsN g i y < 8) ∧ (dsN g i y < 8 → dmN g i y = dsN g i y) := fun i hi => by
    unfold dmN
    rcases isD_1000 (D i hi) with e | e
    · rw [if_pos e]; omega
    · rw [if_neg (by omega)]; omega
  have pc : ∀ i, i < g 0 → ((O 10 i = O 10 x - 1 ∧ O 8 (x * 8 + i) = 1) ↔ (adN g x i ∧ dsN g i y + 1 = dsN g x y)) := fun i hi => by
    have a := cj_l H.2.2.2.2.2.1 W x i hx hi
    have b := v1000 i hi
    rw [hO8, a, hO10 i hi, hO10 x hx, show (1 : Int32) = nI 1 from rfl, pk_sub hd1, nI_eq (by omega) (by omega)]
    constructor
    · intro e; exact ⟨e.2, by omega⟩
    · intro e; exact ⟨by omega, e.1⟩
  have pm : ∀ i, i < 8 → ((lkM P x i ∧ P 403 i = P 403 x - 1) ↔ (adN g x i ∧ dsN g i y + 1 = dsN g x y)) := fun i hi => by
    have a := lkM_g (I := P) W (by rw [hP7]; exact H.2.1) (a := x) (b := i) (by omega) hi
    by_cases hz2 : i < g 0
    · have b := vdm i hz2
      have c := vdm x hx
      have bd := v1000 i hz2
      rw [a, hP3 i hz2, hP3 x hx, c.2.2 hd, show (1 : Int32) = nI 1 from rfl, pk_sub hd1, nI_eq (by omega) (by omega)]
      constructor
      · intro e
        have := b.2.1.mp (by omega)
        exact ⟨⟨by omega, hi, e.1⟩, by have := b.2.2 this; omega⟩
      · intro e
        exact ⟨e.1.2.2, by have := b.2.2 (by omega); omega⟩
    · constructor
      · intro e
        exact absurd ((W.2.2.2.2.1 x i (by omega) hi (a.mp e.1)).1.2) hz2
      · intro e
        exact absurd (adN_z W _ _ e.1).2 hz2
  refine ⟨n, hnz, hn2, ?_, ?_⟩
  · unfold nextF
    exact fnE_at (g 0) 0 (Nat.zero_le _) (by omega) ((pc n hnz).mpr ⟨hn1, hn2⟩) (fun i _ hi e => hmin i hi ((pc i (by omega)).mp e))
  · unfold neM
    rcases fnd_or (p := fun n => lkM P x n ∧ P 403 n = P 403 x - 1) 8 0 with ⟨-, q⟩ | ⟨j, -, h2, h3, h4, h5⟩
    · exact absurd ((pm n (by omega)).mpr ⟨hn1, hn2⟩) (q n (Nat.zero_le _) (by omega))
    · rw [h4]
      have e1 := (pm j (by omega)).mp h3
      have e2 : ¬ j < n := fun e => hmin j e e1
      have e3 : ¬ n < j := fun e => h5 n (Nat.zero_le _) e ((pm n (by omega)).mpr ⟨hn1, hn2⟩)
      congr 1
      omega
theorem route_g (H : YR K I L (J 397) g σ) {O P : HI} (hO10 : ∀ i, i < g 0 → O 10 i = nI (dsN g i y)) (hO8 : O 8 = I 8) (hP3 : ∀ i, i < g 0 → P 403 i = nI (dmN g i y)) (hP7 : P 397 = J 397) (hy : y < g 0) : ∀ q k x, x < g 0 → dsN g x y < 8 → q ≤ dsN g x y → fo (fun _ c => nextF O (g 0) c) q k x = rtN P q x ∧ okRt P q x
  | 0, k, x, hx, hd, hq => ⟨rfl, trivial⟩
  | q + 1, k, x, hx, hd, hq => by
    obtain ⟨n, h1, h2, h3, h4⟩ := next_g H hO10 hO8 hP3 hP7 hy hx hd (by omega)
    have hz := H.2.2.1.1.1
    have cl : (neM P x 8 0).toNatClampNeg = n := by rw [h4]; exact nI_clamp (by omega)
    obtain ⟨r1, r2⟩ := route_g H hO10 hO8 hP3 hP7 hy q (k + 1) n h1 (by omega) (by omega)
    refine ⟨?_, ⟨n, by omega, h4⟩, by rw [cl]; exact r2⟩
    show fo (fun _ c => nextF O (g 0) c) q (k + 1) (nextF O (g 0) x) = rtN P q (neM P x 8 0).toNatClampNeg
    rw [h3, cl, r1]
theorem bfs_ne (H : YR K I L (J 397) g σ) (hy : y < g 0) {a : Nat} (h1 : a ≠ 10) (h2 : a ≠ 12) : bfsI I (g 0) y a = I a := (bfs_spec (cj_l H.2.2.2.2.2.1 H.2.2.1) (adN_s H.2.2.1) (adN_z H.2.2.1) H.2.2.1.1.1 hy).1 a h1 h2
theorem ag_routeT (H : YR K I L (J 397) g σ) (a b c : Int32) : AG [xIO, xNE] (qo (routeTQ I (g 0) a b c)) (rtM J (g 0) a b c).1 ((rtM J (g 0) a b c).2 396 12) ∧ ((rlM J (g 0) a b).2 396 12 ≤ 0 → (0 ≤ c ∧ c ≤ (rlM J (g 0) a b).1) → okRt (rlM J (g 0) a b).2 c.toNatClampNeg a.toNatClampNeg) := by
  have hz := H.2.2.1.1.1
  rcases two_trk H a b with ⟨x, y, hx, hy, ex, ey, ax, ay, c1, c2, m1, m2⟩ | ⟨n, hc⟩
  · have D := steps_d H.2.2.2.2.2.1 H.2.2.1 hx hy
    rcases rlM_g H hx hy ax ay m1 m2 with ⟨d, em⟩ | ⟨d, em⟩
    · have n2 : ¬ (2 : Int32) ≤ 0 := by decide
      have ec : qo (routeTQ I (g 0) a b c) = (some xNE, 0) := by
        unfold routeTQ
        rw [c1, c2, ax, ay, D, d]
        rfl
      have em2 : rtM J (g 0) a b c = (0, up2 (exM J (g 0) y) 396 12 2) := by
        unfold rtM
        rw [em, if_pos (show ¬ up2 (exM J (g 0) y) 396 12 2 396 12 ≤ 0 by rw [thr]; exact n2)]
      refine ⟨AG.exM 1 rfl ec em2, fun q => ?_⟩
      rw [em] at q
      have q2 : up2 (exM J (g 0) y) 396 12 2 396 12 ≤ 0 := q
      rw [thr] at q2
      exact absurd q2 n2
    · have n : ¬ nI (dsN g x y) = 1000 := fun q => by
        have := nI_inj (b := 1000) (by omega) (by omega) q
        omega
      have z0 : ¬ ¬ (0 : Int32) ≤ 0 := by decide
      by_cases h : 0 ≤ c ∧ c ≤ nI (dsN g x y)
      · obtain ⟨q, eq, -, hq⟩ := rngN (lo := 0) (by omega) (by omega) h.1 h.2
        have e1 := fun i hi => (bfs_d H.2.2.2.2.2.1 H.2.2.1 (i := i) hi hy).1
        have H1 : YR K (bfsI I (g 0) y) L (J 397) g σ := H.sc (eqY.of bfsI_eq) rfl
        have hcl : c.toNatClampNeg = q := by rw [eq]; exact nI_clamp (by omega)
        obtain ⟨r1, r2⟩ := route_g H (O := bfsI (bfsI I (g 0) y) (g 0) y) (P := up2 (exM J (g 0) y) 396 12 0) (fun i hi => (bfs_d H1.2.2.2.2.2.1 H.2.2.1 hi hy).1) ((bfs_ne H1 hy (by decide) (by decide)).trans (bfs_ne H hy (by decide) (by decide))) (fun i hi => by rw [up2_ne (by decide)]; exact ex_d H.2.2.1 H.2.1 (ds_isD H.2.2.2.2.2.1 H.2.2.1 hi hy) hi hy) (by rw [up2_ne (by decide), exM_ne (by decide)]) hy q 0 x hx d hq
        have nc : ¬ (c < 0 ∨ nI (dsN g x y) < c) := fun e => by
          have z8 : (0 : Int32).toInt = 0 := rfl
          have h1 := Int32.le_iff_toInt_le.mp h.1
          have h2 := Int32.le_iff_toInt_le.mp h.2
          have z9 : (0 : Int32).toInt = 0 := rfl
          rcases e with e | e
          · exact Int.lt_irrefl _ (Int.lt_of_le_of_lt h1 (Int32.lt_iff_toInt_lt.mp e))
          · exact Int.lt_irrefl _ (Int.lt_of_lt_of_le (Int32.lt_iff_toInt_lt.mp e) h2)
        have ec : qo (routeTQ I (g 0) a b c) = (none, nI (rtN (up2 (exM J (g 0) y) 396 12 0) q x)) := by
          unfold routeTQ routeX
          rw [c1, c2, ax, ay, D, if_neg n, if_neg nc, hcl, ← r1]
          rfl
        have em2 : rtM J (g 0) a b c = (nI (rtN (up2 (exM J (g 0) y) 396 12 0) q x), up2 (up2 (exM J (g 0) y) 396 12 0) 396 12 0) := by
          unfold rtM
          rw [em, if_neg (show ¬ ¬ up2 (exM J (g 0) y) 396 12 0 396 12 ≤ 0 by rw [thr]; exact z0), if_neg (fun e => e h), hcl, ax]
        refine ⟨AG.okM ec em2, fun _ _ => ?_⟩
        rw [em, hcl, ax]
        exact r2
      · have nc : c < 0 ∨ nI (dsN g x y) < c := by
          by_cases p : 0 ≤ c
          · refine Or.inr ?_
            have q : ¬ c ≤ nI (dsN g x y) := fun e => h ⟨p, e⟩
            rw [Int32.le_iff_toInt_le] at q
            rw [Int32.lt_iff_toInt_lt]
            exact Int.not_le.mp q
          · refine Or.inl ?_
            rw [Int32.le_iff_toInt_le] at p
            rw [Int32.lt_iff_toInt_lt]
            exact Int.not_le.mp p
        have ec : qo (routeTQ I (g 0) a b c) = (some xNE, 0) := by
          unfold routeTQ routeX
          rw [c1, c2, ax, ay, D, if_neg n, if_pos nc]
          rfl
        have em2 : rtM J (g 0) a b c = (0, up2 (up2 (exM J (g 0) y) 396 12 0) 396 12 2) := by
          unfold rtM
          rw [em, if_neg (show ¬ ¬ up2 (exM J (g 0) y) 396 12 0 396 12 ≤ 0 by rw [thr]; exact z0), if_pos h]
        refine ⟨AG.exM 1 rfl ec em2, fun _ q => ?_⟩
        rw [em] at q
        exact absurd q h
  · have em : rlM J (g 0) a b = (0, up2 J 396 12 1) := if_pos n
    have n1 : ¬ (1 : Int32) ≤ 0 := by decide
    have ec : qo (routeTQ I (g 0) a b c) = (some xIO, 0) := by
      unfold routeTQ
      rw [hc]
      rfl
    have em2 : rtM J (g 0) a b c = (0, up2 J 396 12 1) := by
      unfold rtM
      rw [em, if_pos (show ¬ up2 J 396 12 1 396 12 ≤ 0 by rw [thr]; exact n1)]
    refine ⟨AG.exM 0 rfl ec em2, fun q => ?_⟩
    rw [em] at q
    have q2 : up2 J 396 12 1 396 12 ≤ 0 := q
    rw [thr] at q2
    exact absurd q2 n1
end YQV
