/-! the order of the cars on a track: class and model -/
section YOR
variable {K : Nat} {I J : HI} {L : HL} {g g' σ : Nat → Nat} {x y s t i k u z : Nat}
/-- the destination at a place -/
noncomputable def dN (g : Nat → Nat) (x p : Nat) : Nat := g (99 + atS g x p)
theorem listO_g (hK : K ≤ 5000) (W : WG K g) (C : CRc I g σ) (hx : x < 8) {p : Nat} (hp : p < g (31 + x)) : listO I (nI x) 35 p = nI (dN g x p) := by
  have H := fo_at (e := 20) (P := fun k (J : HI) => (∀ a, a ≠ 35 → J a = I a) ∧ ∀ s, s < g 1 → σ s < k → g (139 + s) = x → J 35 (g (159 + s)) = nI (g (99 + s))) (f := stO (nI x)) (fun k J hk ⟨h1, h2⟩ => by
    by_cases r : ∃ s, s < g 1 ∧ σ s = k
    · obtain ⟨s0, hs0, e0⟩ := r
      have c0 := C.1 s0 hs0
      rw [e0] at c0
      have b0 := W.car hK hs0
      by_cases d : g (139 + s0) = x
      · have e1 : stO (nI x) k J = up2 J 35 (g (159 + s0)) (nI (g (99 + s0))) := by
          unfold stO
          rw [h1 23 (by decide), h1 25 (by decide), h1 19 (by decide), c0.2.2.2.2.2.2.1, if_pos (by rw [d]), c0.2.2.2.2.2.2.2, uprN (by omega) (by decide), c0.2.2.2.2.1]
        rw [e1]
        refine ⟨fun a ha => (up2_ne ha).trans (h1 a ha), fun s hs hk2 ht => ?_⟩
        rw [up2_v]
        by_cases e : g (159 + s) = g (159 + s0)
        · have e2 : s = s0 := W.pos hs hs0 (by omega) e
          rw [if_pos e, e2]
        · rw [if_neg e]
          refine h2 s hs ?_ ht
          by_cases f : σ s = k
          · exact absurd (by rw [C.eqσ hs hs0 (f.trans e0.symm)]) e
          · omega
      · have e1 : stO (nI x) k J = J := by
          unfold stO
          rw [h1 23 (by decide), c0.2.2.2.2.2.2.1, if_neg (fun e => d (nI_inj (by omega) (by omega) e))]
        rw [e1]
        refine ⟨h1, fun s hs hk2 ht => h2 s hs ?_ ht⟩
        by_cases f : σ s = k
        · exact absurd (by rw [← C.eqσ hs hs0 (f.trans e0.symm)]; exact ht) d
        · omega
    · have r2 : ∀ s, s < g 1 → σ s ≠ k := fun s hs e => r ⟨s, hs, e⟩
      have e1 : stO (nI x) k J = J := by
        unfold stO
        rw [h1 23 (by decide), (C.2.2 k hk r2).2, if_neg (fun e => nI_mi (by omega) e.symm)]
      rw [e1]
      refine ⟨h1, fun s hs hk2 ht => h2 s hs ?_ ht⟩
      have := r2 s hs
      omega) 20 0 I (by omega) ⟨fun _ _ => rfl, fun s hs h => by omega⟩
  have a := atS_spec W hx hp
  have b := H.2 _ a.1 (C.1 _ a.1).1 a.2.1
  rw [a.2.2] at b
  exact b
theorem dN_9 (hK : K ≤ 5000) (W : WG K g) (hx : x < 8) {p : Nat} (hp : p < g (31 + x)) : dN g x p ≤ 9 := by
  have a := atS_spec W hx hp
  have := W.car hK a.1
  unfold dN
  omega
theorem sN_front {f : Nat → Nat} : ∀ n, sN f (n + 1) = f 0 + sN (fun i => f (i + 1)) n
  | 0 => by
    show 0 + f 0 = f 0 + 0
    omega
  | n + 1 => by
    show sN f (n + 1) + f (n + 1) = f 0 + (sN (fun i => f (i + 1)) n + f (n + 1))
    rw [sN_front n]
    omega
theorem fo_sum3 {st : Nat → Int32 → Int32} : ∀ n k b (w : Nat → Nat), (∀ i a, i < n → st (k + i) a = a + nI (w i)) → fo st n k (nI b) = nI (b + sN w n)
  | 0, k, b, w, h => rfl
  | n + 1, k, b, w, h => by
    show fo st n (k + 1) (st k (nI b)) = _
    have e := h 0 (nI b) (by omega)
    rw [Nat.add_zero, nI_add] at e
    rw [e, fo_sum3 n (k + 1) (b + w 0) (fun i => w (i + 1)) (fun i a hi => by
      have := h (i + 1) a (by omega)
      rw [show k + (i + 1) = k + 1 + i by omega] at this
      exact this), sN_front, Nat.add_assoc]
theorem sN_add {f h : Nat → Nat} : ∀ {n : Nat}, sN (fun i => f i + h i) n = sN f n + sN h n
  | 0 => rfl
  | n + 1 => by
    show sN (fun i => f i + h i) n + (f n + h n) = sN f n + f n + (sN h n + h n)
    rw [sN_add]
    omega
/-- the pairs out of order -/
def prN (D : Nat → Nat) (h : Nat) : Nat := sN (fun i => sN (fun j => if D j < D i then 1 else 0) i) h
theorem pr_cl {D : Nat → Nat} : ∀ h, sN (fun p => sN (fun k => if D p < D (p + 1 + k) then 1 else 0) (h - (p + 1))) h = prN D h
  | 0 => rfl
  | h + 1 => by
    show sN (fun p => sN (fun k => if D p < D (p + 1 + k) then 1 else 0) (h + 1 - (p + 1))) h + sN (fun k => if D h < D (h + 1 + k) then 1 else 0) (h + 1 - (h + 1)) = prN D h + sN (fun j => if D j < D h then 1 else 0) h
    rw [← pr_cl h, ← sN_add, Nat.sub_self]
    refine sN_congr (fun p hp => ?_)
    show sN (fun k => if D p < D (p + 1 + k) then 1 else 0) (h + 1 - (p + 1)) = sN (fun k => if D p < D (p + 1 + k) then 1 else 0) (h - (p + 1)) + if D p < D h then 1 else 0
    rw [show h + 1 - (p + 1) = (h - (p + 1)) + 1 by omega]
    show sN _ (h - (p + 1)) + (if D p < D (p + 1 + (h - (p + 1))) then 1 else 0) = _
    rw [show p + 1 + (h - (p + 1)) = h by omega]
theorem pairsF_n {D : Nat → Nat} {h : Nat} (hD : ∀ p, p < h → J 35 p = nI (D p)) (h9 : ∀ p, p < h → D p ≤ 9) : pairsF J h = nI (prN D h) := by
  rw [← pr_cl]
  unfold pairsF
  refine fo_at (e := h) (P := fun p a => a = nI (sN (fun p => sN (fun k => if D p < D (p + 1 + k) then 1 else 0) (h - (p + 1))) p)) (f := stPP J h) (fun p a hp ha => ?_) h 0 0 (by omega) rfl
  unfold stPP
  rw [ha]
  refine fo_sum3 _ _ _ (fun k => if D p < D (p + 1 + k) then 1 else 0) (fun k a hk => ?_)
  have a1 := h9 p hp
  have a2 := h9 (p + 1 + k) (by omega)
  unfold stP
  rw [hD p hp, hD _ (by omega)]
  by_cases c : D p < D (p + 1 + k)
  · rw [if_pos (nI_lt c (by omega)), if_pos c]; rfl
  · rw [if_neg (nI_nlt (by omega) (by omega)), if_neg c, nI_0, Int32.add_zero]
theorem prN_congr {D E : Nat → Nat} {h : Nat} (e : ∀ p, p < h → D p = E p) : prN D h = prN E h := by
  unfold prN
  refine sN_congr (fun i hi => ?_)
  refine sN_congr (fun j hj => ?_)
  show (if D j < D i then 1 else 0) = if E j < E i then 1 else 0
  rw [e i hi, e j (by omega)]
theorem paM_g (hK : K ≤ 5000) (W : WG K g) (V : GV (J 397) g) (hx : x < 8) : paM J (g 1) x (g (31 + x)) = nI (prN (dN g x) (g (31 + x))) := by
  have hh := W.h20 hx
  have hm := W.1.2.1
  have go : ∀ p, p < g (31 + x) → J 397 (99 + (slAM J (g 1) (nI x) (nI p)).toNatClampNeg) = nI (dN g x p) := fun p hp => by
    have a := atS_spec W hx hp
    rw [slAM_s hK W V hx hp, nI_clamp (by omega), V _ (by omega)]
    rfl
  refine fo_at (e := g (31 + x)) (P := fun i acc => acc = nI (prN (dN g x) i)) (f := fun i acc => fo (paS J (g 1) x i) i 0 acc) (fun i acc hi ha => ?_) (g (31 + x)) 0 0 (by omega) rfl
  show fo (paS J (g 1) x i) i 0 acc = nI (prN (dN g x) (i + 1))
  rw [ha]
  refine fo_sum2 (w := fun j => if dN g x j < dN g x i then 1 else 0) (fun j a hj => ?_)
  have a1 := dN_9 hK W hx hi
  have a2 := dN_9 hK W hx (p := j) (by omega)
  unfold paS
  rw [go i hi, go j (by omega)]
  by_cases c : dN g x j < dN g x i
  · rw [if_pos (nI_lt c (by omega)), if_pos c]; rfl
  · rw [if_neg (nI_nlt (by omega) (by omega)), if_neg c]; rfl
/-- the count of the places below k whose value is less than v -/
def ctN (A : Nat → Nat) (v k : Nat) : Nat := sN (fun p => if A p < v then 1 else 0) k
theorem ct_cut {A : Nat → Nat} {v r : Nat} : ∀ k, r ≤ k → (∀ p, p < r → v ≤ A p) → (∀ p, r ≤ p → p < k → A p < v) → ctN A v k = k - r
  | 0, hr, h1, h2 => by
    show 0 = 0 - r
    omega
  | k + 1, hr, h1, h2 => by
    show ctN A v k + (if A k < v then 1 else 0) = k + 1 - r
    by_cases c : r = k + 1
    · have e : ctN A v k = 0 := sN_zero (fun p hp => by
        have := h1 p (by omega)
        show (if A p < v then 1 else 0) = 0
        rw [if_neg (by omega)])
      have := h1 k (by omega)
      rw [e, if_neg (by omega)]
      omega
    · rw [ct_cut k (by omega) h1 (fun p h3 h4 => h2 p h3 (by omega)), if_pos (h2 k (by omega) (by omega))]
      omega
/-- one car put into the sorted part -/
theorem insF_n {X : Nat} (hX : X ≤ 9) : ∀ q (J : HI) (A : Nat → Nat) (c : Nat), q < 20 → (∀ p, p < q → J 35 p = nI (A p)) → (∀ p, p < q → A p ≤ 9) → (∀ p p', p ≤ p' → p' < q → A p' ≤ A p) →
    ∃ r J', insF (nI X) q J (nI c) = (r, J', nI (c + (q - r))) ∧ r ≤ q ∧ (∀ p, p < r → X ≤ A p) ∧ (∀ p, r ≤ p → p < q → A p < X) ∧ (∀ a, a ≠ 35 → J' a = J a) ∧ (∀ p, p ≤ r → J' 35 p = J 35 p) ∧ (∀ p, r ≤ p → p < q → J' 35 (p + 1) = nI (A p)) ∧ ∀ p, q < p → J' 35 p = J 35 p
  | 0, J, A, c, hq, h1, h2, h3 => ⟨0, J, rfl, Nat.le_refl _, fun p hp => by omega, fun p _ hp => by omega, fun a ha => rfl, fun p hp => rfl, fun p _ hp => by omega, fun p hp => rfl⟩
  | q + 1, J, A, c, hq, h1, h2, h3 => by
    have a1 := h2 q (by omega)
    have e0 := h1 q (by omega)
    by_cases d : A q < X
    · have e : insF (nI X) (q + 1) J (nI c) = insF (nI X) q (up2 J 35 (q + 1) (J 35 q)) (nI c + 1) := by
        show (if J 35 q < nI X then insF (nI X) q (up2 J 35 (q + 1) (J 35 q)) (nI c + 1) else (q + 1, J, nI c)) = _
        rw [if_pos (by rw [e0]; exact nI_lt d (by omega))]
      obtain ⟨r, J', r1, r2, r3, r4, r5, r6, r7, r8⟩ := insF_n hX q (up2 J 35 (q + 1) (J 35 q)) A (c + 1) (by omega) (fun p hp => by rw [up2_v, if_neg (by omega)]; exact h1 p (by omega)) (fun p hp => h2 p (by omega)) (fun p p' hpp hp => h3 p p' hpp (by omega))
      refine ⟨r, J', ?_, by omega, r3, fun p hp1 hp2 => ?_, fun a ha => (r5 a ha).trans (up2_ne ha), fun p hp => ?_, fun p hp1 hp2 => ?_, fun p hp => ?_⟩
      · rw [e, nI_1, r1]
        congr 2
        congr 1
        omega
      · by_cases f : p = q
        · rw [f]; exact d
        · exact r4 p hp1 (by omega)
      · rw [r6 p hp, up2_v, if_neg (by omega)]
      · by_cases f : p = q
        · rw [f, r8 _ (by omega), up2_v, if_pos rfl]; exact e0
        · exact r7 p hp1 (by omega)
      · rw [r8 p (by omega), up2_v, if_neg (by omega)]
    · have e : insF (nI X) (q + 1) J (nI c) = (q + 1, J, nI c) := by
        show (if J 35 q < nI X then insF (nI X) q (up2 J 35 (q + 1) (J 35 q)) (nI c + 1) else (q + 1, J, nI c)) = _
        rw [if_neg (by rw [e0]; exact nI_nlt (by omega) (by omega))]
      refine ⟨q + 1, J, ?_, Nat.le_refl _, fun p hp => ?_, fun p hp1 hp2 => by omega, fun a ha => rfl, fun p hp => rfl, fun p hp1 hp2 => by omega, fun p hp => rfl⟩
      · rw [e, show c + (q + 1 - (q + 1)) = c by omega]
      · have := h3 p q (by omega) (by omega)
        omega
/-- sorting by insertion counts the pairs out of order -/
theorem shiftsF_n {D : Nat → Nat} {h : Nat} (hh : h ≤ 20) (hD : ∀ p, p < h → J 35 p = nI (D p)) (h9 : ∀ p, p < h → D p ≤ 9) : (shiftsF J h).2 = nI (prN D h) ∧ ∀ a, a ≠ 35 → (shiftsF J h).1 a = J a := by
  cases h with
  | zero => exact ⟨rfl, fun a ha => rfl⟩
  | succ h =>
    have H := fo_at (e := h + 1) (P := fun k (u : HI × Int32) => u.2 = nI (prN D k) ∧ (∀ a, a ≠ 35 → u.1 a = J a) ∧ (∀ p, k ≤ p → p < h + 1 → u.1 35 p = nI (D p)) ∧ ∃ A : Nat → Nat, (∀ p, p < k → u.1 35 p = nI (A p)) ∧ (∀ p, p < k → A p ≤ 9) ∧ (∀ p p', p ≤ p' → p' < k → A p' ≤ A p) ∧ ∀ v, ctN A v k = ctN D v k) (f := stS) (fun k u hk ⟨h1, h2, h3, A, h4, h5, h6, h7⟩ => by
      have ek := h3 k (Nat.le_refl _) hk
      have e9 := h9 k hk
      obtain ⟨r, J', r1, r2, r3, r4, r5, r6, r7, r8⟩ := insF_n e9 k u.1 A (prN D k) (by omega) h4 h5 h6
      have es : stS k u = (up2 J' 35 r (nI (D k)), nI (prN D k + (k - r))) := by
        unfold stS
        rw [ek, h1, r1]
      have ec : ctN A (D k) k = k - r := ct_cut k r2 r3 r4
      rw [es]
      refine ⟨?_, fun a ha => (up2_ne ha).trans ((r5 a ha).trans (h2 a ha)), fun p hp1 hp2 => ?_, fun p => if p < r then A p else if p = r then D k else A (p - 1), fun p hp => ?_, fun p hp => ?_, fun p p' hpp hp => ?_, fun v => ?_⟩
      · show nI (prN D k + (k - r)) = nI (prN D k + sN (fun j => if D j < D k then 1 else 0) k)
        rw [← ec, h7]
        rfl
      · show up2 J' 35 r (nI (D k)) 35 p = nI (D p)
        rw [up2_v, if_neg (by omega), r8 p (by omega)]
        exact h3 p (by omega) hp2
      · show up2 J' 35 r (nI (D k)) 35 p = nI (if p < r then A p else if p = r then D k else A (p - 1))
        rw [up2_v]
        by_cases c : p < r
        · rw [if_neg (by omega), if_pos c, r6 p (by omega)]
          exact h4 p (by omega)
        · by_cases d : p = r
          · rw [if_pos d, if_neg c, if_pos d]
          · rw [if_neg d, if_neg c, if_neg d]
            have := r7 (p - 1) (by omega) (by omega)
            rw [show p - 1 + 1 = p by omega] at this
            exact this
      · show (if p < r then A p else if p = r then D k else A (p - 1)) ≤ 9
        by_cases c : p < r
        · rw [if_pos c]; exact h5 p (by omega)
        · rw [if_neg c]
          by_cases d : p = r
          · rw [if_pos d]; exact e9
          · rw [if_neg d]; exact h5 (p - 1) (by omega)
      · show (if p' < r then A p' else if p' = r then D k else A (p' - 1)) ≤ (if p < r then A p else if p = r then D k else A (p - 1))
        by_cases c : p < r
        · rw [if_pos c]
          have x1 := r3 p c
          by_cases c' : p' < r
          · rw [if_pos c']; exact h6 p p' hpp (by omega)
          · rw [if_neg c']
            by_cases d' : p' = r
            · rw [if_pos d']; exact x1
            · rw [if_neg d']; exact h6 p (p' - 1) (by omega) (by omega)
        · rw [if_neg c, if_neg (show ¬ p' < r by omega)]
          by_cases d : p = r
          · rw [if_pos d]
            by_cases d' : p' = r
            · rw [if_pos d']; exact Nat.le_refl _
            · rw [if_neg d']
              have := r4 (p' - 1) (by omega) (by omega)
              omega
          · rw [if_neg d, if_neg (show ¬ p' = r by omega)]
            exact h6 (p - 1) (p' - 1) (by omega) (by omega)
      · obtain ⟨F, hF⟩ : ∃ F : Nat → Nat, F = fun p => if (if p < r then A p else if p = r then D k else A (p - 1)) < v then 1 else 0 := ⟨_, rfl⟩
        have hFr : F r = if D k < v then 1 else 0 := by
          rw [hF]
          show (if (if r < r then A r else if r = r then D k else A (r - 1)) < v then 1 else 0) = _
          rw [if_neg (show ¬ r < r by omega), if_pos rfl]
        have hF1 : ∀ p, p < r → F p = if A p < v then 1 else 0 := fun p hp => by
          rw [hF]
          show (if (if p < r then A p else if p = r then D k else A (p - 1)) < v then 1 else 0) = _
          rw [if_pos hp]
        have hF2 : ∀ p, r ≤ p → F (p + 1) = if A p < v then 1 else 0 := fun p hp => by
          rw [hF]
          show (if (if p + 1 < r then A (p + 1) else if p + 1 = r then D k else A (p + 1 - 1)) < v then 1 else 0) = _
          rw [if_neg (show ¬ p + 1 < r by omega), if_neg (show ¬ p + 1 = r by omega), Nat.add_sub_cancel]
        have a := sN_re (σ := fun p => if p < r then p else p + 1) (f := fun p => if A p < v then 1 else 0) (n := k + 1) (m := k) (un F r 0) (fun p hp => by
          show (if p < r then p else p + 1) < k + 1 ∧ un F r 0 (if p < r then p else p + 1) = if A p < v then 1 else 0
          by_cases c : p < r
          · rw [if_pos c, un_ne (by omega), hF1 p c]
            exact ⟨by omega, rfl⟩
          · rw [if_neg c, un_ne (by omega), hF2 p (by omega)]
            exact ⟨by omega, rfl⟩) (fun p p' hpp hp => by
          show (if p < r then p else p + 1) ≠ (if p' < r then p' else p' + 1)
          split <;> split <;> omega) (fun w hw hn => by
          by_cases c : w = r
          · rw [c, un_eq]
          · exfalso
            by_cases d : w < r
            · exact hn w (by omega) (if_pos d)
            · refine hn (w - 1) (by omega) ?_
              show (if w - 1 < r then w - 1 else w - 1 + 1) = w
              rw [if_neg (by omega)]
              omega)
        have b := sN_upd (f := F) (u := r) (x := 0) (n := k + 1) (by omega)
        have e := h7 v
        have fe : ctN (fun p => if p < r then A p else if p = r then D k else A (p - 1)) v (k + 1) = sN F (k + 1) := by
          rw [hF]
          rfl
        show ctN (fun p => if p < r then A p else if p = r then D k else A (p - 1)) v (k + 1) = ctN D v k + if D k < v then 1 else 0
        rw [fe, ← e]
        unfold ctN
        rw [hFr] at b
        omega) h 1 (J, 0) (by omega) ⟨rfl, fun a ha => rfl, fun p h1 h2 => hD p h2, D, fun p hp => hD p (by omega), fun p hp => h9 p (by omega), fun p p' h1 h2 => by
      have e : p = p' := by omega
      rw [e]
      exact Nat.le_refl _, fun v => rfl⟩
    exact ⟨H.1, H.2.1⟩
theorem alD_iff {p : Nat → Prop} [DecidablePred p] : ∀ n k, (alD p n k = 1 ∧ ∀ i, k ≤ i → i < k + n → p i) ∨ (alD p n k = 0 ∧ ∃ i, k ≤ i ∧ i < k + n ∧ ¬ p i)
  | 0, k => Or.inl ⟨rfl, fun i h1 h2 => by omega⟩
  | n + 1, k => by
    unfold alD
    by_cases c : p k
    · rw [if_pos c]
      rcases alD_iff (p := p) n (k + 1) with ⟨h1, h2⟩ | ⟨h1, i, h2, h3, h4⟩
      · refine Or.inl ⟨h1, fun i h3 h4 => ?_⟩
        by_cases d : i = k
        · rw [d]; exact c
        · exact h2 i (by omega) (by omega)
      · exact Or.inr ⟨h1, i, by omega, by omega, h4⟩
    · rw [if_neg c]
      exact Or.inr ⟨rfl, k, Nat.le_refl _, by omega, c⟩
theorem sN_eq0 {f : Nat → Nat} {n : Nat} (h : sN f n = 0) {k : Nat} (hk : k < n) : f k = 0 := by
  have := sN_pick (f := f) hk
  omega
theorem prN_0 {D : Nat → Nat} {h : Nat} : prN D h = 0 ↔ ∀ i, 1 ≤ i → i < h → D i ≤ D (i - 1) := by
  constructor
  · intro e i h1 h2
    have a := sN_eq0 (f := fun i => sN (fun j => if D j < D i then 1 else 0) i) e h2
    have b := sN_eq0 (f := fun j => if D j < D i then 1 else 0) a (k := i - 1) (by omega)
    by_cases c : D (i - 1) < D i
    · have b2 : (if D (i - 1) < D i then 1 else 0) = 0 := b
      rw [if_pos c] at b2
      omega
    · omega
  · intro e
    have m : ∀ d j, j + d < h → D (j + d) ≤ D j := by
      intro d
      induction d with
      | zero => intro j hj; exact Nat.le_refl _
      | succ d ih =>
        intro j hj
        have a := ih j (by omega)
        have b := e (j + (d + 1)) (by omega) hj
        rw [show j + (d + 1) - 1 = j + d by omega] at b
        omega
    refine sN_zero (fun i hi => sN_zero (fun j hj => ?_))
    have := m (i - j) j (by omega)
    rw [show j + (i - j) = i by omega] at this
    show (if D j < D i then 1 else 0) = 0
    rw [if_neg (by omega)]
theorem nvi_n {D : Nat → Nat} {h : Nat} (hD : ∀ p, p < h → J 35 p = nI (D p)) (h9 : ∀ p, p < h → D p ≤ 9) : nvi J h = if prN D h = 0 then 1 else 0 := by
  have cmp : ∀ s, 1 ≤ s → s < h → (J 35 s ≤ J 35 (s - 1) ↔ D s ≤ D (s - 1)) := fun s h1 h2 => by
    have a := h9 s h2
    have b := h9 (s - 1) (by omega)
    rw [hD s h2, hD (s - 1) (by omega)]
    exact nI_leI (by omega) (by omega)
  unfold nvi
  rcases alD_iff (p := fun s => J 35 s ≤ J 35 (s - 1)) (h - 1) 1 with ⟨h1, h2⟩ | ⟨h1, i, h2, h3, h4⟩
  · rw [h1, if_pos (prN_0.mpr (fun i hi1 hi2 => (cmp i hi1 hi2).mp (h2 i hi1 (by omega))))]
  · rw [h1, if_neg (fun e => h4 ((cmp i h2 (by omega)).mpr (prN_0.mp e i h2 (by omega))))]
theorem train_g (hK : K ≤ 5000) (W : WG K g) (V : GV (J 397) g) (hx : x < 8) {O : HI} (hO : ∀ p, p < g (31 + x) → O 35 p = nI (dN g x p)) : ∀ q k, q + k = g (31 + x) → trF O (g (31 + x)) q (nI k) = trM J (g 1) x q k
  | 0, k, h => rfl
  | q + 1, k, h => by
    have a1 := dN_9 hK W hx (p := q) (by omega)
    have a2 := dN_9 hK W hx (p := g (31 + x) - 1) (by omega)
    have m1 : J 397 (99 + (feM J (g 1) x (nI k)).toNatClampNeg) = nI (dN g x q) := by
      rw [feM_c hK W V hx (by omega) (by decide), show g (31 + x) - 1 - k = q by omega]
      rfl
    have m2 : J 397 (99 + (feM J (g 1) x (nI 0)).toNatClampNeg) = nI (dN g x (g (31 + x) - 1)) := by
      rw [feM_c hK W V hx (by omega) (by decide)]
      rfl
    unfold trF trM
    rw [m1, m2, hO q (by omega), hO (g (31 + x) - 1) (by omega)]
    by_cases c : nI (dN g x q) = nI (dN g x (g (31 + x) - 1))
    · rw [if_pos c, if_pos c, nI_1]
      exact train_g hK W V hx hO q (k + 1) (by omega)
    · rw [if_neg c, if_neg c]
/-- the number of cars of the train from the open end -/
theorem trainF_g (hK : K ≤ 5000) (W : WG K g) (V : GV (J 397) g) (C : CRc I g σ) (hx : x < 8) : trainF (listO I (nI x)) (g (31 + x)) = trM J (g 1) x (g (31 + x)) 0 ∧ ∃ q, q ≤ g (31 + x) ∧ trM J (g 1) x (g (31 + x)) 0 = nI q := by
  refine ⟨train_g hK W V hx (fun p hp => listO_g hK W C hx hp) _ 0 (by omega), ?_⟩
  obtain ⟨j, h1, h2, h3⟩ := trM_le (I := J) (m := g 1) (x := x) (g (31 + x)) 0
  exact ⟨j, by omega, h3⟩
end YOR
