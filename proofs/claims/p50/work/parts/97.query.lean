/-! queries: class and model answer alike -/
abbrev xIO : String := "java/lang/IndexOutOfBoundsException"
abbrev xIA : String := "java/lang/IllegalArgumentException"
abbrev xIS : String := "java/lang/IllegalStateException"
abbrev xNE : String := "java/util/NoSuchElementException"
abbrev xUO : String := "java/lang/UnsupportedOperationException"
abbrev xAE : String := "java/lang/ArithmeticException"
section YQU
variable {K : Nat} {I J : HI} {L : HL} {g g' σ : Nat → Nat} {x y s t i k u z : Nat}
/-- the same answer, or the exception of which the model gives the number -/
def AG (xs : List String) (q : Option String × Int32) (v e : Int32) : Prop := (q.1 = none ∧ e = 0 ∧ q.2 = v) ∨ ∃ k E, xs[k]? = some E ∧ q.1 = some E ∧ e = nI (k + 1)
theorem AG.ok {xs : List String} {q : Option String × Int32} {v e : Int32} (h1 : q = (none, v)) (h2 : e = 0) : AG xs q v e := Or.inl ⟨by rw [h1], h2, by rw [h1]⟩
theorem AG.ex {xs : List String} {q : Option String × Int32} {v e : Int32} (k : Nat) {E : String} {w : Int32} (h0 : xs[k]? = some E) (h1 : q = (some E, w)) (h2 : e = nI (k + 1)) : AG xs q v e := Or.inr ⟨k, E, h0, by rw [h1], h2⟩
theorem AG.okM {xs : List String} {q : Option String × Int32} {v : Int32} {r : Int32 × HI} {X : HI} (h1 : q = (none, v)) (hm : r = (v, up2 X 396 12 0)) : AG xs q r.1 (r.2 396 12) := by
  rw [hm]
  exact AG.ok h1 (show up2 X 396 12 0 396 12 = 0 from up2_hit)
theorem AG.exM {xs : List String} {q : Option String × Int32} {r : Int32 × HI} {X : HI} {v0 : Int32} (k : Nat) {E : String} {w : Int32} (h0 : xs[k]? = some E) (h1 : q = (some E, w)) (hm : r = (v0, up2 X 396 12 (nI (k + 1)))) : AG xs q r.1 (r.2 396 12) := by
  rw [hm]
  exact AG.ex k h0 h1 (show up2 X 396 12 (nI (k + 1)) 396 12 = nI (k + 1) from up2_hit)
def qo (q : Option String × Int32 × HI) : Option String × Int32 := (q.1, q.2.1)
theorem thr (J : HI) (v : Int32) : up2 J 396 12 v 396 12 = v := up2_hit
theorem trkX_y {t : Int32} (h : hasT I t) : trkX I t = none := if_pos h
theorem trkX_n {t : Int32} (h : ¬ hasT I t) : trkX I t = some xIO := if_neg h
theorem tk_iff (H : YR K I L (J 397) g σ) (t : Int32) : hasT I t ↔ tkM J t := (hasT_g H.2.2.2.1 H.2.2.1.1.1 t).trans (tkM_g H.2.1 H.2.2.1.1.1 t).symm
theorem ag_trk (H : YR K I L (J 397) g σ) {t v w : Int32} {I' : HI} (hv : ∀ x, x < g 0 → x < 8 → t = nI x → t.toNatClampNeg = x → v = w) : AG [xIO] (qo (seqX (trkX I t) I (none, v, I'))) (dnM (tkM J t) w J 1).1 ((dnM (tkM J t) w J 1).2 396 12) := by
  have hz := H.2.2.1.1.1
  by_cases c : hasT I t
  · obtain ⟨x, hx, e⟩ := (hasT_g H.2.2.2.1 hz t).mp c
    have ev := hv x hx (by omega) e (by rw [e]; exact nI_clamp (by omega))
    unfold dnM
    rw [if_pos ((tk_iff H t).mp c), trkX_y c, ev]
    exact AG.ok rfl (thr J 0)
  · unfold dnM
    rw [if_neg (fun e => c ((tk_iff H t).mpr e)), trkX_n c]
    exact AG.ex 0 rfl rfl (thr J 1)
theorem ag_free (H : YR K I L (J 397) g σ) (t : Int32) : AG [xIO] (qo (freeQ I t)) (dnM (tkM J t) (roM J (g 1) t.toNatClampNeg) J 1).1 ((dnM (tkM J t) (roM J (g 1) t.toNatClampNeg) J 1).2 396 12) :=
  ag_trk H (fun x hx x8 e1 e2 => by
    have T := H.2.2.2.2.1 x x8
    rw [e2, T.1, T.2.2.2, roM_g H.1 H.2.2.1 H.2.1 x8])
theorem ag_carsOn (H : YR K I L (J 397) g σ) (t : Int32) : AG [xIO] (qo (heightQ I t)) (dnM (tkM J t) (J 397 (31 + t.toNatClampNeg)) J 1).1 ((dnM (tkM J t) (J 397 (31 + t.toNatClampNeg)) J 1).2 396 12) :=
  ag_trk H (fun x hx x8 e1 e2 => by rw [e2, (H.2.2.2.2.1 x x8).2.2.1, H.2.1 _ (by omega)])
theorem ag_weight (H : YR K I L (J 397) g σ) (t : Int32) : AG [xIO] (qo (weightQ I t)) (dnM (tkM J t) (smM J (g 1) t 79) J 1).1 ((dnM (tkM J t) (smM J (g 1) t 79) J 1).2 396 12) :=
  ag_trk H (fun x hx x8 e1 e2 => by rw [e1, weightOf_g H.1 H.2.2.1 H.2.2.2.2.2.2 x8, smM_g H.1 H.2.2.1 H.2.1 x8 (by decide)])
theorem ag_dis (H : YR K I L (J 397) g σ) (t : Int32) : AG [xIO] (qo (disQ I t)) (dnM (tkM J t) (paM J (g 1) t.toNatClampNeg (J 397 (31 + t.toNatClampNeg)).toNatClampNeg) J 1).1 ((dnM (tkM J t) (paM J (g 1) t.toNatClampNeg (J 397 (31 + t.toNatClampNeg)).toNatClampNeg) J 1).2 396 12) :=
  ag_trk H (fun x hx x8 e1 e2 => by
    have h20 := H.2.2.1.h20 x8
    rw [e2, e1, (H.2.2.2.2.1 x x8).2.2.1, H.2.1 _ (by omega), nI_clamp (by omega), paM_g H.1 H.2.2.1 H.2.1 x8]
    exact pairsF_n (fun p hp => listO_g H.1 H.2.2.1 H.2.2.2.2.2.2 x8 hp) (fun p hp => dN_9 H.1 H.2.2.1 x8 hp))
theorem ag_disI (H : YR K I L (J 397) g σ) (t : Int32) : AG [xIO] (qo (disIQ I t)) (dnM (tkM J t) (paM J (g 1) t.toNatClampNeg (J 397 (31 + t.toNatClampNeg)).toNatClampNeg) J 1).1 ((dnM (tkM J t) (paM J (g 1) t.toNatClampNeg (J 397 (31 + t.toNatClampNeg)).toNatClampNeg) J 1).2 396 12) :=
  ag_trk H (fun x hx x8 e1 e2 => by
    have h20 := H.2.2.1.h20 x8
    rw [e2, e1, (H.2.2.2.2.1 x x8).2.2.1, H.2.1 _ (by omega), nI_clamp (by omega), paM_g H.1 H.2.2.1 H.2.1 x8]
    exact (shiftsF_n h20 (fun p hp => listO_g H.1 H.2.2.1 H.2.2.2.2.2.2 x8 hp) (fun p hp => dN_9 H.1 H.2.2.1 x8 hp)).1)
theorem ag_trainL (H : YR K I L (J 397) g σ) (t : Int32) : AG [xIO] (qo (trainQ I t)) (dnM (tkM J t) (trN J (g 1) t.toNatClampNeg) J 1).1 ((dnM (tkM J t) (trN J (g 1) t.toNatClampNeg) J 1).2 396 12) :=
  ag_trk H (fun x hx x8 e1 e2 => by
    have h20 := H.2.2.1.h20 x8
    unfold trN
    rw [e2, e1, (H.2.2.2.2.1 x x8).2.2.1, H.2.1 _ (by omega), nI_clamp (by omega)]
    exact (trainF_g H.1 H.2.2.1 H.2.1 H.2.2.2.2.2.2 x8).1)
theorem ag_sorted (H : YR K I L (J 397) g σ) (t : Int32) : AG [xIO] (qo (sortedQ I t)) (srtM J (g 1) t).1 ((srtM J (g 1) t).2 396 12) := by
  have hz := H.2.2.1.1.1
  by_cases c : hasT I t
  · obtain ⟨x, hx, e⟩ := (hasT_g H.2.2.2.1 hz t).mp c
    have x8 : x < 8 := by omega
    have h20 := H.2.2.1.h20 x8
    have hm := H.2.2.1.1.2.1
    have e2 : t.toNatClampNeg = x := by rw [e]; exact nI_clamp (by omega)
    have n1 := nvi_n (J := listO I (nI x)) (fun p hp => listO_g H.1 H.2.2.1 H.2.2.2.2.2.2 x8 hp) (fun p hp => dN_9 H.1 H.2.2.1 x8 hp)
    have pb : prN (dN g x) (g (31 + x)) ≤ 20 * 20 := by
      have a : prN (dN g x) (g (31 + x)) ≤ 20 * g (31 + x) := sN_le (fun i hi => by
        have b : sN (fun j => if dN g x j < dN g x i then 1 else 0) i ≤ 1 * i := sN_le (fun j hj => by
          show (if dN g x j < dN g x i then 1 else 0) ≤ 1
          split <;> omega)
        show sN (fun j => if dN g x j < dN g x i then 1 else 0) i ≤ 20
        omega)
      omega
    unfold srtM
    rw [if_pos ((tk_iff H t).mp c)]
    refine AG.ok ?_ (thr J 0)
    unfold sortedQ
    rw [trkX_y c, e2, H.2.1 _ (by omega), nI_clamp (by omega), paM_g H.1 H.2.2.1 H.2.1 x8, (H.2.2.2.2.1 x x8).2.2.1, nI_clamp (by omega), e]
    show (none, nvi (listO I (nI x)) (g (31 + x))) = (none, bi (nI (prN (dN g x) (g (31 + x))) = 0))
    rw [n1]
    unfold bi
    by_cases d : prN (dN g x) (g (31 + x)) = 0
    · rw [if_pos d, if_pos (by rw [d]; rfl)]
    · have d2 : ¬ nI (prN (dN g x) (g (31 + x))) = 0 := fun q => d (nI_inj (b := 0) (by omega) (by omega) q)
      rw [if_neg d, if_neg d2]
  · unfold srtM
    rw [if_neg (fun e => c ((tk_iff H t).mpr e))]
    unfold sortedQ
    rw [trkX_n c]
    exact AG.ex 0 rfl rfl (thr J 1)
theorem ag_carAt (H : YR K I L (J 397) g σ) (t c : Int32) : AG [xIO, xNE] (qo (carAtQ I t c)) (carAtM J (g 1) t c).1 ((carAtM J (g 1) t c).2 396 12) := by
  have hz := H.2.2.1.1.1
  have hm := H.2.2.1.1.2.1
  have W := H.2.2.1
  by_cases h1 : hasT I t
  · obtain ⟨x, hx, e⟩ := (hasT_g H.2.2.2.1 hz t).mp h1
    have x8 : x < 8 := by omega
    have h20 := W.h20 x8
    have e2 : t.toNatClampNeg = x := by rw [e]; exact nI_clamp (by omega)
    have hv : J 397 (31 + x) = nI (g (31 + x)) := H.2.1 _ (by omega)
    have n1 : ¬ ¬ tkM J t := fun q => q ((tk_iff H t).mp h1)
    by_cases h2 : 0 ≤ c ∧ c ≤ nI (g (31 + x)) - 1
    · obtain ⟨p, hp, ep⟩ := (nI_exL (by omega)).mp h2
      have a := atS_spec W x8 hp
      have s1 : slotAt I t c = nI (σ (atS g x p)) := by rw [e, ep]; exact slotAt_s H.1 W H.2.2.2.2.2.2 x8 hp
      have s2 : slAM J (g 1) t c = nI (atS g x p) := by rw [e, ep]; exact slAM_s H.1 W H.2.1 x8 hp
      have c0 := H.2.2.2.2.2.2.1 _ a.1
      have h2' : 0 ≤ c ∧ c ≤ J 397 (31 + t.toNatClampNeg) - 1 := by rw [e2, hv]; exact h2
      have n3 : ¬ nI (σ (atS g x p)) = -1 := nI_mi (by omega)
      have em : carAtM J (g 1) t c = (nI (g (39 + atS g x p)), up2 J 396 12 0) := by
        unfold carAtM dnM
        rw [if_neg n1, if_pos h2', s2, nI_clamp (by omega), H.2.1 _ (by omega)]
      have ec : qo (carAtQ I t c) = (none, nI (g (39 + atS g x p))) := by
        unfold carAtQ
        rw [trkX_y h1, s1, if_neg n3]
        show (none, rg 20 (I 17) (nI (σ (atS g x p)))) = _
        rw [rg_nI c0.1 (by decide), c0.2.1]
      rw [em]
      exact AG.ok ec (thr J 0)
    · have s1 : slotAt I t c = -1 := by
        rcases slotAt_g H.1 W H.2.2.2.2.2.2 (t := t) (p := c) (by rw [e]; exact nI_mi (by omega)) with ⟨s, hs, q1, q2, q3⟩ | ⟨-, q⟩
        · have cb := W.car H.1 hs
          have q4 : x = g (139 + s) := nI_inj (by omega) (by omega) (e.symm.trans q1)
          exact absurd ((nI_exL (by omega)).mpr ⟨g (159 + s), by rw [q4]; exact cb.2.2.2.2.2.2.2.2.2.2.2.2.1, q2⟩) h2
        · exact q
      have h2' : ¬ (0 ≤ c ∧ c ≤ J 397 (31 + t.toNatClampNeg) - 1) := by rw [e2, hv]; exact h2
      have em : carAtM J (g 1) t c = (0, up2 J 396 12 2) := by
        unfold carAtM dnM
        rw [if_neg n1, if_neg h2']
      have ec : qo (carAtQ I t c) = (some xNE, 0) := by
        unfold carAtQ
        rw [trkX_y h1, s1, if_pos rfl]
        rfl
      rw [em]
      exact AG.ex 1 rfl ec (thr J 2)
  · have n1 : ¬ tkM J t := fun e => h1 ((tk_iff H t).mpr e)
    have em : carAtM J (g 1) t c = (0, up2 J 396 12 1) := if_pos n1
    have ec : qo (carAtQ I t c) = (some xIO, 0) := by
      unfold carAtQ
      rw [trkX_n h1]
      rfl
    rw [em]
    exact AG.ex 0 rfl ec (thr J 1)
theorem sub_g {a b : Nat} (ha : a < 2 ^ 30) (hb : b < 2 ^ 30) : (0 < nI a - nI b ↔ b < a) ∧ (nI a - nI b = 0 ↔ a = b) := by
  have h := pk_sub_toInt ha hb
  have z : (0 : Int32).toInt = 0 := rfl
  refine ⟨?_, ?_⟩
  · rw [Int32.lt_iff_toInt_lt, h, z]
    omega
  · constructor
    · intro e
      rw [e, z] at h
      omega
    · intro e
      apply Int32.toInt_inj.mp
      rw [h, z]
      omega
theorem fnd_congr {p q : Nat → Prop} [DecidablePred p] [DecidablePred q] : ∀ n k, (∀ i, k ≤ i → i < k + n → (p i ↔ q i)) → fnd p n k = fnd q n k
  | 0, k, h => rfl
  | n + 1, k, h => by
    unfold fnd
    rw [fnd_congr (p := p) (q := q) n (k + 1) (fun i h1 h2 => h i (by omega) (by omega))]
    by_cases c : p k
    · rw [if_pos c, if_pos ((h k (Nat.le_refl _) (by omega)).mp c)]
    · rw [if_neg c, if_neg (fun e => c ((h k (Nat.le_refl _) (by omega)).mpr e))]
/-- a track comes before another one in rank -/
def ahT (g : Nat → Nat) (a b : Nat) : Prop := g (7 + b) - usN g b < g (7 + a) - usN g a ∨ (g (7 + a) - usN g a = g (7 + b) - usN g b ∧ (g (15 + a) < g (15 + b) ∨ (g (15 + a) = g (15 + b) ∧ a < b)))
theorem rkT_g (H : YR K I L (J 397) g σ) {a b : Nat} (ha : a < g 0) (hb : b < g 0) : (rkT I a b = true ↔ ahT g a b) ∧ (ahM J (g 1) a b ↔ ahT g a b) := by
  have hz := H.2.2.1.1.1
  have W := H.2.2.1
  have Ta := H.2.2.2.2.1 a (by omega)
  have Tb := H.2.2.2.2.1 b (by omega)
  have ua := (W.2.2.1 a ha).2
  have ub := (W.2.2.1 b hb).2
  have ca := (W.2.1 a (by omega))
  have cb := (W.2.1 b (by omega))
  constructor
  · unfold rkT ahT
    rw [Ta.1, Ta.2.1, Ta.2.2.2, Tb.1, Tb.2.1, Tb.2.2.2, pk_sub ua, pk_sub ub]
    by_cases c : g (7 + a) - usN g a = g (7 + b) - usN g b
    · rw [if_pos (by rw [c])]
      by_cases d : g (15 + a) = g (15 + b)
      · rw [if_pos (by rw [d]), decide_eq_true_iff, nI_ltI (by omega) (by omega)]
        omega
      · rw [if_neg (fun q => d (nI_inj (by omega) (by omega) q)), decide_eq_true_iff, nI_ltI (by omega) (by omega)]
        omega
    · rw [if_neg (fun q => c (nI_inj (by omega) (by omega) q)), decide_eq_true_iff, nI_ltI (by omega) (by omega)]
      omega
  · unfold ahM ahT
    rw [roM_g H.1 W H.2.1 (by omega), roM_g H.1 W H.2.1 (by omega), H.2.1 (15 + a) (by omega), H.2.1 (15 + b) (by omega), pk_sub ua, pk_sub ub, (sub_g (by omega) (by omega)).1, (sub_g (by omega) (by omega)).2, (sub_g (by omega) (by omega)).1, (sub_g (by omega) (by omega)).2, nI_ltI (by omega) (by omega)]
    omega
theorem ag_trackRank (H : YR K I L (J 397) g σ) (c : Int32) : AG [xNE] (qo (tRankQ I (g 0) c)) (rkP J (rkF J (g 1) (g 0) c (g 0) 0)).1 ((rkP J (rkF J (g 1) (g 0) c (g 0) 0)).2 396 12) := by
  have hz := H.2.2.1.1.1
  have e : rankedT I (g 0) c = rkF J (g 1) (g 0) c (g 0) 0 := by
    unfold rankedT rkF
    refine fnd_congr _ _ (fun i h1 h2 => ?_)
    have hi : i < g 0 := by omega
    have hw : ∃ w : Nat → Nat, ∀ k, k < g 0 → (ahT g k i → w k = 1) ∧ (¬ ahT g k i → w k = 0) := ⟨fun k => @ite Nat (ahT g k i) (Classical.propDecidable _) 1 0, fun k hk => ⟨fun q => if_pos q, fun q => if_neg q⟩⟩
    obtain ⟨w, hw⟩ := hw
    have a : rankT I (g 0) i = nI (sN w (g 0)) := fo_sum (fun k a hk => by
      unfold stRT
      by_cases d : ahT g k i
      · rw [if_pos ((rkT_g H hk hi).1.mpr d), (hw k hk).1 d]; rfl
      · rw [if_neg (fun q => d ((rkT_g H hk hi).1.mp q)), (hw k hk).2 d, nI_0, Int32.add_zero])
    have b : fo (rkS J (g 1) i) (g 0) 0 0 = nI (sN w (g 0)) := fo_sum (fun k a hk => by
      unfold rkS
      by_cases d : ahT g k i
      · rw [if_pos ((rkT_g H hk hi).2.mpr d), (hw k hk).1 d]; rfl
      · rw [if_neg (fun q => d ((rkT_g H hk hi).2.mp q)), (hw k hk).2 d]; rfl)
    rw [a, b]
  unfold tRankQ rkP
  rw [e]
  by_cases d : rkF J (g 1) (g 0) c (g 0) 0 = -1
  · rw [if_pos d, if_pos d]
    exact AG.ex 0 rfl rfl (thr J 1)
  · rw [if_neg d, if_neg d]
    exact AG.ok rfl (thr J 0)
/-- queries about a car -/
theorem ag_car (H : YR K I L (J 397) g σ) (c : Int32) {f : Int32 → Int32} {w : Nat → Int32} (hv : ∀ s, s < g 1 → f (nI (σ s)) = w s) : AG [xNE] (qo (seqX (carX I c) I (none, f (slotOf I c), I))) (slP J (g 1) c w).1 ((slP J (g 1) c w).2 396 12) := by
  have hm := H.2.2.1.1.2.1
  have C := H.2.2.2.2.2.2
  rcases slotOf_g H.1 H.2.2.1 C c with ⟨s, hs, e1, e2⟩ | ⟨n1, n2⟩
  · rcases slOM_g H.1 H.2.2.1 H.2.1 c with ⟨s', hs', e1', e2'⟩ | ⟨n1', -⟩
    · have cb := H.2.2.1.car H.1 hs
      have cb' := H.2.2.1.car H.1 hs'
      have e3 : s' = s := H.2.2.1.num hs' hs (nI_inj (by omega) (by omega) (e1'.symm.trans e1))
      subst e3
      have q := (C.1 s' hs).1
      unfold slP carX
      rw [e2, e2', if_neg (nI_mi (by omega)), if_neg (nI_mi (by omega)), nI_clamp (by omega)]
      exact AG.ok (by rw [← hv s' hs]; rfl) (thr J 0)
    · exact absurd e1 (n1' s hs)
  · rcases slOM_g H.1 H.2.2.1 H.2.1 c with ⟨s', hs', e1', e2'⟩ | ⟨-, n2'⟩
    · exact absurd e1' (n1 s' hs')
    · unfold slP carX
      rw [n2, n2', if_pos rfl, if_pos rfl]
      exact AG.ex 0 rfl rfl (thr J 1)
theorem ag_trackOf (H : YR K I L (J 397) g σ) (c : Int32) : AG [xNE] (qo (trackOfQ I c)) (slP J (g 1) c (fun s => J 397 (139 + s))).1 ((slP J (g 1) c (fun s => J 397 (139 + s))).2 396 12) :=
  ag_car H c (f := fun v => rg 20 (I 23) v) (fun s hs => by
    have hm := H.2.2.1.1.2.1
    have c0 := H.2.2.2.2.2.2.1 s hs
    show rg 20 (I 23) (nI (σ s)) = J 397 (139 + s)
    rw [rg_nI c0.1 (by decide), H.2.1 _ (by omega)]
    exact c0.2.2.2.2.2.2.1)
theorem ag_dest (H : YR K I L (J 397) g σ) (c : Int32) : AG [xNE] (qo (destQ I c)) (slP J (g 1) c (fun s => J 397 (99 + s))).1 ((slP J (g 1) c (fun s => J 397 (99 + s))).2 396 12) :=
  ag_car H c (f := fun v => rg 20 (I 19) v) (fun s hs => by
    have hm := H.2.2.1.1.2.1
    have c0 := H.2.2.2.2.2.2.1 s hs
    show rg 20 (I 19) (nI (σ s)) = J 397 (99 + s)
    rw [rg_nI c0.1 (by decide), H.2.1 _ (by omega)]
    exact c0.2.2.2.2.1)
theorem ag_beh (H : YR K I L (J 397) g σ) (c : Int32) : AG [xNE] (qo (behQ I c)) (slP J (g 1) c (fun s => J 397 (31 + (J 397 (139 + s)).toNatClampNeg) - 1 - J 397 (159 + s))).1 ((slP J (g 1) c (fun s => J 397 (31 + (J 397 (139 + s)).toNatClampNeg) - 1 - J 397 (159 + s))).2 396 12) :=
  ag_car H c (f := fun v => rg 8 (I 31) (I 23 v.toNatClampNeg) - 1 - I 25 v.toNatClampNeg) (fun s hs => by
    have hm := H.2.2.1.1.2.1
    have hz := H.2.2.1.1.1
    have c0 := H.2.2.2.2.2.2.1 s hs
    have cb := H.2.2.1.car H.1 hs
    show rg 8 (I 31) (I 23 (nI (σ s)).toNatClampNeg) - 1 - I 25 (nI (σ s)).toNatClampNeg = J 397 (31 + (J 397 (139 + s)).toNatClampNeg) - 1 - J 397 (159 + s)
    rw [nI_clamp (by omega), c0.2.2.2.2.2.2.1, c0.2.2.2.2.2.2.2, rg_nI (by omega) (by decide), (H.2.2.2.2.1 _ (by omega)).2.2.1, H.2.1 (139 + s) (by omega), nI_clamp (by omega), H.2.1 _ (by omega), H.2.1 _ (by omega)])
theorem ag_def (H : YR K I L (J 397) g σ) (c : Int32) : AG [xNE] (qo (defQ I c)) (bi ((slP J (g 1) c (fun s => J 397 (119 + s))).1 = 1)) ((slP J (g 1) c (fun s => J 397 (119 + s))).2 396 12) := by
  have hm := H.2.2.1.1.2.1
  have R := ag_car H c (f := fun v => rg 20 (I 21) v) (w := fun s => J 397 (119 + s)) (fun s hs => by
    have c0 := H.2.2.2.2.2.2.1 s hs
    show rg 20 (I 21) (nI (σ s)) = J 397 (119 + s)
    rw [rg_nI c0.1 (by decide), H.2.1 _ (by omega)]
    exact c0.2.2.2.2.2.1)
  unfold defQ
  cases hx : carX I c with
  | some E =>
    rw [hx] at R
    rcases R with ⟨r1, -, -⟩ | ⟨k, E', r0, r1, r2⟩
    · exact absurd r1 (by simp [qo, seqX])
    · exact Or.inr ⟨k, E', r0, r1, r2⟩
  | none =>
    rw [hx] at R
    rcases R with ⟨-, r2, r3⟩ | ⟨k, E', r0, r1, -⟩
    · refine AG.ok ?_ r2
      have r4 : rg 20 (I 21) (slotOf I c) = (slP J (g 1) c (fun s => J 397 (119 + s))).1 := r3
      show (none, if rg 20 (I 21) (slotOf I c) = 1 then (1 : Int32) else 0) = (none, bi ((slP J (g 1) c (fun s => J 397 (119 + s))).1 = 1))
      rw [r4]
      rfl
    · exact absurd r1 (by simp [qo, seqX])
theorem ag_for (H : YR K I L (J 397) g σ) (c : Int32) : AG [xIA] (qo (forQ I c)) (if 0 ≤ c ∧ c ≤ 9 then (fo (cfS J c) (g 1) 0 0, up2 J 396 12 0) else (0, up2 J 396 12 1)).1 ((if 0 ≤ c ∧ c ≤ 9 then (fo (cfS J c) (g 1) 0 0, up2 J 396 12 0) else (0, up2 J 396 12 1)).2 396 12) := by
  unfold forQ
  by_cases h : 0 ≤ c ∧ c ≤ 9
  · rw [if_pos h, if_pos h, boundF_g H.1 H.2.2.1 H.2.2.2.2.2.2, cfM_g H.2.2.1 H.2.1]
    exact AG.ok rfl (thr J 0)
  · rw [if_neg h, if_neg h]
    exact AG.ex 0 rfl rfl (thr J 1)
end YQU
