/-! rows that agree but at 6 and 79 (what left, the first car's weight): the same answers -/
def E6 (I J : HI) : Prop := (∀ a, a ≠ 397 → I a = J a) ∧ ∀ k, k ≠ 6 → k ≠ 79 → I 397 k = J 397 k
section SAM
variable {I J : HI} {m z x y u q s : Nat} {a b c e f t p : Int32}
theorem E6.o (h : E6 I J) {k j : Nat} (hk : k ≠ 397) : I k j = J k j := congrFun (h.1 k hk) j
theorem E6.up (h : E6 I J) {k j : Nat} {v w : Int32} (hv : v = w) : E6 (up2 I k j v) (up2 J k j w) := by
  subst hv
  refine ⟨fun a ha => ?_, fun i h6 h7 => ?_⟩
  · by_cases c : a = k
    · subst c
      rw [up2_eq, up2_eq, h.1 a ha]
    · rw [up2_ne c, up2_ne c, h.1 a ha]
  · by_cases c : k = 397
    · subst c
      rw [up2_v, up2_v, h.2 i h6 h7]
    · rw [up2_ne (Ne.symm c), up2_ne (Ne.symm c), h.2 i h6 h7]
theorem fnd_c {p1 p2 : Nat → Prop} [DecidablePred p1] [DecidablePred p2] : ∀ (n k : Nat), (∀ i, k ≤ i → i < k + n → (p1 i ↔ p2 i)) → fnd p1 n k = fnd p2 n k
  | 0, _, _ => rfl
  | n + 1, k, h => by
    unfold fnd
    have e := h k (Nat.le_refl _) (by omega)
    by_cases c : p1 k
    · rw [if_pos c, if_pos (e.mp c)]
    · rw [if_neg c, if_neg (fun q => c (e.mpr q)), fnd_c n (k + 1) (fun i h1 h2 => h i (by omega) (by omega))]
theorem fo_c {α : Type} {f1 f2 : Nat → α → α} : ∀ (n k : Nat) (a : α), (∀ i x, k ≤ i → i < k + n → f1 i x = f2 i x) → fo f1 n k a = fo f2 n k a
  | 0, _, _, _ => rfl
  | n + 1, k, a, h => by
    show fo f1 n (k + 1) (f1 k a) = fo f2 n (k + 1) (f2 k a)
    rw [h k a (Nat.le_refl _) (by omega)]
    exact fo_c n (k + 1) _ (fun i x h1 h2 => h i x (by omega) (by omega))
theorem fo_r {f1 f2 : Nat → HI → HI} : ∀ (n k : Nat) (A B : HI), (∀ i A B, k ≤ i → i < k + n → E6 A B → E6 (f1 i A) (f2 i B)) → E6 A B → E6 (fo f1 n k A) (fo f2 n k B)
  | 0, _, _, _, _, h => h
  | n + 1, k, A, B, h, e => fo_r n (k + 1) _ _ (fun i A B h1 h2 e => h i A B (by omega) (by omega) e) (h k A B (Nat.le_refl _) (by omega) e)
theorem fnd_lt {p1 : Nat → Prop} [DecidablePred p1] {n : Nat} (hn : n ≤ 20) : (fnd p1 n 0).toNatClampNeg < 20 := by
  rcases fnd_or (p := p1) n 0 with h | ⟨j, -, h2, -, h4, -⟩
  · rw [h.1]
    decide
  · rw [h4, nI_clamp (by omega)]
    omega
theorem slA_c (h : E6 I J) (hm : m ≤ 20) : slAM I m t p = slAM J m t p := fnd_c _ _ (fun i _ hi => by rw [h.2 (139 + i) (by omega) (by omega), h.2 (159 + i) (by omega) (by omega)])
theorem slO_c (h : E6 I J) (hm : m ≤ 20) : slOM I m c = slOM J m c := fnd_c _ _ (fun i _ hi => by rw [h.2 (39 + i) (by omega) (by omega)])
theorem slA_lt (hm : m ≤ 20) : (slAM I m t p).toNatClampNeg < 20 := fnd_lt hm
theorem slO_lt (hm : m ≤ 20) : (slOM I m c).toNatClampNeg < 20 := fnd_lt hm
theorem fe_c (h : E6 I J) (hm : m ≤ 20) (hx : x < 8) : feM I m x a = feM J m x a := by
  unfold feM
  rw [h.2 (31 + x) (by omega) (by omega), slA_c h hm]
theorem fe_lt (hm : m ≤ 20) : (feM I m x a).toNatClampNeg < 20 := slA_lt hm
theorem tk_c (h : E6 I J) : tkM I t = tkM J t := by
  unfold tkM
  rw [h.2 0 (by decide) (by decide)]
theorem lk_c (h : E6 I J) (hx : x < 8) : lkM I x y = lkM J x y := by
  unfold lkM
  rw [h.2 (23 + x) (by omega) (by omega)]
theorem ro_c (h : E6 I J) (hm : m ≤ 20) (hx : x < 8) : roM I m x = roM J m x := by
  unfold roM smM
  rw [h.2 (7 + x) (by omega) (by omega), fo_c (f1 := smS I (nI x) 59) (f2 := smS J (nI x) 59) m 0 0 (fun i v _ hi => by unfold smS; rw [h.2 (139 + i) (by omega) (by omega), h.2 (59 + i) (by omega) (by omega)])]
theorem ex_c (h : E6 I J) (hz : z ≤ 8) : E6 (exM I z u) (exM J z u) := by
  unfold exM
  refine fo_r _ _ _ _ (fun i A B _ _ e => ?_) (fo_r _ _ _ _ (fun i A B _ _ e => e.up rfl) h)
  unfold ex2
  refine fo_r _ _ _ _ (fun i A B _ hi e => ?_) e
  unfold ex1
  refine fo_r _ _ _ _ (fun k A B _ hk e => ?_) e
  unfold stE
  refine e.up ?_
  simp only [lk_c e (show i < 8 by omega), e.o (k := 403) (j := k) (by decide), e.o (k := 403) (j := i) (by decide)]
theorem ln_c (h : E6 I J) (hm : m ≤ 20) (hx : x < 8) : lnM I m x q = lnM J m x q := fo_c _ _ _ (fun i v _ _ => by
  unfold lnS
  rw [fe_c h hm hx]
  have l := fe_lt (I := J) (x := x) (a := nI i) hm
  rw [h.2 (59 + (feM J m x (nI i)).toNatClampNeg) (by omega) (by omega)])
theorem mi_c (h : E6 I J) (hm : m ≤ 20) (hz : z ≤ 8) (hx : x < 8) (hy : y < 8) : miM I m z x y q = miM J m z x y q := by
  have e := ex_c (u := y) h hz
  unfold miM
  rw [e.o (k := 403) (j := x) (by decide)]
  refine fo_c _ _ _ (fun i v _ _ => ?_)
  unfold miS
  rw [fe_c e hm hx]
  have l := fe_lt (I := exM J z y) (x := x) (a := nI i) hm
  rw [e.2 (15 + y) (by omega) (by omega), e.2 (119 + (feM (exM J z y) m x (nI i)).toNatClampNeg) (by omega) (by omega)]
theorem wh_c (h : E6 I J) (hm : m ≤ 20) (hz : z ≤ 8) (ha : a.toNatClampNeg < 8) (hb : b.toNatClampNeg < 8) : (whM I m z a b c).1 = (whM J m z a b c).1 ∧ E6 (whM I m z a b c).2 (whM J m z a b c).2 := by
  have e := ex_c (u := b.toNatClampNeg) h hz
  unfold whM
  simp only [tk_c h, h.2 (31 + a.toNatClampNeg) (by omega) (by omega), e.o (k := 403) (j := a.toNatClampNeg) (by decide), ro_c e hm hb, ln_c e hm ha]
  (repeat' split) <;> first | exact ⟨rfl, h⟩ | exact ⟨rfl, e⟩
theorem mv_c (h : E6 I J) (hx : x < 8) (hy : y < 8) : E6 (mvM I x y s) (mvM J x y s) := by
  unfold mvM
  rw [h.2 (31 + x) (by omega) (by omega), h.2 (31 + y) (by omega) (by omega)]
  exact (((h.up rfl).up rfl).up rfl).up rfl
theorem shK_c (h : E6 I J) (hm : m ≤ 20) (hz : z ≤ 8) (hx : x < 8) (hy : y < 8) : E6 (shK I m z x y q) (shK J m z x y q) := by
  unfold shK
  refine fo_r _ _ _ _ (fun i A B _ _ e => ?_) (ex_c (ex_c h hz) hz)
  unfold mvS
  rw [fe_c e hm hx]
  exact mv_c e hx hy
/-- a shunt -/
theorem shu_c (h : E6 I J) (hm : m ≤ 20) (hz : z ≤ 8) (ha : a.toNatClampNeg < 8) (hb : b.toNatClampNeg < 8) : (shuM I m z a b c).1 = (shuM J m z a b c).1 ∧ E6 (shuM I m z a b c).2 (shuM J m z a b c).2 := by
  have w := wh_c (c := c) h hm hz ha hb
  have k := shK_c (q := c.toNatClampNeg) h hm hz ha hb
  have e := ex_c (u := b.toNatClampNeg) h hz
  unfold shuM
  rw [w.1, mi_c e hm hz ha hb, k.2 5 (by decide) (by decide), k.2 3 (by decide) (by decide)]
  split
  · exact ⟨rfl, w.2.up rfl⟩
  · exact ⟨rfl, ((k.up rfl).up rfl).up rfl⟩
/-- a repair -/
theorem rep_c (h : E6 I J) (hm : m ≤ 20) : (repM I m c).1 = (repM J m c).1 ∧ E6 (repM I m c).2 (repM J m c).2 := by
  have l := slO_lt (I := J) (c := c) hm
  have e : E6 (up2 I 397 (119 + (slOM J m c).toNatClampNeg) 0) (up2 J 397 (119 + (slOM J m c).toNatClampNeg) 0) := h.up rfl
  unfold repM
  rw [slO_c h hm, h.2 (119 + (slOM J m c).toNatClampNeg) (by omega) (by omega), fo_c m 0 0 (f1 := reS (up2 I 397 (119 + (slOM J m c).toNatClampNeg) 0)) (f2 := reS (up2 J 397 (119 + (slOM J m c).toNatClampNeg) 0)) (fun i v _ hi => by unfold reS; rw [e.2 (119 + i) (by omega) (by omega)])]
  (repeat' split) <;> first | exact ⟨rfl, h.up rfl⟩ | exact ⟨rfl, e.up rfl⟩
/-- a new car: the weights of the first may differ -/
theorem acc_c {w w' : Int32} (h : E6 I J) (hm : m ≤ 20) (ht : t.toNatClampNeg < 8) (hw : (10 ≤ w ∧ w ≤ 90) ∧ (10 ≤ w' ∧ w' ≤ 90)) (hw0 : w = w' ∨ m = 0) : (accM I m t a w c e).1 = (accM J m t a w' c e).1 ∧ E6 (accM I m t a w c e).2 (accM J m t a w' c e).2 := by
  have k : E6 (accI I m t.toNatClampNeg a w c e) (accI J m t.toNatClampNeg a w' c e) := by
    unfold accI
    rw [h.2 2 (by decide) (by decide), h.2 (31 + t.toNatClampNeg) (by omega) (by omega)]
    have e1 : E6 (up2 (up2 I 397 (39 + m) (J 397 2)) 397 (59 + m) a) (up2 (up2 J 397 (39 + m) (J 397 2)) 397 (59 + m) a) := (h.up rfl).up rfl
    have e2 : E6 (up2 (up2 (up2 I 397 (39 + m) (J 397 2)) 397 (59 + m) a) 397 (79 + m) w) (up2 (up2 (up2 J 397 (39 + m) (J 397 2)) 397 (59 + m) a) 397 (79 + m) w') := by
      rcases hw0 with rfl | rfl
      · exact e1.up rfl
      · refine ⟨fun a ha => ?_, fun k h6 h7 => ?_⟩
        · exact (up2_ne ha).trans ((e1.1 _ ha).trans (up2_ne ha).symm)
        · exact (up2_i h7).trans ((e1.2 k h6 h7).trans (up2_i h7).symm)
    exact ((((((e2.up rfl).up rfl).up rfl).up rfl).up rfl).up rfl).up rfl
  have g : ((5 ≤ a ∧ a ≤ 30) ∧ (10 ≤ w ∧ w ≤ 90) ∧ (0 ≤ c ∧ c ≤ 9)) = ((5 ≤ a ∧ a ≤ 30) ∧ (10 ≤ w' ∧ w' ≤ 90) ∧ (0 ≤ c ∧ c ≤ 9)) := by simp [hw.1, hw.2]
  unfold accM
  simp only [g, tk_c h, ro_c h hm ht, h.2 2 (by decide) (by decide)]
  (repeat' split) <;> first | exact ⟨rfl, h.up rfl⟩ | exact ⟨rfl, k.up rfl⟩
theorem li_c (h : E6 I J) (hz : z ≤ 8) : liM I z = liM J z := by
  unfold liM
  refine fo_c _ _ _ (fun i v _ hi => fo_c _ _ _ (fun j v _ hj => ?_))
  unfold lisS
  simp only [lk_c h (show i < 8 by omega)]
theorem tl_c (h : E6 I J) (hx : x < 8) (hy : y < 8) : E6 (tlM I x y) (tlM J x y) := by
  have e1 : E6 (tl1 I x y) (tl1 J x y) := by
    unfold tl1
    exact h.up (by rw [h.2 (23 + x) (by omega) (by omega)])
  unfold tlM
  unfold tl1 at e1 ⊢
  exact e1.up (by rw [e1.2 (23 + y) (by omega) (by omega)])
/-- a link taken away -/
theorem dc_c (h : E6 I J) (hz : z ≤ 8) (ha : a.toNatClampNeg < 8) (hb : b.toNatClampNeg < 8) : (dcM I z a b).1 = (dcM J z a b).1 ∧ E6 (dcM I z a b).2 (dcM J z a b).2 := by
  have t1 := tl_c h ha hb
  unfold dcM
  simp only [tk_c h, lk_c h ha, li_c t1 hz]
  (repeat' split) <;> first | exact ⟨rfl, h.up rfl⟩ | exact ⟨rfl, t1.up rfl⟩
/-- a train: which cars go -/
theorem tr_c (h : E6 I J) (hm : m ≤ 20) (hx : x < 8) : ∀ n k, trM I m x n k = trM J m x n k
  | 0, _ => rfl
  | n + 1, k => by
    have l1 := fe_lt (I := J) (x := x) (a := nI k) hm
    have l2 := fe_lt (I := J) (x := x) (a := nI 0) hm
    unfold trM
    rw [fe_c h hm hx, fe_c h hm hx, h.2 (99 + (feM J m x (nI k)).toNatClampNeg) (by omega) (by omega), h.2 (99 + (feM J m x (nI 0)).toNatClampNeg) (by omega) (by omega), tr_c h hm hx n (k + 1)]
theorem trN_c (h : E6 I J) (hm : m ≤ 20) (hx : x < 8) : trN I m x = trN J m x := by
  unfold trN
  rw [h.2 (31 + x) (by omega) (by omega), tr_c h hm hx]
theorem ba_c (h : E6 I J) (hm : m ≤ 20) (hx : x < 8) {n : Nat} : fo (baS I m x) n 0 0 = fo (baS J m x) n 0 0 := fo_c _ _ _ (fun i v _ _ => by
  have l := fe_lt (I := J) (x := x) (a := nI i) hm
  unfold baS
  rw [fe_c h hm hx, h.2 (119 + (feM J m x (nI i)).toNatClampNeg) (by omega) (by omega)])
/-- the order of a track's cars -/
theorem pa_c (h : E6 I J) (hm : m ≤ 20) {n : Nat} : paM I m x n = paM J m x n := by
  unfold paM
  refine fo_c _ _ _ (fun i v _ hi => fo_c _ _ _ (fun j v _ hj => ?_))
  unfold paS
  have l1 := slA_lt (I := J) (t := nI x) (p := nI j) hm
  have l2 := slA_lt (I := J) (t := nI x) (p := nI i) hm
  rw [slA_c h hm, slA_c h hm, h.2 (99 + (slAM J m (nI x) (nI j)).toNatClampNeg) (by omega) (by omega), h.2 (99 + (slAM J m (nI x) (nI i)).toNatClampNeg) (by omega) (by omega)]
theorem sti_c (h : E6 I J) (hm : m ≤ 20) (hz : z ≤ 8) (ha : a.toNatClampNeg < 8) (hb : b.toNatClampNeg < 8) : (stiM I m z a b c).1 = (stiM J m z a b c).1 ∧ E6 (stiM I m z a b c).2 (stiM J m z a b c).2 := by
  have w := wh_c (c := c) h hm hz ha hb
  have e := ex_c (u := b.toNatClampNeg) h hz
  unfold stiM
  rw [w.1, mi_c e hm hz ha hb]
  split
  · exact ⟨rfl, w.2.up rfl⟩
  · exact ⟨rfl, (ex_c e hz).up rfl⟩
theorem rl_c (h : E6 I J) (hz : z ≤ 8) : (rlM I z a b).1 = (rlM J z a b).1 ∧ E6 (rlM I z a b).2 (rlM J z a b).2 := by
  have e := ex_c (u := b.toNatClampNeg) h hz
  unfold rlM
  simp only [tk_c h, e.o (k := 403) (j := a.toNatClampNeg) (by decide)]
  (repeat' split) <;> first | exact ⟨rfl, h.up rfl⟩ | exact ⟨rfl, e.up rfl⟩
end SAM
