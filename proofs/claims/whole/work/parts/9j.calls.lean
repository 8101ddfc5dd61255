/-! a call of the class and of the model, one behind the other -/
section YCA
variable {X : JX} {K K' N v cap d nx qq mc ms kk : Nat} {T : Nat → Option JS} {I J I1 : HI} {L L' : HL} {Dd Dd' : HD} {g g' σ : Nat → Nat} {gs : Nat → Nat → Nat} {sv : Option (Nat → Nat)} {tx : Nat → Int32} {er fl : Int32} {w : List Int32} {sh : JS} {a b c e f : Int32} {jx jy : JD} {ax ay : List Value} {xs : List String}
/-- the model's call: what it answers, and that class and model agree behind it -/
def MOD (X : JX) (K : Nat) (y : JD) (av : List Value) (cd : Int32) (P : Option Value → Prop) (N v : Nat) (T : Nat → Option JS) (I : HI) (L : HL) (Dd : HD) : Prop :=
  MT X 12 0 0 y (.ref 396 :: av) (N, SH v T, I, L, Dd) (fun R => ∃ b J, R = .inl (b, (N, SH v T, J, L, Dd)) ∧ P b ∧ J 396 12 = cd ∧ INV K N v T J L Dd)
/-- the class's call, and the model's behind it -/
def CLS (X : JX) (K mc ms : Nat) (jx : JD) (ax : List Value) (jy : JD) (ay : List Value) (xs : List String) (P : Option Value → Option Value → Prop) (N v : Nat) (T : Nat → Option JS) (I : HI) (L : HL) (Dd : HD) : Prop :=
  ∃ Q', MT X 12 mc ms jx (.ref 0 :: ax) (N, SH v T, I, L, Dd) Q' ∧ ∀ R, Q' R → ∃ N1 v1 T1 I1 L1, 407 ≤ N1 ∧ N1 ≤ N + 1160 ∧
    ((∃ x, R = .inl (x, (N1, SH v1 T1, I1, L1, Dd)) ∧ (∃ b, P x b) ∧ ∀ L' Dd', (∀ a, a ≠ 405 → L' a = L1 a) → (∀ a, a ≠ 406 → Dd' a = Dd a) → MOD X K jy ay 0 (P x) N1 v1 T1 I1 L' Dd') ∨
     (∃ k E, xs[k]? = some E ∧ R = .inr (E, (N1, SH v1 T1, I1, L1, Dd)) ∧ MOD X K jy ay (nI (k + 1)) (fun b => ∃ x, P x b) N1 v1 T1 I1 L1 Dd))
def PIv (x b : Option Value) : Prop := ∃ w, x = some (.int w) ∧ b = some (.int w)
/-- rows that the model's queries leave -/
def FQ (J X : HI) : Prop := (∀ a, a ≠ 396 → a ≠ 403 → X a = J a) ∧ ∀ j, j ≠ 12 → X 396 j = J 396 j
theorem FQ.rf : FQ J J := ⟨fun _ _ _ => rfl, fun _ _ => rfl⟩
theorem FQ.th {X : HI} {v : Int32} (h : FQ J X) : FQ J (up2 X 396 12 v) := ⟨fun a h1 h2 => (up2_ne h1).trans (h.1 a h1 h2), fun j hj => (up2_i hj).trans (h.2 j hj)⟩
theorem FQ.xx {X Y : HI} (h : FQ J X) (hY : ∀ r, r ≠ 403 → Y r = X r) : FQ J Y := ⟨fun a h1 h2 => (hY a h2).trans (h.1 a h1 h2), fun j hj => (congrFun (hY 396 (by decide)) j).trans (h.2 j hj)⟩
theorem INV.qu {X : HI} (h : CP K N v T I L Dd g gs d sv qq tx er fl w) (hm : MP I g gs d sv qq tx er fl w) (he : eqS I1 I) (hX : FQ I1 X) (hL : ∀ a, a ≠ 405 → L' a = L a) (hD : ∀ a, a ≠ 406 → Dd' a = Dd a) : INV K N v T X L' Dd' := by
  refine ⟨g, gs, d, sv, qq, tx, er, fl, w, (h.qu he).fr (fun a ha => hX.1 a (by omega) (by omega)) hL hD, ?_⟩
  have m1 : MP I1 g gs d sv qq tx er fl w := hm.fr (fun a h1 h2 => he a (by omega) (by omega) (by omega) (by omega))
  exact m1.th (fun a h1 h2 => hX.1 a (by omega) (by omega)) hX.2
/-- a query -/
theorem cls_q {q : Option String × Int32 × HI} {r : Int32 × HI} (h : CP K N v T I L Dd g gs d sv qq tx er fl w) (hm : MP I g gs d sv qq tx er fl w)
    (hc : MT X 12 mc ms jx (.ref 0 :: ax) (N, SH v T, I, L, Dd) (outQ q N v T L Dd)) (he : eqS q.2.2 I)
    (hy : ∀ N v T L Dd, MT X 12 0 0 jy (.ref 396 :: ay) (N, SH v T, q.2.2, L, Dd) (fun R => R = .inl (some (.int r.1), (N, SH v T, r.2, L, Dd))))
    (hr : FQ q.2.2 r.2) (ag : AG xs (qo q) r.1 (r.2 396 12)) : CLS X K mc ms jx ax jy ay xs PIv N v T I L Dd := by
  have hN := h.N4
  refine ⟨_, hc, fun R hR => ?_⟩
  rcases ag with ⟨a1, a2, a3⟩ | ⟨k, E, a0, a1, a2⟩
  · have q1 : q.1 = none := a1
    refine ⟨N, v, T, q.2.2, L, hN, by omega, Or.inl ⟨some (.int q.2.1), ?_, ⟨_, q.2.1, rfl, rfl⟩, fun L' Dd' hL hD => ?_⟩⟩
    · unfold outQ at hR
      rw [q1] at hR
      exact hR
    · refine (hy N v T L' Dd').mono (fun R hR2 => ⟨some (.int r.1), r.2, hR2, ⟨q.2.1, rfl, ?_⟩, a2, INV.qu h hm he hr hL hD⟩)
      rw [← a3]
      rfl
  · have q1 : q.1 = some E := a1
    have hR2 : ∃ sh, R = .inr (E, (N + 1, SH v (upS T N sh), q.2.2, L, Dd)) := by
      unfold outQ at hR
      rw [q1] at hR
      exact hR
    obtain ⟨sh, e⟩ := hR2
    refine ⟨N + 1, v, upS T N sh, q.2.2, L, by omega, by omega, Or.inr ⟨k, E, a0, e, ?_⟩⟩
    exact (hy (N + 1) v (upS T N sh) L Dd).mono (fun R hR2 => ⟨some (.int r.1), r.2, hR2, ⟨_, _, rfl, rfl⟩, a2, INV.qu h.new hm he hr (fun _ _ => rfl) (fun _ _ => rfl)⟩)
theorem begM_f : ∀ a, a ≠ 398 → begM J a = J a := fun a ha => begM_ne ha
/-- the model's part behind a call that changed -/
theorem MP.push {F : Int32 × HI} (hm : MP J g gs d sv qq tx er fl w) (hd : d ≤ 8) (hf : FRM (begM J) F.2) (h0 : F.2 396 12 = 0) (hg : GV (F.2 397) g') : MP (pubM F d).2 g' (pushG gs d g) (min 8 (d + 1)) sv qq tx er fl w ∧ (pubM F d).1 = F.1 ∧ (pubM F d).2 396 12 = 0 := by
  have V : GV (F.2 398) g := by
    rw [hf.1 398 (by decide) (by decide) (by decide)]
    exact begM_v hm.1
  have r : ∀ a, a ≠ 396 → a ≠ 397 → a ≠ 403 → a ≠ 398 → F.2 a = J a := fun a h1 h2 h3 h4 => (hf.1 a h2 h3 h1).trans (begM_ne h4)
  have r6 : ∀ j, j ≠ 12 → F.2 396 j = J 396 j := fun j hj => (hf.2 j hj).trans (congrFun (begM_ne (by decide)) j)
  have HM0 : HM F.2 gs d := hm.2.1.fr (r6 3 (by decide)) (r 399 (by decide) (by decide) (by decide) (by decide))
  have P := HM0.push hd V F.1 h0
  refine ⟨⟨?_, P.2, hm.2.2.1.fr ?_ ?_, hm.2.2.2.1.fr ?_ ?_ ?_ ?_, hm.2.2.2.2.fr ?_ ?_⟩, P.1, ?_⟩
  · show GV ((kepM F.2 F.1 d).2 397) g'
    rw [kepM_397 h0]
    exact hg
  · exact (kepM_396 (by decide)).trans (r6 5 (by decide))
  · exact (kepM_o (by decide) (by decide) (by decide)).trans (r 400 (by decide) (by decide) (by decide) (by decide))
  · exact (kepM_396 (by decide)).trans (r6 7 (by decide))
  · exact (kepM_396 (by decide)).trans (r6 8 (by decide))
  · exact (kepM_396 (by decide)).trans (r6 9 (by decide))
  · exact (kepM_o (by decide) (by decide) (by decide)).trans (r 401 (by decide) (by decide) (by decide) (by decide))
  · exact (kepM_396 (by decide)).trans (r6 11 (by decide))
  · exact (kepM_o (by decide) (by decide) (by decide)).trans (r 402 (by decide) (by decide) (by decide) (by decide))
  · exact (kepM_396 (by decide)).trans h0
/-- the model's part behind a call that was refused -/
theorem MP.refd {F : Int32 × HI} (hm : MP J g gs d sv qq tx er fl w) (hf : FRM (begM J) F.2) (h0 : ¬ F.2 396 12 = 0) : MP (pubM F d).2 g gs d sv qq tx er fl w ∧ (pubM F d).2 396 12 = F.2 396 12 := by
  have V : GV (F.2 398) g := by
    rw [hf.1 398 (by decide) (by decide) (by decide)]
    exact begM_v hm.1
  have r : ∀ a, a ≠ 396 → a ≠ 397 → a ≠ 403 → a ≠ 398 → F.2 a = J a := fun a h1 h2 h3 h4 => (hf.1 a h2 h3 h1).trans (begM_ne h4)
  have r6 : ∀ j, j ≠ 12 → F.2 396 j = J 396 j := fun j hj => (hf.2 j hj).trans (congrFun (begM_ne (by decide)) j)
  obtain ⟨k1, k2, k3⟩ := kepM_no (c := F.1) (ch := d) h0 V
  have e6 : ∀ j, (pubM F d).2 396 j = F.2 396 j := fun j => congrFun k1 j
  refine ⟨⟨k3, hm.2.1.fr ((e6 3).trans (r6 3 (by decide))) (k2.trans (r 399 (by decide) (by decide) (by decide) (by decide))), hm.2.2.1.fr ((e6 5).trans (r6 5 (by decide))) ?_, hm.2.2.2.1.fr ((e6 7).trans (r6 7 (by decide))) ((e6 8).trans (r6 8 (by decide))) ((e6 9).trans (r6 9 (by decide))) ?_, hm.2.2.2.2.fr ((e6 11).trans (r6 11 (by decide))) ?_⟩, e6 12⟩
  · exact (kepM_o (by decide) (by decide) (by decide)).trans (r 400 (by decide) (by decide) (by decide) (by decide))
  · exact (kepM_o (by decide) (by decide) (by decide)).trans (r 401 (by decide) (by decide) (by decide) (by decide))
  · exact (kepM_o (by decide) (by decide) (by decide)).trans (r 402 (by decide) (by decide) (by decide) (by decide))
theorem pubM_o {F : Int32 × HI} (hf : FRM (begM J) F.2) : ∀ a, (a < 396 ∨ 405 ≤ a) → (pubM F d).2 a = J a := fun a ha => (kepM_o (by omega) (by omega) (by omega)).trans ((hf.1 a (by omega) (by omega) (by omega)).trans (begM_ne (by omega)))
/-- the class's part behind a call that changed -/
theorem CP.push {I2 I3 : HI} {L3 : HL} (h : CP K N v T I L Dd g gs d sv qq tx er fl w) (hnx : HC K I L gs d nx) (hK : K + 1 ≤ 5000) (he : eqS I2 I) (hfc : FRC (remI I2 nx d 1) I3) (hfl : ∀ b, b ≠ 1 → L3 b = yardCpL L (108 + 35 * nx) 1 b) (Y : YC (K + 1) I3 L3 g' σ) :
    CP (K + 1) N v T I3 L3 Dd g' (pushG gs d g) (min 8 (d + 1)) sv qq tx er fl w := by
  have h2 := h.qu he
  obtain ⟨⟨σ0, y⟩, -, sc, tc, cap, ln, c9⟩ := h2
  have r : ∀ a, 36 ≤ a → I2 a = I a := fun a ha => he a (by omega) (by omega) (by omega) (by omega)
  have hc2 : HC K I2 L gs d nx := hnx.fr (fun a h1 _ => r a (by omega)) (fun _ _ => rfl)
  have n8 := hc2.1
  have y1 : YC K (yv I2 1) (yl L 1) g σ0 := by rw [yv_1, yl_1]; exact y
  have hr := hc2.rem (b2 := 1) (by decide) (by decide) y1
  refine ⟨⟨σ, Y⟩, ⟨_, (hr.mono (Nat.le_succ K) hK).fr (fun a h1 _ => hfc a (Or.inl (by omega))) (fun a ha => hfl a (by omega))⟩, ((sc.rem (d := d) n8 (by decide)).mono (Nat.le_succ K) hK).fr (fun a h1 _ => hfc a (Or.inl (by omega))) (fun a ha => hfl a (by omega)), (tc.rem (d := d) n8 (by decide)).fr (hfc 0 (Or.inr rfl)) (by rw [hfc 388 (Or.inl (by decide))]) (hfc 389 (Or.inl (by decide))), cap, ln.fr (fun a ha => ?_) (fun a ha => ?_) (fun _ _ => rfl), c9⟩
  · exact (hfc a (Or.inl (by omega))).trans (rem_o n8 (by decide) (by omega) (by omega))
  · exact (hfl a (by omega)).trans (yardCpL_o (by omega))
/-- a call that changes the yard -/
theorem cls_c (h : CP K N v T I L Dd g gs d sv qq tx er fl w) (hm : MP I g gs d sv qq tx er fl w) (hK1 : K + 1 ≤ 5000) (hk : kk < 7) (hf : kk = 3 → f = 0 ∨ f = 1)
    (hc : ∀ nx, nx < 8 → I 71 1 = nI nx → I 71 2 = nI d → (excN (fltK I (g 0) a b c e kk).1 = none → doOK (remI (fltK I (g 0) a b c e kk).2 nx d 1) (yardCpL L (108 + 35 * nx) 1) (g 0) a b c kk) → MT X 12 4 24 jx (.ref 0 :: ax) (N, SH v T, I, L, Dd) (outE (excN (fltK I (g 0) a b c e kk).1) N v T (fltK I (g 0) a b c e kk).2 L Dd (.inl (some (.int (vK (remI (fltK I (g 0) a b c e kk).2 nx d 1) (g 0) a b c kk)), (N, SH v T, (doK (remI (fltK I (g 0) a b c e kk).2 nx d 1) (yardCpL L (108 + 35 * nx) 1) (g 0) a b c e f kk).1, (doK (remI (fltK I (g 0) a b c e kk).2 nx d 1) (yardCpL L (108 + 35 * nx) 1) (g 0) a b c e f kk).2, Dd)))))
    (hy : ∀ I1 N v T L Dd, I1 397 0 = nI (g 0) → I1 397 1 = nI (g 1) → PLM I1 (g 1) → I1 396 3 = nI d → okK (begM I1) (g 0) (g 1) a b c kk → MT X 12 0 0 jy (.ref 396 :: ay) (N, SH v T, I1, L, Dd) (fun R => R = .inl (some (.int (pubM (mK (begM I1) (g 0) (g 1) a b c e f kk) d).1), (N, SH v T, (pubM (mK (begM I1) (g 0) (g 1) a b c e f kk) d).2, L, Dd)))) :
    CLS X (K + 1) 4 24 jx ax jy ay (xsK kk) PIv N v T I L Dd := by
  have hN := h.N4
  have h00 := h
  obtain ⟨⟨σ, y⟩, ⟨nx, hc0⟩, -, -, cap, ln, c9⟩ := h
  have n8 := hc0.1
  have d8 := hc0.2.2.2.1
  have Q : eqS (fltK I (g 0) a b c e kk).2 I := fltK_eq
  -- the command, for any heap of the model that has this row
  have cmd : ∀ J, J 397 = I 397 → CMD K I J L g a b c e f kk := fun J hJ => cmd_k (σ := σ) (y.yr (by rw [hJ]; exact hm.1)) hK1 hk hf
  have I2Y : eqY (remI (fltK I (g 0) a b c e kk).2 nx d 1) I := fun a a1 a2 a3 a4 a5 => (rem_Y n8 (by decide) a a1 a2 a3 a4 a5).trans (Q a a2 a3 a4 a5)
  have L2e : yardCpL L (108 + 35 * nx) 1 1 = L 1 := yardCpL_o (by omega)
  have okd : excN (fltK I (g 0) a b c e kk).1 = none → doOK (remI (fltK I (g 0) a b c e kk).2 nx d 1) (yardCpL L (108 + 35 * nx) 1) (g 0) a b c kk := fun q => by
    rcases (cmd I rfl).2 with ⟨k, E, -, q1, -, -⟩ | ⟨-, -, q2⟩
    · rw [q] at q1
      cases q1
    · exact (q2 _ _ I2Y L2e).1
  have C := hc nx n8 hc0.2.1 hc0.2.2.1 okd
  -- the model's call behind it
  have mod : ∀ (I1 : HI) N v T L Dd, (∀ a, 396 ≤ a → a < 405 → I1 a = I a) → MT X 12 0 0 jy (.ref 396 :: ay) (N, SH v T, I1, L, Dd) (fun R => R = .inl (some (.int (pubM (mK (begM I1) (g 0) (g 1) a b c e f kk) d).1), (N, SH v T, (pubM (mK (begM I1) (g 0) (g 1) a b c e f kk) d).2, L, Dd))) := fun I1 N v T L Dd hI => by
    have m1 : MP I1 g gs d sv qq tx er fl w := hm.fr hI
    have e7 : begM I1 397 = I 397 := (begM_ne (by decide)).trans (hI 397 (by decide) (by decide))
    exact hy I1 N v T L Dd (m1.1 0 (by decide)) (m1.1 1 (by decide)) (PLM_g y.1 y.2.1 m1.1) m1.2.1.1 (cmd (begM I1) e7).1
  refine ⟨_, C, fun R hR => ?_⟩
  rcases (cmd (begM (fltK I (g 0) a b c e kk).2) ((begM_ne (by decide)).trans (Q 397 (by decide) (by decide) (by decide) (by decide)))).2 with ⟨k, E, a0, a1, a2, a3⟩ | ⟨a1, -, -⟩
  · have hR2 : ∃ sh, R = .inr (E, (N + 1, SH v (upS T N sh), (fltK I (g 0) a b c e kk).2, L, Dd)) := by
      rw [a1] at hR
      exact hR
    obtain ⟨sh, e1⟩ := hR2
    refine ⟨N + 1, v, upS T N sh, (fltK I (g 0) a b c e kk).2, L, by omega, by omega, Or.inr ⟨k, E, a0, e1, ?_⟩⟩
    have rI : ∀ i, 396 ≤ i → i < 405 → (fltK I (g 0) a b c e kk).2 i = I i := fun i h1 h2 => Q i (by omega) (by omega) (by omega) (by omega)
    have m1 : MP (fltK I (g 0) a b c e kk).2 g gs d sv qq tx er fl w := hm.fr rI
    have k5 : k < 5 := by
      have l5 : ∀ kk, kk < 7 → (xsK kk).length ≤ 5 := by decide
      have l6 := l5 kk hk
      have : k < (xsK kk).length := by
        by_cases h : k < (xsK kk).length
        · exact h
        · rw [List.getElem?_eq_none (by omega)] at a0
          cases a0
      omega
    have nz : ¬ (mK (begM (fltK I (g 0) a b c e kk).2) (g 0) (g 1) a b c e f kk).2 396 12 = 0 := fun q => by
      rw [a3] at q
      have := nI_inj (b := 0) (by omega) (by omega) q
      omega
    have M := m1.refd (F := mK (begM (fltK I (g 0) a b c e kk).2) (g 0) (g 1) a b c e f kk) mK_f nz
    refine (mod _ (N + 1) v (upS T N sh) L Dd rI).mono (fun R hR3 => ⟨_, _, hR3, ⟨_, _, rfl, rfl⟩, M.2.trans a3, g, gs, d, sv, qq, tx, er, fl, w, ?_, M.1⟩)
    exact ((h00.qu Q).new.mono (Nat.le_succ K) hK1).fr (pubM_o mK_f) (fun _ _ => rfl) (fun _ _ => rfl)
  · have hR2 := hR
    rw [a1] at hR2
    refine ⟨N, v, T, (doK (remI (fltK I (g 0) a b c e kk).2 nx d 1) (yardCpL L (108 + 35 * nx) 1) (g 0) a b c e f kk).1, (doK (remI (fltK I (g 0) a b c e kk).2 nx d 1) (yardCpL L (108 + 35 * nx) 1) (g 0) a b c e f kk).2, hN, by omega, Or.inl ⟨_, hR2, ⟨_, _, rfl, rfl⟩, fun L' Dd' hL hD => ?_⟩⟩
    have rI : ∀ i, 396 ≤ i → i < 405 → (doK (remI (fltK I (g 0) a b c e kk).2 nx d 1) (yardCpL L (108 + 35 * nx) 1) (g 0) a b c e f kk).1 i = I i := fun i h1 h2 => (doK_f i (Or.inl (by omega))).trans ((rem_o n8 (by decide) (by omega) (by omega)).trans (Q i (by omega) (by omega) (by omega) (by omega)))
    have e7 : begM (doK (remI (fltK I (g 0) a b c e kk).2 nx d 1) (yardCpL L (108 + 35 * nx) 1) (g 0) a b c e f kk).1 397 = I 397 := (begM_ne (by decide)).trans (rI 397 (by decide) (by decide))
    rcases (cmd _ e7).2 with ⟨k, E, -, -, b2, -⟩ | ⟨-, b2, b3⟩
    · exact absurd a1 b2
    · obtain ⟨-, b5, g', σ', Y⟩ := b3 _ _ I2Y L2e
      have m1 : MP (doK (remI (fltK I (g 0) a b c e kk).2 nx d 1) (yardCpL L (108 + 35 * nx) 1) (g 0) a b c e f kk).1 g gs d sv qq tx er fl w := hm.fr rI
      have M := m1.push (F := mK (begM (doK (remI (fltK I (g 0) a b c e kk).2 nx d 1) (yardCpL L (108 + 35 * nx) 1) (g 0) a b c e f kk).1) (g 0) (g 1) a b c e f kk) d8 mK_f b2 Y.2.1
      have P := h00.push hc0 hK1 Q doK_f (fun b hb => doK_L hb) Y.yc
      refine (mod _ N v T L' Dd' rI).mono (fun R hR3 => ⟨_, _, hR3, ⟨_, rfl, ?_⟩, M.2.2, g', pushG gs d g, min 8 (d + 1), sv, qq, tx, er, fl, w, P.fr (pubM_o mK_f) hL hD, M.1⟩)
      rw [M.2.1, b5]
end YCA
