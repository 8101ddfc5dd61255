/-! a call of the class: what it answers, and the yard behind it, are functions of the yard's numbers alone -/
section YCA
variable {X : JX} {K K' N v cap d nx qq mc ms kk : Nat} {T : Nat → Option JS} {I J I1 : HI} {L L' : HL} {Dd Dd' : HD} {g g' σ : Nat → Nat} {gs : Nat → Nat → Nat} {sv : Option (Nat → Nat)} {tx : Nat → Int32} {er fl : Int32} {w : List Int32} {sh : JS} {a b c e f : Int32} {jx : JD} {ax : List Value} {xs : List String}
/-- the numbers as a row, where the functions look for it -/
def GJ (g : Nat → Nat) : HI := fun a k => if a = 397 then nI (g k) else 0
theorem GJ_v : GV (GJ g 397) g := fun k _ => rfl
theorem CP.yg (h : CP K N v T I L Dd g gs d sv qq tx er fl w) : ∃ σ, YR K I L (GJ g 397) g σ := by
  obtain ⟨⟨σ, y⟩, -⟩ := h
  exact ⟨σ, y.yr GJ_v⟩
/-- what an object tells: its yard's numbers, the kept ones, how many, the saved ones, its text, two numbers, its line -/
abbrev GS : Type := (Nat → Nat) × (Nat → Nat → Nat) × Nat × Option (Nat → Nat) × Nat × (Nat → Int32) × Int32 × Int32 × List Int32
def CPs (K N v : Nat) (T : Nat → Option JS) (I : HI) (L : HL) (Dd : HD) (s : GS) : Prop := CP K N v T I L Dd s.1 s.2.1 s.2.2.1 s.2.2.2.1 s.2.2.2.2.1 s.2.2.2.2.2.1 s.2.2.2.2.2.2.1 s.2.2.2.2.2.2.2.1 s.2.2.2.2.2.2.2.2
/-- what lies outside the object stays -/
def FX (ex N v N1 v1 : Nat) (T T1 : Nat → Option JS) (I I1 : HI) (L L1 : HL) : Prop := N ≤ N1 ∧ N1 ≤ N + ex ∧ (v1 = v ∨ N ≤ v1) ∧ ∀ a, 396 ≤ a → a < N → T1 a = T a ∧ (a ≠ v → I1 a = I a) ∧ L1 a = L a
theorem FX.rf {ex : Nat} : FX ex N v N v T T I I L L := ⟨Nat.le_refl _, Nat.le_add_right _ _, Or.inl rfl, fun _ _ _ => ⟨rfl, fun _ => rfl, rfl⟩⟩
/-- a call of the class -/
def CQ (X : JX) (K mc ms : Nat) (jx : JD) (ax : List Value) (xs : List String) (val : Option Value) (cd : Int32) (s : GS) (N v : Nat) (T : Nat → Option JS) (I : HI) (L : HL) (Dd : HD) : Prop :=
  ∃ Q', MT X 12 mc ms jx (.ref 0 :: ax) (N, SH v T, I, L, Dd) Q' ∧ ∀ R, Q' R → ∃ N1 T1 I1 L1, FX 4 N v N1 v T T1 I I1 L L1 ∧ CPs K N1 v T1 I1 L1 Dd s ∧
    ((cd = 0 ∧ R = .inl (val, (N1, SH v T1, I1, L1, Dd))) ∨ ∃ k E, xs[k]? = some E ∧ cd = nI (k + 1) ∧ R = .inr (E, (N1, SH v T1, I1, L1, Dd)))
/-- a call that may give the line other bytes -/
def CQw (X : JX) (K mc ms : Nat) (jx : JD) (ax : List Value) (val : Option Value) (s : GS) (N v : Nat) (T : Nat → Option JS) (I : HI) (L : HL) (Dd : HD) : Prop :=
  ∃ Q', MT X 12 mc ms jx (.ref 0 :: ax) (N, SH v T, I, L, Dd) Q' ∧ ∀ R, Q' R → ∃ N1 v1 T1 I1 L1, FX 1160 N v N1 v1 T T1 I I1 L L1 ∧ CPs K N1 v1 T1 I1 L1 Dd s ∧ R = .inl (val, (N1, SH v1 T1, I1, L1, Dd))
theorem upS_o {T : Nat → Option JS} {a : Nat} (h : a < N) : upS T N sh a = T a := by
  unfold upS
  rw [if_neg (by omega)]
theorem FX.new {ex : Nat} (he : 1 ≤ ex := by decide) : FX ex N v (N + 1) v T (upS T N sh) I I L L := ⟨Nat.le_succ _, Nat.add_le_add_left he _, Or.inl rfl, fun a _ h => ⟨upS_o h, fun _ => rfl, rfl⟩⟩
theorem FX.eqS {ex N' v' : Nat} {T' : Nat → Option JS} (h : FX ex N v N' v' T T' I J L L') (he : eqS I1 I) (hj : ∀ a, 396 ≤ a → J a = I a) : FX ex N v N' v' T T' I I1 L L' := ⟨h.1, h.2.1, h.2.2.1, fun a h1 h2 => ⟨(h.2.2.2 a h1 h2).1, fun _ => he a (by omega) (by omega) (by omega) (by omega), (h.2.2.2 a h1 h2).2.2⟩⟩
/-- a query -/
theorem cq_q {q : Option String × Int32 × HI} {val cd : Int32} (h : CP K N v T I L Dd g gs d sv qq tx er fl w)
    (hc : MT X 12 mc ms jx (.ref 0 :: ax) (N, SH v T, I, L, Dd) (outQ q N v T L Dd)) (he : eqS q.2.2 I) (ag : AG xs (qo q) val cd) : CQ X K mc ms jx ax xs (some (.int val)) cd (g, gs, d, sv, qq, tx, er, fl, w) N v T I L Dd := by
  refine ⟨_, hc, fun R hR => ?_⟩
  rcases ag with ⟨a1, a2, a3⟩ | ⟨k, E, a0, a1, a2⟩
  · have q1 : q.1 = none := a1
    have hR2 : R = .inl (some (.int q.2.1), (N, SH v T, q.2.2, L, Dd)) := by
      unfold outQ at hR
      rw [q1] at hR
      exact hR
    refine ⟨N, T, q.2.2, L, FX.rf.eqS he (fun _ _ => rfl), h.qu he, Or.inl ⟨a2, ?_⟩⟩
    rw [hR2, ← a3]
    rfl
  · have q1 : q.1 = some E := a1
    have hR2 : ∃ sh, R = .inr (E, (N + 1, SH v (upS T N sh), q.2.2, L, Dd)) := by
      unfold outQ at hR
      rw [q1] at hR
      exact hR
    obtain ⟨sh, e⟩ := hR2
    exact ⟨N + 1, upS T N sh, q.2.2, L, (FX.new).eqS he (fun _ _ => rfl), (h.qu he).new, Or.inr ⟨k, E, a0, a2, e⟩⟩
/-- a query that is not refused -/
theorem cq_d {x : Option Value} {I2 : HI} (h : CP K N v T I L Dd g gs d sv qq tx er fl w) (hc : MT X 12 mc ms jx (.ref 0 :: ax) (N, SH v T, I, L, Dd) (fun R => R = .inl (x, (N, SH v T, I2, L, Dd)))) (he : eqS I2 I) : CQ X K mc ms jx ax [] x 0 (g, gs, d, sv, qq, tx, er, fl, w) N v T I L Dd :=
  ⟨_, hc, fun R hR => ⟨N, T, I2, L, FX.rf.eqS he (fun _ _ => rfl), h.qu he, Or.inl ⟨rfl, hR⟩⟩⟩
/-- the class's part behind a call that changed -/
theorem CP.push {I2 I3 : HI} {L3 : HL} (h : CP K N v T I L Dd g gs d sv qq tx er fl w) (hnx : HC K I L gs d nx) (hK : K + 1 ≤ 5000) (he : eqS I2 I) (hfc : FRC (remI I2 nx d 1) I3) (hfl : ∀ b, b ≠ 1 → L3 b = yardCpL L (108 + 35 * nx) 1 b) (Y : YC (K + 1) I3 L3 g' σ) :
    CP (K + 1) N v T I3 L3 Dd g' (pushG gs d g) (min 8 (d + 1)) sv qq tx er fl w := by
  have h2 := h.qu he
  obtain ⟨⟨σ0, y⟩, -, sc, tc, cap, ln, c9⟩ := h2
  have r : ∀ a, 36 ≤ a → I2 a = I a := fun a ha => he a (by omega) (by omega) (by omega) (by omega)
  have hc2 : HC K I2 L gs d nx := hnx.fr (fun a h1 _ => r a (by omega)) (fun _ _ => rfl)
  have n8 := hc2.1
  have y1 : YC K (yv I2 1) (yl L 1) g σ0 := by rw [yv_1, yl_1]; exact y
  have hr := hc2.rem (b2 := 1) (by decide) (by decide) y1
  refine ⟨⟨σ, Y⟩, ⟨_, (hr.mono (Nat.le_succ K) hK).fr (fun a h1 _ => hfc a (Or.inl (by omega))) (fun a ha => hfl a (by omega))⟩, ((sc.rem (d := d) n8 (by decide)).mono (Nat.le_succ K) hK).fr (fun a h1 _ => hfc a (Or.inl (by omega))) (fun a ha => hfl a (by omega)), (tc.rem (d := d) n8 (by decide)).fr (hfc 0 (Or.inr rfl)) (by rw [hfc 388 (Or.inl (by decide))]) (hfc 389 (Or.inl (by decide))), cap, ln.fr (fun a ha => ?_) (fun a ha => ?_) (fun _ _ => rfl), c9⟩
  · exact (hfc a (Or.inl (by omega))).trans (rem_o n8 (by decide) (by omega) (by omega))
  · exact (hfl a (by omega)).trans (yardCpL_o (by omega))
/-- the object behind a command: where it was refused, the same -/
def cmS (g : Nat → Nat) (gs : Nat → Nat → Nat) (d : Nat) (r : GS) (F : Int32 × HI) : GS := if F.2 396 12 = 0 then (canonG (F.2 397), pushG gs d g, min 8 (d + 1), r.2.2.2) else r
/-- a call that changes the yard -/
theorem cq_c (h : CP K N v T I L Dd g gs d sv qq tx er fl w) (hK1 : K + 1 ≤ 5000) (hk : kk < 7) (hf : kk = 3 → f = 0 ∨ f = 1)
    (hc : ∀ nx, nx < 8 → I 71 1 = nI nx → I 71 2 = nI d → (excN (fltK I (g 0) a b c e kk).1 = none → doOK (remI (fltK I (g 0) a b c e kk).2 nx d 1) (yardCpL L (108 + 35 * nx) 1) (g 0) a b c kk) → MT X 12 4 24 jx (.ref 0 :: ax) (N, SH v T, I, L, Dd) (outE (excN (fltK I (g 0) a b c e kk).1) N v T (fltK I (g 0) a b c e kk).2 L Dd (.inl (some (.int (vK (remI (fltK I (g 0) a b c e kk).2 nx d 1) (g 0) a b c kk)), (N, SH v T, (doK (remI (fltK I (g 0) a b c e kk).2 nx d 1) (yardCpL L (108 + 35 * nx) 1) (g 0) a b c e f kk).1, (doK (remI (fltK I (g 0) a b c e kk).2 nx d 1) (yardCpL L (108 + 35 * nx) 1) (g 0) a b c e f kk).2, Dd))))) :
    CQ X (K + 1) 4 24 jx ax (xsK kk) (some (.int (mK (GJ g) (g 0) (g 1) a b c e f kk).1)) ((mK (GJ g) (g 0) (g 1) a b c e f kk).2 396 12) (cmS g gs d (g, gs, d, sv, qq, tx, er, fl, w) (mK (GJ g) (g 0) (g 1) a b c e f kk)) N v T I L Dd := by
  have hN := h.N4
  have h00 := h
  obtain ⟨⟨σ, y⟩, ⟨nx, hc0⟩, -, -, cap, ln, c9⟩ := h
  have n8 := hc0.1
  have Q : eqS (fltK I (g 0) a b c e kk).2 I := fltK_eq
  have cmd : CMD K I (GJ g) L g a b c e f kk := cmd_k (σ := σ) (y.yr GJ_v) hK1 hk hf
  have I2Y : eqY (remI (fltK I (g 0) a b c e kk).2 nx d 1) I := fun a a1 a2 a3 a4 a5 => (rem_Y n8 (by decide) a a1 a2 a3 a4 a5).trans (Q a a2 a3 a4 a5)
  have L2e : yardCpL L (108 + 35 * nx) 1 1 = L 1 := yardCpL_o (by omega)
  have okd : excN (fltK I (g 0) a b c e kk).1 = none → doOK (remI (fltK I (g 0) a b c e kk).2 nx d 1) (yardCpL L (108 + 35 * nx) 1) (g 0) a b c kk := fun q => by
    rcases cmd.2 with ⟨k, E, -, q1, -, -⟩ | ⟨-, -, q2⟩
    · rw [q] at q1
      cases q1
    · exact (q2 _ _ I2Y L2e).1
  have C := hc nx n8 hc0.2.1 hc0.2.2.1 okd
  refine ⟨_, C, fun R hR => ?_⟩
  obtain ⟨F, hF⟩ : ∃ F, F = mK (GJ g) (g 0) (g 1) a b c e f kk := ⟨_, rfl⟩
  rcases cmd.2 with ⟨k, E, a0, a1, a2, a3⟩ | ⟨a1, b2, b3⟩
  · have hR2 : ∃ sh, R = .inr (E, (N + 1, SH v (upS T N sh), (fltK I (g 0) a b c e kk).2, L, Dd)) := by
      rw [a1] at hR
      exact hR
    obtain ⟨sh, e1⟩ := hR2
    have k5 : k < 5 := by
      have l5 : ∀ kk, kk < 7 → (xsK kk).length ≤ 5 := by decide
      have l6 := l5 kk hk
      have : k < (xsK kk).length := by
        by_cases h : k < (xsK kk).length
        · exact h
        · rw [List.getElem?_eq_none (by omega)] at a0
          cases a0
      omega
    rw [← hF] at a3 ⊢
    have nz : ¬ F.2 396 12 = 0 := fun q => by
      rw [a3] at q
      have := nI_inj (b := 0) (by omega) (by omega) q
      omega
    refine ⟨N + 1, upS T N sh, (fltK I (g 0) a b c e kk).2, L, (FX.new).eqS Q (fun _ _ => rfl), ?_, Or.inr ⟨k, E, a0, a3, e1⟩⟩
    unfold cmS
    rw [if_neg nz]
    exact (h00.qu Q).new.mono (Nat.le_succ K) hK1
  · have hR2 := hR
    rw [a1] at hR2
    obtain ⟨-, b5, g', σ', Y⟩ := b3 _ _ I2Y L2e
    rw [← hF] at b2 b5 Y ⊢
    refine ⟨N, T, (doK (remI (fltK I (g 0) a b c e kk).2 nx d 1) (yardCpL L (108 + 35 * nx) 1) (g 0) a b c e f kk).1, (doK (remI (fltK I (g 0) a b c e kk).2 nx d 1) (yardCpL L (108 + 35 * nx) 1) (g 0) a b c e f kk).2, ⟨Nat.le_refl _, by omega, Or.inl rfl, fun i h1 h2 => ⟨rfl, fun _ => (doK_f i (Or.inl (by omega))).trans ((rem_o n8 (by decide) (by omega) (by omega)).trans (Q i (by omega) (by omega) (by omega) (by omega))), (doK_L (by omega)).trans (yardCpL_o (by omega))⟩⟩, ?_, Or.inl ⟨b2, ?_⟩⟩
    · unfold cmS
      rw [if_pos b2]
      exact h00.push hc0 hK1 Q doK_f (fun b hb => doK_L hb) Y.canon
    · rw [← b5]
      exact hR2
end YCA
