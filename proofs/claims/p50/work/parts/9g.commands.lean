/-! one command: class and model -/
section YCO
variable {K : Nat} {I J I2 : HI} {L L2 : HL} {g g' σ : Nat → Nat} {a b c e f t : Int32} {k kk z m x y q : Nat}
/-- the model's commands -/
def mK (J : HI) (z m : Nat) (a b c e f : Int32) : Nat → Int32 × HI
  | 0 => adtM J z a b
  | 1 => cnM J z a b
  | 2 => dcM J z a b
  | 3 => accM J m a b c e f
  | 4 => shuM J m z a b c
  | 5 => repM J m a
  | _ => depM J m a b
/-- the values that the class's commands answer -/
def vK (I : HI) (z : Nat) (a b c : Int32) : Nat → Int32
  | 0 => nI z
  | 1 => I 6 1 + 1
  | 2 => I 6 1 - 1
  | 3 => I 15 1 + 1
  | 4 => minF I z a.toNatClampNeg b.toNatClampNeg c
  | 5 => fo (stM (mendI I (slotOf I a).toNatClampNeg)) 20 0 0
  | _ => trainF (listO I a) (I 31 a.toNatClampNeg).toNatClampNeg
def xsK : Nat → List String
  | 0 => [xIA, xIS]
  | 1 => [xIO, xIA, xIS]
  | 2 => [xIO, xIS]
  | 3 => [xIO, xIA, xIS, xUO]
  | 4 => [xIO, xIA, xIS, xNE, xUO]
  | 5 => [xNE, xIS]
  | _ => [xIO, xIA, xIS, xUO]
/-- what the model's walk asks -/
def okK (J : HI) (z m : Nat) (a b c : Int32) : Nat → Prop
  | 4 => ¬ 0 < (whM J m z a b c).1 → okMv m a.toNatClampNeg b.toNatClampNeg c.toNatClampNeg (exM (exM J z b.toNatClampNeg) z b.toNatClampNeg)
  | 6 => tkM J a → (0 ≤ b ∧ b ≤ 9) → ¬ (J 397 (31 + a.toNatClampNeg) = 0 ∨ ¬ J 397 (99 + (feM J m a.toNatClampNeg 0).toNatClampNeg) = b) → fo (baS J m a.toNatClampNeg) (trN J m a.toNatClampNeg).toNatClampNeg 0 0 = 0 → okDp m a.toNatClampNeg (trN J m a.toNatClampNeg).toNatClampNeg 0 J
  | _ => True
/-- a command that class and model refuse, or carry out alike -/
def CMD (K : Nat) (I J : HI) (L : HL) (g : Nat → Nat) (a b c e f : Int32) (kk : Nat) : Prop :=
  okK J (g 0) (g 1) a b c kk ∧
  ((∃ k E, (xsK kk)[k]? = some E ∧ excN (fltK I (g 0) a b c e kk).1 = some E ∧ ¬ (fltK I (g 0) a b c e kk).1 = 0 ∧ (mK J (g 0) (g 1) a b c e f kk).2 396 12 = nI (k + 1)) ∨
   ((fltK I (g 0) a b c e kk).1 = 0 ∧ (mK J (g 0) (g 1) a b c e f kk).2 396 12 = 0 ∧ ∀ I2 L2, eqY I2 I → L2 1 = L 1 → doOK I2 L2 (g 0) a b c kk ∧ vK I2 (g 0) a b c kk = (mK J (g 0) (g 1) a b c e f kk).1 ∧
     ∃ g' σ', YR (K + 1) (doK I2 L2 (g 0) a b c e f kk).1 (doK I2 L2 (g 0) a b c e f kk).2 ((mK J (g 0) (g 1) a b c e f kk).2 397) g' σ'))
theorem no_1 {J : HI} {v w : Int32} {r : Int32 × HI} (h : r = (v, up2 J 396 12 w)) (h0 : r.2 396 12 = 0) (hw : ¬ w = 0) : False := by
  rw [h] at h0
  have h1 : up2 J 396 12 w 396 12 = 0 := h0
  exact hw ((thr J w).symm.trans h1)
theorem th_2 {J : HI} {v w : Int32} {r : Int32 × HI} (h : r = (v, up2 J 396 12 w)) : r.2 396 12 = w := by
  rw [h]
  show up2 J 396 12 w 396 12 = w
  exact thr J w
theorem r397 {J : HI} {v w : Int32} {r : Int32 × HI} (h : r = (v, up2 J 396 12 w)) : r.2 397 = J 397 := by
  rw [h]
  show up2 J 396 12 w 397 = J 397
  exact up2_ne (by decide)
theorem cmd_0 (H : YR K I L (J 397) g σ) (hK1 : K + 1 ≤ 5000) : CMD K I J L g a b c e f 0 := by
  refine ⟨trivial, ?_⟩
  rcases cmd_track H hK1 a b with ⟨h1, h2⟩ | ⟨h1, h2⟩ | ⟨h1, h2, h3, -⟩
  · exact Or.inl ⟨0, xIA, rfl, by show excN (trackF I a b) = _; rw [h1]; rfl, by show ¬ trackF I a b = 0; rw [h1]; decide, th_2 (r := adtM J (g 0) a b) h2⟩
  · exact Or.inl ⟨1, xIS, rfl, by show excN (trackF I a b) = _; rw [h1]; rfl, by show ¬ trackF I a b = 0; rw [h1]; decide, th_2 (r := adtM J (g 0) a b) h2⟩
  · refine Or.inr ⟨h1, th_2 (r := adtM J (g 0) a b) h3, fun I2 L2 hY hL => ?_⟩
    have H2 : YR K I2 L2 (J 397) g σ := H.sc hY hL
    rcases cmd_track H2 hK1 a b with ⟨q1, q2⟩ | ⟨q1, q2⟩ | ⟨-, -, -, g', R⟩
    · exact (no_1 q2 (th_2 (r := adtM J (g 0) a b) h3) (by decide)).elim
    · exact (no_1 q2 (th_2 (r := adtM J (g 0) a b) h3) (by decide)).elim
    · refine ⟨h2, ?_, g', σ, ?_⟩
      · show nI (g 0) = (adtM J (g 0) a b).1
        rw [h3]
      · show YR (K + 1) (buildI I2 (g 0) a b) L2 ((adtM J (g 0) a b).2 397) g' σ
        rw [r397 h3]
        exact R
theorem cmd_1 (H : YR K I L (J 397) g σ) (hK1 : K + 1 ≤ 5000) : CMD K I J L g a b c e f 1 := by
  refine ⟨trivial, ?_⟩
  rcases cmd_connect H hK1 a b with ⟨r, hr, h1, h2⟩ | ⟨h1, x, y, h2, -⟩
  · rcases hr with hr | hr | hr <;> subst hr
    · exact Or.inl ⟨0, xIO, rfl, by show excN (switchF I a b) = _; rw [h1]; rfl, by show ¬ switchF I a b = 0; rw [h1]; decide, th_2 (r := cnM J (g 0) a b) h2⟩
    · exact Or.inl ⟨1, xIA, rfl, by show excN (switchF I a b) = _; rw [h1]; rfl, by show ¬ switchF I a b = 0; rw [h1]; decide, th_2 (r := cnM J (g 0) a b) h2⟩
    · exact Or.inl ⟨2, xIS, rfl, by show excN (switchF I a b) = _; rw [h1]; rfl, by show ¬ switchF I a b = 0; rw [h1]; decide, th_2 (r := cnM J (g 0) a b) h2⟩
  · refine Or.inr ⟨h1, th_2 (r := cnM J (g 0) a b) h2, fun I2 L2 hY hL => ?_⟩
    have H2 : YR K I2 L2 (J 397) g σ := H.sc hY hL
    rcases cmd_connect H2 hK1 a b with ⟨r, hr, q1, q2⟩ | ⟨-, x', y', q2, R⟩
    · exact (no_1 q2 (th_2 (r := cnM J (g 0) a b) h2) (by rcases hr with hr | hr | hr <;> subst hr <;> decide)).elim
    · refine ⟨trivial, ?_, tgG g x' y', σ, ?_⟩
      · show I2 6 1 + 1 = (cnM J (g 0) a b).1
        rw [q2]
      · show YR (K + 1) (joinI I2 a b) L2 ((cnM J (g 0) a b).2 397) (tgG g x' y') σ
        rw [r397 q2]
        exact R
theorem cmd_2 (H : YR K I L (J 397) g σ) (hK1 : K + 1 ≤ 5000) : CMD K I J L g a b c e f 2 := by
  refine ⟨trivial, ?_⟩
  rcases cmd_disconnect H hK1 a b with ⟨h1, h2⟩ | ⟨h1, h2⟩ | ⟨h1, x, y, h2, -⟩
  · exact Or.inl ⟨0, xIO, rfl, by show excN (cutF I a b) = _; rw [h1]; rfl, by show ¬ cutF I a b = 0; rw [h1]; decide, th_2 (r := dcM J (g 0) a b) h2⟩
  · exact Or.inl ⟨1, xIS, rfl, by show excN (cutF I a b) = _; rw [h1]; rfl, by show ¬ cutF I a b = 0; rw [h1]; decide, th_2 (r := dcM J (g 0) a b) h2⟩
  · refine Or.inr ⟨h1, th_2 (r := dcM J (g 0) a b) h2, fun I2 L2 hY hL => ?_⟩
    have H2 : YR K I2 L2 (J 397) g σ := H.sc hY hL
    rcases cmd_disconnect H2 hK1 a b with ⟨q1, q2⟩ | ⟨q1, q2⟩ | ⟨-, x', y', q2, R⟩
    · exact (no_1 q2 (th_2 (r := dcM J (g 0) a b) h2) (by decide)).elim
    · exact (no_1 q2 (th_2 (r := dcM J (g 0) a b) h2) (by decide)).elim
    · refine ⟨trivial, ?_, tgG g x' y', σ, ?_⟩
      · show I2 6 1 - 1 = (dcM J (g 0) a b).1
        rw [q2]
      · show YR (K + 1) (partI I2 a b) L2 ((dcM J (g 0) a b).2 397) (tgG g x' y') σ
        rw [r397 q2]
        exact R
theorem f01 (hf : f = 0 ∨ f = 1) : (if f = 1 then 1 else 0) = f := by
  rcases hf with e | e <;> subst e <;> rfl
theorem cmd_3 (H : YR K I L (J 397) g σ) (hK1 : K + 1 ≤ 5000) (hf : f = 0 ∨ f = 1) : CMD K I J L g a b c e f 3 := by
  refine ⟨trivial, ?_⟩
  rcases cmd_car H hK1 hf a b c e with ⟨r, hr, h1, h2⟩ | ⟨h1, h2⟩ | ⟨h1, ht, u, hu, hfr, h2, -⟩
  · rcases hr with hr | hr | hr <;> subst hr
    · exact Or.inl ⟨0, xIO, rfl, by show excN (carF I a b c e) = _; rw [h1]; rfl, by show ¬ carF I a b c e = 0; rw [h1]; decide, th_2 (r := accM J (g 1) a b c e f) h2⟩
    · exact Or.inl ⟨1, xIA, rfl, by show excN (carF I a b c e) = _; rw [h1]; rfl, by show ¬ carF I a b c e = 0; rw [h1]; decide, th_2 (r := accM J (g 1) a b c e f) h2⟩
    · exact Or.inl ⟨2, xIS, rfl, by show excN (carF I a b c e) = _; rw [h1]; rfl, by show ¬ carF I a b c e = 0; rw [h1]; decide, th_2 (r := accM J (g 1) a b c e f) h2⟩
  · exact Or.inl ⟨3, xUO, rfl, by show excN (carF I a b c e) = _; rw [h1]; rfl, by show ¬ carF I a b c e = 0; rw [h1]; decide, th_2 (r := accM J (g 1) a b c e f) h2⟩
  · refine Or.inr ⟨h1, th_2 (r := accM J (g 1) a b c e f) h2, fun I2 L2 hY hL => ?_⟩
    have H2 : YR K I2 L2 (J 397) g σ := H.sc hY hL
    rcases cmd_car H2 hK1 hf a b c e with ⟨r, hr, q1, q2⟩ | ⟨q1, q2⟩ | ⟨-, ht2, u', hu', hfr', q2, g', σ', R⟩
    · exact (no_1 q2 (th_2 (r := accM J (g 1) a b c e f) h2) (by rcases hr with hr | hr | hr <;> subst hr <;> decide)).elim
    · exact (no_1 q2 (th_2 (r := accM J (g 1) a b c e f) h2) (by decide)).elim
    · refine ⟨⟨⟨u', hu', hfr'⟩, ht2⟩, ?_, g', σ', ?_⟩
      · show I2 15 1 + 1 = (accM J (g 1) a b c e f).1
        rw [q2]
      · show YR (K + 1) (enterI I2 (freeSlot I2).toNatClampNeg a.toNatClampNeg b c e (if f = 1 then 1 else 0)) L2 ((accM J (g 1) a b c e f).2 397) g' σ'
        rw [r397 q2, hfr', nI_clamp (by omega), f01 hf]
        exact R
theorem cmd_4 (H : YR K I L (J 397) g σ) (hK1 : K + 1 ≤ 5000) : CMD K I J L g a b c e f 4 := by
  have hz := H.2.2.1.1.1
  have es := mv_same H a b c
  have D := mvD_cH H a b c
  have em : ∀ r, (moveF I (g 0) a b c).1 = r → 0 < r → shuM J (g 1) (g 0) a b c = (0, up2 (whM J (g 1) (g 0) a b c).2 396 12 r) := fun r h1 h2 => by
    unfold shuM
    rw [es, h1, if_pos h2]
  have no : ∀ r, (moveF I (g 0) a b c).1 = r → 0 < r → okK J (g 0) (g 1) a b c 4 := fun r h1 h2 => fun h => absurd (by rw [es, h1]; exact h2) h
  rcases mvD_5 D with h1 | h1 | h1 | h1 | h1 | h1
  · exact ⟨no 1 h1 (by decide), Or.inl ⟨0, xIO, rfl, by show excN (moveF I (g 0) a b c).1 = _; rw [h1]; rfl, by show ¬ (moveF I (g 0) a b c).1 = 0; rw [h1]; decide, th_2 (r := shuM J (g 1) (g 0) a b c) (em 1 h1 (by decide))⟩⟩
  · exact ⟨no 2 h1 (by decide), Or.inl ⟨1, xIA, rfl, by show excN (moveF I (g 0) a b c).1 = _; rw [h1]; rfl, by show ¬ (moveF I (g 0) a b c).1 = 0; rw [h1]; decide, th_2 (r := shuM J (g 1) (g 0) a b c) (em 2 h1 (by decide))⟩⟩
  · exact ⟨no 3 h1 (by decide), Or.inl ⟨2, xIS, rfl, by show excN (moveF I (g 0) a b c).1 = _; rw [h1]; rfl, by show ¬ (moveF I (g 0) a b c).1 = 0; rw [h1]; decide, th_2 (r := shuM J (g 1) (g 0) a b c) (em 3 h1 (by decide))⟩⟩
  · exact ⟨no 4 h1 (by decide), Or.inl ⟨3, xNE, rfl, by show excN (moveF I (g 0) a b c).1 = _; rw [h1]; rfl, by show ¬ (moveF I (g 0) a b c).1 = 0; rw [h1]; decide, th_2 (r := shuM J (g 1) (g 0) a b c) (em 4 h1 (by decide))⟩⟩
  · exact ⟨no 5 h1 (by decide), Or.inl ⟨4, xUO, rfl, by show excN (moveF I (g 0) a b c).1 = _; rw [h1]; rfl, by show ¬ (moveF I (g 0) a b c).1 = 0; rw [h1]; decide, th_2 (r := shuM J (g 1) (g 0) a b c) (em 5 h1 (by decide))⟩⟩
  · rw [h1] at D
    obtain ⟨x, y, q, ⟨hx, ex⟩, ⟨hy, ey⟩, eq, hxy, q1, q9, hq, hd, hr⟩ := mvD_ok D
    have ax : a.toNatClampNeg = x := by rw [ex]; exact nI_clamp (by omega)
    have ay : b.toNatClampNeg = y := by rw [ey]; exact nI_clamp (by omega)
    have aq : c.toNatClampNeg = q := by rw [eq]; exact nI_clamp (by omega)
    have C := cmd_shunt H hK1 hx hy hxy q9 hq hd hr
    have es2 : shuM J (g 1) (g 0) a b c = (miM (exM J (g 0) y) (g 1) (g 0) x y q, up2 (up2 (up2 (shK J (g 1) (g 0) x y q) 397 5 (shK J (g 1) (g 0) x y q 397 5 + miM (exM J (g 0) y) (g 1) (g 0) x y q)) 397 3 (shK J (g 1) (g 0) x y q 397 3 + 1)) 396 12 0) := by
      unfold shuM
      rw [es, h1, if_neg (by decide), ax, ay, aq]
    refine ⟨fun _ => by rw [ax, ay, aq]; exact C.2.1, Or.inr ⟨h1, th_2 (r := shuM J (g 1) (g 0) a b c) es2, fun I2 L2 hY hL => ?_⟩⟩
    have H2 : YR K I2 L2 (J 397) g σ := H.sc hY hL
    obtain ⟨c1, c2, c3, c4, g', R⟩ := cmd_shunt H2 hK1 hx hy hxy q9 hq hd hr
    refine ⟨⟨(hasT_g H2.2.2.2.1 hz a).mpr ⟨x, hx, ex⟩, (hasT_g H2.2.2.2.1 hz b).mpr ⟨y, hy, ey⟩, by rw [eq]; exact q19 q1 q9, by rw [ax, ay, aq]; exact c1⟩, ?_, g', σ, ?_⟩
    · show minF I2 (g 0) a.toNatClampNeg b.toNatClampNeg c = (shuM J (g 1) (g 0) a b c).1
      rw [es2, ax, ay, eq, c3]
      exact c4.symm
    · show YR (K + 1) (moveI (bfsI I2 (g 0) b.toNatClampNeg) a.toNatClampNeg b.toNatClampNeg c.toNatClampNeg) (up2 L2 1 4 (L2 1 4 + (minF I2 (g 0) a.toNatClampNeg b.toNatClampNeg c).toInt64)) ((shuM J (g 1) (g 0) a b c).2 397) g' σ
      rw [r397 es2, ax, ay, aq, eq]
      exact R
theorem cmd_5 (H : YR K I L (J 397) g σ) (hK1 : K + 1 ≤ 5000) : CMD K I J L g a b c e f 5 := by
  refine ⟨trivial, ?_⟩
  rcases cmd_repair H hK1 a with ⟨h1, h2⟩ | ⟨h1, h2⟩ | ⟨h1, s, hs, hs20, hsl, h2, -⟩
  · exact Or.inl ⟨0, xNE, rfl, by show excN (repairFt I a) = _; rw [h1]; rfl, by show ¬ repairFt I a = 0; rw [h1]; decide, th_2 (r := repM J (g 1) a) h2⟩
  · exact Or.inl ⟨1, xIS, rfl, by show excN (repairFt I a) = _; rw [h1]; rfl, by show ¬ repairFt I a = 0; rw [h1]; decide, th_2 (r := repM J (g 1) a) h2⟩
  · refine Or.inr ⟨h1, th_2 (r := repM J (g 1) a) h2, fun I2 L2 hY hL => ?_⟩
    have H2 : YR K I2 L2 (J 397) g σ := H.sc hY hL
    rcases cmd_repair H2 hK1 a with ⟨q1, q2⟩ | ⟨q1, q2⟩ | ⟨-, s', hs', hs20', hsl', q2, R⟩
    · exact (no_1 q2 (th_2 (r := repM J (g 1) a) h2) (by decide)).elim
    · exact (no_1 q2 (th_2 (r := repM J (g 1) a) h2) (by decide)).elim
    · refine ⟨⟨_, hs20', hsl'⟩, ?_, un g (119 + s') 0, σ, ?_⟩
      · show fo (stM (mendI I2 (slotOf I2 a).toNatClampNeg)) 20 0 0 = (repM J (g 1) a).1
        rw [q2, hsl', nI_clamp (by omega)]
      · show YR (K + 1) (mendI I2 (slotOf I2 a).toNatClampNeg) L2 ((repM J (g 1) a).2 397) (un g (119 + s') 0) σ
        rw [r397 q2, hsl', nI_clamp (by omega)]
        exact R
theorem cmd_6 (H : YR K I L (J 397) g σ) (hK1 : K + 1 ≤ 5000) : CMD K I J L g a b c e f 6 := by
  have hz := H.2.2.1.1.1
  have W := H.2.2.1
  have T := cmd_train H a b
  have ok : okK J (g 0) (g 1) a b c 6 := fun ht hd h3 h4 => by
    obtain ⟨x, hx, ex⟩ := (tkM_g H.2.1 hz a).mp ht
    have ax : a.toNatClampNeg = x := by rw [ex]; exact nI_clamp (by omega)
    have h20 := W.h20 (t := x) (by omega)
    obtain ⟨-, q, hq, eq⟩ := trainF_g H.1 W H.2.1 H.2.2.2.2.2.2 (x := x) (by omega)
    have tn : trN J (g 1) x = nI q := by
      unfold trN
      rw [H.2.1 _ (by omega), nI_clamp (by omega)]
      exact eq
    rw [ax, tn, nI_clamp (by omega)]
    exact (cmd_train_do H hK1 hx eq hq).2.2.1
  refine ⟨ok, ?_⟩
  rcases T with ⟨r, hr, h1, h2⟩ | ⟨h1, h2⟩ | ⟨h1, x, q, ex, hx, hq, et, etn, h2⟩
  · rcases hr with hr | hr | hr <;> subst hr
    · exact Or.inl ⟨0, xIO, rfl, by show excN (trainFt I a b).1 = _; rw [h1]; rfl, by show ¬ (trainFt I a b).1 = 0; rw [h1]; decide, th_2 (r := depM J (g 1) a b) h2⟩
    · exact Or.inl ⟨1, xIA, rfl, by show excN (trainFt I a b).1 = _; rw [h1]; rfl, by show ¬ (trainFt I a b).1 = 0; rw [h1]; decide, th_2 (r := depM J (g 1) a b) h2⟩
    · exact Or.inl ⟨2, xIS, rfl, by show excN (trainFt I a b).1 = _; rw [h1]; rfl, by show ¬ (trainFt I a b).1 = 0; rw [h1]; decide, th_2 (r := depM J (g 1) a b) h2⟩
  · exact Or.inl ⟨3, xUO, rfl, by show excN (trainFt I a b).1 = _; rw [h1]; rfl, by show ¬ (trainFt I a b).1 = 0; rw [h1]; decide, th_2 (r := depM J (g 1) a b) h2⟩
  · refine Or.inr ⟨h1, th_2 (r := depM J (g 1) a b) h2, fun I2 L2 hY hL => ?_⟩
    have H2 : YR K I2 L2 (J 397) g σ := H.sc hY hL
    have h20 := W.h20 (t := x) (by omega)
    have ax : a.toNatClampNeg = x := by rw [ex]; exact nI_clamp (by omega)
    obtain ⟨r1, r2, -, g', σ', R⟩ := cmd_train_do H2 hK1 hx et hq
    have tq : trainF (listO I2 a) (I2 31 a.toNatClampNeg).toNatClampNeg = nI q := by rw [ax, ex]; exact r1
    refine ⟨⟨(hasT_g H2.2.2.2.1 hz a).mpr ⟨x, hx, ex⟩, q, by omega, tq, by rw [ax, ex]; exact r2⟩, ?_, g', σ', ?_⟩
    · show trainF (listO I2 a) (I2 31 a.toNatClampNeg).toNatClampNeg = (depM J (g 1) a b).1
      rw [h2]
      exact tq
    · show YR (K + 1) (sendI (listO I2 a) L2 a.toNatClampNeg (trainF (listO I2 a) (I2 31 a.toNatClampNeg).toNatClampNeg).toNatClampNeg) (up2 L2 1 7 (sendU (listO I2 a) L2 a.toNatClampNeg (trainF (listO I2 a) (I2 31 a.toNatClampNeg).toNatClampNeg).toNatClampNeg).2) ((depM J (g 1) a b).2 397) g' σ'
      rw [r397 h2, tq, nI_clamp (by omega), ax, ex]
      exact R
theorem cmd_k (H : YR K I L (J 397) g σ) (hK1 : K + 1 ≤ 5000) (hk : kk < 7) (hf : kk = 3 → f = 0 ∨ f = 1) : CMD K I J L g a b c e f kk := by
  rcases (by omega : kk = 0 ∨ kk = 1 ∨ kk = 2 ∨ kk = 3 ∨ kk = 4 ∨ kk = 5 ∨ kk = 6) with h | h | h | h | h | h | h <;> subst h
  · exact cmd_0 H hK1
  · exact cmd_1 H hK1
  · exact cmd_2 H hK1
  · exact cmd_3 H hK1 (hf rfl)
  · exact cmd_4 H hK1
  · exact cmd_5 H hK1
  · exact cmd_6 H hK1
end YCO
