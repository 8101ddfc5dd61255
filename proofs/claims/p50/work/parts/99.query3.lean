/-! the time of a move, the nearest track, consistency -/
section YQW
variable {K : Nat} {I J : HI} {L : HL} {g g' σ : Nat → Nat} {x y s t i k u z f : Nat}
theorem ds_all (H : YR K I L (J 397) g σ) : ∀ x y, x < g 0 → y < g 0 → isD (adN g) 1000 y x (dsN g x y) := fun x y hx hy => ds_isD H.2.2.2.2.2.1 H.2.2.1 hx hy
theorem mvD_cH (H : YR K I L (J 397) g σ) (a b c : Int32) : mvD g a b c (moveF I (g 0) a b c).1 := mvD_c H.1 H.2.2.1 H.2.2.2.1 H.2.2.2.2.1 H.2.2.2.2.2.1 H.2.2.2.2.2.2 a b c
theorem mvD_mH (H : YR K I L (J 397) g σ) (a b c : Int32) : mvD g a b c (whM J (g 1) (g 0) a b c).1 := mvD_m H.1 H.2.2.1 H.2.1 (ds_all H) a b c
theorem mv_same (H : YR K I L (J 397) g σ) (a b c : Int32) : (whM J (g 1) (g 0) a b c).1 = (moveF I (g 0) a b c).1 := mvD_u H.2.2.1.1.1 (mvD_mH H a b c) (mvD_cH H a b c)
theorem mvD_5 {a b c r : Int32} (h : mvD g a b c r) : r = 1 ∨ r = 2 ∨ r = 3 ∨ r = 4 ∨ r = 5 ∨ r = 0 := by
  rcases h with ⟨-, h⟩ | ⟨x, y, hx, hy, ⟨-, h⟩ | ⟨q, eq, hxy, q1, q9, ⟨-, h⟩ | ⟨hq, ⟨-, h⟩ | ⟨hd, ⟨-, h⟩ | ⟨-, h⟩⟩⟩⟩⟩
  · exact Or.inl h
  · exact Or.inr (Or.inl h)
  · exact Or.inr (Or.inr (Or.inl h))
  · exact Or.inr (Or.inr (Or.inr (Or.inl h)))
  · exact Or.inr (Or.inr (Or.inr (Or.inr (Or.inl h))))
  · exact Or.inr (Or.inr (Or.inr (Or.inr (Or.inr h))))
theorem moveF_Y {a b c : Int32} : eqY (moveF I (g 0) a b c).2 I := by
  unfold moveF
  split
  · exact fun _ _ _ _ _ _ => rfl
  · split
    · exact fun _ _ _ _ _ _ => rfl
    · split
      · exact fun _ _ _ _ _ _ => rfl
      · split
        · exact eqY.of bfsI_eq
        · exact eqY.of bfsI_eq
theorem ag_shuntT (H : YR K I L (J 397) g σ) (a b c : Int32) : AG [xIO, xIA, xNE] (qo (shuntTQ I (g 0) a b c)) (stiM J (g 1) (g 0) a b c).1 ((stiM J (g 1) (g 0) a b c).2 396 12) := by
  have e := mv_same H a b c
  have D := mvD_cH H a b c
  have hz := H.2.2.1.1.1
  rcases mvD_5 D with r | r | r | r | r | r
  · have em : stiM J (g 1) (g 0) a b c = (0, up2 (whM J (g 1) (g 0) a b c).2 396 12 1) := by
      unfold stiM
      rw [e, r]
      rfl
    have ec : qo (shuntTQ I (g 0) a b c) = (some xIO, 0) := by
      unfold shuntTQ
      rw [r]
      rfl
    exact AG.exM 0 rfl ec em
  · have em : stiM J (g 1) (g 0) a b c = (0, up2 (whM J (g 1) (g 0) a b c).2 396 12 2) := by
      unfold stiM
      rw [e, r]
      rfl
    have ec : qo (shuntTQ I (g 0) a b c) = (some xIA, 0) := by
      unfold shuntTQ
      rw [r]
      rfl
    exact AG.exM 1 rfl ec em
  · have em : stiM J (g 1) (g 0) a b c = (0, up2 (whM J (g 1) (g 0) a b c).2 396 12 3) := by
      unfold stiM
      rw [e, r]
      rfl
    have ec : qo (shuntTQ I (g 0) a b c) = (some xNE, 0) := by
      unfold shuntTQ
      rw [r]
      rfl
    exact AG.exM 2 rfl ec em
  · have em : stiM J (g 1) (g 0) a b c = (0, up2 (whM J (g 1) (g 0) a b c).2 396 12 3) := by
      unfold stiM
      rw [e, r]
      rfl
    have ec : qo (shuntTQ I (g 0) a b c) = (some xNE, 0) := by
      unfold shuntTQ
      rw [r]
      rfl
    exact AG.exM 2 rfl ec em
  · have em : stiM J (g 1) (g 0) a b c = (0, up2 (whM J (g 1) (g 0) a b c).2 396 12 3) := by
      unfold stiM
      rw [e, r]
      rfl
    have ec : qo (shuntTQ I (g 0) a b c) = (some xNE, 0) := by
      unfold shuntTQ
      rw [r]
      rfl
    exact AG.exM 2 rfl ec em
  · rw [r] at D
    obtain ⟨x, y, q, ⟨hx, ex⟩, ⟨hy, ey⟩, eq, hxy, q1, q9, hq, hd, hr⟩ := mvD_ok D
    have ax : a.toNatClampNeg = x := by rw [ex]; exact nI_clamp (by omega)
    have ay : b.toNatClampNeg = y := by rw [ey]; exact nI_clamp (by omega)
    have aq : c.toNatClampNeg = q := by rw [eq]; exact nI_clamp (by omega)
    have H2 : YR K (moveF I (g 0) a b c).2 L (exM J (g 0) y 397) g σ := by
      rw [exM_ne (by decide)]
      exact H.sc moveF_Y rfl
    have m1 := minF_g H2.1 H2.2.2.1 H2.2.2.2.2.1 H2.2.2.2.2.2.1 H2.2.2.2.2.2.2 hx hy hq
    have m2 := miM_g H2.1 H2.2.2.1 H2.2.1 (ds_all H2 x y hx hy) hx hy hq hd
    have em : stiM J (g 1) (g 0) a b c = (nI (mnN g x y q), up2 (exM (exM J (g 0) y) (g 0) y) 396 12 0) := by
      unfold stiM
      rw [e, r, if_neg (by decide), ax, ay, aq, m2]
    have ec : qo (shuntTQ I (g 0) a b c) = (none, nI (mnN g x y q)) := by
      unfold shuntTQ
      rw [r, ax, ay]
      show (none, minF (moveF I (g 0) a b c).2 (g 0) x y c) = _
      rw [eq, ← m1, eq]
    exact AG.okM ec em
/-- the search for the nearest track: what class and model hold -/
def nrR (K : Nat) (I J : HI) (L : HL) (g σ : Nat → Nat) (f : Nat) (u : HI × Int32 × Int32) (w : Int32 × HI) : Prop :=
  eqY u.1 I ∧ (∀ r, r ≠ 403 → w.2 r = J r) ∧ u.2.1 = w.1 ∧ (w.1 = -1 ∨ ∃ b, b < g 0 ∧ w.1 = nI b ∧ dsN g f b < 8 ∧ u.2.2 = nI (mnN g f b 1))
theorem nr_st (H : YR K I L (J 397) g σ) (hf : f < g 0) (hk : k < g 0) {u : HI × Int32 × Int32} {w : Int32 × HI} (R : nrR K I J L g σ f u w) : nrR K I J L g σ f (stNr (g 0) f k u) (nfS (g 1) (g 0) f k w) := by
  obtain ⟨h1, h2, h3, h4⟩ := R
  have hz := H.2.2.1.1.1
  have Hu : YR K u.1 L (w.2 397) g σ := by
    rw [h2 397 (by decide)]
    exact H.sc h1 rfl
  have e := mv_same Hu (nI f) (nI k) 1
  have D := mvD_cH Hu (nI f) (nI k) 1
  have hy2 : eqY (moveF u.1 (g 0) (nI f) (nI k) 1).2 I := fun a a1 a2 a3 a4 a5 => (moveF_Y a a1 a2 a3 a4 a5).trans (h1 a a1 a2 a3 a4 a5)
  have hw2 : ∀ r, r ≠ 403 → (whM w.2 (g 1) (g 0) (nI f) (nI k) 1).2 r = J r := fun r hr => (whM_ne hr).trans (h2 r hr)
  by_cases c : (moveF u.1 (g 0) (nI f) (nI k) 1).1 = 0
  · rw [c] at D e
    obtain ⟨x, y, q, ⟨hx, ex⟩, ⟨hy, ey⟩, eq, hxy, q1, q9, hq, hd, hr⟩ := mvD_ok D
    have x1 : x = f := nI_inj (by omega) (by omega) ex.symm
    have y1 : y = k := nI_inj (by omega) (by omega) ey.symm
    have qq : q = 1 := nI_inj (b := 1) (by omega) (by omega) eq.symm
    subst x1
    subst y1
    subst qq
    have H2 : YR K (moveF u.1 (g 0) (nI x) (nI y) 1).2 L ((whM w.2 (g 1) (g 0) (nI x) (nI y) 1).2 397) g σ := by
      rw [hw2 397 (by decide)]
      exact H.sc hy2 rfl
    have m1 : minF (moveF u.1 (g 0) (nI x) (nI y) 1).2 (g 0) x y 1 = nI (mnN g x y 1) := minF_g (q := 1) H2.1 H2.2.2.1 H2.2.2.2.2.1 H2.2.2.2.2.2.1 H2.2.2.2.2.2.2 hx hy hq
    have hb3 : eqY (bfsI (moveF u.1 (g 0) (nI x) (nI y) 1).2 (g 0) y) I := fun a a1 a2 a3 a4 a5 => (bfsI_ne2 a2 a3 a4 a5).trans (hy2 a a1 a2 a3 a4 a5)
    have wt := mnN_le H2.1 H2.2.2.1 hx hy hq (by omega) hd
    unfold stNr nfS
    rw [if_pos c, m1, e, if_neg (show ¬ ¬ (0 : Int32) = 0 from fun q => q rfl)]
    by_cases d : w.1 = -1
    · rw [if_pos (Or.inl (h3.trans d)), if_pos d]
      exact ⟨hb3, hw2, rfl, Or.inr ⟨y, hy, rfl, hd, rfl⟩⟩
    · rcases h4 with h4 | ⟨b, hb, eb, hdb, el⟩
      · exact absurd h4 d
      · have bcl : w.1.toNatClampNeg = b := by rw [eb]; exact nI_clamp (by omega)
        have ucl : u.2.1.toNatClampNeg = b := by rw [h3]; exact bcl
        have tb := mnN_le H2.1 H2.2.2.1 hx hb hq (by omega) hdb
        have W := H.2.2.1
        have us1 := (W.2.2.1 y hy).2
        have us2 := (W.2.2.1 b hb).2
        have cb1 := (W.2.1 y (by omega)).1
        have cb2 := (W.2.1 b (by omega)).1
        have fr : ∀ j, j < g 0 → frT (bfsI (moveF u.1 (g 0) (nI x) (nI y) 1).2 (g 0) y) j = nI (g (7 + j) - usN g j) := fun j hj => by
          have T := hb3.t H.2.2.2.2.1 j (by omega)
          have us := (W.2.2.1 j hj).2
          unfold frT
          rw [T.1, T.2.2.2, pk_sub us]
        have b1 : miM (whM w.2 (g 1) (g 0) (nI x) (nI y) 1).2 (g 1) (g 0) x b 1 = nI (mnN g x b 1) := miM_g H2.1 H2.2.2.1 H2.2.1 (ds_all H2 x b hx hb) hx hb hq hdb
        have V3 : GV (exM (whM w.2 (g 1) (g 0) (nI x) (nI y) 1).2 (g 0) b 397) g := exM_gv H2.2.1
        have b2 : miM (exM (whM w.2 (g 1) (g 0) (nI x) (nI y) 1).2 (g 0) b) (g 1) (g 0) x y 1 = nI (mnN g x y 1) := miM_g H2.1 H2.2.2.1 V3 (ds_all H2 x y hx hy) hx hy hq hd
        have V4 : GV (exM (exM (whM w.2 (g 1) (g 0) (nI x) (nI y) 1).2 (g 0) b) (g 0) y 397) g := exM_gv V3
        have ro : ∀ j, j < g 0 → roM (exM (exM (whM w.2 (g 1) (g 0) (nI x) (nI y) 1).2 (g 0) b) (g 0) y) (g 1) j = nI (g (7 + j) - usN g j) := fun j hj => by
          rw [roM_g H2.1 W V4 (by omega), pk_sub (W.2.2.1 j hj).2]
        have bb : beM (whM w.2 (g 1) (g 0) (nI x) (nI y) 1).2 (g 1) (g 0) x y b ↔ (mnN g x y 1 < mnN g x b 1 ∨ (mnN g x y 1 = mnN g x b 1 ∧ g (7 + b) - usN g b < g (7 + y) - usN g y)) := by
          unfold beM beL
          rw [b1, b2, (sub_g (by omega) (by omega)).1, (sub_g (by omega) (by omega)).2, ro b hb, ro y hy, nI_ltI (by omega) (by omega)]
          omega
        have cc : (u.2.1 = -1 ∨ nI (mnN g x y 1) < u.2.2 ∨ (nI (mnN g x y 1) = u.2.2 ∧ frT (bfsI (moveF u.1 (g 0) (nI x) (nI y) 1).2 (g 0) y) u.2.1.toNatClampNeg < frT (bfsI (moveF u.1 (g 0) (nI x) (nI y) 1).2 (g 0) y) y)) ↔ (mnN g x y 1 < mnN g x b 1 ∨ (mnN g x y 1 = mnN g x b 1 ∧ g (7 + b) - usN g b < g (7 + y) - usN g y)) := by
          rw [ucl, el, fr b hb, fr y hy, nI_ltI (by omega) (by omega), nI_ltI (by omega) (by omega), nI_eq (by omega) (by omega), h3]
          constructor
          · intro e
            rcases e with e | e
            · exact absurd e d
            · exact e
          · intro e
            exact Or.inr e
        have hw3 : ∀ r, r ≠ 403 → exM (exM (whM w.2 (g 1) (g 0) (nI x) (nI y) 1).2 (g 0) b) (g 0) y r = J r := fun r hr => (exM_ne hr).trans ((exM_ne hr).trans (hw2 r hr))
        rw [if_neg d, bcl]
        by_cases e2 : mnN g x y 1 < mnN g x b 1 ∨ (mnN g x y 1 = mnN g x b 1 ∧ g (7 + b) - usN g b < g (7 + y) - usN g y)
        · rw [if_pos (cc.mpr e2), if_pos (bb.mpr e2)]
          exact ⟨hb3, hw3, rfl, Or.inr ⟨y, hy, rfl, hd, rfl⟩⟩
        · rw [if_neg (fun q => e2 (cc.mp q)), if_neg (fun q => e2 (bb.mp q))]
          exact ⟨hb3, hw3, h3, Or.inr ⟨b, hb, eb, hdb, el⟩⟩
  · unfold stNr nfS
    rw [if_neg c, if_pos (by rw [e]; exact c)]
    exact ⟨hy2, hw2, h3, h4⟩
theorem nr_lo (H : YR K I L (J 397) g σ) (hf : f < g 0) : ∀ n k u w, n + k = g 0 → nrR K I J L g σ f u w → nrR K I J L g σ f (fo (stNr (g 0) f) n k u) (fo (nfS (g 1) (g 0) f) n k w)
  | 0, k, u, w, h, R => R
  | n + 1, k, u, w, h, R => nr_lo H hf n (k + 1) _ _ (by omega) (nr_st H hf (by omega) R)
theorem ag_near (H : YR K I L (J 397) g σ) (t : Int32) : AG [xIO, xNE] (qo (nearQ I (g 0) t)) (nfM J (g 1) (g 0) t).1 ((nfM J (g 1) (g 0) t).2 396 12) := by
  have hz := H.2.2.1.1.1
  by_cases h1 : hasT I t
  · obtain ⟨x, hx, e⟩ := (hasT_g H.2.2.2.1 hz t).mp h1
    have e2 : t.toNatClampNeg = x := by rw [e]; exact nI_clamp (by omega)
    have n1 : ¬ ¬ tkM J t := fun q => q ((tk_iff H t).mp h1)
    have R := nr_lo H hx (g 0) 0 (I, -1, 0) (-1, J) (by omega) ⟨fun _ _ _ _ _ _ => rfl, fun _ _ => rfl, rfl, Or.inl rfl⟩
    have r3 := R.2.2.1
    by_cases d : (fo (nfS (g 1) (g 0) x) (g 0) 0 (-1, J)).1 = -1
    · have em : nfM J (g 1) (g 0) t = (0, up2 (fo (nfS (g 1) (g 0) x) (g 0) 0 (-1, J)).2 396 12 2) := by
        unfold nfM
        rw [if_neg n1, e2, if_pos d]
      have ec : qo (nearQ I (g 0) t) = (some xNE, 0) := by
        unfold nearQ nearU
        rw [trkX_y h1, e2, r3, if_pos d]
        rfl
      exact AG.exM 1 rfl ec em
    · have em : nfM J (g 1) (g 0) t = ((fo (nfS (g 1) (g 0) x) (g 0) 0 (-1, J)).1, up2 (fo (nfS (g 1) (g 0) x) (g 0) 0 (-1, J)).2 396 12 0) := by
        unfold nfM
        rw [if_neg n1, e2, if_neg d]
      have ec : qo (nearQ I (g 0) t) = (none, (fo (nfS (g 1) (g 0) x) (g 0) 0 (-1, J)).1) := by
        unfold nearQ nearU
        rw [trkX_y h1, e2, r3, if_neg d]
        rfl
      exact AG.okM ec em
  · have em : nfM J (g 1) (g 0) t = (0, up2 J 396 12 1) := if_pos (fun e => h1 ((tk_iff H t).mpr e))
    have ec : qo (nearQ I (g 0) t) = (some xIO, 0) := by
      unfold nearQ
      rw [trkX_n h1]
      rfl
    exact AG.exM 0 rfl ec em
theorem ds_sym (H : YR K I L (J 397) g σ) (hx : x < g 0) (hy : y < g 0) : dsN g x y = dsN g y x := by
  have W := H.2.2.1
  have a := ds_all H x y hx hy
  have b := ds_all H y x hy hx
  have sy := fun k t i => wk_sym (ad := adN g) (adN_s W) (t := t) k i
  have c : isD (adN g) 1000 x y (dsN g x y) := by
    rcases a with ⟨a1, a2⟩ | ⟨a1, a2, a3⟩
    · exact Or.inl ⟨a1, fun k h => a2 k (sy k x y h)⟩
    · exact Or.inr ⟨a1, sy _ y x a2, fun k hk h => a3 k hk (sy k x y h)⟩
  rcases isD_two b c with ⟨p, q⟩ | ⟨p, q⟩ <;> omega
theorem way_g (H : YR K I L (J 397) g σ) : ∀ n k O, n + k = g 0 → eqY O I → O 14 = matI I (g 0) 14 → (wayF (g 0) n k O).1 = 1 ∧ eqY (wayF (g 0) n k O).2 I
  | 0, k, O, h, h1, h2 => ⟨rfl, h1⟩
  | n + 1, k, O, h, h1, h2 => by
    have hk : k < g 0 := by omega
    have H1 : YR K O L (J 397) g σ := H.sc h1 rfl
    have o14 : bfsI O (g 0) k 14 = matI I (g 0) 14 := (bfs_ne H1 hk (by decide) (by decide)).trans h2
    have oY : eqY (bfsI O (g 0) k) I := fun a a1 a2 a3 a4 a5 => (bfsI_ne2 a2 a3 a4 a5).trans (h1 a a1 a2 a3 a4 a5)
    have al : alD (fun s => bfsI O (g 0) k 10 s = bfsI O (g 0) k 14 (k * 8 + s)) (g 0) 0 = 1 := by
      rcases alD_iff (p := fun s => bfsI O (g 0) k 10 s = bfsI O (g 0) k 14 (k * 8 + s)) (g 0) 0 with ⟨q, -⟩ | ⟨-, i, -, hi, q⟩
      · exact q
      · exfalso
        have hi2 : i < g 0 := by omega
        refine q ?_
        show bfsI O (g 0) k 10 i = bfsI O (g 0) k 14 (k * 8 + i)
        rw [o14, (bfs_d H1.2.2.2.2.2.1 H.2.2.1 hi2 hk).1, mat_d H.2.2.2.2.2.1 H.2.2.1 hk hi2, ds_sym H hi2 hk]
    unfold wayF
    rw [if_pos al]
    exact way_g H n (k + 1) _ (by omega) oY o14
theorem sound_g (H : YR K I L (J 397) g σ) : ∀ n k O, n + k = g 0 → eqY O I → (soundF n k O).1 = 1 ∧ eqY (soundF n k O).2 I
  | 0, k, O, h, h1 => ⟨rfl, h1⟩
  | n + 1, k, O, h, h1 => by
    have hz := H.2.2.1.1.1
    have W := H.2.2.1
    have hk : k < g 0 := by omega
    have k8 : k < 8 := by omega
    have h20 := W.h20 k8
    have lY : ∀ {P : HI}, eqY P I → eqY (listO P (nI k)) I := fun hp a a1 a2 a3 a4 a5 => (listO_Y a a1 a2 a3 a4 a5).trans (hp a a1 a2 a3 a4 a5)
    have lD : ∀ {P : HI}, eqY P I → ∀ p, p < g (31 + k) → listO P (nI k) 35 p = nI (dN g k p) := fun hp p h => listO_g H.1 W (hp.c H.2.2.2.2.2.2) k8 h
    have d9 : ∀ p, p < g (31 + k) → dN g k p ≤ 9 := fun p hp => dN_9 H.1 W k8 hp
    have hh : (O 31 k).toNatClampNeg = g (31 + k) := by rw [(h1.t H.2.2.2.2.1 k k8).2.2.1]; exact nI_clamp (by omega)
    have e1 := pairsF_n (lD h1) d9
    have e2 := shiftsF_n h20 (lD (lY h1)) d9
    have sY : eqY (shiftsF (listO (listO O (nI k)) (nI k)) (g (31 + k))).1 I := fun a a1 a2 a3 a4 a5 => (e2.2 a a5).trans (lY (lY h1) a a1 a2 a3 a4 a5)
    have e3 := nvi_n (lD sY) d9
    have T := (lY sY).t H.2.2.2.2.1 k k8
    have us := (W.2.2.1 k hk).2
    have cb := (W.2.1 k k8).1
    have pb : prN (dN g k) (g (31 + k)) ≤ 20 * 20 := by
      have a : prN (dN g k) (g (31 + k)) ≤ 20 * g (31 + k) := sN_le (fun i hi => by
        have b : sN (fun j => if dN g k j < dN g k i then 1 else 0) i ≤ 1 * i := sN_le (fun j hj => by
          show (if dN g k j < dN g k i then 1 else 0) ≤ 1
          split <;> omega)
        show sN (fun j => if dN g k j < dN g k i then 1 else 0) i ≤ 20
        omega)
      omega
    unfold soundF
    rw [hh, e1, if_pos e2.1.symm]
    have e4 : nvi (listO (shiftsF (listO (listO O (nI k)) (nI k)) (g (31 + k))).1 (nI k)) (g (31 + k)) = (if nI (prN (dN g k) (g (31 + k))) = 0 then 1 else 0) := by
      rw [e3]
      by_cases d : prN (dN g k) (g (31 + k)) = 0
      · rw [if_pos d, if_pos (by rw [d]; rfl)]
      · have d2 : ¬ nI (prN (dN g k) (g (31 + k))) = 0 := fun q => d (nI_inj (b := 0) (by omega) (by omega) q)
        rw [if_neg d, if_neg d2]
    rw [if_pos e4, T.1, T.2.2.2, if_neg (nI_nlt us (by omega))]
    exact sound_g H n (k + 1) _ (by omega) (lY sY)
theorem matI_Y (H : YR K I L (J 397) g σ) : eqY (matI I (g 0)) I := fun a _ _ _ a4 _ => (mat_spec (cj_l H.2.2.2.2.2.1 H.2.2.1) (adN_i H.2.2.1) (adN_z H.2.2.1) H.2.2.1.1.1).1 a a4
theorem cons_g (H : YR K I L (J 397) g σ) : (consF I (g 0)).1 = 1 ∧ eqY (consF I (g 0)).2 I := by
  have w := way_g H (g 0) 0 (matI I (g 0)) (by omega) (matI_Y H) rfl
  have n : ¬ (wayF (g 0) (g 0) 0 (matI I (g 0))).1 = 0 := by rw [w.1]; decide
  have H1 : YR K (wayF (g 0) (g 0) 0 (matI I (g 0))).2 L (J 397) g σ := H.sc w.2 rfl
  have s := sound_g H1 (g 0) 0 _ (by omega) (fun _ _ _ _ _ _ => rfl)
  unfold consF
  rw [if_neg n]
  refine ⟨?_, fun a a1 a2 a3 a4 a5 => (s.2 a a1 a2 a3 a4 a5).trans (w.2 a a1 a2 a3 a4 a5)⟩
  show (if (soundF (g 0) 0 (wayF (g 0) (g 0) 0 (matI I (g 0))).2).1 = 0 then (0 : Int32) else 1) = 1
  rw [s.1]
  rfl
end YQW
