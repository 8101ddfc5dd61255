/-! reading one command: class and model -/
section YCM
variable {tx : Nat → Int32} {q : Nat}
def kc (k : Nat) : Int32 := [116, 115, 117, 99, 104, 114, 105].getD k 0
def cn (k : Nat) : Nat := [2, 2, 2, 5, 3, 1, 2].getD k 0
theorem fk {ct i p vt : Nat} {V : Nat → Int32} (hi : i < 7) : fitL tx q ct i (jshl.getD i 0) 0 p vt V = fitS tx q ct (jshb.getD i []) p vt V := by
  have e : (jshb.getD i []).length = jshl.getD i 0 := by
    have h : ∀ i, i < 7 → (jshb.getD i []).length = jshl.getD i 0 := by decide
    exact h i hi
  rw [← e]
  exact fitL_S _ 0 p vt V (fun m hm => by
    rw [Nat.zero_add]
    rfl)
theorem fs_y {ct p vt : Nat} {V : Nat → Int32} {c : Int32} {r : List Int32} (h : c ≠ 68 ∧ c ≠ 78 ∧ c ≠ 33) (hc : chA tx q p = c) : fitS tx q ct (c :: r) p vt V = fitS tx q ct r (p + 1) vt V := by
  have pf : partF tx q ct c p vt V = (1, p + 1, vt, V) := by
    unfold partF
    rw [if_neg h.1, if_neg h.2.1, if_neg h.2.2, if_pos hc]
  show (if (partF tx q ct c p vt V).1 = 0 then _ else fitS tx q ct r (partF tx q ct c p vt V).2.1 (partF tx q ct c p vt V).2.2.1 (partF tx q ct c p vt V).2.2.2) = _
  rw [pf]
  exact if_neg (show ¬ (1 : Int32) = 0 by decide)
theorem fs_n {ct p vt : Nat} {V : Nat → Int32} {c : Int32} {r : List Int32} (h : c ≠ 68 ∧ c ≠ 78 ∧ c ≠ 33) (hc : ¬ chA tx q p = c) : fitS tx q ct (c :: r) p vt V = (0, p, vt, V) := by
  have pf : partF tx q ct c p vt V = (0, p, vt, V) := by
    unfold partF
    rw [if_neg h.1, if_neg h.2.1, if_neg h.2.2, if_neg hc]
  show (if (partF tx q ct c p vt V).1 = 0 then (0, (partF tx q ct c p vt V).2) else _) = _
  rw [pf]
  rfl
theorem fs_ge {ct : Nat} : ∀ (l : List Int32) p vt V, p ≤ (fitS tx q ct l p vt V).2.1
  | [], p, vt, V => Nat.le_refl _
  | c :: r, p, vt, V => by
    have hp : p ≤ (partF tx q ct c p vt V).2.1 := by
      unfold partF
      split
      · exact (dgF_le 1 p 0).1
      · split
        · exact (dgF_le 2 p 0).1
        · split
          · show p ≤ if chA tx q p = 33 then p + 1 else p
            split <;> omega
          · split
            · exact Nat.le_succ _
            · exact Nat.le_refl _
    unfold fitS
    split
    · exact hp
    · exact Nat.le_trans hp (fs_ge r _ _ _)
theorem fs_app {ct : Nat} : ∀ (l1 l2 : List Int32) p vt V, fitS tx q ct (l1 ++ l2) p vt V = if (fitS tx q ct l1 p vt V).1 = 0 then fitS tx q ct l1 p vt V else fitS tx q ct l2 (fitS tx q ct l1 p vt V).2.1 (fitS tx q ct l1 p vt V).2.2.1 (fitS tx q ct l1 p vt V).2.2.2
  | [], l2, p, vt, V => (if_neg (show ¬ (1 : Int32) = 0 by decide)).symm
  | c :: r, l2, p, vt, V => by
    by_cases h : (partF tx q ct c p vt V).1 = 0
    · have e1 : ∀ l, fitS tx q ct (c :: l) p vt V = (0, (partF tx q ct c p vt V).2) := fun l => if_pos h
      show fitS tx q ct (c :: (r ++ l2)) p vt V = _
      rw [e1, e1, if_pos rfl]
    · have e1 : ∀ l, fitS tx q ct (c :: l) p vt V = fitS tx q ct l (partF tx q ct c p vt V).2.1 (partF tx q ct c p vt V).2.2.1 (partF tx q ct c p vt V).2.2.2 := fun l => if_neg h
      show fitS tx q ct (c :: (r ++ l2)) p vt V = _
      rw [e1, e1]
      exact fs_app r l2 _ _ _
theorem rc_n {ct p k n f vt e vt' : Nat} {V V' : Nat → Int32} (hk : k < 7) (h : fitS tx q ct (jshb.getD k []) p 0 V = (0, e, vt', V')) : rcL tx q ct p (n + 1) k f vt V = rcL tx q ct p n (k + 1) (max f e) (ct * 5 + vt') V' := by
  show (if (fitL tx q ct k (jshl.getD k 0) 0 p 0 V).1 = 0 then rcL tx q ct p n (k + 1) (max f (fitL tx q ct k (jshl.getD k 0) 0 p 0 V).2.1) (ct * 5 + (fitL tx q ct k (jshl.getD k 0) 0 p 0 V).2.2.1) (fitL tx q ct k (jshl.getD k 0) 0 p 0 V).2.2.2 else _) = _
  rw [fk hk, h, if_pos rfl]
theorem rc_y {ct p k n f vt : Nat} {V : Nat → Int32} (hk : k < 7) (h : (fitS tx q ct (jshb.getD k []) p 0 V).1 = 1) : rcL tx q ct p (n + 1) k f vt V = (1, k, (fitS tx q ct (jshb.getD k []) p 0 V).2.1, ct * 5 + (fitS tx q ct (jshb.getD k []) p 0 V).2.2.1, (fitS tx q ct (jshb.getD k []) p 0 V).2.2.2) := by
  show (if (fitL tx q ct k (jshl.getD k 0) 0 p 0 V).1 = 0 then _ else (1, k, (fitL tx q ct k (jshl.getD k 0) 0 p 0 V).2.1, ct * 5 + (fitL tx q ct k (jshl.getD k 0) 0 p 0 V).2.2.1, (fitL tx q ct k (jshl.getD k 0) 0 p 0 V).2.2.2)) = _
  rw [fk hk, if_neg (by rw [h]; decide)]
/-- class and model have read a command, or stopped at the same place -/
def CMO (R : CS) (s : MS) (V P : Nat → Int32) (ct k : Nat) : Prop := (∀ x, x < ct * 5 → R.2.2.2.2 x = V x) ∧ (∀ x, x < k → s.2.2 x = P x) ∧ ((R.1 = 0 ∧ s.2.1 = 1 ∧ R.2.2.1 = s.1) ∨ (R.1 = 1 ∧ s.2.1 = 0 ∧ R.2.2.1 = s.1 ∧ R.2.1 < 7 ∧ s.2.2 k = kc R.2.1 ∧ (∀ x, x < cn R.2.1 → R.2.2.2.2 (ct * 5 + x) = s.2.2 (k + 1 + x)) ∧ (R.2.1 = 3 → s.2.2 (k + 5) = 0 ∨ s.2.2 (k + 5) = 1)))
/-- shapes that stop at once leave all as it was -/
theorem rc_skip {ct p E : Nat} : ∀ n k f vt (V : Nat → Int32), (∀ i, k ≤ i → i < k + n → ∃ e, e ≤ E ∧ ∀ V, fitS tx q ct (jshb.getD i []) p 0 V = (0, e, 0, V)) → k + n ≤ 7 → f ≤ E → ∃ f' vt', f' ≤ E ∧ f ≤ f' ∧ ∀ m, rcL tx q ct p (n + m) k f vt V = rcL tx q ct p m (k + n) f' vt' V
  | 0, k, f, vt, V, h, hk, hf => ⟨f, vt, hf, Nat.le_refl _, fun m => by rw [Nat.zero_add]; rfl⟩
  | n + 1, k, f, vt, V, h, hk, hf => by
    obtain ⟨e, he, hV⟩ := h k (Nat.le_refl _) (by omega)
    obtain ⟨f', vt', h1, h2, h3⟩ := rc_skip (ct := ct) (p := p) (E := E) n (k + 1) (max f e) (ct * 5 + 0) V (fun i h1 h2 => h i (by omega) (by omega)) (by omega) (by omega)
    refine ⟨f', vt', h1, by omega, fun m => ?_⟩
    rw [show n + 1 + m = (n + m) + 1 by omega, rc_n (by omega) (hV V), h3 m, show k + 1 + n = k + (n + 1) by omega]
/-- one shape is the one that counts: the others stop no later than it does -/
theorem cm_one {ct p k kk : Nat} {V P P1 : Nat → Int32} {s : MS} (hkk : kk < 7)
    (hO : OUT (fitS tx q ct (jshb.getD kk []) p 0 V) s V P1 (ct * 5 + 0) (k + 1) 0 (cn kk)) (hP1 : ∀ x, x < k → P1 x = P x) (hPk : P1 k = kc kk) (h3 : kk = 3 → s.2.2 (k + 5) = 0 ∨ s.2.2 (k + 5) = 1)
    (ho : ∀ i, i < 7 → i ≠ kk → ∃ e, e ≤ (fitS tx q ct (jshb.getD kk []) p 0 V).2.1 ∧ ∀ V, fitS tx q ct (jshb.getD i []) p 0 V = (0, e, 0, V)) (vt : Nat) : CMO (rcL tx q ct p 7 0 p vt V) s V P ct k := by
  have hge := fs_ge (tx := tx) (q := q) (ct := ct) (jshb.getD kk []) p 0 V
  obtain ⟨f1, vt1, a1, a2, a3⟩ := rc_skip (tx := tx) (q := q) (ct := ct) (p := p) (E := (fitS tx q ct (jshb.getD kk []) p 0 V).2.1) kk 0 p vt V (fun i h1 h2 => ho i (by omega) (by omega)) (by omega) hge
  have b := a3 (7 - kk)
  rw [show kk + (7 - kk) = 7 by omega, Nat.zero_add] at b
  rw [b]
  obtain ⟨o1, o2, o3⟩ := hO
  rw [Nat.add_zero] at o1 o3
  rcases o3 with ⟨c1, c2, c3⟩ | ⟨c1, c2, c3, c4, c5⟩
  · have st : fitS tx q ct (jshb.getD kk []) p 0 V = (0, (fitS tx q ct (jshb.getD kk []) p 0 V).2.1, (fitS tx q ct (jshb.getD kk []) p 0 V).2.2.1, (fitS tx q ct (jshb.getD kk []) p 0 V).2.2.2) := by
      rw [← c1]
    obtain ⟨f2, vt2, d1, d2, d3⟩ := rc_skip (tx := tx) (q := q) (ct := ct) (p := p) (E := (fitS tx q ct (jshb.getD kk []) p 0 V).2.1) (6 - kk) (kk + 1) (max f1 (fitS tx q ct (jshb.getD kk []) p 0 V).2.1) (ct * 5 + (fitS tx q ct (jshb.getD kk []) p 0 V).2.2.1) (fitS tx q ct (jshb.getD kk []) p 0 V).2.2.2 (fun i h1 h2 => ho i (by omega) (by omega)) (by omega) (by omega)
    have e := d3 0
    rw [show 7 - kk = (6 - kk) + 1 by omega, rc_n hkk st]
    rw [Nat.add_zero] at e
    rw [e]
    refine ⟨fun x hx => o1 x hx, fun x hx => (o2 x (by omega)).trans (hP1 x hx), Or.inl ⟨rfl, c2, ?_⟩⟩
    show f2 = s.1
    omega
  · rw [show 7 - kk = (6 - kk) + 1 by omega, rc_y hkk c1]
    exact ⟨fun x hx => o1 x hx, fun x hx => (o2 x (by omega)).trans (hP1 x hx), Or.inr ⟨rfl, c2, c3, hkk, (o2 k (by omega)).trans hPk, c5, h3⟩⟩
theorem fail1 {ct k p : Nat} {V : Nat → Int32} (hk : k < 7) (h : ¬ chA tx q p = (jshb.getD k []).getD 0 0) : fitS tx q ct (jshb.getD k []) p 0 V = (0, p, 0, V) := by
  have H : ∀ k, k < 7 → ∃ r, jshb.getD k [] = (jshb.getD k []).getD 0 0 :: r ∧ (jshb.getD k []).getD 0 0 ≠ 68 ∧ (jshb.getD k []).getD 0 0 ≠ 78 ∧ (jshb.getD k []).getD 0 0 ≠ 33 := by
    intro k hk
    rcases (by omega : k = 0 ∨ k = 1 ∨ k = 2 ∨ k = 3 ∨ k = 4 ∨ k = 5 ∨ k = 6) with e | e | e | e | e | e | e <;> subst e <;> exact ⟨_, rfl, by decide, by decide, by decide⟩
  obtain ⟨r, e, h3⟩ := H k hk
  generalize (jshb.getD k []).getD 0 0 = c at *
  rw [e]
  exact fs_n h3 h
theorem fail2 {ct k p : Nat} {V : Nat → Int32} {c1 c2 : Int32} {r : List Int32} (e : jshb.getD k [] = c1 :: c2 :: r) (h1 : c1 ≠ 68 ∧ c1 ≠ 78 ∧ c1 ≠ 33) (h2 : c2 ≠ 68 ∧ c2 ≠ 78 ∧ c2 ≠ 33) (hc : chA tx q p = c1) (hn : ¬ chA tx q (p + 1) = c2) : fitS tx q ct (jshb.getD k []) p 0 V = (0, p + 1, 0, V) := by
  rw [e, fs_y h1 hc, fs_n h2 hn]
theorem mR_0 {c : Int32} {r : List (Int32 × Nat)} {i : Nat} {s : MS} : mR tx q ((c, 0) :: r) i s = mR tx q r i (nd tx q c s) := by
  show (if (0 : Nat) = 0 then mR tx q r i (nd tx q c s) else _) = _
  exact if_pos rfl
theorem mR_1 {c : Int32} {n : Nat} {r : List (Int32 × Nat)} {i : Nat} {s : MS} : mR tx q ((c, n + 1) :: r) i s = mR tx q r (i + 1) (dw tx q c (n + 1) i s) := by
  show (if n + 1 = 0 then _ else mR tx q r (i + 1) (dw tx q c (n + 1) i s)) = _
  exact if_neg (Nat.succ_ne_zero n)
theorem mR_e {i : Nat} {s : MS} : mR tx q [] i s = s := rfl
theorem wr_v {a i : Nat} {b c : Int32} {P : Nat → Int32} : wr (a, b, P) i c = (a, b, upV P i c) := rfl
theorem pS_y {k : Nat} {s : MS} (h : chA tx q s.1 = 104) : pS tx q k s = dw tx q 32 1 (k + 3) (dw tx q 62 1 (k + 2) (dw tx q 32 1 (k + 1) (nd tx q 116 (nd tx q 110 (nd tx q 117 (nd tx q 104 (wr s k 104))))))) := if_pos h
theorem pS_n {k : Nat} {s : MS} (h : ¬ chA tx q s.1 = 104) : pS tx q k s = dw tx q 45 1 (k + 2) (dw tx q 32 1 (k + 1) (nd tx q 104 (nd tx q 99 (nd tx q 116 (nd tx q 105 (nd tx q 119 s)))))) := if_neg h
theorem pC_y {k : Nat} {s : MS} (h : chA tx q s.1 = 117) : pC tx q k s = dw tx q 45 1 (k + 2) (dw tx q 32 1 (k + 1) (nd tx q 116 (nd tx q 117 (wr s k 117)))) := if_pos h
theorem pC_n {k : Nat} {s : MS} (h : ¬ chA tx q s.1 = 117) : pC tx q k s = if (pC5 tx q k s).2.1 = 0 ∧ chA tx q (pC5 tx q k s).1 = 33 then ((pC5 tx q k s).1 + 1, (pC5 tx q k s).2.1, upV (pC5 tx q k s).2.2 (k + 5) 1) else wr (pC5 tx q k s) (k + 5) 0 := if_neg h
theorem pT_y {k : Nat} {s : MS} (h : (nd tx q 97 (nd tx q 114 s)).2.1 = 0 ∧ chA tx q (nd tx q 97 (nd tx q 114 s)).1 = 105) : pT tx q k s = dw tx q 32 1 (k + 2) (dw tx q 32 1 (k + 1) (nd tx q 110 (nd tx q 105 (wr (nd tx q 97 (nd tx q 114 s)) k 105)))) := by
  unfold pT
  rw [if_pos h]
theorem pT_n {k : Nat} {s : MS} (h : ¬ ((nd tx q 97 (nd tx q 114 s)).2.1 = 0 ∧ chA tx q (nd tx q 97 (nd tx q 114 s)).1 = 105)) : pT tx q k s = dw tx q 32 1 (k + 2) (dw tx q 32 2 (k + 1) (nd tx q 107 (nd tx q 99 (nd tx q 97 (nd tx q 114 s))))) := by
  unfold pT
  rw [if_neg h]
theorem sh0 : jshb.getD 0 [] = 116 :: tkC [(114, 0), (97, 0), (99, 0), (107, 0), (32, 2), (32, 1)] := rfl
theorem sh1 : jshb.getD 1 [] = 115 :: tkC [(119, 0), (105, 0), (116, 0), (99, 0), (104, 0), (32, 1), (45, 1)] := rfl
theorem sh2 : jshb.getD 2 [] = 99 :: tkC [(117, 0), (116, 0), (32, 1), (45, 1)] := rfl
theorem sh3 : jshb.getD 3 [] = 99 :: (tkC [(97, 0), (114, 0), (32, 1), (32, 2), (32, 2), (32, 1)] ++ [33]) := rfl
theorem sh4 : jshb.getD 4 [] = 115 :: tkC [(104, 0), (117, 0), (110, 0), (116, 0), (32, 1), (62, 1), (32, 1)] := rfl
theorem sh5 : jshb.getD 5 [] = 114 :: tkC [(101, 0), (112, 0), (97, 0), (105, 0), (114, 0), (32, 2)] := rfl
theorem sh6 : jshb.getD 6 [] = 116 :: tkC [(114, 0), (97, 0), (105, 0), (110, 0), (32, 1), (32, 1)] := rfl
theorem ok_ne {c d : Int32} (h : c = d) {e : Int32} (hd : d ≠ e) : ¬ c = e := by
  rw [h]
  exact hd
/-- the model's whole command, from its first sign on -/
theorem pX_t {p k : Nat} {P : Nat → Int32} (h : chA tx q p = 116) : pX tx q k (p, 0, P) = pT tx q k (p + 1, 0, upV P k 116) := if_pos h
theorem pX_s {p k : Nat} {P : Nat → Int32} (h : chA tx q p = 115) : pX tx q k (p, 0, P) = pS tx q k (p + 1, 0, upV P k 115) := by
  unfold pX
  rw [if_neg (show ¬ chA tx q p = 116 from ok_ne h (by decide)), if_pos (show chA tx q p = 115 from h)]
theorem pX_c {p k : Nat} {P : Nat → Int32} (h : chA tx q p = 99) : pX tx q k (p, 0, P) = pC tx q k (p + 1, 0, upV P k 99) := by
  unfold pX
  rw [if_neg (show ¬ chA tx q p = 116 from ok_ne h (by decide)), if_neg (show ¬ chA tx q p = 115 from ok_ne h (by decide)), if_pos (show chA tx q p = 99 from h)]
theorem pX_r {p k : Nat} {P : Nat → Int32} (h : chA tx q p = 114) : pX tx q k (p, 0, P) = mR tx q [(101, 0), (112, 0), (97, 0), (105, 0), (114, 0), (32, 2)] (k + 1) (p + 1, 0, upV P k 114) := by
  unfold pX
  rw [if_neg (show ¬ chA tx q p = 116 from ok_ne h (by decide)), if_neg (show ¬ chA tx q p = 115 from ok_ne h (by decide)), if_neg (show ¬ chA tx q p = 99 from ok_ne h (by decide)), if_pos (show chA tx q p = 114 from h), mR_0, mR_0, mR_0, mR_0, mR_0, mR_1, mR_e]
theorem pX_o {p k : Nat} {P : Nat → Int32} (h1 : ¬ chA tx q p = 116) (h2 : ¬ chA tx q p = 115) (h3 : ¬ chA tx q p = 99) (h4 : ¬ chA tx q p = 114) : pX tx q k (p, 0, P) = (p, 1, upV P k (chA tx q p)) := by
  unfold pX
  rw [if_neg (show ¬ chA tx q p = 116 from h1), if_neg (show ¬ chA tx q p = 115 from h2), if_neg (show ¬ chA tx q p = 99 from h3), if_neg (show ¬ chA tx q p = 114 from h4)]
theorem upV_lo {P : Nat → Int32} {k : Nat} {c : Int32} : ∀ x, x < k → upV P k c x = P x := fun x hx => upV_ne (by omega)
theorem upV_lo2 {P : Nat → Int32} {k : Nat} {c d : Int32} : ∀ x, x < k → upV (upV P k c) k d x = P x := fun x hx => by rw [upV_ne (by omega), upV_ne (by omega)]
theorem cm_o {ct p k vt : Nat} {V P : Nat → Int32} (h1 : ¬ chA tx q p = 116) (h2 : ¬ chA tx q p = 115) (h3 : ¬ chA tx q p = 99) (h4 : ¬ chA tx q p = 114) : CMO (rcL tx q ct p 7 0 p vt V) (pX tx q k (p, 0, P)) V P ct k := by
  have hf : ∀ i, i < 7 → ¬ chA tx q p = (jshb.getD i []).getD 0 0 := fun i hi => by
    rcases (by omega : i = 0 ∨ i = 1 ∨ i = 2 ∨ i = 3 ∨ i = 4 ∨ i = 5 ∨ i = 6) with e | e | e | e | e | e | e <;> subst e
    · exact h1
    · exact h2
    · exact h3
    · exact h3
    · exact h2
    · exact h4
    · exact h1
  obtain ⟨f, vt', a1, a2, a3⟩ := rc_skip (tx := tx) (q := q) (ct := ct) (p := p) (E := p) 7 0 p vt V (fun i _ hi => ⟨p, Nat.le_refl _, fun V => fail1 (by omega) (hf i (by omega))⟩) (by omega) (Nat.le_refl _)
  have b := a3 0
  rw [Nat.add_zero] at b
  rw [b, pX_o h1 h2 h3 h4]
  refine ⟨fun x hx => rfl, upV_lo, Or.inl ⟨rfl, rfl, ?_⟩⟩
  show f = p
  omega
theorem cm_r {ct p k vt : Nat} {V P : Nat → Int32} (h : chA tx q p = 114) : CMO (rcL tx q ct p 7 0 p vt V) (pX tx q k (p, 0, P)) V P ct k := by
  have hf : ∀ i, i < 7 → i ≠ 5 → ¬ chA tx q p = (jshb.getD i []).getD 0 0 := fun i hi h5 => by
    rw [h]
    rcases (by omega : i = 0 ∨ i = 1 ∨ i = 2 ∨ i = 3 ∨ i = 4 ∨ i = 6) with e | e | e | e | e | e <;> subst e <;> decide
  have e5 : fitS tx q ct (jshb.getD 5 []) p 0 V = fitS tx q ct (tkC [(101, 0), (112, 0), (97, 0), (105, 0), (114, 0), (32, 2)]) (p + 1) 0 V := by
    rw [sh5]
    exact fs_y (by decide) h
  have O := run_eq (tx := tx) (q := q) (ct := ct) [(101, 0), (112, 0), (97, 0), (105, 0), (114, 0), (32, 2)] (p + 1) 0 V (k + 1) (upV P k 114) (by unfold okT; decide)
  rw [pX_r h]
  rw [← e5] at O
  exact cm_one (kk := 5) (by decide) O upV_lo upV_eq (fun e => absurd e (by decide)) (fun i hi h5 => ⟨p, fs_ge _ p 0 V, fun V => fail1 hi (hf i hi h5)⟩) vt
theorem cm_s {ct p k vt : Nat} {V P : Nat → Int32} (h : chA tx q p = 115) : CMO (rcL tx q ct p 7 0 p vt V) (pX tx q k (p, 0, P)) V P ct k := by
  have hf : ∀ i, i < 7 → i ≠ 1 → i ≠ 4 → ¬ chA tx q p = (jshb.getD i []).getD 0 0 := fun i hi h1 h4 => by
    rw [h]
    rcases (by omega : i = 0 ∨ i = 2 ∨ i = 3 ∨ i = 5 ∨ i = 6) with e | e | e | e | e <;> subst e <;> decide
  rw [pX_s h]
  by_cases c : chA tx q (p + 1) = 104
  · have e5 : fitS tx q ct (jshb.getD 4 []) p 0 V = fitS tx q ct (tkC [(104, 0), (117, 0), (110, 0), (116, 0), (32, 1), (62, 1), (32, 1)]) (p + 1) 0 V := by
      rw [sh4]
      exact fs_y (by decide) h
    have O := run_eq (tx := tx) (q := q) (ct := ct) [(104, 0), (117, 0), (110, 0), (116, 0), (32, 1), (62, 1), (32, 1)] (p + 1) 0 V (k + 1) (upV (upV P k 115) k 104) (by unfold okT; decide)
    have em : pS tx q k (p + 1, 0, upV P k 115) = mR tx q [(104, 0), (117, 0), (110, 0), (116, 0), (32, 1), (62, 1), (32, 1)] (k + 1) (p + 1, 0, upV (upV P k 115) k 104) := by
      rw [pS_y c, wr_v, mR_0, mR_0, mR_0, mR_0, mR_1, mR_1, mR_1, mR_e]
    have ge : p + 1 ≤ (fitS tx q ct (jshb.getD 4 []) p 0 V).2.1 := by
      rw [e5]
      exact fs_ge _ _ _ _
    rw [em]
    rw [← e5] at O
    refine cm_one (kk := 4) (by decide) O upV_lo2 upV_eq (fun e => absurd e (by decide)) (fun i hi h4 => ?_) vt
    by_cases d : i = 1
    · subst d
      exact ⟨p + 1, ge, fun V => fail2 rfl (by decide) (by decide) h (ok_ne c (by decide))⟩
    · exact ⟨p, by omega, fun V => fail1 hi (hf i hi d h4)⟩
  · have e5 : fitS tx q ct (jshb.getD 1 []) p 0 V = fitS tx q ct (tkC [(119, 0), (105, 0), (116, 0), (99, 0), (104, 0), (32, 1), (45, 1)]) (p + 1) 0 V := by
      rw [sh1]
      exact fs_y (by decide) h
    have O := run_eq (tx := tx) (q := q) (ct := ct) [(119, 0), (105, 0), (116, 0), (99, 0), (104, 0), (32, 1), (45, 1)] (p + 1) 0 V (k + 1) (upV P k 115) (by unfold okT; decide)
    have em : pS tx q k (p + 1, 0, upV P k 115) = mR tx q [(119, 0), (105, 0), (116, 0), (99, 0), (104, 0), (32, 1), (45, 1)] (k + 1) (p + 1, 0, upV P k 115) := by
      rw [pS_n c, mR_0, mR_0, mR_0, mR_0, mR_0, mR_1, mR_1, mR_e]
    have ge : p + 1 ≤ (fitS tx q ct (jshb.getD 1 []) p 0 V).2.1 := by
      rw [e5]
      exact fs_ge _ _ _ _
    rw [em]
    rw [← e5] at O
    refine cm_one (kk := 1) (by decide) O upV_lo upV_eq (fun e => absurd e (by decide)) (fun i hi h1 => ?_) vt
    by_cases d : i = 4
    · subst d
      exact ⟨p + 1, ge, fun V => fail2 rfl (by decide) (by decide) h c⟩
    · exact ⟨p, by omega, fun V => fail1 hi (hf i hi h1 d)⟩
theorem cm_c {ct p k vt : Nat} {V P : Nat → Int32} (h : chA tx q p = 99) : CMO (rcL tx q ct p 7 0 p vt V) (pX tx q k (p, 0, P)) V P ct k := by
  have hf : ∀ i, i < 7 → i ≠ 2 → i ≠ 3 → ¬ chA tx q p = (jshb.getD i []).getD 0 0 := fun i hi h1 h4 => by
    rw [h]
    rcases (by omega : i = 0 ∨ i = 1 ∨ i = 4 ∨ i = 5 ∨ i = 6) with e | e | e | e | e <;> subst e <;> decide
  rw [pX_c h]
  by_cases c : chA tx q (p + 1) = 117
  · have e5 : fitS tx q ct (jshb.getD 2 []) p 0 V = fitS tx q ct (tkC [(117, 0), (116, 0), (32, 1), (45, 1)]) (p + 1) 0 V := by
      rw [sh2]
      exact fs_y (by decide) h
    have O := run_eq (tx := tx) (q := q) (ct := ct) [(117, 0), (116, 0), (32, 1), (45, 1)] (p + 1) 0 V (k + 1) (upV (upV P k 99) k 117) (by unfold okT; decide)
    have em : pC tx q k (p + 1, 0, upV P k 99) = mR tx q [(117, 0), (116, 0), (32, 1), (45, 1)] (k + 1) (p + 1, 0, upV (upV P k 99) k 117) := by
      rw [pC_y c, wr_v, mR_0, mR_0, mR_1, mR_1, mR_e]
    have ge : p + 1 ≤ (fitS tx q ct (jshb.getD 2 []) p 0 V).2.1 := by
      rw [e5]
      exact fs_ge _ _ _ _
    rw [em]
    rw [← e5] at O
    refine cm_one (kk := 2) (by decide) O upV_lo2 upV_eq (fun e => absurd e (by decide)) (fun i hi h4 => ?_) vt
    by_cases d : i = 3
    · subst d
      exact ⟨p + 1, ge, fun V => fail2 rfl (by decide) (by decide) h (ok_ne c (by decide))⟩
    · exact ⟨p, by omega, fun V => fail1 hi (hf i hi h4 d)⟩
  · have e5 : fitS tx q ct (jshb.getD 3 []) p 0 V = fitS tx q ct (tkC [(97, 0), (114, 0), (32, 1), (32, 2), (32, 2), (32, 1)] ++ [33]) (p + 1) 0 V := by
      rw [sh3]
      exact fs_y (by decide) h
    have O := run_eq (tx := tx) (q := q) (ct := ct) [(97, 0), (114, 0), (32, 1), (32, 2), (32, 2), (32, 1)] (p + 1) 0 V (k + 1) (upV P k 99) (by unfold okT; decide)
    obtain ⟨S, hS⟩ : ∃ S, S = fitS tx q ct (tkC [(97, 0), (114, 0), (32, 1), (32, 2), (32, 2), (32, 1)]) (p + 1) 0 V := ⟨_, rfl⟩
    obtain ⟨t, ht⟩ : ∃ t, t = mR tx q [(97, 0), (114, 0), (32, 1), (32, 2), (32, 2), (32, 1)] (k + 1) (p + 1, 0, upV P k 99) := ⟨_, rfl⟩
    have em : pC tx q k (p + 1, 0, upV P k 99) = if t.2.1 = 0 ∧ chA tx q t.1 = 33 then (t.1 + 1, t.2.1, upV t.2.2 (k + 5) 1) else wr t (k + 5) 0 := by
      have e9 : pC5 tx q k (p + 1, 0, upV P k 99) = t := by
        rw [ht, mR_0, mR_0, mR_1, mR_1, mR_1, mR_1, mR_e]
        rfl
      rw [pC_n c, e9]
    rw [← hS, ← ht] at O
    rw [fs_app, ← hS] at e5
    have ge : p + 1 ≤ (fitS tx q ct (jshb.getD 3 []) p 0 V).2.1 := by
      have g0 : p + 1 ≤ S.2.1 := by rw [hS]; exact fs_ge _ _ _ _
      rw [e5]
      split
      · exact g0
      · exact Nat.le_trans g0 (fs_ge _ _ _ _)
    have O2 : OUT (fitS tx q ct (jshb.getD 3 []) p 0 V) (pC tx q k (p + 1, 0, upV P k 99)) V (upV P k 99) (ct * 5 + 0) (k + 1) 0 (cn 3) := by
      rw [e5, em]
      obtain ⟨o1, o2, o3⟩ := O
      rcases o3 with ⟨c1, c2, c3⟩ | ⟨c1, c2, c3, c4, c5⟩
      · rw [if_pos c1, if_neg (fun e => by rw [c2] at e; exact absurd e.1 (by decide))]
        exact ⟨o1, fun x hx => (upV_ne (by omega)).trans (o2 x hx), Or.inl ⟨c1, c2, c3⟩⟩
      · have n4 : S.2.2.1 = 4 := c4
        have nz : ¬ S.1 = 0 := by rw [c1]; decide
        rw [if_neg nz]
        have e6 : fitS tx q ct [33] S.2.1 S.2.2.1 S.2.2.2 = (1, (if chA tx q S.2.1 = 33 then S.2.1 + 1 else S.2.1), 5, upV S.2.2.2 (ct * 5 + 4) (if chA tx q S.2.1 = 33 then 1 else 0)) := by
          rw [n4]
          rfl
        rw [e6, c3]
        have v5 : ∀ (v : Int32) x, x < 5 → upV S.2.2.2 (ct * 5 + 4) v (ct * 5 + 0 + x) = upV t.2.2 (k + 5) v (k + 1 + x) := fun v x hx => by
          by_cases z : x = 4
          · rw [z, show ct * 5 + 0 + 4 = ct * 5 + 4 by omega, show k + 1 + 4 = k + 5 by omega, upV_eq, upV_eq]
          · rw [upV_ne (by omega), upV_ne (by omega)]
            exact c5 x (show x < 4 by omega)
        by_cases z : chA tx q t.1 = 33
        · rw [if_pos z, if_pos z, if_pos ⟨c2, z⟩]
          exact ⟨fun x hx => (upV_ne (by omega)).trans (o1 x hx), fun x hx => (upV_ne (by omega)).trans (o2 x hx), Or.inr ⟨rfl, c2, rfl, rfl, fun x hx => v5 1 x hx⟩⟩
        · rw [if_neg z, if_neg z, if_neg (fun e => z e.2)]
          exact ⟨fun x hx => (upV_ne (by omega)).trans (o1 x hx), fun x hx => (upV_ne (by omega)).trans (o2 x hx), Or.inr ⟨rfl, c2, rfl, rfl, fun x hx => v5 0 x hx⟩⟩
    refine cm_one (kk := 3) (by decide) O2 upV_lo upV_eq (fun _ => by
      rw [em]
      split
      · exact Or.inr upV_eq
      · exact Or.inl upV_eq) (fun i hi h4 => ?_) vt
    by_cases d : i = 2
    · subst d
      exact ⟨p + 1, ge, fun V => fail2 rfl (by decide) (by decide) h c⟩
    · exact ⟨p, by omega, fun V => fail1 hi (hf i hi d h4)⟩
theorem cm_t {ct p k vt : Nat} {V P : Nat → Int32} (h : chA tx q p = 116) : CMO (rcL tx q ct p 7 0 p vt V) (pX tx q k (p, 0, P)) V P ct k := by
  have hf : ∀ i, i < 7 → i ≠ 0 → i ≠ 6 → ¬ chA tx q p = (jshb.getD i []).getD 0 0 := fun i hi h1 h4 => by
    rw [h]
    rcases (by omega : i = 1 ∨ i = 2 ∨ i = 3 ∨ i = 4 ∨ i = 5) with e | e | e | e | e <;> subst e <;> decide
  have e0 : ∀ V, fitS tx q ct (jshb.getD 0 []) p 0 V = fitS tx q ct (tkC [(114, 0), (97, 0), (99, 0), (107, 0), (32, 2), (32, 1)]) (p + 1) 0 V := fun V => by
    rw [sh0]
    exact fs_y (by decide) h
  have e6 : ∀ V, fitS tx q ct (jshb.getD 6 []) p 0 V = fitS tx q ct (tkC [(114, 0), (97, 0), (105, 0), (110, 0), (32, 1), (32, 1)]) (p + 1) 0 V := fun V => by
    rw [sh6]
    exact fs_y (by decide) h
  rw [pX_t h]
  by_cases a : chA tx q (p + 1) = 114 ∧ chA tx q (p + 2) = 97 ∧ chA tx q (p + 3) = 105
  · obtain ⟨a1, a2, a3⟩ := a
    have s2 : nd tx q 97 (nd tx q 114 (p + 1, 0, upV P k 116)) = (p + 3, 0, upV P k 116) := by rw [nd_y a1, nd_y a2]
    have em : pT tx q k (p + 1, 0, upV P k 116) = mR tx q [(105, 0), (110, 0), (32, 1), (32, 1)] (k + 1) (p + 3, 0, upV (upV P k 116) k 105) := by
      rw [pT_y (by rw [s2]; exact ⟨rfl, a3⟩), s2, wr_v, mR_0, mR_0, mR_1, mR_1, mR_e]
    have e7 : fitS tx q ct (jshb.getD 6 []) p 0 V = fitS tx q ct (tkC [(105, 0), (110, 0), (32, 1), (32, 1)]) (p + 3) 0 V := by
      rw [e6]
      exact (fs_y (by decide) a1).trans (fs_y (by decide) a2)
    have O := run_eq (tx := tx) (q := q) (ct := ct) [(105, 0), (110, 0), (32, 1), (32, 1)] (p + 3) 0 V (k + 1) (upV (upV P k 116) k 105) (by unfold okT; decide)
    have ge : p + 3 ≤ (fitS tx q ct (jshb.getD 6 []) p 0 V).2.1 := by
      rw [e7]
      exact fs_ge _ _ _ _
    rw [em]
    rw [← e7] at O
    refine cm_one (kk := 6) (by decide) O upV_lo2 upV_eq (fun e => absurd e (by decide)) (fun i hi h6 => ?_) vt
    by_cases d : i = 0
    · subst d
      exact ⟨p + 3, ge, fun V => by
        rw [e0]
        exact (fs_y (by decide) a1).trans ((fs_y (by decide) a2).trans (fs_n (by decide) (ok_ne a3 (by decide))))⟩
    · exact ⟨p, by omega, fun V => fail1 hi (hf i hi d h6)⟩
  · have O := run_eq (tx := tx) (q := q) (ct := ct) [(114, 0), (97, 0), (99, 0), (107, 0), (32, 2), (32, 1)] (p + 1) 0 V (k + 1) (upV P k 116) (by unfold okT; decide)
    have em : pT tx q k (p + 1, 0, upV P k 116) = mR tx q [(114, 0), (97, 0), (99, 0), (107, 0), (32, 2), (32, 1)] (k + 1) (p + 1, 0, upV P k 116) := by
      rw [pT_n (fun e => by
        by_cases a1 : chA tx q (p + 1) = 114
        · by_cases a2 : chA tx q (p + 2) = 97
          · rw [nd_y a1, nd_y a2] at e
            exact a ⟨a1, a2, e.2⟩
          · rw [nd_y a1, nd_n a2] at e
            exact absurd (show (1 : Int32) = 0 from e.1) (by decide)
        · rw [nd_n a1, nd_w] at e
          exact absurd (show (1 : Int32) = 0 from e.1) (by decide)), mR_0, mR_0, mR_0, mR_0, mR_1, mR_1, mR_e]
    -- the other shape stops no later
    have f6 : ∃ e, e ≤ (fitS tx q ct (jshb.getD 0 []) p 0 V).2.1 ∧ ∀ V, fitS tx q ct (jshb.getD 6 []) p 0 V = (0, e, 0, V) := by
      rw [e0]
      by_cases a1 : chA tx q (p + 1) = 114
      · by_cases a2 : chA tx q (p + 2) = 97
        · refine ⟨p + 3, ?_, fun V => ?_⟩
          · have : fitS tx q ct (tkC [(114, 0), (97, 0), (99, 0), (107, 0), (32, 2), (32, 1)]) (p + 1) 0 V = fitS tx q ct (tkC [(99, 0), (107, 0), (32, 2), (32, 1)]) (p + 3) 0 V := (fs_y (by decide) a1).trans (fs_y (by decide) a2)
            rw [this]
            exact fs_ge _ _ _ _
          · rw [e6]
            exact (fs_y (by decide) a1).trans ((fs_y (by decide) a2).trans (fs_n (by decide) (fun a3 => a ⟨a1, a2, a3⟩)))
        · refine ⟨p + 2, ?_, fun V => ?_⟩
          · have : fitS tx q ct (tkC [(114, 0), (97, 0), (99, 0), (107, 0), (32, 2), (32, 1)]) (p + 1) 0 V = fitS tx q ct (tkC [(97, 0), (99, 0), (107, 0), (32, 2), (32, 1)]) (p + 2) 0 V := fs_y (by decide) a1
            rw [this]
            exact fs_ge _ _ _ _
          · rw [e6]
            exact (fs_y (by decide) a1).trans (fs_n (by decide) a2)
      · refine ⟨p + 1, fs_ge _ _ _ _, fun V => ?_⟩
        rw [e6]
        exact fs_n (by decide) a1
    rw [em]
    rw [← e0] at O
    refine cm_one (kk := 0) (by decide) O upV_lo upV_eq (fun e => absurd e (by decide)) (fun i hi h0 => ?_) vt
    by_cases d : i = 6
    · subst d
      exact f6
    · exact ⟨p, fs_ge _ p 0 V, fun V => fail1 hi (hf i hi h0 d)⟩
/-- reading a command -/
theorem cm_all (ct p k vt : Nat) (V P : Nat → Int32) : CMO (rcL tx q ct p 7 0 p vt V) (pX tx q k (p, 0, P)) V P ct k := by
  by_cases h1 : chA tx q p = 116
  · exact cm_t h1
  · by_cases h2 : chA tx q p = 115
    · exact cm_s h2
    · by_cases h3 : chA tx q p = 99
      · exact cm_c h3
      · by_cases h4 : chA tx q p = 114
        · exact cm_r h4
        · exact cm_o h1 h2 h3 h4
end YCM
