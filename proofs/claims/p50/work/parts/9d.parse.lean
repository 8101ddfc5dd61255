/-! reading commands: class and model go the same way over a shape -/
section YPA
variable {tx : Nat → Int32} {q : Nat}
def fitS (tx : Nat → Int32) (q ct : Nat) : List Int32 → Nat → Nat → (Nat → Int32) → RS
  | [], p, vt, V => (1, p, vt, V)
  | c :: r, p, vt, V => if (partF tx q ct c p vt V).1 = 0 then (0, (partF tx q ct c p vt V).2) else fitS tx q ct r (partF tx q ct c p vt V).2.1 (partF tx q ct c p vt V).2.2.1 (partF tx q ct c p vt V).2.2.2
theorem fitL_S {ct i : Nat} : ∀ (l : List Int32) j p vt V, (∀ m, m < l.length → chS i (j + m) = l.getD m 0) → fitL tx q ct i l.length j p vt V = fitS tx q ct l p vt V
  | [], j, p, vt, V, h => rfl
  | c :: r, j, p, vt, V, h => by
    have e : chS i j = c := h 0 (Nat.succ_pos _)
    show (if (partF tx q ct (chS i j) p vt V).1 = 0 then (0, (partF tx q ct (chS i j) p vt V).2) else fitL tx q ct i r.length (j + 1) (partF tx q ct (chS i j) p vt V).2.1 (partF tx q ct (chS i j) p vt V).2.2.1 (partF tx q ct (chS i j) p vt V).2.2.2) = _
    rw [e]
    rw [fitL_S r (j + 1) _ _ _ (fun m hm => by
      have := h (m + 1) (Nat.succ_lt_succ hm)
      rw [show j + (m + 1) = j + 1 + m by omega] at this
      exact this)]
    rfl
/-- a shape in pieces: a sign, and how many digits follow it at most -/
def tkC : List (Int32 × Nat) → List Int32
  | [] => []
  | t :: r => t.1 :: (if t.2 = 0 then tkC r else (if t.2 = 1 then 68 else 78) :: tkC r)
def mR (tx : Nat → Int32) (q : Nat) : List (Int32 × Nat) → Nat → MS → MS
  | [], _, s => s
  | t :: r, i, s => if t.2 = 0 then mR tx q r i (nd tx q t.1 s) else mR tx q r (i + 1) (dw tx q t.1 t.2 i s)
def nv : List (Int32 × Nat) → Nat
  | [] => 0
  | t :: r => (if t.2 = 0 then 0 else 1) + nv r
def okT (t : Int32 × Nat) : Prop := t.1 ≠ 68 ∧ t.1 ≠ 78 ∧ t.1 ≠ 33 ∧ t.2 ≤ 2
theorem nd_w {c : Int32} {p : Nat} {P : Nat → Int32} : nd tx q c (p, 1, P) = (p, 1, P) := if_neg (fun e => absurd (show (1 : Int32) = 0 from e.1) (by decide))
theorem nd_y {c : Int32} {p : Nat} {P : Nat → Int32} (h : chA tx q p = c) : nd tx q c (p, 0, P) = (p + 1, 0, P) := if_pos ⟨rfl, h⟩
theorem nd_n {c : Int32} {p : Nat} {P : Nat → Int32} (h : ¬ chA tx q p = c) : nd tx q c (p, 0, P) = (p, 1, P) := if_neg (fun e => h e.2)
theorem dw_w {c : Int32} {n i p : Nat} {P : Nat → Int32} : dw tx q c n i (p, 1, P) = (p, 1, upV P i 0) := by
  unfold dw dd9 dv
  rw [nd_w]
  have n1 : ¬ ((1 : Int32) = 0 ∧ (48 ≤ chA tx q p ∧ chA tx q p ≤ 57)) := fun e => absurd e.1 (by decide)
  show wr (if (1 : Int32) = 0 ∧ (48 ≤ chA tx q p ∧ chA tx q p ≤ 57) then _ else _) i (if (1 : Int32) = 0 ∧ (48 ≤ chA tx q p ∧ chA tx q p ≤ 57) then _ else _) = _
  rw [if_neg n1, if_neg n1]
  rfl
theorem upV_ne {V : Nat → Int32} {k j : Nat} {x : Int32} (h : j ≠ k) : upV V k x j = V j := if_neg h
theorem upV_eq {V : Nat → Int32} {k : Nat} {x : Int32} : upV V k x k = x := if_pos rfl
theorem mR_w : ∀ (tk : List (Int32 × Nat)) i p (P : Nat → Int32), (mR tx q tk i (p, 1, P)).1 = p ∧ (mR tx q tk i (p, 1, P)).2.1 = 1 ∧ ∀ x, x < i → (mR tx q tk i (p, 1, P)).2.2 x = P x
  | [], i, p, P => ⟨rfl, rfl, fun x hx => rfl⟩
  | t :: r, i, p, P => by
    unfold mR
    by_cases c : t.2 = 0
    · rw [if_pos c, nd_w]
      exact mR_w r i p P
    · rw [if_neg c, dw_w]
      obtain ⟨h1, h2, h3⟩ := mR_w r (i + 1) p (upV P i 0)
      exact ⟨h1, h2, fun x hx => (h3 x (by omega)).trans (upV_ne (by omega))⟩
/-- what class and model have at the end of a shape -/
def OUT (R : RS) (s : MS) (V0 P0 : Nat → Int32) (b i vt m : Nat) : Prop := (∀ x, x < b → R.2.2.2 x = V0 x) ∧ (∀ x, x < i → s.2.2 x = P0 x) ∧ ((R.1 = 0 ∧ s.2.1 = 1 ∧ R.2.1 = s.1) ∨ (R.1 = 1 ∧ s.2.1 = 0 ∧ R.2.1 = s.1 ∧ R.2.2.1 = vt + m ∧ ∀ x, x < m → R.2.2.2 (b + x) = s.2.2 (i + x)))
theorem run_eq {ct : Nat} : ∀ (tk : List (Int32 × Nat)) p vt V i P, (∀ t, t ∈ tk → okT t) → OUT (fitS tx q ct (tkC tk) p vt V) (mR tx q tk i (p, 0, P)) V P (ct * 5 + vt) i vt (nv tk)
  | [], p, vt, V, i, P, h => ⟨fun x hx => rfl, fun x hx => rfl, Or.inr ⟨rfl, rfl, rfl, rfl, fun x hx => absurd hx (Nat.not_lt_zero _)⟩⟩
  | t :: r, p, vt, V, i, P, h => by
    obtain ⟨o1, o2, o3, o4⟩ := h t (List.mem_cons_self ..)
    have hr : ∀ t', t' ∈ r → okT t' := fun t' ht => h t' (List.mem_cons_of_mem _ ht)
    have pf : ∀ p vt V, partF tx q ct t.1 p vt V = if chA tx q p = t.1 then (1, p + 1, vt, V) else (0, p, vt, V) := fun p vt V => by
      unfold partF
      rw [if_neg o1, if_neg o2, if_neg o3]
    have n10 : ¬ (1 : Int32) = 0 := by decide
    by_cases c : chA tx q p = t.1
    · have e1 : fitS tx q ct (tkC (t :: r)) p vt V = fitS tx q ct (if t.2 = 0 then tkC r else (if t.2 = 1 then 68 else 78) :: tkC r) (p + 1) vt V := by
        show (if (partF tx q ct t.1 p vt V).1 = 0 then (0, (partF tx q ct t.1 p vt V).2) else fitS tx q ct (if t.2 = 0 then tkC r else (if t.2 = 1 then 68 else 78) :: tkC r) (partF tx q ct t.1 p vt V).2.1 (partF tx q ct t.1 p vt V).2.2.1 (partF tx q ct t.1 p vt V).2.2.2) = _
        rw [pf, if_pos c]
        exact if_neg n10
      rw [e1]
      by_cases d : t.2 = 0
      · have e2 : mR tx q (t :: r) i (p, 0, P) = mR tx q r i (p + 1, 0, P) := by
          show (if t.2 = 0 then mR tx q r i (nd tx q t.1 (p, 0, P)) else _) = _
          rw [if_pos d, nd_y c]
        have e3 : nv (t :: r) = nv r := by
          show (if t.2 = 0 then 0 else 1) + nv r = nv r
          rw [if_pos d, Nat.zero_add]
        rw [e2, e3, if_pos d]
        exact run_eq r (p + 1) vt V i P hr
      · have nf : partF tx q ct (if t.2 = 1 then 68 else 78) (p + 1) vt V = numF tx q ct t.2 (p + 1) vt V := by
          by_cases f : t.2 = 1
          · rw [if_pos f, f]
            unfold partF
            rw [if_pos rfl]
          · rw [if_neg f]
            unfold partF
            rw [if_neg (by decide), if_pos rfl, show t.2 = 2 by omega]
        have e2 : mR tx q (t :: r) i (p, 0, P) = mR tx q r (i + 1) (dw tx q t.1 t.2 i (p, 0, P)) := by
          show (if t.2 = 0 then _ else mR tx q r (i + 1) (dw tx q t.1 t.2 i (p, 0, P))) = _
          rw [if_neg d]
        have e3 : nv (t :: r) = 1 + nv r := by
          show (if t.2 = 0 then 0 else 1) + nv r = 1 + nv r
          rw [if_neg d]
        obtain ⟨n, en⟩ : ∃ n, t.2 = n + 1 := ⟨t.2 - 1, by omega⟩
        rw [e2, e3, if_neg d]
        by_cases f : 48 ≤ chA tx q (p + 1) ∧ chA tx q (p + 1) ≤ 57
        · have dg : (dgF tx q t.2 (p + 1) 0).1 > p + 1 := by
            rw [en]
            unfold dgF
            rw [if_pos f]
            have := (dgF_le (tx := tx) (q := q) n (p + 1 + 1) (0 * 10 + chA tx q (p + 1) - 48)).1
            omega
          have e4 : fitS tx q ct ((if t.2 = 1 then 68 else 78) :: tkC r) (p + 1) vt V = fitS tx q ct (tkC r) (dgF tx q t.2 (p + 1) 0).1 (vt + 1) (upV V (ct * 5 + vt) (dgF tx q t.2 (p + 1) 0).2) := by
            show (if (partF tx q ct (if t.2 = 1 then 68 else 78) (p + 1) vt V).1 = 0 then _ else fitS tx q ct (tkC r) _ _ _) = _
            rw [nf]
            unfold numF
            rw [if_neg (show ¬ bi (p + 1 < (dgF tx q t.2 (p + 1) 0).1) = 0 from bi_1.mpr dg)]
          have e5 : dw tx q t.1 t.2 i (p, 0, P) = ((dgF tx q t.2 (p + 1) 0).1, 0, upV P i (dgF tx q t.2 (p + 1) 0).2) := by
            unfold dw dd9 dv
            rw [nd_y c]
            have n1 : (0 : Int32) = 0 ∧ (48 ≤ chA tx q (p + 1) ∧ chA tx q (p + 1) ≤ 57) := ⟨rfl, f⟩
            show wr (if (0 : Int32) = 0 ∧ (48 ≤ chA tx q (p + 1) ∧ chA tx q (p + 1) ≤ 57) then ((dgF tx q t.2 (p + 1) 0).1, 0, P) else (p + 1, 1, P)) i (if (0 : Int32) = 0 ∧ (48 ≤ chA tx q (p + 1) ∧ chA tx q (p + 1) ≤ 57) then (dgF tx q t.2 (p + 1) 0).2 else 0) = _
            rw [if_pos n1, if_pos n1]
            rfl
          rw [e4, e5]
          obtain ⟨r1, r2, r3⟩ := run_eq (ct := ct) r (dgF tx q t.2 (p + 1) 0).1 (vt + 1) (upV V (ct * 5 + vt) (dgF tx q t.2 (p + 1) 0).2) (i + 1) (upV P i (dgF tx q t.2 (p + 1) 0).2) hr
          refine ⟨fun x hx => (r1 x (by omega)).trans (upV_ne (by omega)), fun x hx => (r2 x (by omega)).trans (upV_ne (by omega)), ?_⟩
          rcases r3 with r3 | ⟨s1, s2, s3, s4, s5⟩
          · exact Or.inl r3
          · refine Or.inr ⟨s1, s2, s3, by omega, fun x hx => ?_⟩
            by_cases z : x = 0
            · subst z
              exact ((r1 (ct * 5 + vt) (by omega)).trans upV_eq).trans ((r2 i (by omega)).trans upV_eq).symm
            · have := s5 (x - 1) (by omega)
              rw [show ct * 5 + (vt + 1) + (x - 1) = ct * 5 + vt + x by omega, show i + 1 + (x - 1) = i + x by omega] at this
              exact this
        · have dg : dgF tx q t.2 (p + 1) 0 = (p + 1, 0) := by
            rw [en]
            unfold dgF
            rw [if_neg f]
          have e4 : fitS tx q ct ((if t.2 = 1 then 68 else 78) :: tkC r) (p + 1) vt V = (0, p + 1, vt + 1, upV V (ct * 5 + vt) 0) := by
            show (if (partF tx q ct (if t.2 = 1 then 68 else 78) (p + 1) vt V).1 = 0 then (0, (partF tx q ct (if t.2 = 1 then 68 else 78) (p + 1) vt V).2) else _) = _
            rw [nf]
            unfold numF
            rw [dg, if_pos (show bi (p + 1 < (p + 1, (0 : Int32)).1) = 0 from bi_0.mpr (Nat.lt_irrefl _))]
          have e5 : dw tx q t.1 t.2 i (p, 0, P) = (p + 1, 1, upV P i 0) := by
            unfold dw dd9 dv
            rw [nd_y c]
            have n1 : ¬ ((0 : Int32) = 0 ∧ (48 ≤ chA tx q (p + 1) ∧ chA tx q (p + 1) ≤ 57)) := fun e => f e.2
            show wr (if (0 : Int32) = 0 ∧ (48 ≤ chA tx q (p + 1) ∧ chA tx q (p + 1) ≤ 57) then ((dgF tx q t.2 (p + 1) 0).1, 0, P) else (p + 1, 1, P)) i (if (0 : Int32) = 0 ∧ (48 ≤ chA tx q (p + 1) ∧ chA tx q (p + 1) ≤ 57) then (dgF tx q t.2 (p + 1) 0).2 else 0) = _
            rw [if_neg n1, if_neg n1]
            rfl
          rw [e4, e5]
          obtain ⟨w1, w2, w3⟩ := mR_w (tx := tx) (q := q) r (i + 1) (p + 1) (upV P i 0)
          exact ⟨fun x hx => upV_ne (by omega), fun x hx => (w3 x (by omega)).trans (upV_ne (by omega)), Or.inl ⟨rfl, w2, w1.symm⟩⟩
    · have e1 : fitS tx q ct (tkC (t :: r)) p vt V = (0, p, vt, V) := by
        show (if (partF tx q ct t.1 p vt V).1 = 0 then (0, (partF tx q ct t.1 p vt V).2) else _) = _
        rw [pf, if_neg c]
        rfl
      rw [e1]
      by_cases d : t.2 = 0
      · have e2 : mR tx q (t :: r) i (p, 0, P) = mR tx q r i (p, 1, P) := by
          show (if t.2 = 0 then mR tx q r i (nd tx q t.1 (p, 0, P)) else _) = _
          rw [if_pos d, nd_n c]
        rw [e2]
        obtain ⟨w1, w2, w3⟩ := mR_w (tx := tx) (q := q) r i p P
        exact ⟨fun x hx => rfl, w3, Or.inl ⟨rfl, w2, w1.symm⟩⟩
      · have e2 : mR tx q (t :: r) i (p, 0, P) = mR tx q r (i + 1) (p, 1, upV P i 0) := by
          show (if t.2 = 0 then _ else mR tx q r (i + 1) (dw tx q t.1 t.2 i (p, 0, P))) = _
          rw [if_neg d]
          congr 1
          unfold dw dd9 dv
          rw [nd_n c]
          have n1 : ¬ ((1 : Int32) = 0 ∧ (48 ≤ chA tx q p ∧ chA tx q p ≤ 57)) := fun e => absurd e.1 (by decide)
          show wr (if (1 : Int32) = 0 ∧ (48 ≤ chA tx q p ∧ chA tx q p ≤ 57) then _ else _) i (if (1 : Int32) = 0 ∧ (48 ≤ chA tx q p ∧ chA tx q p ≤ 57) then _ else _) = _
          rw [if_neg n1, if_neg n1]
          rfl
        rw [e2]
        obtain ⟨w1, w2, w3⟩ := mR_w (tx := tx) (q := q) r (i + 1) p (upV P i 0)
        exact ⟨fun x hx => rfl, fun x hx => (w3 x (by omega)).trans (upV_ne (by omega)), Or.inl ⟨rfl, w2, w1.symm⟩⟩
end YPA
