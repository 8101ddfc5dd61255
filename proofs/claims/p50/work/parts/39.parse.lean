/-! reading a program: shapes, commands, the whole -/
theorem PI_at0 {I : Nat → Nat → Int32} {q p vt ct : Nat} {V K : Nat → Int32} : up2 (PI I q (p, vt, V, ct, K)) 388 5 0 = PI I q (0, vt, V, ct, K) := PI_at (x9 := 0)
theorem PI_vt0 {I : Nat → Nat → Int32} {q p vt ct : Nat} {V K : Nat → Int32} : up2 (PI I q (p, vt, V, ct, K)) 388 6 0 = PI I q (p, 0, V, ct, K) := PI_vt (x9 := 0)
theorem PI_ct0 {I : Nat → Nat → Int32} {q p vt ct : Nat} {V K : Nat → Int32} : up2 (PI I q (p, vt, V, ct, K)) 388 2 0 = PI I q (p, vt, V, 0, K) := PI_ct (x9 := 0)
def isV (c : Int32) : Nat := if c = 68 ∨ c = 78 ∨ c = 33 then 1 else 0
def vals (i : Nat) : Nat → Nat → Nat
  | 0, _ => 0
  | n + 1, j => isV (chS i j) + vals i n (j + 1)
theorem vals_le : ∀ i, i < 7 → vals i (jshl.getD i 0) 0 ≤ 5 := by decide +kernel
theorem dgF_le {tx : Nat → Int32} {q : Nat} : ∀ (n p : Nat) (a : Int32), p ≤ (dgF tx q n p a).1 ∧ (dgF tx q n p a).1 ≤ p + n
  | 0, p, a => ⟨Nat.le_refl _, Nat.le_refl _⟩
  | n + 1, p, a => by
    rw [dgF]
    split
    · have := dgF_le (tx := tx) (q := q) n (p + 1) (a * 10 + chA tx q p - 48)
      omega
    · exact ⟨Nat.le_refl _, by omega⟩
theorem partF_vt {tx : Nat → Int32} {q ct p vt : Nat} {c : Int32} {V : Nat → Int32} : (partF tx q ct c p vt V).2.2.1 = vt + isV c := by
  unfold partF isV
  by_cases h1 : c = 68
  · rw [if_pos h1, if_pos (Or.inl h1)]
    rfl
  · rw [if_neg h1]
    by_cases h2 : c = 78
    · rw [if_pos h2, if_pos (Or.inr (Or.inl h2))]
      rfl
    · rw [if_neg h2]
      by_cases h3 : c = 33
      · rw [if_pos h3, if_pos (Or.inr (Or.inr h3))]
      · rw [if_neg h3, if_neg (show ¬ (c = 68 ∨ c = 78 ∨ c = 33) from fun z => z.elim h1 (fun z => z.elim h2 h3))]
        split <;> rfl
theorem partF_p {tx : Nat → Int32} {q ct p vt : Nat} {c : Int32} {V : Nat → Int32} : (partF tx q ct c p vt V).2.1 ≤ p + 2 := by
  unfold partF
  split
  · have := (dgF_le (tx := tx) (q := q) 1 p 0).2
    show (dgF tx q 1 p 0).1 ≤ p + 2
    omega
  · split
    · exact (dgF_le (tx := tx) (q := q) 2 p 0).2
    · split
      · have : (if chA tx q p = 33 then p + 1 else p) ≤ p + 2 := by split <;> omega
        exact this
      · split
        · show p + 1 ≤ p + 2
          omega
        · show p ≤ p + 2
          omega
theorem hb_of {ct vt m : Nat} {c : Int32} (h : ct * 5 + vt + (isV c + m) ≤ 40) : ct * 5 + vt < 40 ∨ ¬ (c = 68 ∨ c = 78 ∨ c = 33) := by
  by_cases hc : c = 68 ∨ c = 78 ∨ c = 33
  · have : isV c = 1 := if_pos hc
    exact Or.inl (by omega)
  · exact Or.inr hc
def fitL (tx : Nat → Int32) (q ct i : Nat) : Nat → Nat → Nat → Nat → (Nat → Int32) → RS
  | 0, _, p, vt, V => (1, p, vt, V)
  | n + 1, j, p, vt, V => if (partF tx q ct (chS i j) p vt V).1 = 0 then (0, (partF tx q ct (chS i j) p vt V).2) else fitL tx q ct i n (j + 1) (partF tx q ct (chS i j) p vt V).2.1 (partF tx q ct (chS i j) p vt V).2.2.1 (partF tx q ct (chS i j) p vt V).2.2.2
theorem fitL_p {tx : Nat → Int32} {q ct i : Nat} : ∀ (n j p vt : Nat) (V : Nat → Int32), (fitL tx q ct i n j p vt V).2.1 ≤ p + 2 * n
  | 0, _, p, vt, V => by
    show p ≤ p + 0
    omega
  | n + 1, j, p, vt, V => by
    have h := partF_p (tx := tx) (q := q) (ct := ct) (p := p) (vt := vt) (c := chS i j) (V := V)
    rw [fitL]
    split
    · show (partF tx q ct (chS i j) p vt V).2.1 ≤ _
      omega
    · have := fitL_p (tx := tx) (q := q) (ct := ct) (i := i) n (j + 1) (partF tx q ct (chS i j) p vt V).2.1 (partF tx q ct (chS i j) p vt V).2.2.1 (partF tx q ct (chS i j) p vt V).2.2.2
      omega
section PROG2
variable {X : JX} {d N v : Nat} {T : Nat → Option JS} {I : Nat → Nat → Int32} {L : Nat → Nat → Int64} {Dd : Nat → Nat → UInt64} {q p p0 vt ct i : Nat} {V K : Nat → Int32} {c : Int32}
theorem l_fits (hX : JXok X) (hd : 5 ≤ d) (hi : i < 7) (hq : q ≤ 60) (hl : jshl.getD i 0 ≤ 12) : ∀ (n j p vt : Nat) (V : Nat → Int32), (j + n = jshl.getD i 0 ∧ ct * 5 + vt + vals i n j ≤ 40 ∧ p + 2 * n ≤ 100) → Ev X (jm jdX3_fits) d 0 0 (fun R => R = .inl (some (.int (fitL (I 389) q ct i n j p vt V).1), (N, SH v T, PI I q ((fitL (I 389) q ct i n j p vt V).2.1, ct * 5 + (fitL (I 389) q ct i n j p vt V).2.2.1, (fitL (I 389) q ct i n j p vt V).2.2.2, ct, K), L, Dd))) 17 [some (.ref 388), some (.ref (jsh0 + i)), some (.int (nI p0)), some (.int (nI j))] [] (N, SH v T, PI I q (p, ct * 5 + vt, V, ct, K), L, Dd) := by
  intro n
  induction n with
  | zero =>
    intro j p vt V hk
    refine Ev.sg hX sX3_fits_17 (pc' := 19) (ls' := [some (.ref 388), some (.ref (jsh0 + i)), some (.int (nI p0)), some (.int (nI j))]) (st' := [.ref (jsh0 + i), .int (nI j)]) (h' := (N, SH v T, PI I q (p, ct * 5 + vt, V, ct, K), L, Dd)) rfl ?_
    refine Ev.callVK (As := []) (rest := [.int (nI j)]) (ltS hi) rfl dvJ0_length_8abf5 mkX3_83 dX3_fits_19 (c_strLen (d := d - 1) hX (by omega) (ltS hi)) ⟨by omega, by show 1 + 19 + 40 * _ ≤ 40 * _; omega⟩ ⟨by omega, by omega⟩ rfl (Nat.le_of_ble_eq_true rfl) (fun v9 h9 e9 => ?_) (fun E9 h9 e9 => nomatch e9)
    cases e9
    show Ev _ _ _ _ _ _ 22 [some (.ref 388), some (.ref (jsh0 + i)), some (.int (nI p0)), some (.int (nI j))] [.int (nI (jshl.getD i 0)), .int (nI j)] (N, SH v T, PI I q (p, ct * 5 + vt, V, ct, K), L, Dd)
    refine Ev.icmp_ge (tgt := 45) dX3_fits_22 (by decide) (fun b1 => ?_) (fun b1 => ?_)
    · refine Ev.sg hX sX3_fits_45 (pc' := 46) (ls' := [some (.ref 388), some (.ref (jsh0 + i)), some (.int (nI p0)), some (.int (nI j))]) (st' := [.int 1]) (h' := (N, SH v T, PI I q (p, ct * 5 + vt, V, ct, K), L, Dd)) rfl ?_
      refine Ev.zret dX3_fits_46 rfl ?_ ?_
      · rfl
      rfl
    · exact absurd ((nI_leI (a := jshl.getD i 0) (b := j) (by omega) (by omega)).mpr (by omega)) b1
  | succ n ih =>
    intro j p vt V hk
    refine Ev.sg hX sX3_fits_17 (pc' := 19) (ls' := [some (.ref 388), some (.ref (jsh0 + i)), some (.int (nI p0)), some (.int (nI j))]) (st' := [.ref (jsh0 + i), .int (nI j)]) (h' := (N, SH v T, PI I q (p, ct * 5 + vt, V, ct, K), L, Dd)) rfl ?_
    refine Ev.callVK (As := []) (rest := [.int (nI j)]) (ltS hi) rfl dvJ0_length_8abf5 mkX3_83 dX3_fits_19 (c_strLen (d := d - 1) hX (by omega) (ltS hi)) ⟨by omega, by show 1 + 19 + 40 * _ ≤ 40 * _; omega⟩ ⟨by omega, by omega⟩ rfl (Nat.le_of_ble_eq_true rfl) (fun v9 h9 e9 => ?_) (fun E9 h9 e9 => nomatch e9)
    cases e9
    show Ev _ _ _ _ _ _ 22 [some (.ref 388), some (.ref (jsh0 + i)), some (.int (nI p0)), some (.int (nI j))] [.int (nI (jshl.getD i 0)), .int (nI j)] (N, SH v T, PI I q (p, ct * 5 + vt, V, ct, K), L, Dd)
    refine Ev.icmp_ge (tgt := 45) dX3_fits_22 (by decide) (fun b1 => ?_) (fun b1 => ?_)
    · exact absurd ((nI_leI (a := jshl.getD i 0) (b := j) (by omega) (by omega)).mp b1) (by omega)
    · refine Ev.sg hX sX3_fits_25 (pc' := 28) (ls' := [some (.ref 388), some (.ref (jsh0 + i)), some (.int (nI p0)), some (.int (nI j))]) (st' := [.int (nI j), .ref (jsh0 + i), .ref 388]) (h' := (N, SH v T, PI I q (p, ct * 5 + vt, V, ct, K), L, Dd)) rfl ?_
      refine Ev.callVK (As := [.int (nI j)]) (rest := [.ref 388]) (ltS hi) rfl dvJ0_charAt_5068e mkX3_88 dX3_fits_28 (c_strCharAt (d := d - 1) hX (by omega) (ltS hi) (k := j) (by omega)) ⟨by omega, by show 2 + 19 + 40 * _ ≤ 40 * _; omega⟩ ⟨by omega, by omega⟩ rfl (Nat.le_of_ble_eq_true rfl) (fun v9 h9 e9 => ?_) (fun E9 h9 e9 => nomatch e9)
      cases e9
      show Ev _ _ _ _ _ _ 31 [some (.ref 388), some (.ref (jsh0 + i)), some (.int (nI p0)), some (.int (nI j))] [.int (chS i j), .ref 388] (N, SH v T, PI I q (p, ct * 5 + vt, V, ct, K), L, Dd)
      refine Ev.callV (As := [.int (chS i j)]) (rest := []) dvX3_readPart mkX3_92 rfl rfl dX3_fits_31 (c_readPart (d := d - 1) (p := p) (vt := vt) (V := V) (ct := ct) (K := K) hX (by omega) hq (by omega) (hb_of (m := vals i n (j + 1)) (by have := hk.2.1; rw [vals] at this; omega))) ⟨by omega, by show 2 + 19 + 40 * _ ≤ 40 * _; omega⟩ (by decide) rfl (Nat.le_of_ble_eq_true rfl) (fun v9 h9 e9 => ?_) (fun E9 h9 e9 => nomatch e9)
      cases e9
      show Ev _ _ _ _ _ _ 34 [some (.ref 388), some (.ref (jsh0 + i)), some (.int (nI p0)), some (.int (nI j))] [.int ((partF (I 389) q ct (chS i j) p vt V).1)] (N, SH v T, PI I q ((partF (I 389) q ct (chS i j) p vt V).2.1, ct * 5 + (partF (I 389) q ct (chS i j) p vt V).2.2.1, (partF (I 389) q ct (chS i j) p vt V).2.2.2, ct, K), L, Dd)
      refine Ev.if_ne (tgt := 39) dX3_fits_34 (by decide) (fun b2 => ?_) (fun b2 => ?_)
      · refine Ev.sg hX sX3_fits_39 (pc' := 17) (ls' := [some (.ref 388), some (.ref (jsh0 + i)), some (.int (nI p0)), some (.int ((nI j) + 1))]) (st' := []) (h' := (N, SH v T, PI I q ((partF (I 389) q ct (chS i j) p vt V).2.1, ct * 5 + (partF (I 389) q ct (chS i j) p vt V).2.2.1, (partF (I 389) q ct (chS i j) p vt V).2.2.2, ct, K), L, Dd)) rfl ?_
        rw [nI_1, fitL, if_neg b2]
        exact ih (j + 1) (partF (I 389) q ct (chS i j) p vt V).2.1 (partF (I 389) q ct (chS i j) p vt V).2.2.1 (partF (I 389) q ct (chS i j) p vt V).2.2.2 ⟨by omega, by rw [partF_vt]; have := hk.2.1; rw [vals] at this; omega, by have := partF_p (tx := I 389) (q := q) (ct := ct) (p := p) (vt := vt) (c := chS i j) (V := V); omega⟩
      · refine Ev.sg hX sX3_fits_37 (pc' := 38) (ls' := [some (.ref 388), some (.ref (jsh0 + i)), some (.int (nI p0)), some (.int (nI j))]) (st' := [.int 0]) (h' := (N, SH v T, PI I q ((partF (I 389) q ct (chS i j) p vt V).2.1, ct * 5 + (partF (I 389) q ct (chS i j) p vt V).2.2.1, (partF (I 389) q ct (chS i j) p vt V).2.2.2, ct, K), L, Dd)) rfl ?_
        refine Ev.zret dX3_fits_38 rfl ?_ ?_
        · rfl
        rw [fitL, if_pos b2]
theorem ci5 {a : Nat} : nI a * 5 = nI (a * 5 + 0) := (Int32.ofNat_mul a 5).symm
theorem c_fits (hX : JXok X) (hd : 5 ≤ d) (hi : i < 7) (hq : q ≤ 60) (hct : ct < 8) (hp0 : p0 ≤ 70) : MT X d 0 0 jdX3_fits [.ref 388, .ref (jsh0 + i), .int (nI p0)] (N, SH v T, PI I q (p, vt, V, ct, K), L, Dd) (fun R => R = .inl (some (.int (fitL (I 389) q ct i (jshl.getD i 0) 0 p0 0 V).1), (N, SH v T, PI I q ((fitL (I 389) q ct i (jshl.getD i 0) 0 p0 0 V).2.1, ct * 5 + (fitL (I 389) q ct i (jshl.getD i 0) 0 p0 0 V).2.2.1, (fitL (I 389) q ct i (jshl.getD i 0) 0 p0 0 V).2.2.2, ct, K), L, Dd))) := by
  refine MT.mk dvX3_fits.1 ?_
  refine Ev.sg hX sX3_fits_0 (pc' := 17) (ls' := [some (.ref 388), some (.ref (jsh0 + i)), some (.int (nI p0)), some (.int 0)]) (st' := []) (h' := (N, SH v T, up2 (up2 (PI I q (p, vt, V, ct, K)) 388 5 (nI p0)) 388 6 (nI ct * 5), L, Dd)) rfl ?_
  rw [PI_at, ci5, PI_vt]
  exact l_fits (ct := ct) hX hd hi hq (jshl_le i hi) (jshl.getD i 0) 0 p0 0 V ⟨by omega, by have := vals_le i hi; omega, by have := jshl_le i hi; omega⟩
theorem c_shapeOf (hX : JXok X) {h : MH} {k : Nat} (hk : k < 7) : MT X d 0 0 jdX3_shapeOf [.int (nI k)] h (fun R => R = .inl (some (.ref (jsh0 + k)), h)) := by
  refine MT.mk dsX3_shapeOf.1 ?_
  refine Ev.sg hX sX3_shapeOf_0 (pc' := 1) (ls' := [some (.int (nI k))]) (st' := [.int (nI k)]) (h' := h) rfl ?_
  have : k = 0 ∨ k = 1 ∨ k = 2 ∨ k = 3 ∨ k = 4 ∨ k = 5 ∨ k = 6 := by omega
  rcases this with rfl | rfl | rfl | rfl | rfl | rfl | rfl
  · refine Ev.tabIn (tgt := 44) (off := 43) dX3_shapeOf_1 (by decide) (by decide) rfl rfl ?_
    refine Ev.ldcS (si := 36) rfl dX3_shapeOf_44 ?_
    exact Ev.aret dX3_shapeOf_46 rfl (Or.inl ⟨_, rfl⟩) rfl
  · refine Ev.tabIn (tgt := 47) (off := 46) dX3_shapeOf_1 (by decide) (by decide) rfl rfl ?_
    refine Ev.ldcS (si := 37) rfl dX3_shapeOf_47 ?_
    exact Ev.aret dX3_shapeOf_49 rfl (Or.inl ⟨_, rfl⟩) rfl
  · refine Ev.tabIn (tgt := 50) (off := 49) dX3_shapeOf_1 (by decide) (by decide) rfl rfl ?_
    refine Ev.ldcS (si := 38) rfl dX3_shapeOf_50 ?_
    exact Ev.aret dX3_shapeOf_52 rfl (Or.inl ⟨_, rfl⟩) rfl
  · refine Ev.tabIn (tgt := 53) (off := 52) dX3_shapeOf_1 (by decide) (by decide) rfl rfl ?_
    refine Ev.ldcS (si := 39) rfl dX3_shapeOf_53 ?_
    exact Ev.aret dX3_shapeOf_55 rfl (Or.inl ⟨_, rfl⟩) rfl
  · refine Ev.tabIn (tgt := 56) (off := 55) dX3_shapeOf_1 (by decide) (by decide) rfl rfl ?_
    refine Ev.ldcS (si := 40) rfl dX3_shapeOf_56 ?_
    exact Ev.aret dX3_shapeOf_58 rfl (Or.inl ⟨_, rfl⟩) rfl
  · refine Ev.tabIn (tgt := 59) (off := 58) dX3_shapeOf_1 (by decide) (by decide) rfl rfl ?_
    refine Ev.ldcS (si := 41) rfl dX3_shapeOf_59 ?_
    exact Ev.aret dX3_shapeOf_61 rfl (Or.inl ⟨_, rfl⟩) rfl
  · refine Ev.tabIn (tgt := 62) (off := 61) dX3_shapeOf_1 (by decide) (by decide) rfl rfl ?_
    refine Ev.ldcS (si := 42) rfl dX3_shapeOf_62 ?_
    exact Ev.aret dX3_shapeOf_64 rfl (Or.inl ⟨_, rfl⟩) rfl
abbrev CS : Type := Int32 × Nat × Nat × Nat × (Nat → Int32)
/-- the kinds from k on: found or not, the kind, at, the values -/
def rcL (tx : Nat → Int32) (q ct p0 : Nat) : Nat → Nat → Nat → Nat → (Nat → Int32) → CS
  | 0, _, f, vt, V => (0, 0, f, vt, V)
  | n + 1, k, f, _, V => if (fitL tx q ct k (jshl.getD k 0) 0 p0 0 V).1 = 0 then rcL tx q ct p0 n (k + 1) (max f (fitL tx q ct k (jshl.getD k 0) 0 p0 0 V).2.1) (ct * 5 + (fitL tx q ct k (jshl.getD k 0) 0 p0 0 V).2.2.1) (fitL tx q ct k (jshl.getD k 0) 0 p0 0 V).2.2.2
    else (1, k, (fitL tx q ct k (jshl.getD k 0) 0 p0 0 V).2.1, ct * 5 + (fitL tx q ct k (jshl.getD k 0) 0 p0 0 V).2.2.1, (fitL tx q ct k (jshl.getD k 0) 0 p0 0 V).2.2.2)
theorem maxI {a b : Nat} (ha : a < 2 ^ 31) (hb : b < 2 ^ 31) : (if nI a < nI b then nI b else nI a) = nI (max a b) := by
  by_cases h : a < b
  · rw [if_pos ((nI_ltI ha hb).mpr h), Nat.max_eq_right (by omega)]
  · rw [if_neg (fun z => h ((nI_ltI ha hb).mp z)), Nat.max_eq_left (by omega)]
theorem l_rc (hX : JXok X) (hd : 6 ≤ d) (hq : q ≤ 60) (hct : ct < 8) (hp0 : p0 ≤ 70) : ∀ (n k p f vt : Nat) (V : Nat → Int32), (k + n = 7 ∧ f ≤ 1000) → Ev X (jm jdX3_readCommand) d 0 0 (fun R => R = .inl (some (.int (rcL (I 389) q ct p0 n k f vt V).1), (N, SH v T, PI I q ((rcL (I 389) q ct p0 n k f vt V).2.2.1, (rcL (I 389) q ct p0 n k f vt V).2.2.2.1, (rcL (I 389) q ct p0 n k f vt V).2.2.2.2, if (rcL (I 389) q ct p0 n k f vt V).1 = 0 then ct else ct + 1, if (rcL (I 389) q ct p0 n k f vt V).1 = 0 then K else upV K ct (nI (rcL (I 389) q ct p0 n k f vt V).2.1)), L, Dd))) 9 [some (.ref 388), some (.int (nI p0)), some (.int (nI f)), some (.int (nI k))] [] (N, SH v T, PI I q (p, vt, V, ct, K), L, Dd) := by
  intro n
  induction n with
  | zero =>
    intro k p f vt V hk
    refine Ev.sg hX sX3_readCommand_9 (pc' := 12) (ls' := [some (.ref 388), some (.int (nI p0)), some (.int (nI f)), some (.int (nI k))]) (st' := [.int 7, .int (nI k)]) (h' := (N, SH v T, PI I q (p, vt, V, ct, K), L, Dd)) rfl ?_
    refine Ev.icmp_ge (tgt := 66) dX3_readCommand_12 (by decide) (fun b1 => ?_) (fun b1 => ?_)
    · refine Ev.sg hX sX3_readCommand_66 (pc' := 72) (ls' := [some (.ref 388), some (.int (nI p0)), some (.int (nI f)), some (.int (nI k))]) (st' := [.int 0]) (h' := (N, SH v T, up2 (PI I q (p, vt, V, ct, K)) 388 5 (nI f), L, Dd)) rfl ?_
      refine Ev.zret dX3_readCommand_72 rfl ?_ ?_
      · rfl
      (rw [PI_at]; rfl)
    · exact absurd ((nI_leI (a := 7) (b := k) (by omega) (by omega)).mpr (by omega)) b1
  | succ n ih =>
    intro k p f vt V hk
    refine Ev.sg hX sX3_readCommand_9 (pc' := 12) (ls' := [some (.ref 388), some (.int (nI p0)), some (.int (nI f)), some (.int (nI k))]) (st' := [.int 7, .int (nI k)]) (h' := (N, SH v T, PI I q (p, vt, V, ct, K), L, Dd)) rfl ?_
    refine Ev.icmp_ge (tgt := 66) dX3_readCommand_12 (by decide) (fun b1 => ?_) (fun b1 => ?_)
    · exact absurd ((nI_leI (a := 7) (b := k) (by omega) (by omega)).mp b1) (by omega)
    · refine Ev.sg hX sX3_readCommand_15 (pc' := 17) (ls' := [some (.ref 388), some (.int (nI p0)), some (.int (nI f)), some (.int (nI k))]) (st' := [.int (nI k), .ref 388]) (h' := (N, SH v T, PI I q (p, vt, V, ct, K), L, Dd)) rfl ?_
      refine Ev.callS (As := [.int (nI k)]) (rest := [.ref 388]) dsX3_shapeOf mkX3_48 dX3_readCommand_17 (c_shapeOf (d := d - 1) (k := k) hX (by omega)) ⟨by omega, by show 1 + 19 + 40 * _ ≤ 40 * _; omega⟩ (by decide) rfl (Nat.le_of_ble_eq_true rfl) (fun v9 h9 e9 => ?_) (fun E9 h9 e9 => nomatch e9)
      cases e9
      show Ev _ _ _ _ _ _ 20 [some (.ref 388), some (.int (nI p0)), some (.int (nI f)), some (.int (nI k))] [.ref (jsh0 + k), .ref 388] (N, SH v T, PI I q (p, vt, V, ct, K), L, Dd)
      refine Ev.sg hX sX3_readCommand_20 (pc' := 21) (ls' := [some (.ref 388), some (.int (nI p0)), some (.int (nI f)), some (.int (nI k))]) (st' := [.int (nI p0), .ref (jsh0 + k), .ref 388]) (h' := (N, SH v T, PI I q (p, vt, V, ct, K), L, Dd)) rfl ?_
      refine Ev.callV (As := [.ref (jsh0 + k), .int (nI p0)]) (rest := []) dvX3_fits mkX3_52 rfl rfl dX3_readCommand_21 (c_fits (d := d - 1) (i := k) (p := p) (vt := vt) (V := V) (ct := ct) (K := K) hX (by omega) (by omega) hq hct hp0) ⟨by omega, by show 4 + 19 + 40 * _ ≤ 40 * _; omega⟩ (by decide) rfl (Nat.le_of_ble_eq_true rfl) (fun v9 h9 e9 => ?_) (fun E9 h9 e9 => nomatch e9)
      cases e9
      show Ev _ _ _ _ _ _ 24 [some (.ref 388), some (.int (nI p0)), some (.int (nI f)), some (.int (nI k))] [.int ((fitL (I 389) q ct k (jshl.getD k 0) 0 p0 0 V).1)] (N, SH v T, PI I q ((fitL (I 389) q ct k (jshl.getD k 0) 0 p0 0 V).2.1, ct * 5 + (fitL (I 389) q ct k (jshl.getD k 0) 0 p0 0 V).2.2.1, (fitL (I 389) q ct k (jshl.getD k 0) 0 p0 0 V).2.2.2, ct, K), L, Dd)
      refine Ev.if_eq (tgt := 51) dX3_readCommand_24 (by decide) (fun b2 => ?_) (fun b2 => ?_)
      · refine Ev.sg hX sX3_readCommand_51 (pc' := 56) (ls' := [some (.ref 388), some (.int (nI p0)), some (.int (nI f)), some (.int (nI k))]) (st' := [.int (nI ((fitL (I 389) q ct k (jshl.getD k 0) 0 p0 0 V).2.1)), .int (nI f)]) (h' := (N, SH v T, PI I q ((fitL (I 389) q ct k (jshl.getD k 0) 0 p0 0 V).2.1, ct * 5 + (fitL (I 389) q ct k (jshl.getD k 0) 0 p0 0 V).2.2.1, (fitL (I 389) q ct k (jshl.getD k 0) 0 p0 0 V).2.2.2, ct, K), L, Dd)) rfl ?_
        refine Ev.mmax (by decide +kernel) (by omega) (Nat.le_of_ble_eq_true rfl) dX3_readCommand_56 ?_
        refine Ev.sg hX sX3_readCommand_59 (pc' := 9) (ls' := [some (.ref 388), some (.int (nI p0)), some (.int (if nI f < nI ((fitL (I 389) q ct k (jshl.getD k 0) 0 p0 0 V).2.1) then nI ((fitL (I 389) q ct k (jshl.getD k 0) 0 p0 0 V).2.1) else nI f)), some (.int ((nI k) + 1))]) (st' := []) (h' := (N, SH v T, PI I q ((fitL (I 389) q ct k (jshl.getD k 0) 0 p0 0 V).2.1, ct * 5 + (fitL (I 389) q ct k (jshl.getD k 0) 0 p0 0 V).2.2.1, (fitL (I 389) q ct k (jshl.getD k 0) 0 p0 0 V).2.2.2, ct, K), L, Dd)) rfl ?_
        rw [nI_1, maxI (by omega) (by have := fitL_p (tx := I 389) (q := q) (ct := ct) (i := k) (jshl.getD k 0) 0 p0 0 V; have := jshl_le k (by omega); omega), rcL, if_pos b2]
        exact ih (k + 1) (fitL (I 389) q ct k (jshl.getD k 0) 0 p0 0 V).2.1 (max f (fitL (I 389) q ct k (jshl.getD k 0) 0 p0 0 V).2.1) (ct * 5 + (fitL (I 389) q ct k (jshl.getD k 0) 0 p0 0 V).2.2.1) (fitL (I 389) q ct k (jshl.getD k 0) 0 p0 0 V).2.2.2 ⟨by omega, by have := fitL_p (tx := I 389) (q := q) (ct := ct) (i := k) (jshl.getD k 0) 0 p0 0 V; have := jshl_le k (by omega); omega⟩
      · refine Ev.sg hX sX3_readCommand_27 (pc' := 36) (ls' := [some (.ref 388), some (.int (nI p0)), some (.int (nI f)), some (.int (nI k))]) (st' := [.int (nI k), .int (nI ct), .ref 390]) (h' := (N, SH v T, PI I q ((fitL (I 389) q ct k (jshl.getD k 0) 0 p0 0 V).2.1, ct * 5 + (fitL (I 389) q ct k (jshl.getD k 0) 0 p0 0 V).2.2.1, (fitL (I 389) q ct k (jshl.getD k 0) 0 p0 0 V).2.2.2, ct, K), L, Dd)) rfl ?_
        refine Ev.callV (As := [.int (nI ct), .int (nI k)]) (rest := []) dvX4_set mkX3_56 rfl rfl dX3_readCommand_36 (c_Row_setN (d := d - 1) (h := (N, SH v T, PI I q ((fitL (I 389) q ct k (jshl.getD k 0) 0 p0 0 V).2.1, ct * 5 + (fitL (I 389) q ct k (jshl.getD k 0) 0 p0 0 V).2.2.1, (fitL (I 389) q ct k (jshl.getD k 0) 0 p0 0 V).2.2.2, ct, K), L, Dd)) (r := 390) (a := 391) (n := 8) (k := ct) hX rfl rfl (by decide) hct) ⟨by omega, by show 3 + 19 + 40 * _ ≤ 40 * _; omega⟩ (by decide) rfl (Nat.le_of_ble_eq_true rfl) (fun v9 h9 e9 => ?_) (fun E9 h9 e9 => nomatch e9)
        cases e9
        show Ev _ _ _ _ _ _ 39 [some (.ref 388), some (.int (nI p0)), some (.int (nI f)), some (.int (nI k))] [] (N, SH v T, up2 (PI I q ((fitL (I 389) q ct k (jshl.getD k 0) 0 p0 0 V).2.1, ct * 5 + (fitL (I 389) q ct k (jshl.getD k 0) 0 p0 0 V).2.2.1, (fitL (I 389) q ct k (jshl.getD k 0) 0 p0 0 V).2.2.2, ct, K)) 391 ct (nI k), L, Dd)
        rw [PI_K]
        refine Ev.sg hX sX3_readCommand_39 (pc' := 50) (ls' := [some (.ref 388), some (.int (nI p0)), some (.int (nI f)), some (.int (nI k))]) (st' := [.int 1]) (h' := (N, SH v T, up2 (PI I q ((fitL (I 389) q ct k (jshl.getD k 0) 0 p0 0 V).2.1, ct * 5 + (fitL (I 389) q ct k (jshl.getD k 0) 0 p0 0 V).2.2.1, (fitL (I 389) q ct k (jshl.getD k 0) 0 p0 0 V).2.2.2, ct, upV K ct (nI k))) 388 2 ((nI ct) + 1), L, Dd)) rfl ?_
        refine Ev.zret dX3_readCommand_50 rfl ?_ ?_
        · rfl
        (rw [nI_1, PI_ct, rcL, if_neg b2]; simp)
theorem c_readCommand (hX : JXok X) (hd : 6 ≤ d) (hq : q ≤ 60) (hct : ct < 8) (hp0 : p ≤ 70) : MT X d 0 0 jdX3_readCommand [.ref 388] (N, SH v T, PI I q (p, vt, V, ct, K), L, Dd) (fun R => R = .inl (some (.int (rcL (I 389) q ct p 7 0 p vt V).1), (N, SH v T, PI I q ((rcL (I 389) q ct p 7 0 p vt V).2.2.1, (rcL (I 389) q ct p 7 0 p vt V).2.2.2.1, (rcL (I 389) q ct p 7 0 p vt V).2.2.2.2, if (rcL (I 389) q ct p 7 0 p vt V).1 = 0 then ct else ct + 1, if (rcL (I 389) q ct p 7 0 p vt V).1 = 0 then K else upV K ct (nI (rcL (I 389) q ct p 7 0 p vt V).2.1)), L, Dd))) := by
  refine MT.mk dvX3_readCommand.1 ?_
  refine Ev.sg hX sX3_readCommand_0 (pc' := 9) (ls' := [some (.ref 388), some (.int (nI p)), some (.int (nI p)), some (.int 0)]) (st' := []) (h' := (N, SH v T, PI I q (p, vt, V, ct, K), L, Dd)) rfl ?_
  exact l_rc hX hd hq hct hp0 7 0 p p vt V ⟨rfl, by omega⟩
end PROG2
