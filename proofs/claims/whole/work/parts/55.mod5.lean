/-! the model: repairs and trains -/
def reS (I : HI) : Nat → Int32 → Int32 := fun k acc => acc + I 397 (119 + k)
def repM (I : HI) (m : Nat) (c : Int32) : Int32 × HI := if slOM I m c = -1 then (0, up2 I 396 12 1) else if I 397 (119 + (slOM I m c).toNatClampNeg) = 0 then (0, up2 I 396 12 2) else (fo (reS (up2 I 397 (119 + (slOM I m c).toNatClampNeg) 0)) m 0 0, up2 (up2 I 397 (119 + (slOM I m c).toNatClampNeg) 0) 396 12 0)
theorem slOM_or (I : HI) (m : Nat) (c : Int32) : slOM I m c = -1 ∨ ∃ s, s < m ∧ slOM I m c = nI s := by
  rcases fnd_or (p := fun s => I 397 (39 + s) = c) m 0 with h | ⟨j, h1, h2, h3⟩
  · exact Or.inl h.1
  · exact Or.inr ⟨j, by omega, h3.2.1⟩
def trM (I : HI) (m x : Nat) : Nat → Nat → Int32
  | 0, k => nI k
  | n + 1, k => if I 397 (99 + (feM I m x (nI k)).toNatClampNeg) = I 397 (99 + (feM I m x (nI 0)).toNatClampNeg) then trM I m x n (k + 1) else nI k
theorem trM_le {I : HI} {m x : Nat} : ∀ n k, ∃ j, k ≤ j ∧ j ≤ k + n ∧ trM I m x n k = nI j
  | 0, k => ⟨k, Nat.le_refl _, Nat.le_refl _, rfl⟩
  | n + 1, k => by
    rw [trM]
    split
    · obtain ⟨j, h1, h2, h3⟩ := trM_le n (k + 1)
      exact ⟨j, by omega, by omega, h3⟩
    · exact ⟨k, Nat.le_refl _, by omega, rfl⟩
def baS (I : HI) (m x : Nat) : Nat → Int32 → Int32 := fun k acc => if ¬ acc = 0 ∨ I 397 (119 + (feM I m x (nI k)).toNatClampNeg) = 1 then 1 else 0
def lvS (at9 : Nat) : Nat → HI → HI := fun k J => up2 J 397 (at9 + k) (if k < 19 then J 397 (at9 + k + 1) else 0)
def lvR (s : Nat) : Nat → HI → HI := fun j J => fo (lvS (39 + 20 * j)) (20 - s) s J
def lv0 (I : HI) (s : Nat) : HI := up2 (up2 (up2 I 397 4 (I 397 4 + 1)) 397 6 (I 397 6 + I 397 (79 + s))) 397 (31 + (I 397 (139 + s)).toNatClampNeg) (I 397 (31 + (I 397 (139 + s)).toNatClampNeg) - 1)
def lvM (I : HI) (m s : Nat) : HI := up2 (fo (lvR s) 7 0 (lv0 I s)) 397 1 (nI m - 1)
theorem lvS_i {a k r j : Nat} {J : HI} (h : j < 39) (ha : 39 ≤ a) : lvS a k J r j = J r j := by rw [lvS, up2_i (by omega)]
theorem lvR_i {s k r j : Nat} {J : HI} (h : j < 39) : lvR s k J r j = J r j := fo_inv (P := fun (Z : HI) => Z r j = J r j) (fun i Z e => (lvS_i h (by omega)).trans e) _ _ J rfl
theorem lvF_i {s n k r j : Nat} {J : HI} (h : j < 39) : fo (lvR s) n k J r j = J r j := fo_inv (P := fun (Z : HI) => Z r j = J r j) (fun i Z e => (lvR_i h).trans e) _ _ J rfl
theorem lvS_ne {a k r : Nat} {J : HI} (h : r ≠ 397) : lvS a k J r = J r := by rw [lvS, up2_ne h]
theorem lvR_ne {s k r : Nat} {J : HI} (h : r ≠ 397) : lvR s k J r = J r := fo_inv (P := fun (Z : HI) => Z r = J r) (fun i Z e => (lvS_ne h).trans e) _ _ J rfl
theorem lvM_ne {I : HI} {m s r : Nat} (h : r ≠ 397) : lvM I m s r = I r := by
  rw [lvM, up2_ne h, fo_inv (P := fun (Z : HI) => Z r = lv0 I s r) (fun i Z e => (lvR_ne h).trans e) 7 0 (lv0 I s) rfl, lv0, up2_ne h, up2_ne h, up2_ne h]
section MOD5
variable {X : JX} {d N v : Nat} {T : Nat → Option JS} {I : Nat → Nat → Int32} {L : Nat → Nat → Int64} {Dd : Nat → Nat → UInt64} {a b c e i0 t dd : Int32} {m z x y q c0 s : Nat}
theorem l_rep {Q : JR → Prop} (hX : JXok X) (hd : 1 ≤ d) (hm20 : m ≤ 20) (hm : I 397 1 = nI m) : ∀ (n k : Nat) (acc : Int32), k + n = m → Ev X (jm jdX7_repairs) d 0 0 Q 80 [some (.ref 396), some (.int c), some (.int e), some (.int (fo (reS I) n k acc)), some (.int (nI m))] [] (N, SH v T, I, L, Dd) → Ev X (jm jdX7_repairs) d 0 0 Q 50 [some (.ref 396), some (.int c), some (.int e), some (.int acc), some (.int (nI k))] [] (N, SH v T, I, L, Dd) := by
  intro n
  induction n with
  | zero =>
    intro k acc hk hQ
    refine Ev.sg hX (sX7_repairs_50.sub 0 2) (pc' := 53) (ls' := [some (.ref 396), some (.int c), some (.int e), some (.int acc), some (.int (nI k))]) (st' := [.ref 396, .int (nI k)]) (h' := (N, SH v T, I, L, Dd)) rfl ?_
    refine Ev.getf (sX7_repairs_50.lk 2 (q := (53, .getfield 7, 7, 0)) rfl) rfl rfl (sX7_repairs_50.dc 2 (q := (53, .getfield 7, 7, 0)) rfl) ?_
    show Ev _ _ _ _ _ _ 56 [some (.ref 396), some (.int c), some (.int e), some (.int acc), some (.int (nI k))] [.ref 397, .int (nI k)] (N, SH v T, I, L, Dd)
    refine Ev.sg hX (sX7_repairs_50.sub 3 1) (pc' := 57) (ls' := [some (.ref 396), some (.int c), some (.int e), some (.int acc), some (.int (nI k))]) (st' := [.int 1, .ref 397, .int (nI k)]) (h' := (N, SH v T, I, L, Dd)) rfl ?_
    refine Ev.ialdE (n := 1) (N := 179) rfl rfl (by omega) (by decide) (sX7_repairs_50.dc 4 (q := (57, .iaload, 0, 0)) rfl) ?_
    show Ev _ _ _ _ _ _ 58 [some (.ref 396), some (.int c), some (.int e), some (.int acc), some (.int (nI k))] [.int (I 397 1), .int (nI k)] (N, SH v T, I, L, Dd)
    refine Ev.eqst (st' := [.int (nI m), .int (nI k)]) (by rw [show I 397 1 = nI m from (hm)]) ?_
    refine Ev.icmp_ge (tgt := 80) dX7_repairs_58 (by decide) (fun b1 => ?_) (fun b1 => ?_)
    · rw [show k = m by omega]
      exact hQ
    · exact absurd ((nI_leI (a := m) (b := k) (by omega) (by omega)).mpr (by omega)) b1
  | succ n ih =>
    intro k acc hk hQ
    refine Ev.sg hX (sX7_repairs_50.sub 0 2) (pc' := 53) (ls' := [some (.ref 396), some (.int c), some (.int e), some (.int acc), some (.int (nI k))]) (st' := [.ref 396, .int (nI k)]) (h' := (N, SH v T, I, L, Dd)) rfl ?_
    refine Ev.getf (sX7_repairs_50.lk 2 (q := (53, .getfield 7, 7, 0)) rfl) rfl rfl (sX7_repairs_50.dc 2 (q := (53, .getfield 7, 7, 0)) rfl) ?_
    show Ev _ _ _ _ _ _ 56 [some (.ref 396), some (.int c), some (.int e), some (.int acc), some (.int (nI k))] [.ref 397, .int (nI k)] (N, SH v T, I, L, Dd)
    refine Ev.sg hX (sX7_repairs_50.sub 3 1) (pc' := 57) (ls' := [some (.ref 396), some (.int c), some (.int e), some (.int acc), some (.int (nI k))]) (st' := [.int 1, .ref 397, .int (nI k)]) (h' := (N, SH v T, I, L, Dd)) rfl ?_
    refine Ev.ialdE (n := 1) (N := 179) rfl rfl (by omega) (by decide) (sX7_repairs_50.dc 4 (q := (57, .iaload, 0, 0)) rfl) ?_
    show Ev _ _ _ _ _ _ 58 [some (.ref 396), some (.int c), some (.int e), some (.int acc), some (.int (nI k))] [.int (I 397 1), .int (nI k)] (N, SH v T, I, L, Dd)
    refine Ev.eqst (st' := [.int (nI m), .int (nI k)]) (by rw [show I 397 1 = nI m from (hm)]) ?_
    refine Ev.icmp_ge (tgt := 80) dX7_repairs_58 (by decide) (fun b1 => ?_) (fun b1 => ?_)
    · exact absurd ((nI_leI (a := m) (b := k) (by omega) (by omega)).mp b1) (by omega)
    · refine Ev.sg hX (sX7_repairs_61.sub 0 2) (pc' := 63) (ls' := [some (.ref 396), some (.int c), some (.int e), some (.int acc), some (.int (nI k))]) (st' := [.ref 396, .int acc]) (h' := (N, SH v T, I, L, Dd)) rfl ?_
      refine Ev.getf (sX7_repairs_61.lk 2 (q := (63, .getfield 7, 7, 0)) rfl) rfl rfl (sX7_repairs_61.dc 2 (q := (63, .getfield 7, 7, 0)) rfl) ?_
      show Ev _ _ _ _ _ _ 66 [some (.ref 396), some (.int c), some (.int e), some (.int acc), some (.int (nI k))] [.ref 397, .int acc] (N, SH v T, I, L, Dd)
      refine Ev.sg hX (sX7_repairs_61.sub 3 3) (pc' := 71) (ls' := [some (.ref 396), some (.int c), some (.int e), some (.int acc), some (.int (nI k))]) (st' := [.int (119 + (nI k)), .ref 397, .int acc]) (h' := (N, SH v T, I, L, Dd)) rfl ?_
      refine Ev.ialdE (n := (119 + k)) (N := 179) rfl (naI rfl rfl) (by omega) (by decide) dX7_repairs_71 ?_
      show Ev _ _ _ _ _ _ 72 [some (.ref 396), some (.int c), some (.int e), some (.int acc), some (.int (nI k))] [.int (I 397 (119 + k)), .int acc] (N, SH v T, I, L, Dd)
      refine Ev.sg hX (sX7_repairs_72.sub 0 4) (pc' := 50) (ls' := [some (.ref 396), some (.int c), some (.int e), some (.int (acc + (I 397 (119 + k)))), some (.int ((nI k) + 1))]) (st' := []) (h' := (N, SH v T, I, L, Dd)) rfl ?_
      rw [nI_1]
      exact ih (k + 1) (reS I k acc) (by omega) hQ
theorem m_repairs (hX : JXok X) (hd : 3 ≤ d) (hm20 : m ≤ 20) (hm : I 397 1 = nI m) : MT X d 0 0 jdX7_repairs [.ref 396, .int c] (N, SH v T, I, L, Dd) (fun R => R = .inl (some (.int (repM I m c).1), (N, SH v T, (repM I m c).2, L, Dd))) := by
  refine MT.mk dvX7_repairs.1 ?_
  refine Ev.sg hX (sX7_repairs_0.sub 0 2) (pc' := 2) (ls' := [some (.ref 396), some (.int c), none, none, none]) (st' := [.int c, .ref 396]) (h' := (N, SH v T, I, L, Dd)) rfl ?_
  refine Ev.callV (As := [.int c]) (rest := []) dvX7_slotOf mkX7_130 rfl rfl dX7_repairs_2 (m_slotOf (d := d - 1) (I := I) hX (by omega) hm20 hm) ⟨by omega, by show 3 + 19 + 40 * _ ≤ 40 * _; omega⟩ ⟨Nat.zero_le _, Nat.zero_le _⟩ rfl (Nat.le_of_ble_eq_true rfl) (fun v9 h9 e9 => ?_) (fun E9 h9 e9 => nomatch e9)
  cases e9
  show Ev _ _ _ _ _ _ 5 [some (.ref 396), some (.int c), none, none, none] [.int (slOM I m c)] (N, SH v T, I, L, Dd)
  refine Ev.sg hX (sX7_repairs_5.sub 0 3) (pc' := 8) (ls' := [some (.ref 396), some (.int c), some (.int (slOM I m c)), none, none]) (st' := [.int (-1), .int (slOM I m c)]) (h' := (N, SH v T, I, L, Dd)) rfl ?_
  refine Ev.icmp_ne (tgt := 17) dX7_repairs_8 (by decide) (fun b1 => ?_) (fun b1 => ?_)
  · obtain ⟨s, hs, hs9⟩ := (slOM_or I m c).resolve_left b1
    have hcs : (nI s).toNatClampNeg = s := nI_clamp (by omega)
    have hne := b1
    rw [hs9]
    refine Ev.sg hX (sX7_repairs_17.sub 0 1) (pc' := 18) (ls' := [some (.ref 396), some (.int c), some (.int (nI s)), none, none]) (st' := [.ref 396]) (h' := (N, SH v T, I, L, Dd)) rfl ?_
    refine Ev.getf (sX7_repairs_17.lk 1 (q := (18, .getfield 7, 7, 0)) rfl) rfl rfl (sX7_repairs_17.dc 1 (q := (18, .getfield 7, 7, 0)) rfl) ?_
    show Ev _ _ _ _ _ _ 21 [some (.ref 396), some (.int c), some (.int (nI s)), none, none] [.ref 397] (N, SH v T, I, L, Dd)
    refine Ev.sg hX (sX7_repairs_17.sub 2 3) (pc' := 25) (ls' := [some (.ref 396), some (.int c), some (.int (nI s)), none, none]) (st' := [.int (119 + (nI s)), .ref 397]) (h' := (N, SH v T, I, L, Dd)) rfl ?_
    refine Ev.ialdE (n := (119 + s)) (N := 179) rfl (naI rfl rfl) (by omega) (by decide) dX7_repairs_25 ?_
    show Ev _ _ _ _ _ _ 26 [some (.ref 396), some (.int c), some (.int (nI s)), none, none] [.int (I 397 (119 + s))] (N, SH v T, I, L, Dd)
    refine Ev.if_ne (tgt := 35) dX7_repairs_26 (by decide) (fun b2 => ?_) (fun b2 => ?_)
    · refine Ev.sg hX (sX7_repairs_35.sub 0 1) (pc' := 36) (ls' := [some (.ref 396), some (.int c), some (.int (nI s)), none, none]) (st' := [.ref 396]) (h' := (N, SH v T, I, L, Dd)) rfl ?_
      refine Ev.getf (sX7_repairs_35.lk 1 (q := (36, .getfield 7, 7, 0)) rfl) rfl rfl (sX7_repairs_35.dc 1 (q := (36, .getfield 7, 7, 0)) rfl) ?_
      show Ev _ _ _ _ _ _ 39 [some (.ref 396), some (.int c), some (.int (nI s)), none, none] [.ref 397] (N, SH v T, I, L, Dd)
      refine Ev.sg hX (sX7_repairs_35.sub 2 4) (pc' := 44) (ls' := [some (.ref 396), some (.int c), some (.int (nI s)), none, none]) (st' := [.int 0, .int (119 + (nI s)), .ref 397]) (h' := (N, SH v T, I, L, Dd)) rfl ?_
      refine Ev.iastE (n := (119 + s)) (N := 179) hX rfl (naI rfl rfl) (by omega) (by decide) dX7_repairs_44 ?_
      show Ev _ _ _ _ _ _ 45 [some (.ref 396), some (.int c), some (.int (nI s)), none, none] [] (N, SH v T, up2 I 397 (119 + s) 0, L, Dd)
      refine Ev.sg hX (sX7_repairs_45.sub 0 4) (pc' := 50) (ls' := [some (.ref 396), some (.int c), some (.int (nI s)), some (.int 0), some (.int 0)]) (st' := []) (h' := (N, SH v T, up2 I 397 (119 + s) 0, L, Dd)) rfl ?_
      refine l_rep (I := up2 I 397 (119 + s) 0) hX (by omega) hm20 ((up2_i (by omega)).trans hm) m 0 0 (Nat.zero_add m) ?_
      show Ev _ _ _ _ _ _ 80 [some (.ref 396), some (.int c), some (.int (nI s)), some (.int (fo (reS (up2 I 397 (119 + s) 0)) m 0 0)), some (.int (nI m))] [] (N, SH v T, up2 I 397 (119 + s) 0, L, Dd)
      refine Ev.sg hX (sX7_repairs_80.sub 0 2) (pc' := 82) (ls' := [some (.ref 396), some (.int c), some (.int (nI s)), some (.int (fo (reS (up2 I 397 (119 + s) 0)) m 0 0)), some (.int (nI m))]) (st' := [.int (fo (reS (up2 I 397 (119 + s) 0)) m 0 0), .ref 396]) (h' := (N, SH v T, up2 I 397 (119 + s) 0, L, Dd)) rfl ?_
      refine Ev.callV (As := [.int (fo (reS (up2 I 397 (119 + s) 0)) m 0 0)]) (rest := []) dvX7_done mkX7_79 rfl rfl dX7_repairs_82 (m_done (d := d - 1) (I := (up2 I 397 (119 + s) 0)) hX (by omega)) ⟨by omega, by show 2 + 19 + 40 * _ ≤ 40 * _; omega⟩ ⟨Nat.zero_le _, Nat.zero_le _⟩ rfl (Nat.le_of_ble_eq_true rfl) (fun v9 h9 e9 => ?_) (fun E9 h9 e9 => nomatch e9)
      cases e9
      show Ev _ _ _ _ _ _ 85 [some (.ref 396), some (.int c), some (.int (nI s)), some (.int (fo (reS (up2 I 397 (119 + s) 0)) m 0 0)), some (.int (nI m))] [.int (fo (reS (up2 I 397 (119 + s) 0)) m 0 0)] (N, SH v T, up2 (up2 I 397 (119 + s) 0) 396 12 0, L, Dd)
      refine Ev.iret dX7_repairs_85 rfl ?_
      rw [repM, if_neg (by rw [hs9]; rw [hs9] at hne; exact hne), hs9, hcs, if_neg b2]
    · refine Ev.sg hX (sX7_repairs_29.sub 0 2) (pc' := 31) (ls' := [some (.ref 396), some (.int c), some (.int (nI s)), none, none]) (st' := [.int 2, .ref 396]) (h' := (N, SH v T, I, L, Dd)) rfl ?_
      refine Ev.callV (As := [.int 2]) (rest := []) dvX7_fails mkX7_75 rfl rfl dX7_repairs_31 (m_fails (d := d - 1) (I := I) hX (by omega)) ⟨by omega, by show 2 + 19 + 40 * _ ≤ 40 * _; omega⟩ ⟨Nat.zero_le _, Nat.zero_le _⟩ rfl (Nat.le_of_ble_eq_true rfl) (fun v9 h9 e9 => ?_) (fun E9 h9 e9 => nomatch e9)
      cases e9
      show Ev _ _ _ _ _ _ 34 [some (.ref 396), some (.int c), some (.int (nI s)), none, none] [.int 0] (N, SH v T, up2 I 396 12 2, L, Dd)
      refine Ev.iret dX7_repairs_34 rfl ?_
      rw [repM, if_neg (by rw [hs9]; rw [hs9] at hne; exact hne), hs9, hcs, if_pos b2]
  · refine Ev.sg hX (sX7_repairs_11.sub 0 2) (pc' := 13) (ls' := [some (.ref 396), some (.int c), some (.int (slOM I m c)), none, none]) (st' := [.int 1, .ref 396]) (h' := (N, SH v T, I, L, Dd)) rfl ?_
    refine Ev.callV (As := [.int 1]) (rest := []) dvX7_fails mkX7_75 rfl rfl dX7_repairs_13 (m_fails (d := d - 1) (I := I) hX (by omega)) ⟨by omega, by show 2 + 19 + 40 * _ ≤ 40 * _; omega⟩ ⟨Nat.zero_le _, Nat.zero_le _⟩ rfl (Nat.le_of_ble_eq_true rfl) (fun v9 h9 e9 => ?_) (fun E9 h9 e9 => nomatch e9)
    cases e9
    show Ev _ _ _ _ _ _ 16 [some (.ref 396), some (.int c), some (.int (slOM I m c)), none, none] [.int 0] (N, SH v T, up2 I 396 12 1, L, Dd)
    refine Ev.iret dX7_repairs_16 rfl ?_
    rw [repM, if_pos b1]
theorem l_mtrain (hX : JXok X) (hd : 3 ≤ d) (hm20 : m ≤ 20) (hm : I 397 1 = nI m) (hx : x < 8) (hc0 : c0 ≤ 20) (hg : I 397 (31 + x) = nI c0) (hp : ∀ p, p < c0 → ∃ s, s < m ∧ slAM I m (nI x) (nI p) = nI s) : ∀ (n k : Nat), k + n = c0 → Ev X (jm jdX7_train) d 0 0 (fun R => R = .inl (some (.int (trM I m x n k)), (N, SH v T, I, L, Dd))) 2 [some (.ref 396), some (.int (nI x)), some (.int (nI k))] [] (N, SH v T, I, L, Dd) := by
  intro n
  induction n with
  | zero =>
    intro k hk
    refine Ev.sg hX (sX7_train_2.sub 0 2) (pc' := 4) (ls' := [some (.ref 396), some (.int (nI x)), some (.int (nI k))]) (st' := [.ref 396, .int (nI k)]) (h' := (N, SH v T, I, L, Dd)) rfl ?_
    refine Ev.getf (sX7_train_2.lk 2 (q := (4, .getfield 7, 7, 0)) rfl) rfl rfl (sX7_train_2.dc 2 (q := (4, .getfield 7, 7, 0)) rfl) ?_
    show Ev _ _ _ _ _ _ 7 [some (.ref 396), some (.int (nI x)), some (.int (nI k))] [.ref 397, .int (nI k)] (N, SH v T, I, L, Dd)
    refine Ev.sg hX (sX7_train_2.sub 3 3) (pc' := 11) (ls' := [some (.ref 396), some (.int (nI x)), some (.int (nI k))]) (st' := [.int (31 + (nI x)), .ref 397, .int (nI k)]) (h' := (N, SH v T, I, L, Dd)) rfl ?_
    refine Ev.ialdE (n := (31 + x)) (N := 179) rfl (naI rfl rfl) (by omega) (by decide) dX7_train_11 ?_
    show Ev _ _ _ _ _ _ 12 [some (.ref 396), some (.int (nI x)), some (.int (nI k))] [.int (I 397 (31 + x)), .int (nI k)] (N, SH v T, I, L, Dd)
    refine Ev.eqst (st' := [.int (nI c0), .int (nI k)]) (by rw [show I 397 (31 + x) = nI c0 from (hg)]) ?_
    refine Ev.icmp_ge (tgt := 52) dX7_train_12 (by decide) (fun b1 => ?_) (fun b1 => ?_)
    · refine Ev.sg hX (sX7_train_52.sub 0 1) (pc' := 53) (ls' := [some (.ref 396), some (.int (nI x)), some (.int (nI k))]) (st' := [.int (nI k)]) (h' := (N, SH v T, I, L, Dd)) rfl ?_
      refine Ev.iret dX7_train_53 rfl ?_
      rfl
    · exact absurd ((nI_leI (a := c0) (b := k) (by omega) (by omega)).mpr (by omega)) b1
  | succ n ih =>
    intro k hk
    refine Ev.sg hX (sX7_train_2.sub 0 2) (pc' := 4) (ls' := [some (.ref 396), some (.int (nI x)), some (.int (nI k))]) (st' := [.ref 396, .int (nI k)]) (h' := (N, SH v T, I, L, Dd)) rfl ?_
    refine Ev.getf (sX7_train_2.lk 2 (q := (4, .getfield 7, 7, 0)) rfl) rfl rfl (sX7_train_2.dc 2 (q := (4, .getfield 7, 7, 0)) rfl) ?_
    show Ev _ _ _ _ _ _ 7 [some (.ref 396), some (.int (nI x)), some (.int (nI k))] [.ref 397, .int (nI k)] (N, SH v T, I, L, Dd)
    refine Ev.sg hX (sX7_train_2.sub 3 3) (pc' := 11) (ls' := [some (.ref 396), some (.int (nI x)), some (.int (nI k))]) (st' := [.int (31 + (nI x)), .ref 397, .int (nI k)]) (h' := (N, SH v T, I, L, Dd)) rfl ?_
    refine Ev.ialdE (n := (31 + x)) (N := 179) rfl (naI rfl rfl) (by omega) (by decide) dX7_train_11 ?_
    show Ev _ _ _ _ _ _ 12 [some (.ref 396), some (.int (nI x)), some (.int (nI k))] [.int (I 397 (31 + x)), .int (nI k)] (N, SH v T, I, L, Dd)
    refine Ev.eqst (st' := [.int (nI c0), .int (nI k)]) (by rw [show I 397 (31 + x) = nI c0 from (hg)]) ?_
    refine Ev.icmp_ge (tgt := 52) dX7_train_12 (by decide) (fun b1 => ?_) (fun b1 => ?_)
    · exact absurd ((nI_leI (a := c0) (b := k) (by omega) (by omega)).mp b1) (by omega)
    · obtain ⟨s, hs, hfe⟩ := feM_s hg hp (k := k) (by omega)
      obtain ⟨s0, hs0, hfe0⟩ := feM_s hg hp (k := 0) (by omega)
      refine Ev.sg hX (sX7_train_15.sub 0 1) (pc' := 16) (ls' := [some (.ref 396), some (.int (nI x)), some (.int (nI k))]) (st' := [.ref 396]) (h' := (N, SH v T, I, L, Dd)) rfl ?_
      refine Ev.getf (sX7_train_15.lk 1 (q := (16, .getfield 7, 7, 0)) rfl) rfl rfl (sX7_train_15.dc 1 (q := (16, .getfield 7, 7, 0)) rfl) ?_
      show Ev _ _ _ _ _ _ 19 [some (.ref 396), some (.int (nI x)), some (.int (nI k))] [.ref 397] (N, SH v T, I, L, Dd)
      refine Ev.sg hX (sX7_train_15.sub 2 4) (pc' := 24) (ls' := [some (.ref 396), some (.int (nI x)), some (.int (nI k))]) (st' := [.int (nI k), .int (nI x), .ref 396, .int 99, .ref 397]) (h' := (N, SH v T, I, L, Dd)) rfl ?_
      refine Ev.callV (As := [.int (nI x), .int (nI k)]) (rest := [.int 99, .ref 397]) dvX7_fromEnd mkX7_117 rfl rfl dX7_train_24 (m_fromEnd (d := d - 1) (I := I) (t := x) hX (by omega) hm20 hm (by omega)) ⟨by omega, by show 3 + 19 + 40 * _ ≤ 40 * _; omega⟩ ⟨Nat.zero_le _, Nat.zero_le _⟩ rfl (Nat.le_of_ble_eq_true rfl) (fun v9 h9 e9 => ?_) (fun E9 h9 e9 => nomatch e9)
      cases e9
      show Ev _ _ _ _ _ _ 27 [some (.ref 396), some (.int (nI x)), some (.int (nI k))] [.int (feM I m x (nI k)), .int 99, .ref 397] (N, SH v T, I, L, Dd)
      refine Ev.eqst (st' := [.int (nI s), .int 99, .ref 397]) (by rw [hfe]) ?_
      show Ev _ _ _ _ _ _ 27 [some (.ref 396), some (.int (nI x)), some (.int (nI k))] [.int (nI s), .int 99, .ref 397] (N, SH v T, I, L, Dd)
      refine Ev.sg hX (sX7_train_27.sub 0 1) (pc' := 28) (ls' := [some (.ref 396), some (.int (nI x)), some (.int (nI k))]) (st' := [.int (99 + (nI s)), .ref 397]) (h' := (N, SH v T, I, L, Dd)) rfl ?_
      refine Ev.ialdE (n := (99 + s)) (N := 179) rfl (naI rfl rfl) (by omega) (by decide) dX7_train_28 ?_
      show Ev _ _ _ _ _ _ 29 [some (.ref 396), some (.int (nI x)), some (.int (nI k))] [.int (I 397 (99 + s))] (N, SH v T, I, L, Dd)
      refine Ev.sg hX (sX7_train_29.sub 0 1) (pc' := 30) (ls' := [some (.ref 396), some (.int (nI x)), some (.int (nI k))]) (st' := [.ref 396, .int (I 397 (99 + s))]) (h' := (N, SH v T, I, L, Dd)) rfl ?_
      refine Ev.getf (sX7_train_29.lk 1 (q := (30, .getfield 7, 7, 0)) rfl) rfl rfl (sX7_train_29.dc 1 (q := (30, .getfield 7, 7, 0)) rfl) ?_
      show Ev _ _ _ _ _ _ 33 [some (.ref 396), some (.int (nI x)), some (.int (nI k))] [.ref 397, .int (I 397 (99 + s))] (N, SH v T, I, L, Dd)
      refine Ev.sg hX (sX7_train_29.sub 2 4) (pc' := 38) (ls' := [some (.ref 396), some (.int (nI x)), some (.int (nI k))]) (st' := [.int 0, .int (nI x), .ref 396, .int 99, .ref 397, .int (I 397 (99 + s))]) (h' := (N, SH v T, I, L, Dd)) rfl ?_
      refine Ev.callV (As := [.int (nI x), .int 0]) (rest := [.int 99, .ref 397, .int (I 397 (99 + s))]) dvX7_fromEnd mkX7_117 rfl rfl dX7_train_38 (m_fromEnd (d := d - 1) (I := I) (t := x) hX (by omega) hm20 hm (by omega)) ⟨by omega, by show 3 + 19 + 40 * _ ≤ 40 * _; omega⟩ ⟨Nat.zero_le _, Nat.zero_le _⟩ rfl (Nat.le_of_ble_eq_true rfl) (fun v9 h9 e9 => ?_) (fun E9 h9 e9 => nomatch e9)
      cases e9
      show Ev _ _ _ _ _ _ 41 [some (.ref 396), some (.int (nI x)), some (.int (nI k))] [.int (feM I m x 0), .int 99, .ref 397, .int (I 397 (99 + s))] (N, SH v T, I, L, Dd)
      refine Ev.eqst (st' := [.int (nI s0), .int 99, .ref 397, .int (I 397 (99 + s))]) (by rw [show feM I m x 0 = nI s0 from hfe0]) ?_
      show Ev _ _ _ _ _ _ 41 [some (.ref 396), some (.int (nI x)), some (.int (nI k))] [.int (nI s0), .int 99, .ref 397, .int (I 397 (99 + s))] (N, SH v T, I, L, Dd)
      refine Ev.sg hX (sX7_train_41.sub 0 1) (pc' := 42) (ls' := [some (.ref 396), some (.int (nI x)), some (.int (nI k))]) (st' := [.int (99 + (nI s0)), .ref 397, .int (I 397 (99 + s))]) (h' := (N, SH v T, I, L, Dd)) rfl ?_
      refine Ev.ialdE (n := (99 + s0)) (N := 179) rfl (naI rfl rfl) (by omega) (by decide) dX7_train_42 ?_
      show Ev _ _ _ _ _ _ 43 [some (.ref 396), some (.int (nI x)), some (.int (nI k))] [.int (I 397 (99 + s0)), .int (I 397 (99 + s))] (N, SH v T, I, L, Dd)
      refine Ev.icmp_ne (tgt := 52) dX7_train_43 (by decide) (fun b2 => ?_) (fun b2 => ?_)
      · refine Ev.sg hX (sX7_train_52.sub 0 1) (pc' := 53) (ls' := [some (.ref 396), some (.int (nI x)), some (.int (nI k))]) (st' := [.int (nI k)]) (h' := (N, SH v T, I, L, Dd)) rfl ?_
        refine Ev.iret dX7_train_53 rfl ?_
        rw [trM, hfe, hfe0, show (nI s).toNatClampNeg = s from nI_clamp (by omega), show (nI s0).toNatClampNeg = s0 from nI_clamp (by omega), if_neg b2]
      · refine Ev.sg hX (sX7_train_46.sub 0 2) (pc' := 2) (ls' := [some (.ref 396), some (.int (nI x)), some (.int ((nI k) + 1))]) (st' := []) (h' := (N, SH v T, I, L, Dd)) rfl ?_
        rw [nI_1]
        rw [trM, hfe, hfe0, show (nI s).toNatClampNeg = s from nI_clamp (by omega), show (nI s0).toNatClampNeg = s0 from nI_clamp (by omega), if_pos b2]
        exact ih (k + 1) (by omega)
theorem m_train (hX : JXok X) (hd : 3 ≤ d) (hm20 : m ≤ 20) (hm : I 397 1 = nI m) (hx : x < 8) (hc0 : c0 ≤ 20) (hg : I 397 (31 + x) = nI c0) (hp : ∀ p, p < c0 → ∃ s, s < m ∧ slAM I m (nI x) (nI p) = nI s) : MT X d 0 0 jdX7_train [.ref 396, .int (nI x)] (N, SH v T, I, L, Dd) (fun R => R = .inl (some (.int (trM I m x c0 0)), (N, SH v T, I, L, Dd))) := by
  refine MT.mk dvX7_train.1 ?_
  refine Ev.sg hX (sX7_train_0.sub 0 2) (pc' := 2) (ls' := [some (.ref 396), some (.int (nI x)), some (.int 0)]) (st' := []) (h' := (N, SH v T, I, L, Dd)) rfl ?_
  exact l_mtrain hX hd hm20 hm hx hc0 hg hp c0 0 (Nat.zero_add c0)
theorem l_bad {Q : JR → Prop} (hX : JXok X) (hd : 3 ≤ d) (hm20 : m ≤ 20) (hm : I 397 1 = nI m) (hx : x < 8) (hc0 : c0 ≤ 20) (hg : I 397 (31 + x) = nI c0) (hp : ∀ p, p < c0 → ∃ s, s < m ∧ slAM I m (nI x) (nI p) = nI s) (hq : q ≤ c0) : ∀ (n k : Nat) (acc : Int32), k + n = q → Ev X (jm jdX7_isBad) d 0 0 Q 46 [some (.ref 396), some (.int (nI x)), some (.int (nI q)), some (.int (fo (baS I m x) n k acc)), some (.int (nI q))] [] (N, SH v T, I, L, Dd) → Ev X (jm jdX7_isBad) d 0 0 Q 5 [some (.ref 396), some (.int (nI x)), some (.int (nI q)), some (.int acc), some (.int (nI k))] [] (N, SH v T, I, L, Dd) := by
  intro n
  induction n with
  | zero =>
    intro k acc hk hQ
    refine Ev.sg hX (sX7_isBad_5.sub 0 2) (pc' := 8) (ls' := [some (.ref 396), some (.int (nI x)), some (.int (nI q)), some (.int acc), some (.int (nI k))]) (st' := [.int (nI q), .int (nI k)]) (h' := (N, SH v T, I, L, Dd)) rfl ?_
    refine Ev.icmp_ge (tgt := 46) dX7_isBad_8 (by decide) (fun b1 => ?_) (fun b1 => ?_)
    · rw [show k = q by omega]
      exact hQ
    · exact absurd ((nI_leI (a := q) (b := k) (by omega) (by omega)).mpr (by omega)) b1
  | succ n ih =>
    intro k acc hk hQ
    refine Ev.sg hX (sX7_isBad_5.sub 0 2) (pc' := 8) (ls' := [some (.ref 396), some (.int (nI x)), some (.int (nI q)), some (.int acc), some (.int (nI k))]) (st' := [.int (nI q), .int (nI k)]) (h' := (N, SH v T, I, L, Dd)) rfl ?_
    refine Ev.icmp_ge (tgt := 46) dX7_isBad_8 (by decide) (fun b1 => ?_) (fun b1 => ?_)
    · exact absurd ((nI_leI (a := q) (b := k) (by omega) (by omega)).mp b1) (by omega)
    · obtain ⟨s, hs, hfe⟩ := feM_s hg hp (k := k) (by omega)
      refine Ev.sg hX (sX7_isBad_11.sub 0 1) (pc' := 12) (ls' := [some (.ref 396), some (.int (nI x)), some (.int (nI q)), some (.int acc), some (.int (nI k))]) (st' := [.int acc]) (h' := (N, SH v T, I, L, Dd)) rfl ?_
      refine Ev.if_ne (tgt := 34) dX7_isBad_12 (by decide) (fun b2 => ?_) (fun b2 => ?_)
      · refine Ev.sg hX (sX7_isBad_34.sub 0 2) (pc' := 39) (ls' := [some (.ref 396), some (.int (nI x)), some (.int (nI q)), some (.int acc), some (.int (nI k))]) (st' := [.int 1]) (h' := (N, SH v T, I, L, Dd)) rfl ?_
        refine Ev.sg hX (sX7_isBad_39.sub 0 3) (pc' := 5) (ls' := [some (.ref 396), some (.int (nI x)), some (.int (nI q)), some (.int 1), some (.int ((nI k) + 1))]) (st' := []) (h' := (N, SH v T, I, L, Dd)) rfl ?_
        have e1 : baS I m x k acc = 1 := by rw [baS, hfe, show (nI s).toNatClampNeg = s from nI_clamp (by omega), if_pos (Or.inl b2)]
        rw [nI_1]
        refine ih (k + 1) 1 (by omega) ?_
        rw [← e1]
        exact hQ
      · refine Ev.sg hX (sX7_isBad_15.sub 0 1) (pc' := 16) (ls' := [some (.ref 396), some (.int (nI x)), some (.int (nI q)), some (.int acc), some (.int (nI k))]) (st' := [.ref 396]) (h' := (N, SH v T, I, L, Dd)) rfl ?_
        refine Ev.getf (sX7_isBad_15.lk 1 (q := (16, .getfield 7, 7, 0)) rfl) rfl rfl (sX7_isBad_15.dc 1 (q := (16, .getfield 7, 7, 0)) rfl) ?_
        show Ev _ _ _ _ _ _ 19 [some (.ref 396), some (.int (nI x)), some (.int (nI q)), some (.int acc), some (.int (nI k))] [.ref 397] (N, SH v T, I, L, Dd)
        refine Ev.sg hX (sX7_isBad_15.sub 2 4) (pc' := 25) (ls' := [some (.ref 396), some (.int (nI x)), some (.int (nI q)), some (.int acc), some (.int (nI k))]) (st' := [.int (nI k), .int (nI x), .ref 396, .int 119, .ref 397]) (h' := (N, SH v T, I, L, Dd)) rfl ?_
        refine Ev.callV (As := [.int (nI x), .int (nI k)]) (rest := [.int 119, .ref 397]) dvX7_fromEnd mkX7_117 rfl rfl dX7_isBad_25 (m_fromEnd (d := d - 1) (I := I) (t := x) hX (by omega) hm20 hm (by omega)) ⟨by omega, by show 3 + 19 + 40 * _ ≤ 40 * _; omega⟩ ⟨Nat.zero_le _, Nat.zero_le _⟩ rfl (Nat.le_of_ble_eq_true rfl) (fun v9 h9 e9 => ?_) (fun E9 h9 e9 => nomatch e9)
        cases e9
        show Ev _ _ _ _ _ _ 28 [some (.ref 396), some (.int (nI x)), some (.int (nI q)), some (.int acc), some (.int (nI k))] [.int (feM I m x (nI k)), .int 119, .ref 397] (N, SH v T, I, L, Dd)
        refine Ev.eqst (st' := [.int (nI s), .int 119, .ref 397]) (by rw [hfe]) ?_
        show Ev _ _ _ _ _ _ 28 [some (.ref 396), some (.int (nI x)), some (.int (nI q)), some (.int acc), some (.int (nI k))] [.int (nI s), .int 119, .ref 397] (N, SH v T, I, L, Dd)
        refine Ev.sg hX (sX7_isBad_28.sub 0 1) (pc' := 29) (ls' := [some (.ref 396), some (.int (nI x)), some (.int (nI q)), some (.int acc), some (.int (nI k))]) (st' := [.int (119 + (nI s)), .ref 397]) (h' := (N, SH v T, I, L, Dd)) rfl ?_
        refine Ev.ialdE (n := (119 + s)) (N := 179) rfl (naI rfl rfl) (by omega) (by decide) dX7_isBad_29 ?_
        show Ev _ _ _ _ _ _ 30 [some (.ref 396), some (.int (nI x)), some (.int (nI q)), some (.int acc), some (.int (nI k))] [.int (I 397 (119 + s))] (N, SH v T, I, L, Dd)
        refine Ev.sg hX (sX7_isBad_30.sub 0 1) (pc' := 31) (ls' := [some (.ref 396), some (.int (nI x)), some (.int (nI q)), some (.int acc), some (.int (nI k))]) (st' := [.int 1, .int (I 397 (119 + s))]) (h' := (N, SH v T, I, L, Dd)) rfl ?_
        refine Ev.icmp_ne (tgt := 38) dX7_isBad_31 (by decide) (fun b3 => ?_) (fun b3 => ?_)
        · refine Ev.sg hX (sX7_isBad_38.sub 0 1) (pc' := 39) (ls' := [some (.ref 396), some (.int (nI x)), some (.int (nI q)), some (.int acc), some (.int (nI k))]) (st' := [.int 0]) (h' := (N, SH v T, I, L, Dd)) rfl ?_
          refine Ev.sg hX (sX7_isBad_39.sub 0 3) (pc' := 5) (ls' := [some (.ref 396), some (.int (nI x)), some (.int (nI q)), some (.int 0), some (.int ((nI k) + 1))]) (st' := []) (h' := (N, SH v T, I, L, Dd)) rfl ?_
          have e1 : baS I m x k acc = 0 := by rw [baS, hfe, show (nI s).toNatClampNeg = s from nI_clamp (by omega), if_neg (fun w => w.elim (fun w2 => w2 b2) (fun w2 => b3 w2))]
          rw [nI_1]
          refine ih (k + 1) 0 (by omega) ?_
          rw [← e1]
          exact hQ
        · refine Ev.sg hX (sX7_isBad_34.sub 0 2) (pc' := 39) (ls' := [some (.ref 396), some (.int (nI x)), some (.int (nI q)), some (.int acc), some (.int (nI k))]) (st' := [.int 1]) (h' := (N, SH v T, I, L, Dd)) rfl ?_
          refine Ev.sg hX (sX7_isBad_39.sub 0 3) (pc' := 5) (ls' := [some (.ref 396), some (.int (nI x)), some (.int (nI q)), some (.int 1), some (.int ((nI k) + 1))]) (st' := []) (h' := (N, SH v T, I, L, Dd)) rfl ?_
          have e1 : baS I m x k acc = 1 := by rw [baS, hfe, show (nI s).toNatClampNeg = s from nI_clamp (by omega), if_pos (Or.inr b3)]
          rw [nI_1]
          refine ih (k + 1) 1 (by omega) ?_
          rw [← e1]
          exact hQ
theorem ba01 {I : HI} {m x : Nat} : ∀ n k acc, acc = 0 ∨ acc = 1 → fo (baS I m x) n k acc = 0 ∨ fo (baS I m x) n k acc = 1
  | 0, _, _, h => h
  | n + 1, k, acc, h => ba01 n (k + 1) _ (by unfold baS; split <;> simp)
theorem m_isBad (hX : JXok X) (hd : 3 ≤ d) (hm20 : m ≤ 20) (hm : I 397 1 = nI m) (hx : x < 8) (hc0 : c0 ≤ 20) (hg : I 397 (31 + x) = nI c0) (hp : ∀ p, p < c0 → ∃ s, s < m ∧ slAM I m (nI x) (nI p) = nI s) (hq : q ≤ c0) : MT X d 0 0 jdX7_isBad [.ref 396, .int (nI x), .int (nI q)] (N, SH v T, I, L, Dd) (fun R => R = .inl (some (.int (fo (baS I m x) q 0 0)), (N, SH v T, I, L, Dd))) := by
  refine MT.mk dvX7_isBad.1 ?_
  refine Ev.sg hX (sX7_isBad_0.sub 0 4) (pc' := 5) (ls' := [some (.ref 396), some (.int (nI x)), some (.int (nI q)), some (.int 0), some (.int 0)]) (st' := []) (h' := (N, SH v T, I, L, Dd)) rfl ?_
  refine l_bad hX hd hm20 hm hx hc0 hg hp hq q 0 0 (Nat.zero_add q) ?_
  refine Ev.sg hX (sX7_isBad_46.sub 0 1) (pc' := 47) (ls' := [some (.ref 396), some (.int (nI x)), some (.int (nI q)), some (.int (fo (baS I m x) q 0 0)), some (.int (nI q))]) (st' := [.int (fo (baS I m x) q 0 0)]) (h' := (N, SH v T, I, L, Dd)) rfl ?_
  refine Ev.zret dX7_isBad_47 rfl ?_ ?_
  · exact n01 (ba01 q 0 0 (Or.inl rfl))
  rfl
theorem l_lv {Q : JR → Prop} {a9 : Nat} (hX : JXok X) (hd : 0 ≤ d) (ha9 : a9 ≤ 159) : ∀ (n k : Nat) (J : HI), k + n = 20 → Ev X (jm jdX7_leaves) d 0 0 Q 103 [some (.ref 396), some (.int (nI s)), some (.int (nI a9)), some (.int (nI 20))] [] (N, SH v T, fo (lvS a9) n k J, L, Dd) → Ev X (jm jdX7_leaves) d 0 0 Q 63 [some (.ref 396), some (.int (nI s)), some (.int (nI a9)), some (.int (nI k))] [] (N, SH v T, J, L, Dd) := by
  intro n
  induction n with
  | zero =>
    intro k J hk hQ
    refine Ev.sg hX (sX7_leaves_63.sub 0 2) (pc' := 66) (ls' := [some (.ref 396), some (.int (nI s)), some (.int (nI a9)), some (.int (nI k))]) (st' := [.int 20, .int (nI k)]) (h' := (N, SH v T, J, L, Dd)) rfl ?_
    refine Ev.icmp_ge (tgt := 103) dX7_leaves_66 (by decide) (fun b1 => ?_) (fun b1 => ?_)
    · rw [show k = 20 by omega]
      exact hQ
    · exact absurd ((nI_leI (a := 20) (b := k) (by decide) (by omega)).mpr (by omega)) b1
  | succ n ih =>
    intro k J hk hQ
    refine Ev.sg hX (sX7_leaves_63.sub 0 2) (pc' := 66) (ls' := [some (.ref 396), some (.int (nI s)), some (.int (nI a9)), some (.int (nI k))]) (st' := [.int 20, .int (nI k)]) (h' := (N, SH v T, J, L, Dd)) rfl ?_
    refine Ev.icmp_ge (tgt := 103) dX7_leaves_66 (by decide) (fun b1 => ?_) (fun b1 => ?_)
    · exact absurd ((nI_leI (a := 20) (b := k) (by decide) (by omega)).mp b1) (by omega)
    · refine Ev.sg hX (sX7_leaves_69.sub 0 1) (pc' := 70) (ls' := [some (.ref 396), some (.int (nI s)), some (.int (nI a9)), some (.int (nI k))]) (st' := [.ref 396]) (h' := (N, SH v T, J, L, Dd)) rfl ?_
      refine Ev.getf (sX7_leaves_69.lk 1 (q := (70, .getfield 7, 7, 0)) rfl) rfl rfl (sX7_leaves_69.dc 1 (q := (70, .getfield 7, 7, 0)) rfl) ?_
      show Ev _ _ _ _ _ _ 73 [some (.ref 396), some (.int (nI s)), some (.int (nI a9)), some (.int (nI k))] [.ref 397] (N, SH v T, J, L, Dd)
      refine Ev.sg hX (sX7_leaves_69.sub 2 5) (pc' := 79) (ls' := [some (.ref 396), some (.int (nI s)), some (.int (nI a9)), some (.int (nI k))]) (st' := [.int 19, .int (nI k), .int ((nI a9) + (nI k)), .ref 397]) (h' := (N, SH v T, J, L, Dd)) rfl ?_
      refine Ev.icmp_ge (tgt := 95) dX7_leaves_79 (by decide) (fun b2 => ?_) (fun b2 => ?_)
      · refine Ev.sg hX (sX7_leaves_95.sub 0 1) (pc' := 96) (ls' := [some (.ref 396), some (.int (nI s)), some (.int (nI a9)), some (.int (nI k))]) (st' := [.int 0, .int ((nI a9) + (nI k)), .ref 397]) (h' := (N, SH v T, J, L, Dd)) rfl ?_
        refine Ev.iastE (n := (a9 + k)) (N := 179) hX rfl (naI rfl rfl) (by omega) (by decide) dX7_leaves_96 ?_
        show Ev _ _ _ _ _ _ 97 [some (.ref 396), some (.int (nI s)), some (.int (nI a9)), some (.int (nI k))] [] (N, SH v T, up2 J 397 (a9 + k) 0, L, Dd)
        refine Ev.sg hX (sX7_leaves_97.sub 0 2) (pc' := 63) (ls' := [some (.ref 396), some (.int (nI s)), some (.int (nI a9)), some (.int ((nI k) + 1))]) (st' := []) (h' := (N, SH v T, up2 J 397 (a9 + k) 0, L, Dd)) rfl ?_
        have e1 : lvS a9 k J = up2 J 397 (a9 + k) 0 := by rw [lvS, if_neg (fun w => absurd ((nI_leI (a := 19) (b := k) (by decide) (by omega)).mp b2) (by omega))]
        rw [nI_1, ← e1]
        exact ih (k + 1) (lvS a9 k J) (by omega) hQ
      · have hk19 : k < 19 := by have := mt (nI_leI (a := 19) (b := k) (by decide) (by omega)).mpr b2; omega
        refine Ev.sg hX (sX7_leaves_82.sub 0 1) (pc' := 83) (ls' := [some (.ref 396), some (.int (nI s)), some (.int (nI a9)), some (.int (nI k))]) (st' := [.ref 396, .int ((nI a9) + (nI k)), .ref 397]) (h' := (N, SH v T, J, L, Dd)) rfl ?_
        refine Ev.getf (sX7_leaves_82.lk 1 (q := (83, .getfield 7, 7, 0)) rfl) rfl rfl (sX7_leaves_82.dc 1 (q := (83, .getfield 7, 7, 0)) rfl) ?_
        show Ev _ _ _ _ _ _ 86 [some (.ref 396), some (.int (nI s)), some (.int (nI a9)), some (.int (nI k))] [.ref 397, .int ((nI a9) + (nI k)), .ref 397] (N, SH v T, J, L, Dd)
        refine Ev.sg hX (sX7_leaves_82.sub 2 5) (pc' := 91) (ls' := [some (.ref 396), some (.int (nI s)), some (.int (nI a9)), some (.int (nI k))]) (st' := [.int (((nI a9) + (nI k)) + 1), .ref 397, .int ((nI a9) + (nI k)), .ref 397]) (h' := (N, SH v T, J, L, Dd)) rfl ?_
        refine Ev.ialdE (n := ((a9 + k) + 1)) (N := 179) rfl (naI (naI rfl rfl) rfl) (by omega) (by decide) dX7_leaves_91 ?_
        show Ev _ _ _ _ _ _ 92 [some (.ref 396), some (.int (nI s)), some (.int (nI a9)), some (.int (nI k))] [.int (J 397 ((a9 + k) + 1)), .int ((nI a9) + (nI k)), .ref 397] (N, SH v T, J, L, Dd)
        refine Ev.sg hX (sX7_leaves_92.sub 0 1) (pc' := 96) (ls' := [some (.ref 396), some (.int (nI s)), some (.int (nI a9)), some (.int (nI k))]) (st' := [.int (J 397 ((a9 + k) + 1)), .int ((nI a9) + (nI k)), .ref 397]) (h' := (N, SH v T, J, L, Dd)) rfl ?_
        refine Ev.iastE (n := (a9 + k)) (N := 179) hX rfl (naI rfl rfl) (by omega) (by decide) dX7_leaves_96 ?_
        show Ev _ _ _ _ _ _ 97 [some (.ref 396), some (.int (nI s)), some (.int (nI a9)), some (.int (nI k))] [] (N, SH v T, up2 J 397 (a9 + k) (J 397 ((a9 + k) + 1)), L, Dd)
        refine Ev.sg hX (sX7_leaves_97.sub 0 2) (pc' := 63) (ls' := [some (.ref 396), some (.int (nI s)), some (.int (nI a9)), some (.int ((nI k) + 1))]) (st' := []) (h' := (N, SH v T, up2 J 397 (a9 + k) (J 397 ((a9 + k) + 1)), L, Dd)) rfl ?_
        have e1 : lvS a9 k J = up2 J 397 (a9 + k) (J 397 ((a9 + k) + 1)) := by rw [lvS, if_pos (by have := mt (nI_leI (a := 19) (b := k) (by decide) (by omega)).mpr b2; omega)]
        rw [nI_1, ← e1]
        exact ih (k + 1) (lvS a9 k J) (by omega) hQ
theorem l_lvo {Q : JR → Prop} (hX : JXok X) (hd : 0 ≤ d) (hs : s < 20) : ∀ (n j : Nat) (J : HI) (l3 : Option Value), j + n = 7 → (∀ l3, Ev X (jm jdX7_leaves) d 0 0 Q 109 [some (.ref 396), some (.int (nI s)), some (.int (nI (39 + 20 * 7))), l3] [] (N, SH v T, fo (lvR s) n j J, L, Dd)) → Ev X (jm jdX7_leaves) d 0 0 Q 54 [some (.ref 396), some (.int (nI s)), some (.int (nI (39 + 20 * j))), l3] [] (N, SH v T, J, L, Dd) := by
  intro n
  induction n with
  | zero =>
    intro j J l3 hk hQ
    refine Ev.sg hX (sX7_leaves_54.sub 0 2) (pc' := 58) (ls' := [some (.ref 396), some (.int (nI s)), some (.int (nI (39 + 20 * j))), l3]) (st' := [.int 179, .int (nI (39 + 20 * j))]) (h' := (N, SH v T, J, L, Dd)) rfl ?_
    refine Ev.icmp_ge (tgt := 109) dX7_leaves_58 (by decide) (fun b1 => ?_) (fun b1 => ?_)
    · rw [show j = 7 by omega]
      exact hQ l3
    · refine Ev.sg hX (sX7_leaves_61.sub 0 2) (pc' := 63) (ls' := [some (.ref 396), some (.int (nI s)), some (.int (nI (39 + 20 * j))), some (.int (nI s))]) (st' := []) (h' := (N, SH v T, J, L, Dd)) rfl ?_
      exact absurd ((nI_leI (a := 179) (b := 39 + 20 * j) (by decide) (by omega)).mpr (by omega)) b1
  | succ n ih =>
    intro j J l3 hk hQ
    refine Ev.sg hX (sX7_leaves_54.sub 0 2) (pc' := 58) (ls' := [some (.ref 396), some (.int (nI s)), some (.int (nI (39 + 20 * j))), l3]) (st' := [.int 179, .int (nI (39 + 20 * j))]) (h' := (N, SH v T, J, L, Dd)) rfl ?_
    refine Ev.icmp_ge (tgt := 109) dX7_leaves_58 (by decide) (fun b1 => ?_) (fun b1 => ?_)
    · exact absurd ((nI_leI (a := 179) (b := 39 + 20 * j) (by decide) (by omega)).mp b1) (by omega)
    · refine Ev.sg hX (sX7_leaves_61.sub 0 2) (pc' := 63) (ls' := [some (.ref 396), some (.int (nI s)), some (.int (nI (39 + 20 * j))), some (.int (nI s))]) (st' := []) (h' := (N, SH v T, J, L, Dd)) rfl ?_
      refine l_lv hX hd (by omega) (20 - s) s J (by omega) ?_
      refine Ev.sg hX sX7_leaves_103 (pc' := 54) (ls' := [some (.ref 396), some (.int (nI s)), some (.int (nI (39 + 20 * j) + 20)), some (.int (nI 20))]) (st' := []) (h' := (N, SH v T, fo (lvS (39 + 20 * j)) (20 - s) s J, L, Dd)) rfl ?_
      rw [show nI (39 + 20 * j) + 20 = nI (39 + 20 * (j + 1)) from (nI_add _ 20).trans (congrArg nI (by omega))]
      exact ih (j + 1) (lvR s j J) _ (by omega) hQ
theorem m_leaves {t9 : Nat} (hX : JXok X) (hd : 1 ≤ d) (hm20 : m ≤ 20) (hm : I 397 1 = nI m) (hs : s < m) (ht9 : t9 < 8) (htr : I 397 (139 + s) = nI t9) : MT X d 0 0 jdX7_leaves [.ref 396, .int (nI s)] (N, SH v T, I, L, Dd) (fun R => R = .inl (none, (N, SH v T, lvM I m s, L, Dd))) := by
  replace hs : s < m := hs
  have hs20 : s < 20 := by omega
  have hs9 := hs
  clear hs
  have hs : s < 20 := hs20
  refine MT.mk dvX7_leaves.1 ?_
  refine Ev.sg hX (sX7_leaves_0.sub 0 1) (pc' := 1) (ls' := [some (.ref 396), some (.int (nI s)), none, none]) (st' := [.ref 396]) (h' := (N, SH v T, I, L, Dd)) rfl ?_
  refine Ev.getf (sX7_leaves_0.lk 1 (q := (1, .getfield 7, 7, 0)) rfl) rfl rfl (sX7_leaves_0.dc 1 (q := (1, .getfield 7, 7, 0)) rfl) ?_
  show Ev _ _ _ _ _ _ 4 [some (.ref 396), some (.int (nI s)), none, none] [.ref 397] (N, SH v T, I, L, Dd)
  refine Ev.sg hX (sX7_leaves_0.sub 2 2) (pc' := 6) (ls' := [some (.ref 396), some (.int (nI s)), none, none]) (st' := [.int 4, .ref 397, .int 4, .ref 397]) (h' := (N, SH v T, I, L, Dd)) rfl ?_
  refine Ev.ialdE (n := 4) (N := 179) rfl rfl (by omega) (by decide) dX7_leaves_6 ?_
  show Ev _ _ _ _ _ _ 7 [some (.ref 396), some (.int (nI s)), none, none] [.int (I 397 4), .int 4, .ref 397] (N, SH v T, I, L, Dd)
  refine Ev.sg hX (sX7_leaves_7.sub 0 2) (pc' := 9) (ls' := [some (.ref 396), some (.int (nI s)), none, none]) (st' := [.int ((I 397 4) + 1), .int 4, .ref 397]) (h' := (N, SH v T, I, L, Dd)) rfl ?_
  refine Ev.iastE (n := 4) (N := 179) hX rfl rfl (by omega) (by decide) dX7_leaves_9 ?_
  show Ev _ _ _ _ _ _ 10 [some (.ref 396), some (.int (nI s)), none, none] [] (N, SH v T, up2 I 397 4 ((I 397 4) + 1), L, Dd)
  refine Ev.sg hX (sX7_leaves_10.sub 0 1) (pc' := 11) (ls' := [some (.ref 396), some (.int (nI s)), none, none]) (st' := [.ref 396]) (h' := (N, SH v T, up2 I 397 4 ((I 397 4) + 1), L, Dd)) rfl ?_
  refine Ev.getf (sX7_leaves_10.lk 1 (q := (11, .getfield 7, 7, 0)) rfl) rfl rfl (sX7_leaves_10.dc 1 (q := (11, .getfield 7, 7, 0)) rfl) ?_
  show Ev _ _ _ _ _ _ 14 [some (.ref 396), some (.int (nI s)), none, none] [.ref 397] (N, SH v T, up2 I 397 4 ((I 397 4) + 1), L, Dd)
  refine Ev.sg hX (sX7_leaves_10.sub 2 2) (pc' := 17) (ls' := [some (.ref 396), some (.int (nI s)), none, none]) (st' := [.int 6, .ref 397, .int 6, .ref 397]) (h' := (N, SH v T, up2 I 397 4 ((I 397 4) + 1), L, Dd)) rfl ?_
  refine Ev.ialdE (n := 6) (N := 179) rfl rfl (by omega) (by decide) dX7_leaves_17 ?_
  show Ev _ _ _ _ _ _ 18 [some (.ref 396), some (.int (nI s)), none, none] [.int ((up2 I 397 4 ((I 397 4) + 1)) 397 6), .int 6, .ref 397] (N, SH v T, up2 I 397 4 ((I 397 4) + 1), L, Dd)
  refine Ev.eqst (st' := [.int (I 397 6), .int 6, .ref 397]) (by rw [show (up2 I 397 4 ((I 397 4) + 1)) 397 6 = I 397 6 from ((up2_i (by omega)))]) ?_
  refine Ev.sg hX (sX7_leaves_18.sub 0 1) (pc' := 19) (ls' := [some (.ref 396), some (.int (nI s)), none, none]) (st' := [.ref 396, .int (I 397 6), .int 6, .ref 397]) (h' := (N, SH v T, up2 I 397 4 ((I 397 4) + 1), L, Dd)) rfl ?_
  refine Ev.getf (sX7_leaves_18.lk 1 (q := (19, .getfield 7, 7, 0)) rfl) rfl rfl (sX7_leaves_18.dc 1 (q := (19, .getfield 7, 7, 0)) rfl) ?_
  show Ev _ _ _ _ _ _ 22 [some (.ref 396), some (.int (nI s)), none, none] [.ref 397, .int (I 397 6), .int 6, .ref 397] (N, SH v T, up2 I 397 4 ((I 397 4) + 1), L, Dd)
  refine Ev.sg hX (sX7_leaves_18.sub 2 3) (pc' := 26) (ls' := [some (.ref 396), some (.int (nI s)), none, none]) (st' := [.int (79 + (nI s)), .ref 397, .int (I 397 6), .int 6, .ref 397]) (h' := (N, SH v T, up2 I 397 4 ((I 397 4) + 1), L, Dd)) rfl ?_
  refine Ev.ialdE (n := (79 + s)) (N := 179) rfl (naI rfl rfl) (by omega) (by decide) dX7_leaves_26 ?_
  show Ev _ _ _ _ _ _ 27 [some (.ref 396), some (.int (nI s)), none, none] [.int ((up2 I 397 4 ((I 397 4) + 1)) 397 (79 + s)), .int (I 397 6), .int 6, .ref 397] (N, SH v T, up2 I 397 4 ((I 397 4) + 1), L, Dd)
  refine Ev.eqst (st' := [.int (I 397 (79 + s)), .int (I 397 6), .int 6, .ref 397]) (by rw [show (up2 I 397 4 ((I 397 4) + 1)) 397 (79 + s) = I 397 (79 + s) from ((up2_i (by omega)))]) ?_
  refine Ev.sg hX (sX7_leaves_27.sub 0 1) (pc' := 28) (ls' := [some (.ref 396), some (.int (nI s)), none, none]) (st' := [.int ((I 397 6) + (I 397 (79 + s))), .int 6, .ref 397]) (h' := (N, SH v T, up2 I 397 4 ((I 397 4) + 1), L, Dd)) rfl ?_
  refine Ev.iastE (n := 6) (N := 179) hX rfl rfl (by omega) (by decide) dX7_leaves_28 ?_
  show Ev _ _ _ _ _ _ 29 [some (.ref 396), some (.int (nI s)), none, none] [] (N, SH v T, up2 (up2 I 397 4 ((I 397 4) + 1)) 397 6 ((I 397 6) + (I 397 (79 + s))), L, Dd)
  refine Ev.sg hX (sX7_leaves_29.sub 0 1) (pc' := 30) (ls' := [some (.ref 396), some (.int (nI s)), none, none]) (st' := [.ref 396]) (h' := (N, SH v T, up2 (up2 I 397 4 ((I 397 4) + 1)) 397 6 ((I 397 6) + (I 397 (79 + s))), L, Dd)) rfl ?_
  refine Ev.getf (sX7_leaves_29.lk 1 (q := (30, .getfield 7, 7, 0)) rfl) rfl rfl (sX7_leaves_29.dc 1 (q := (30, .getfield 7, 7, 0)) rfl) ?_
  show Ev _ _ _ _ _ _ 33 [some (.ref 396), some (.int (nI s)), none, none] [.ref 397] (N, SH v T, up2 (up2 I 397 4 ((I 397 4) + 1)) 397 6 ((I 397 6) + (I 397 (79 + s))), L, Dd)
  refine Ev.sg hX (sX7_leaves_29.sub 2 2) (pc' := 36) (ls' := [some (.ref 396), some (.int (nI s)), none, none]) (st' := [.ref 396, .int 31, .ref 397]) (h' := (N, SH v T, up2 (up2 I 397 4 ((I 397 4) + 1)) 397 6 ((I 397 6) + (I 397 (79 + s))), L, Dd)) rfl ?_
  refine Ev.getf (sX7_leaves_29.lk 4 (q := (36, .getfield 7, 7, 0)) rfl) rfl rfl (sX7_leaves_29.dc 4 (q := (36, .getfield 7, 7, 0)) rfl) ?_
  show Ev _ _ _ _ _ _ 39 [some (.ref 396), some (.int (nI s)), none, none] [.ref 397, .int 31, .ref 397] (N, SH v T, up2 (up2 I 397 4 ((I 397 4) + 1)) 397 6 ((I 397 6) + (I 397 (79 + s))), L, Dd)
  refine Ev.sg hX (sX7_leaves_29.sub 5 3) (pc' := 44) (ls' := [some (.ref 396), some (.int (nI s)), none, none]) (st' := [.int (139 + (nI s)), .ref 397, .int 31, .ref 397]) (h' := (N, SH v T, up2 (up2 I 397 4 ((I 397 4) + 1)) 397 6 ((I 397 6) + (I 397 (79 + s))), L, Dd)) rfl ?_
  refine Ev.ialdE (n := (139 + s)) (N := 179) rfl (naI rfl rfl) (by omega) (by decide) dX7_leaves_44 ?_
  show Ev _ _ _ _ _ _ 45 [some (.ref 396), some (.int (nI s)), none, none] [.int ((up2 (up2 I 397 4 ((I 397 4) + 1)) 397 6 ((I 397 6) + (I 397 (79 + s)))) 397 (139 + s)), .int 31, .ref 397] (N, SH v T, up2 (up2 I 397 4 ((I 397 4) + 1)) 397 6 ((I 397 6) + (I 397 (79 + s))), L, Dd)
  refine Ev.eqst (st' := [.int (nI t9), .int 31, .ref 397]) (by rw [show (up2 (up2 I 397 4 ((I 397 4) + 1)) 397 6 ((I 397 6) + (I 397 (79 + s)))) 397 (139 + s) = nI t9 from (((up2_i (by omega)).trans (up2_i (by omega))).trans htr)]) ?_
  refine Ev.sg hX (sX7_leaves_45.sub 0 2) (pc' := 47) (ls' := [some (.ref 396), some (.int (nI s)), none, none]) (st' := [.int (31 + (nI t9)), .ref 397, .int (31 + (nI t9)), .ref 397]) (h' := (N, SH v T, up2 (up2 I 397 4 ((I 397 4) + 1)) 397 6 ((I 397 6) + (I 397 (79 + s))), L, Dd)) rfl ?_
  refine Ev.ialdE (n := (31 + t9)) (N := 179) rfl (naI rfl rfl) (by omega) (by decide) dX7_leaves_47 ?_
  show Ev _ _ _ _ _ _ 48 [some (.ref 396), some (.int (nI s)), none, none] [.int ((up2 (up2 I 397 4 ((I 397 4) + 1)) 397 6 ((I 397 6) + (I 397 (79 + s)))) 397 (31 + t9)), .int (31 + (nI t9)), .ref 397] (N, SH v T, up2 (up2 I 397 4 ((I 397 4) + 1)) 397 6 ((I 397 6) + (I 397 (79 + s))), L, Dd)
  refine Ev.eqst (st' := [.int (I 397 (31 + t9)), .int (31 + (nI t9)), .ref 397]) (by rw [show (up2 (up2 I 397 4 ((I 397 4) + 1)) 397 6 ((I 397 6) + (I 397 (79 + s)))) 397 (31 + t9) = I 397 (31 + t9) from (((up2_i (by omega)).trans (up2_i (by omega))))]) ?_
  refine Ev.sg hX (sX7_leaves_48.sub 0 2) (pc' := 50) (ls' := [some (.ref 396), some (.int (nI s)), none, none]) (st' := [.int ((I 397 (31 + t9)) - 1), .int (31 + (nI t9)), .ref 397]) (h' := (N, SH v T, up2 (up2 I 397 4 ((I 397 4) + 1)) 397 6 ((I 397 6) + (I 397 (79 + s))), L, Dd)) rfl ?_
  refine Ev.iastE (n := (31 + t9)) (N := 179) hX rfl (naI rfl rfl) (by omega) (by decide) dX7_leaves_50 ?_
  show Ev _ _ _ _ _ _ 51 [some (.ref 396), some (.int (nI s)), none, none] [] (N, SH v T, up2 (up2 (up2 I 397 4 ((I 397 4) + 1)) 397 6 ((I 397 6) + (I 397 (79 + s)))) 397 (31 + t9) ((I 397 (31 + t9)) - 1), L, Dd)
  refine Ev.sg hX (sX7_leaves_51.sub 0 2) (pc' := 54) (ls' := [some (.ref 396), some (.int (nI s)), some (.int 39), none]) (st' := []) (h' := (N, SH v T, up2 (up2 (up2 I 397 4 ((I 397 4) + 1)) 397 6 ((I 397 6) + (I 397 (79 + s)))) 397 (31 + t9) ((I 397 (31 + t9)) - 1), L, Dd)) rfl ?_
  refine Ev.eqh (h' := (N, SH v T, lv0 I s, L, Dd)) (congrArg (fun z => (N, SH v T, z, L, Dd)) (by rw [lv0, htr, show (nI t9).toNatClampNeg = t9 from nI_clamp (by omega)])) ?_
  refine l_lvo hX (by omega) hs 7 0 (lv0 I s) none rfl (fun l3 => ?_)
  show Ev _ _ _ _ _ _ 109 [some (.ref 396), some (.int (nI s)), some (.int (nI (39 + 20 * 7))), l3] [] (N, SH v T, fo (lvR s) 7 0 (lv0 I s), L, Dd)
  refine Ev.sg hX (sX7_leaves_109.sub 0 1) (pc' := 110) (ls' := [some (.ref 396), some (.int (nI s)), some (.int (nI (39 + 20 * 7))), l3]) (st' := [.ref 396]) (h' := (N, SH v T, fo (lvR s) 7 0 (lv0 I s), L, Dd)) rfl ?_
  refine Ev.getf (sX7_leaves_109.lk 1 (q := (110, .getfield 7, 7, 0)) rfl) rfl rfl (sX7_leaves_109.dc 1 (q := (110, .getfield 7, 7, 0)) rfl) ?_
  show Ev _ _ _ _ _ _ 113 [some (.ref 396), some (.int (nI s)), some (.int (nI (39 + 20 * 7))), l3] [.ref 397] (N, SH v T, fo (lvR s) 7 0 (lv0 I s), L, Dd)
  refine Ev.sg hX (sX7_leaves_109.sub 2 2) (pc' := 115) (ls' := [some (.ref 396), some (.int (nI s)), some (.int (nI (39 + 20 * 7))), l3]) (st' := [.int 1, .ref 397, .int 1, .ref 397]) (h' := (N, SH v T, fo (lvR s) 7 0 (lv0 I s), L, Dd)) rfl ?_
  refine Ev.ialdE (n := 1) (N := 179) rfl rfl (by omega) (by decide) dX7_leaves_115 ?_
  show Ev _ _ _ _ _ _ 116 [some (.ref 396), some (.int (nI s)), some (.int (nI (39 + 20 * 7))), l3] [.int ((fo (lvR s) 7 0 (lv0 I s)) 397 1), .int 1, .ref 397] (N, SH v T, fo (lvR s) 7 0 (lv0 I s), L, Dd)
  refine Ev.eqst (st' := [.int (nI m), .int 1, .ref 397]) (by rw [show (fo (lvR s) 7 0 (lv0 I s)) 397 1 = nI m from ((lvF_i (by decide)).trans ((show lv0 I s 397 1 = I 397 1 by rw [lv0, htr, up2_i (show 1 ≠ 31 + (nI t9).toNatClampNeg by rw [nI_clamp (by omega)]; omega), up2_i (by decide), up2_i (by decide)]).trans hm))]) ?_
  refine Ev.sg hX (sX7_leaves_116.sub 0 2) (pc' := 118) (ls' := [some (.ref 396), some (.int (nI s)), some (.int (nI (39 + 20 * 7))), l3]) (st' := [.int ((nI m) - 1), .int 1, .ref 397]) (h' := (N, SH v T, fo (lvR s) 7 0 (lv0 I s), L, Dd)) rfl ?_
  refine Ev.iastE (n := 1) (N := 179) hX rfl rfl (by omega) (by decide) dX7_leaves_118 ?_
  show Ev _ _ _ _ _ _ 119 [some (.ref 396), some (.int (nI s)), some (.int (nI (39 + 20 * 7))), l3] [] (N, SH v T, up2 (fo (lvR s) 7 0 (lv0 I s)) 397 1 ((nI m) - 1), L, Dd)
  refine Ev.vret dX7_leaves_119 rfl ?_
  rfl
end MOD5
