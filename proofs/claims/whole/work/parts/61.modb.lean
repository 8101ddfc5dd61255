/-! the model: queries about cars, totals, undo, saved states -/
def slP (I : HI) (m : Nat) (c : Int32) (f : Nat → Int32) : Int32 × HI := if slOM I m c = -1 then (0, up2 I 396 12 1) else (f (slOM I m c).toNatClampNeg, up2 I 396 12 0)
def cfS (I : HI) (c : Int32) : Nat → Int32 → Int32 := fun k acc => acc + (if I 397 (99 + k) = c then 1 else 0)
abbrev cahM (I : HI) (a b : Nat) : Prop := 0 < I 397 (99 + b) - I 397 (99 + a) ∨ (I 397 (99 + b) - I 397 (99 + a) = 0 ∧ (0 < I 397 (79 + a) - I 397 (79 + b) ∨ (I 397 (79 + a) - I 397 (79 + b) = 0 ∧ I 397 (39 + a) < I 397 (39 + b))))
def crS (I : HI) (y : Nat) : Nat → Int32 → Int32 := fun k acc => acc + (if cahM I k y then 1 else 0)
def crP (I : HI) (m : Nat) (c : Int32) : Nat → Nat → Int32 × HI
  | 0, _ => (0, up2 I 396 12 1)
  | n + 1, k => if fo (crS I k) m 0 0 = c then (I 397 (39 + k), up2 I 396 12 0) else crP I m c n (k + 1)
def usS (I : HI) (m : Nat) : Nat → Int32 × Int32 → Int32 × Int32 := fun k u => (u.1 + smM I m (nI k) 59, u.2 + I 397 (7 + k))
section MODB
variable {X : JX} {d N v : Nat} {T : Nat → Option JS} {I : Nat → Nat → Int32} {L : Nat → Nat → Int64} {Dd : Nat → Nat → UInt64} {a b c e i0 t dd le we de i : Int32} {m z x y y1 y2 q c0 s n ch : Nat}
theorem m_carCount (hX : JXok X) (hd : 1 ≤ d) (hm20 : m ≤ 20) (hm : I 397 1 = nI m) : MT X d 0 0 jdX7_carCount [.ref 396] (N, SH v T, I, L, Dd) (fun R => R = .inl (some (.int (nI m)), (N, SH v T, up2 I 396 12 0, L, Dd))) := by
  refine MT.mk dvX7_carCount.1 ?_
  refine Ev.sg hX (sX7_carCount_0.sub 0 2) (pc' := 2) (ls' := [some (.ref 396)]) (st' := [.ref 396, .ref 396]) (h' := (N, SH v T, I, L, Dd)) rfl ?_
  refine Ev.getf (sX7_carCount_0.lk 2 (q := (2, .getfield 7, 7, 0)) rfl) rfl rfl (sX7_carCount_0.dc 2 (q := (2, .getfield 7, 7, 0)) rfl) ?_
  show Ev _ _ _ _ _ _ 5 [some (.ref 396)] [.ref 397, .ref 396] (N, SH v T, I, L, Dd)
  refine Ev.sg hX (sX7_carCount_0.sub 3 1) (pc' := 6) (ls' := [some (.ref 396)]) (st' := [.int 1, .ref 397, .ref 396]) (h' := (N, SH v T, I, L, Dd)) rfl ?_
  refine Ev.ialdE (n := 1) (N := 179) rfl rfl (by omega) (by decide) (sX7_carCount_0.dc 4 (q := (6, .iaload, 0, 0)) rfl) ?_
  show Ev _ _ _ _ _ _ 7 [some (.ref 396)] [.int (I 397 1), .ref 396] (N, SH v T, I, L, Dd)
  refine Ev.eqst (st' := [.int (nI m), .ref 396]) (by rw [show I 397 1 = nI m from (hm)]) ?_
  refine Ev.callV (As := [.int (nI m)]) (rest := []) dvX7_done mkX7_79 rfl rfl dX7_carCount_7 (m_done (d := d - 1) (I := I) hX (by omega)) ⟨by omega, by show 2 + 19 + 40 * _ ≤ 40 * _; omega⟩ ⟨Nat.zero_le _, Nat.zero_le _⟩ rfl (Nat.le_of_ble_eq_true rfl) (fun v9 h9 e9 => ?_) (fun E9 h9 e9 => nomatch e9)
  cases e9
  show Ev _ _ _ _ _ _ 10 [some (.ref 396)] [.int (nI m)] (N, SH v T, up2 I 396 12 0, L, Dd)
  refine Ev.iret dX7_carCount_10 rfl ?_
  rfl
theorem slOM_congr {I J : HI} {m : Nat} {c : Int32} (h : J 397 = I 397) : slOM J m c = slOM I m c := by unfold slOM; rw [h]
theorem m_isInYard (hX : JXok X) (hd : 3 ≤ d) (hm20 : m ≤ 20) (hm : I 397 1 = nI m) : MT X d 0 0 jdX7_isInYard [.ref 396, .int c] (N, SH v T, I, L, Dd) (fun R => R = .inl (some (.int (bi (¬ slOM I m c = -1))), (N, SH v T, up2 I 396 12 0, L, Dd))) := by
  refine MT.mk dvX7_isInYard.1 ?_
  refine Ev.sg hX (sX7_isInYard_0.sub 0 2) (pc' := 2) (ls' := [some (.ref 396), some (.int c)]) (st' := [.int 0, .ref 396]) (h' := (N, SH v T, I, L, Dd)) rfl ?_
  refine Ev.putf hX (sX7_isInYard_0.lk 2 (q := (2, .putfield 42, 7, 12)) rfl) rfl rfl (sX7_isInYard_0.dc 2 (q := (2, .putfield 42, 7, 12)) rfl) ?_
  show Ev _ _ _ _ _ _ 5 [some (.ref 396), some (.int c)] [] (N, SH v T, up2 I 396 12 0, L, Dd)
  refine Ev.sg hX (sX7_isInYard_0.sub 3 2) (pc' := 7) (ls' := [some (.ref 396), some (.int c)]) (st' := [.int c, .ref 396]) (h' := (N, SH v T, up2 I 396 12 0, L, Dd)) rfl ?_
  refine Ev.callV (As := [.int c]) (rest := []) dvX7_slotOf mkX7_130 rfl rfl dX7_isInYard_7 (m_slotOf (d := d - 1) (I := (up2 I 396 12 0)) hX (by omega) hm20 ((congrFun ((up2_ne (by decide)).trans rfl) 1).trans hm)) ⟨by omega, by show 3 + 19 + 40 * _ ≤ 40 * _; omega⟩ ⟨Nat.zero_le _, Nat.zero_le _⟩ rfl (Nat.le_of_ble_eq_true rfl) (fun v9 h9 e9 => ?_) (fun E9 h9 e9 => nomatch e9)
  cases e9
  show Ev _ _ _ _ _ _ 10 [some (.ref 396), some (.int c)] [.int (slOM (up2 I 396 12 0) m c)] (N, SH v T, up2 I 396 12 0, L, Dd)
  refine Ev.sg hX (sX7_isInYard_10.sub 0 1) (pc' := 11) (ls' := [some (.ref 396), some (.int c)]) (st' := [.int (-1), .int (slOM (up2 I 396 12 0) m c)]) (h' := (N, SH v T, up2 I 396 12 0, L, Dd)) rfl ?_
  refine Ev.icmp_eq (tgt := 18) dX7_isInYard_11 (by decide) (fun b1 => ?_) (fun b1 => ?_)
  · refine Ev.sg hX (sX7_isInYard_18.sub 0 1) (pc' := 19) (ls' := [some (.ref 396), some (.int c)]) (st' := [.int 0]) (h' := (N, SH v T, up2 I 396 12 0, L, Dd)) rfl ?_
    refine Ev.zret dX7_isInYard_19 rfl ?_ ?_
    · rfl
    (rw [slOM_congr (show up2 I 396 12 0 397 = I 397 from up2_ne (by decide))] at b1; exact congrArg (fun w => Sum.inl (some (Value.int w), (N, SH v T, up2 I 396 12 0, L, Dd))) (if_neg (fun w => w b1)).symm)
  · refine Ev.sg hX (sX7_isInYard_14.sub 0 2) (pc' := 19) (ls' := [some (.ref 396), some (.int c)]) (st' := [.int 1]) (h' := (N, SH v T, up2 I 396 12 0, L, Dd)) rfl ?_
    refine Ev.zret dX7_isInYard_19 rfl ?_ ?_
    · rfl
    (rw [slOM_congr (show up2 I 396 12 0 397 = I 397 from up2_ne (by decide))] at b1; exact congrArg (fun w => Sum.inl (some (Value.int w), (N, SH v T, up2 I 396 12 0, L, Dd))) (if_pos b1).symm)
theorem m_carNumber (hX : JXok X) (hd : 3 ≤ d) (hm20 : m ≤ 20) (hm : I 397 1 = nI m) (hx : x ≤ 159) : MT X d 0 0 jdX7_carNumber [.ref 396, .int (nI x), .int c] (N, SH v T, I, L, Dd) (fun R => R = .inl (some (.int (slP I m c (fun s => I 397 (x + s))).1), (N, SH v T, (slP I m c (fun s => I 397 (x + s))).2, L, Dd))) := by
  refine MT.mk dvX7_carNumber.1 ?_
  refine Ev.sg hX (sX7_carNumber_0.sub 0 2) (pc' := 2) (ls' := [some (.ref 396), some (.int (nI x)), some (.int c), none]) (st' := [.int c, .ref 396]) (h' := (N, SH v T, I, L, Dd)) rfl ?_
  refine Ev.callV (As := [.int c]) (rest := []) dvX7_slotOf mkX7_130 rfl rfl dX7_carNumber_2 (m_slotOf (d := d - 1) (I := I) hX (by omega) hm20 hm) ⟨by omega, by show 3 + 19 + 40 * _ ≤ 40 * _; omega⟩ ⟨Nat.zero_le _, Nat.zero_le _⟩ rfl (Nat.le_of_ble_eq_true rfl) (fun v9 h9 e9 => ?_) (fun E9 h9 e9 => nomatch e9)
  cases e9
  show Ev _ _ _ _ _ _ 5 [some (.ref 396), some (.int (nI x)), some (.int c), none] [.int (slOM I m c)] (N, SH v T, I, L, Dd)
  refine Ev.sg hX (sX7_carNumber_5.sub 0 3) (pc' := 8) (ls' := [some (.ref 396), some (.int (nI x)), some (.int c), some (.int (slOM I m c))]) (st' := [.int (-1), .int (slOM I m c)]) (h' := (N, SH v T, I, L, Dd)) rfl ?_
  refine Ev.icmp_ne (tgt := 19) dX7_carNumber_8 (by decide) (fun b1 => ?_) (fun b1 => ?_)
  · obtain ⟨s, hs, hs9⟩ := (slOM_or I m c).resolve_left b1
    have hcs : (nI s).toNatClampNeg = s := nI_clamp (by omega)
    have hne := b1
    rw [hs9]
    refine Ev.sg hX (sX7_carNumber_19.sub 0 2) (pc' := 21) (ls' := [some (.ref 396), some (.int (nI x)), some (.int c), some (.int (nI s))]) (st' := [.ref 396, .ref 396]) (h' := (N, SH v T, I, L, Dd)) rfl ?_
    refine Ev.getf (sX7_carNumber_19.lk 2 (q := (21, .getfield 7, 7, 0)) rfl) rfl rfl (sX7_carNumber_19.dc 2 (q := (21, .getfield 7, 7, 0)) rfl) ?_
    show Ev _ _ _ _ _ _ 24 [some (.ref 396), some (.int (nI x)), some (.int c), some (.int (nI s))] [.ref 397, .ref 396] (N, SH v T, I, L, Dd)
    refine Ev.sg hX (sX7_carNumber_19.sub 3 3) (pc' := 27) (ls' := [some (.ref 396), some (.int (nI x)), some (.int c), some (.int (nI s))]) (st' := [.int ((nI x) + (nI s)), .ref 397, .ref 396]) (h' := (N, SH v T, I, L, Dd)) rfl ?_
    refine Ev.ialdE (n := (x + s)) (N := 179) rfl (naI rfl rfl) (by omega) (by decide) dX7_carNumber_27 ?_
    show Ev _ _ _ _ _ _ 28 [some (.ref 396), some (.int (nI x)), some (.int c), some (.int (nI s))] [.int (I 397 (x + s)), .ref 396] (N, SH v T, I, L, Dd)
    refine Ev.callV (As := [.int (I 397 (x + s))]) (rest := []) dvX7_done mkX7_79 rfl rfl dX7_carNumber_28 (m_done (d := d - 1) (I := I) hX (by omega)) ⟨by omega, by show 2 + 19 + 40 * _ ≤ 40 * _; omega⟩ ⟨Nat.zero_le _, Nat.zero_le _⟩ rfl (Nat.le_of_ble_eq_true rfl) (fun v9 h9 e9 => ?_) (fun E9 h9 e9 => nomatch e9)
    cases e9
    show Ev _ _ _ _ _ _ 31 [some (.ref 396), some (.int (nI x)), some (.int c), some (.int (nI s))] [.int (I 397 (x + s))] (N, SH v T, up2 I 396 12 0, L, Dd)
    refine Ev.iret dX7_carNumber_31 rfl ?_
    rw [slP, if_neg (by rw [hs9]; rw [hs9] at hne; exact hne), hs9, hcs]
  · refine Ev.sg hX (sX7_carNumber_11.sub 0 2) (pc' := 13) (ls' := [some (.ref 396), some (.int (nI x)), some (.int c), some (.int (slOM I m c))]) (st' := [.int 1, .ref 396]) (h' := (N, SH v T, I, L, Dd)) rfl ?_
    refine Ev.callV (As := [.int 1]) (rest := []) dvX7_fails mkX7_75 rfl rfl dX7_carNumber_13 (m_fails (d := d - 1) (I := I) hX (by omega)) ⟨by omega, by show 2 + 19 + 40 * _ ≤ 40 * _; omega⟩ ⟨Nat.zero_le _, Nat.zero_le _⟩ rfl (Nat.le_of_ble_eq_true rfl) (fun v9 h9 e9 => ?_) (fun E9 h9 e9 => nomatch e9)
    cases e9
    show Ev _ _ _ _ _ _ 16 [some (.ref 396), some (.int (nI x)), some (.int c), some (.int (slOM I m c))] [.int 0] (N, SH v T, up2 I 396 12 1, L, Dd)
    refine Ev.sg hX (sX7_carNumber_16.sub 0 1) (pc' := 31) (ls' := [some (.ref 396), some (.int (nI x)), some (.int c), some (.int (slOM I m c))]) (st' := [.int 0]) (h' := (N, SH v T, up2 I 396 12 1, L, Dd)) rfl ?_
    refine Ev.iret dX7_carNumber_31 rfl ?_
    rw [slP, if_pos b1]
theorem m_trackOf (hX : JXok X) (hd : 4 ≤ d) (hm20 : m ≤ 20) (hm : I 397 1 = nI m) : MT X d 0 0 jdX7_trackOf [.ref 396, .int c] (N, SH v T, I, L, Dd) (fun R => R = .inl (some (.int (slP I m c (fun s => I 397 (139 + s))).1), (N, SH v T, (slP I m c (fun s => I 397 (139 + s))).2, L, Dd))) := by
  refine MT.mk dvX7_trackOf.1 ?_
  refine Ev.sg hX (sX7_trackOf_0.sub 0 3) (pc' := 5) (ls' := [some (.ref 396), some (.int c)]) (st' := [.int c, .int 139, .ref 396]) (h' := (N, SH v T, I, L, Dd)) rfl ?_
  refine Ev.callV (As := [.int 139, .int c]) (rest := []) dvX7_carNumber mkX7_166 rfl rfl dX7_trackOf_5 (m_carNumber (d := d - 1) (I := I) (x := 139) hX (by omega) hm20 hm (by omega)) ⟨by omega, by show 4 + 19 + 40 * _ ≤ 40 * _; omega⟩ ⟨Nat.zero_le _, Nat.zero_le _⟩ rfl (Nat.le_of_ble_eq_true rfl) (fun v9 h9 e9 => ?_) (fun E9 h9 e9 => nomatch e9)
  cases e9
  show Ev _ _ _ _ _ _ 8 [some (.ref 396), some (.int c)] [.int ((slP I m c (fun s => I 397 (139 + s))).1)] (N, SH v T, (slP I m c (fun s => I 397 (139 + s))).2, L, Dd)
  refine Ev.iret dX7_trackOf_8 rfl ?_
  rfl
theorem m_destination (hX : JXok X) (hd : 4 ≤ d) (hm20 : m ≤ 20) (hm : I 397 1 = nI m) : MT X d 0 0 jdX7_destination [.ref 396, .int c] (N, SH v T, I, L, Dd) (fun R => R = .inl (some (.int (slP I m c (fun s => I 397 (99 + s))).1), (N, SH v T, (slP I m c (fun s => I 397 (99 + s))).2, L, Dd))) := by
  refine MT.mk dvX7_destination.1 ?_
  refine Ev.sg hX (sX7_destination_0.sub 0 3) (pc' := 4) (ls' := [some (.ref 396), some (.int c)]) (st' := [.int c, .int 99, .ref 396]) (h' := (N, SH v T, I, L, Dd)) rfl ?_
  refine Ev.callV (As := [.int 99, .int c]) (rest := []) dvX7_carNumber mkX7_166 rfl rfl dX7_destination_4 (m_carNumber (d := d - 1) (I := I) (x := 99) hX (by omega) hm20 hm (by omega)) ⟨by omega, by show 4 + 19 + 40 * _ ≤ 40 * _; omega⟩ ⟨Nat.zero_le _, Nat.zero_le _⟩ rfl (Nat.le_of_ble_eq_true rfl) (fun v9 h9 e9 => ?_) (fun E9 h9 e9 => nomatch e9)
  cases e9
  show Ev _ _ _ _ _ _ 7 [some (.ref 396), some (.int c)] [.int ((slP I m c (fun s => I 397 (99 + s))).1)] (N, SH v T, (slP I m c (fun s => I 397 (99 + s))).2, L, Dd)
  refine Ev.iret dX7_destination_7 rfl ?_
  rfl
theorem m_isDefective (hX : JXok X) (hd : 4 ≤ d) (hm20 : m ≤ 20) (hm : I 397 1 = nI m) : MT X d 0 0 jdX7_isDefective [.ref 396, .int c] (N, SH v T, I, L, Dd) (fun R => R = .inl (some (.int (bi ((slP I m c (fun s => I 397 (119 + s))).1 = 1))), (N, SH v T, (slP I m c (fun s => I 397 (119 + s))).2, L, Dd))) := by
  refine MT.mk dvX7_isDefective.1 ?_
  refine Ev.sg hX (sX7_isDefective_0.sub 0 3) (pc' := 4) (ls' := [some (.ref 396), some (.int c)]) (st' := [.int c, .int 119, .ref 396]) (h' := (N, SH v T, I, L, Dd)) rfl ?_
  refine Ev.callV (As := [.int 119, .int c]) (rest := []) dvX7_carNumber mkX7_166 rfl rfl dX7_isDefective_4 (m_carNumber (d := d - 1) (I := I) (x := 119) hX (by omega) hm20 hm (by omega)) ⟨by omega, by show 4 + 19 + 40 * _ ≤ 40 * _; omega⟩ ⟨Nat.zero_le _, Nat.zero_le _⟩ rfl (Nat.le_of_ble_eq_true rfl) (fun v9 h9 e9 => ?_) (fun E9 h9 e9 => nomatch e9)
  cases e9
  show Ev _ _ _ _ _ _ 7 [some (.ref 396), some (.int c)] [.int ((slP I m c (fun s => I 397 (119 + s))).1)] (N, SH v T, (slP I m c (fun s => I 397 (119 + s))).2, L, Dd)
  refine Ev.sg hX (sX7_isDefective_7.sub 0 1) (pc' := 8) (ls' := [some (.ref 396), some (.int c)]) (st' := [.int 1, .int ((slP I m c (fun s => I 397 (119 + s))).1)]) (h' := (N, SH v T, (slP I m c (fun s => I 397 (119 + s))).2, L, Dd)) rfl ?_
  refine Ev.icmp_ne (tgt := 15) dX7_isDefective_8 (by decide) (fun b1 => ?_) (fun b1 => ?_)
  · refine Ev.sg hX (sX7_isDefective_15.sub 0 1) (pc' := 16) (ls' := [some (.ref 396), some (.int c)]) (st' := [.int 0]) (h' := (N, SH v T, (slP I m c (fun s => I 397 (119 + s))).2, L, Dd)) rfl ?_
    refine Ev.zret dX7_isDefective_16 rfl ?_ ?_
    · rfl
    exact congrArg (fun w => Sum.inl (some (Value.int w), (N, SH v T, (slP I m c (fun s => I 397 (119 + s))).2, L, Dd))) (if_neg b1).symm
  · refine Ev.sg hX (sX7_isDefective_11.sub 0 2) (pc' := 16) (ls' := [some (.ref 396), some (.int c)]) (st' := [.int 1]) (h' := (N, SH v T, (slP I m c (fun s => I 397 (119 + s))).2, L, Dd)) rfl ?_
    refine Ev.zret dX7_isDefective_16 rfl ?_ ?_
    · rfl
    exact congrArg (fun w => Sum.inl (some (Value.int w), (N, SH v T, (slP I m c (fun s => I 397 (119 + s))).2, L, Dd))) (if_pos b1).symm
theorem m_carsBehind (hX : JXok X) (hd : 3 ≤ d) (hm20 : m ≤ 20) (hm : I 397 1 = nI m) (htk : ∀ s, s < m → ∃ t9, t9 < 8 ∧ I 397 (139 + s) = nI t9) : MT X d 0 0 jdX7_carsBehind [.ref 396, .int c] (N, SH v T, I, L, Dd) (fun R => R = .inl (some (.int (slP I m c (fun s => I 397 (31 + (I 397 (139 + s)).toNatClampNeg) - 1 - I 397 (159 + s))).1), (N, SH v T, (slP I m c (fun s => I 397 (31 + (I 397 (139 + s)).toNatClampNeg) - 1 - I 397 (159 + s))).2, L, Dd))) := by
  refine MT.mk dvX7_carsBehind.1 ?_
  refine Ev.sg hX (sX7_carsBehind_0.sub 0 2) (pc' := 2) (ls' := [some (.ref 396), some (.int c), none]) (st' := [.int c, .ref 396]) (h' := (N, SH v T, I, L, Dd)) rfl ?_
  refine Ev.callV (As := [.int c]) (rest := []) dvX7_slotOf mkX7_130 rfl rfl dX7_carsBehind_2 (m_slotOf (d := d - 1) (I := I) hX (by omega) hm20 hm) ⟨by omega, by show 3 + 19 + 40 * _ ≤ 40 * _; omega⟩ ⟨Nat.zero_le _, Nat.zero_le _⟩ rfl (Nat.le_of_ble_eq_true rfl) (fun v9 h9 e9 => ?_) (fun E9 h9 e9 => nomatch e9)
  cases e9
  show Ev _ _ _ _ _ _ 5 [some (.ref 396), some (.int c), none] [.int (slOM I m c)] (N, SH v T, I, L, Dd)
  refine Ev.sg hX (sX7_carsBehind_5.sub 0 3) (pc' := 8) (ls' := [some (.ref 396), some (.int c), some (.int (slOM I m c))]) (st' := [.int (-1), .int (slOM I m c)]) (h' := (N, SH v T, I, L, Dd)) rfl ?_
  refine Ev.icmp_ne (tgt := 19) dX7_carsBehind_8 (by decide) (fun b1 => ?_) (fun b1 => ?_)
  · obtain ⟨s, hs, hs9⟩ := (slOM_or I m c).resolve_left b1
    have hcs : (nI s).toNatClampNeg = s := nI_clamp (by omega)
    have hne := b1
    rw [hs9]
    obtain ⟨t9, ht9, htr⟩ := htk s hs
    refine Ev.sg hX (sX7_carsBehind_19.sub 0 2) (pc' := 21) (ls' := [some (.ref 396), some (.int c), some (.int (nI s))]) (st' := [.ref 396, .ref 396]) (h' := (N, SH v T, I, L, Dd)) rfl ?_
    refine Ev.getf (sX7_carsBehind_19.lk 2 (q := (21, .getfield 7, 7, 0)) rfl) rfl rfl (sX7_carsBehind_19.dc 2 (q := (21, .getfield 7, 7, 0)) rfl) ?_
    show Ev _ _ _ _ _ _ 24 [some (.ref 396), some (.int c), some (.int (nI s))] [.ref 397, .ref 396] (N, SH v T, I, L, Dd)
    refine Ev.sg hX (sX7_carsBehind_19.sub 3 2) (pc' := 27) (ls' := [some (.ref 396), some (.int c), some (.int (nI s))]) (st' := [.ref 396, .int 31, .ref 397, .ref 396]) (h' := (N, SH v T, I, L, Dd)) rfl ?_
    refine Ev.getf (sX7_carsBehind_19.lk 5 (q := (27, .getfield 7, 7, 0)) rfl) rfl rfl (sX7_carsBehind_19.dc 5 (q := (27, .getfield 7, 7, 0)) rfl) ?_
    show Ev _ _ _ _ _ _ 30 [some (.ref 396), some (.int c), some (.int (nI s))] [.ref 397, .int 31, .ref 397, .ref 396] (N, SH v T, I, L, Dd)
    refine Ev.sg hX (sX7_carsBehind_19.sub 6 3) (pc' := 35) (ls' := [some (.ref 396), some (.int c), some (.int (nI s))]) (st' := [.int (139 + (nI s)), .ref 397, .int 31, .ref 397, .ref 396]) (h' := (N, SH v T, I, L, Dd)) rfl ?_
    refine Ev.ialdE (n := (139 + s)) (N := 179) rfl (naI rfl rfl) (by omega) (by decide) dX7_carsBehind_35 ?_
    show Ev _ _ _ _ _ _ 36 [some (.ref 396), some (.int c), some (.int (nI s))] [.int (I 397 (139 + s)), .int 31, .ref 397, .ref 396] (N, SH v T, I, L, Dd)
    refine Ev.eqst (st' := [.int (nI t9), .int 31, .ref 397, .ref 396]) (by rw [show I 397 (139 + s) = nI t9 from (htr)]) ?_
    refine Ev.sg hX (sX7_carsBehind_36.sub 0 1) (pc' := 37) (ls' := [some (.ref 396), some (.int c), some (.int (nI s))]) (st' := [.int (31 + (nI t9)), .ref 397, .ref 396]) (h' := (N, SH v T, I, L, Dd)) rfl ?_
    refine Ev.ialdE (n := (31 + t9)) (N := 179) rfl (naI rfl rfl) (by omega) (by decide) dX7_carsBehind_37 ?_
    show Ev _ _ _ _ _ _ 38 [some (.ref 396), some (.int c), some (.int (nI s))] [.int (I 397 (31 + t9)), .ref 396] (N, SH v T, I, L, Dd)
    refine Ev.sg hX (sX7_carsBehind_38.sub 0 3) (pc' := 41) (ls' := [some (.ref 396), some (.int c), some (.int (nI s))]) (st' := [.ref 396, .int ((I 397 (31 + t9)) - 1), .ref 396]) (h' := (N, SH v T, I, L, Dd)) rfl ?_
    refine Ev.getf (sX7_carsBehind_38.lk 3 (q := (41, .getfield 7, 7, 0)) rfl) rfl rfl (sX7_carsBehind_38.dc 3 (q := (41, .getfield 7, 7, 0)) rfl) ?_
    show Ev _ _ _ _ _ _ 44 [some (.ref 396), some (.int c), some (.int (nI s))] [.ref 397, .int ((I 397 (31 + t9)) - 1), .ref 396] (N, SH v T, I, L, Dd)
    refine Ev.sg hX (sX7_carsBehind_38.sub 4 3) (pc' := 49) (ls' := [some (.ref 396), some (.int c), some (.int (nI s))]) (st' := [.int (159 + (nI s)), .ref 397, .int ((I 397 (31 + t9)) - 1), .ref 396]) (h' := (N, SH v T, I, L, Dd)) rfl ?_
    refine Ev.ialdE (n := (159 + s)) (N := 179) rfl (naI rfl rfl) (by omega) (by decide) dX7_carsBehind_49 ?_
    show Ev _ _ _ _ _ _ 50 [some (.ref 396), some (.int c), some (.int (nI s))] [.int (I 397 (159 + s)), .int ((I 397 (31 + t9)) - 1), .ref 396] (N, SH v T, I, L, Dd)
    refine Ev.sg hX (sX7_carsBehind_50.sub 0 1) (pc' := 51) (ls' := [some (.ref 396), some (.int c), some (.int (nI s))]) (st' := [.int (((I 397 (31 + t9)) - 1) - (I 397 (159 + s))), .ref 396]) (h' := (N, SH v T, I, L, Dd)) rfl ?_
    refine Ev.callV (As := [.int (((I 397 (31 + t9)) - 1) - (I 397 (159 + s)))]) (rest := []) dvX7_done mkX7_79 rfl rfl dX7_carsBehind_51 (m_done (d := d - 1) (I := I) hX (by omega)) ⟨by omega, by show 2 + 19 + 40 * _ ≤ 40 * _; omega⟩ ⟨Nat.zero_le _, Nat.zero_le _⟩ rfl (Nat.le_of_ble_eq_true rfl) (fun v9 h9 e9 => ?_) (fun E9 h9 e9 => nomatch e9)
    cases e9
    show Ev _ _ _ _ _ _ 54 [some (.ref 396), some (.int c), some (.int (nI s))] [.int (((I 397 (31 + t9)) - 1) - (I 397 (159 + s)))] (N, SH v T, up2 I 396 12 0, L, Dd)
    refine Ev.iret dX7_carsBehind_54 rfl ?_
    (rw [slP, if_neg (by rw [hs9]; rw [hs9] at hne; exact hne), hs9, hcs]; dsimp only; rw [htr, show (nI t9).toNatClampNeg = t9 from nI_clamp (by omega)])
  · refine Ev.sg hX (sX7_carsBehind_11.sub 0 2) (pc' := 13) (ls' := [some (.ref 396), some (.int c), some (.int (slOM I m c))]) (st' := [.int 1, .ref 396]) (h' := (N, SH v T, I, L, Dd)) rfl ?_
    refine Ev.callV (As := [.int 1]) (rest := []) dvX7_fails mkX7_75 rfl rfl dX7_carsBehind_13 (m_fails (d := d - 1) (I := I) hX (by omega)) ⟨by omega, by show 2 + 19 + 40 * _ ≤ 40 * _; omega⟩ ⟨Nat.zero_le _, Nat.zero_le _⟩ rfl (Nat.le_of_ble_eq_true rfl) (fun v9 h9 e9 => ?_) (fun E9 h9 e9 => nomatch e9)
    cases e9
    show Ev _ _ _ _ _ _ 16 [some (.ref 396), some (.int c), some (.int (slOM I m c))] [.int 0] (N, SH v T, up2 I 396 12 1, L, Dd)
    refine Ev.sg hX (sX7_carsBehind_16.sub 0 1) (pc' := 54) (ls' := [some (.ref 396), some (.int c), some (.int (slOM I m c))]) (st' := [.int 0]) (h' := (N, SH v T, up2 I 396 12 1, L, Dd)) rfl ?_
    refine Ev.iret dX7_carsBehind_54 rfl ?_
    rw [slP, if_pos b1]
theorem l_cf {Q : JR → Prop} (hX : JXok X) (hd : 2 ≤ d) (hm20 : m ≤ 20) (hm : I 397 1 = nI m) : ∀ (n k : Nat) (acc : Int32), k + n = m → Ev X (jm jdX7_carsFor) d 0 0 Q 57 [some (.ref 396), some (.int c), some (.int (fo (cfS I c) n k acc)), some (.int (nI m))] [] (N, SH v T, I, L, Dd) → Ev X (jm jdX7_carsFor) d 0 0 Q 20 [some (.ref 396), some (.int c), some (.int acc), some (.int (nI k))] [] (N, SH v T, I, L, Dd) := by
  intro n
  induction n with
  | zero =>
    intro k acc hk hQ
    refine Ev.sg hX (sX7_carsFor_20.sub 0 2) (pc' := 22) (ls' := [some (.ref 396), some (.int c), some (.int acc), some (.int (nI k))]) (st' := [.ref 396, .int (nI k)]) (h' := (N, SH v T, I, L, Dd)) rfl ?_
    refine Ev.getf (sX7_carsFor_20.lk 2 (q := (22, .getfield 7, 7, 0)) rfl) rfl rfl (sX7_carsFor_20.dc 2 (q := (22, .getfield 7, 7, 0)) rfl) ?_
    show Ev _ _ _ _ _ _ 25 [some (.ref 396), some (.int c), some (.int acc), some (.int (nI k))] [.ref 397, .int (nI k)] (N, SH v T, I, L, Dd)
    refine Ev.sg hX (sX7_carsFor_20.sub 3 1) (pc' := 26) (ls' := [some (.ref 396), some (.int c), some (.int acc), some (.int (nI k))]) (st' := [.int 1, .ref 397, .int (nI k)]) (h' := (N, SH v T, I, L, Dd)) rfl ?_
    refine Ev.ialdE (n := 1) (N := 179) rfl rfl (by omega) (by decide) (sX7_carsFor_20.dc 4 (q := (26, .iaload, 0, 0)) rfl) ?_
    show Ev _ _ _ _ _ _ 27 [some (.ref 396), some (.int c), some (.int acc), some (.int (nI k))] [.int (I 397 1), .int (nI k)] (N, SH v T, I, L, Dd)
    refine Ev.eqst (st' := [.int (nI m), .int (nI k)]) (by rw [show I 397 1 = nI m from (hm)]) ?_
    refine Ev.icmp_ge (tgt := 57) dX7_carsFor_27 (by decide) (fun b1 => ?_) (fun b1 => ?_)
    · rw [show k = m by omega]
      exact hQ
    · exact absurd ((nI_leI (a := m) (b := k) (by omega) (by omega)).mpr (by omega)) b1
  | succ n ih =>
    intro k acc hk hQ
    refine Ev.sg hX (sX7_carsFor_20.sub 0 2) (pc' := 22) (ls' := [some (.ref 396), some (.int c), some (.int acc), some (.int (nI k))]) (st' := [.ref 396, .int (nI k)]) (h' := (N, SH v T, I, L, Dd)) rfl ?_
    refine Ev.getf (sX7_carsFor_20.lk 2 (q := (22, .getfield 7, 7, 0)) rfl) rfl rfl (sX7_carsFor_20.dc 2 (q := (22, .getfield 7, 7, 0)) rfl) ?_
    show Ev _ _ _ _ _ _ 25 [some (.ref 396), some (.int c), some (.int acc), some (.int (nI k))] [.ref 397, .int (nI k)] (N, SH v T, I, L, Dd)
    refine Ev.sg hX (sX7_carsFor_20.sub 3 1) (pc' := 26) (ls' := [some (.ref 396), some (.int c), some (.int acc), some (.int (nI k))]) (st' := [.int 1, .ref 397, .int (nI k)]) (h' := (N, SH v T, I, L, Dd)) rfl ?_
    refine Ev.ialdE (n := 1) (N := 179) rfl rfl (by omega) (by decide) (sX7_carsFor_20.dc 4 (q := (26, .iaload, 0, 0)) rfl) ?_
    show Ev _ _ _ _ _ _ 27 [some (.ref 396), some (.int c), some (.int acc), some (.int (nI k))] [.int (I 397 1), .int (nI k)] (N, SH v T, I, L, Dd)
    refine Ev.eqst (st' := [.int (nI m), .int (nI k)]) (by rw [show I 397 1 = nI m from (hm)]) ?_
    refine Ev.icmp_ge (tgt := 57) dX7_carsFor_27 (by decide) (fun b1 => ?_) (fun b1 => ?_)
    · exact absurd ((nI_leI (a := m) (b := k) (by omega) (by omega)).mp b1) (by omega)
    · refine Ev.sg hX (sX7_carsFor_30.sub 0 2) (pc' := 32) (ls' := [some (.ref 396), some (.int c), some (.int acc), some (.int (nI k))]) (st' := [.ref 396, .int acc]) (h' := (N, SH v T, I, L, Dd)) rfl ?_
      refine Ev.getf (sX7_carsFor_30.lk 2 (q := (32, .getfield 7, 7, 0)) rfl) rfl rfl (sX7_carsFor_30.dc 2 (q := (32, .getfield 7, 7, 0)) rfl) ?_
      show Ev _ _ _ _ _ _ 35 [some (.ref 396), some (.int c), some (.int acc), some (.int (nI k))] [.ref 397, .int acc] (N, SH v T, I, L, Dd)
      refine Ev.sg hX (sX7_carsFor_30.sub 3 3) (pc' := 39) (ls' := [some (.ref 396), some (.int c), some (.int acc), some (.int (nI k))]) (st' := [.int (99 + (nI k)), .ref 397, .int acc]) (h' := (N, SH v T, I, L, Dd)) rfl ?_
      refine Ev.ialdE (n := (99 + k)) (N := 179) rfl (naI rfl rfl) (by omega) (by decide) dX7_carsFor_39 ?_
      show Ev _ _ _ _ _ _ 40 [some (.ref 396), some (.int c), some (.int acc), some (.int (nI k))] [.int (I 397 (99 + k)), .int acc] (N, SH v T, I, L, Dd)
      refine Ev.sg hX (sX7_carsFor_40.sub 0 1) (pc' := 41) (ls' := [some (.ref 396), some (.int c), some (.int acc), some (.int (nI k))]) (st' := [.int c, .int (I 397 (99 + k)), .int acc]) (h' := (N, SH v T, I, L, Dd)) rfl ?_
      refine Ev.icmp_ne (tgt := 48) dX7_carsFor_41 (by decide) (fun b2 => ?_) (fun b2 => ?_)
      · refine Ev.sg hX (sX7_carsFor_48.sub 0 1) (pc' := 49) (ls' := [some (.ref 396), some (.int c), some (.int acc), some (.int (nI k))]) (st' := [.int 0, .int acc]) (h' := (N, SH v T, I, L, Dd)) rfl ?_
        refine Ev.sg hX (sX7_carsFor_49.sub 0 4) (pc' := 20) (ls' := [some (.ref 396), some (.int c), some (.int (acc + 0)), some (.int ((nI k) + 1))]) (st' := []) (h' := (N, SH v T, I, L, Dd)) rfl ?_
        have e1 : cfS I c k acc = acc + 0 := by rw [cfS, if_neg b2]
        rw [nI_1, ← e1]
        exact ih (k + 1) (cfS I c k acc) (by omega) hQ
      · refine Ev.sg hX (sX7_carsFor_44.sub 0 2) (pc' := 49) (ls' := [some (.ref 396), some (.int c), some (.int acc), some (.int (nI k))]) (st' := [.int 1, .int acc]) (h' := (N, SH v T, I, L, Dd)) rfl ?_
        refine Ev.sg hX (sX7_carsFor_49.sub 0 4) (pc' := 20) (ls' := [some (.ref 396), some (.int c), some (.int (acc + 1)), some (.int ((nI k) + 1))]) (st' := []) (h' := (N, SH v T, I, L, Dd)) rfl ?_
        have e1 : cfS I c k acc = acc + 1 := by rw [cfS, if_pos b2]
        rw [nI_1, ← e1]
        exact ih (k + 1) (cfS I c k acc) (by omega) hQ
theorem m_carsFor (hX : JXok X) (hd : 2 ≤ d) (hm20 : m ≤ 20) (hm : I 397 1 = nI m) : MT X d 0 0 jdX7_carsFor [.ref 396, .int c] (N, SH v T, I, L, Dd) (fun R => R = .inl (some (.int (if 0 ≤ c ∧ c ≤ 9 then (fo (cfS I c) m 0 0, up2 I 396 12 0) else (0, up2 I 396 12 1)).1), (N, SH v T, (if 0 ≤ c ∧ c ≤ 9 then (fo (cfS I c) m 0 0, up2 I 396 12 0) else (0, up2 I 396 12 1)).2, L, Dd))) := by
  refine MT.mk dvX7_carsFor.1 ?_
  refine Ev.sg hX (sX7_carsFor_0.sub 0 3) (pc' := 4) (ls' := [some (.ref 396), some (.int c), none, none]) (st' := [.int 9, .int 0, .int c]) (h' := (N, SH v T, I, L, Dd)) rfl ?_
  refine Ev.callS (As := [.int c, .int 0, .int 9]) (rest := []) dsX7_in mkX7_52 dX7_carsFor_4 (m_in (d := d - 1) hX (by omega)) ⟨by omega, by show 3 + 19 + 40 * _ ≤ 40 * _; omega⟩ ⟨Nat.zero_le _, Nat.zero_le _⟩ rfl (Nat.le_of_ble_eq_true rfl) (fun v9 h9 e9 => ?_) (fun E9 h9 e9 => nomatch e9)
  cases e9
  show Ev _ _ _ _ _ _ 7 [some (.ref 396), some (.int c), none, none] [.int (bi (0 ≤ c ∧ c ≤ 9))] (N, SH v T, I, L, Dd)
  refine Ev.if_ne (tgt := 16) dX7_carsFor_7 (by decide) (fun b1 => ?_) (fun b1 => ?_)
  · refine Ev.sg hX (sX7_carsFor_16.sub 0 4) (pc' := 20) (ls' := [some (.ref 396), some (.int c), some (.int 0), some (.int 0)]) (st' := []) (h' := (N, SH v T, I, L, Dd)) rfl ?_
    refine l_cf hX (by omega) hm20 hm m 0 0 (Nat.zero_add m) ?_
    refine Ev.sg hX (sX7_carsFor_57.sub 0 2) (pc' := 59) (ls' := [some (.ref 396), some (.int c), some (.int (fo (cfS I c) m 0 0)), some (.int (nI m))]) (st' := [.int (fo (cfS I c) m 0 0), .ref 396]) (h' := (N, SH v T, I, L, Dd)) rfl ?_
    refine Ev.callV (As := [.int (fo (cfS I c) m 0 0)]) (rest := []) dvX7_done mkX7_79 rfl rfl dX7_carsFor_59 (m_done (d := d - 1) (I := I) hX (by omega)) ⟨by omega, by show 2 + 19 + 40 * _ ≤ 40 * _; omega⟩ ⟨Nat.zero_le _, Nat.zero_le _⟩ rfl (Nat.le_of_ble_eq_true rfl) (fun v9 h9 e9 => ?_) (fun E9 h9 e9 => nomatch e9)
    cases e9
    show Ev _ _ _ _ _ _ 62 [some (.ref 396), some (.int c), some (.int (fo (cfS I c) m 0 0)), some (.int (nI m))] [.int (fo (cfS I c) m 0 0)] (N, SH v T, up2 I 396 12 0, L, Dd)
    refine Ev.iret dX7_carsFor_62 rfl ?_
    rw [show (if 0 ≤ c ∧ c ≤ 9 then (fo (cfS I c) m 0 0, up2 I 396 12 0) else (0, up2 I 396 12 1)) = (fo (cfS I c) m 0 0, up2 I 396 12 0) from if_pos (bi_1.mp b1)]
  · refine Ev.sg hX (sX7_carsFor_10.sub 0 2) (pc' := 12) (ls' := [some (.ref 396), some (.int c), none, none]) (st' := [.int 1, .ref 396]) (h' := (N, SH v T, I, L, Dd)) rfl ?_
    refine Ev.callV (As := [.int 1]) (rest := []) dvX7_fails mkX7_75 rfl rfl dX7_carsFor_12 (m_fails (d := d - 1) (I := I) hX (by omega)) ⟨by omega, by show 2 + 19 + 40 * _ ≤ 40 * _; omega⟩ ⟨Nat.zero_le _, Nat.zero_le _⟩ rfl (Nat.le_of_ble_eq_true rfl) (fun v9 h9 e9 => ?_) (fun E9 h9 e9 => nomatch e9)
    cases e9
    show Ev _ _ _ _ _ _ 15 [some (.ref 396), some (.int c), none, none] [.int 0] (N, SH v T, up2 I 396 12 1, L, Dd)
    refine Ev.iret dX7_carsFor_15 rfl ?_
    rw [show (if 0 ≤ c ∧ c ≤ 9 then (fo (cfS I c) m 0 0, up2 I 396 12 0) else (0, up2 I 396 12 1)) = ((0 : Int32), up2 I 396 12 1) from if_neg (bi_0.mp b1)]
theorem m_isCarAhead (hX : JXok X) (hd : 1 ≤ d) (hx : x < 20) (hy : y < 20) : MT X d 0 0 jdX7_isCarAhead [.ref 396, .int (nI x), .int (nI y)] (N, SH v T, I, L, Dd) (fun R => R = .inl (some (.int (bi (cahM I x y))), (N, SH v T, I, L, Dd))) := by
  refine MT.mk dvX7_isCarAhead.1 ?_
  refine Ev.sg hX (sX7_isCarAhead_0.sub 0 1) (pc' := 1) (ls' := [some (.ref 396), some (.int (nI x)), some (.int (nI y)), none, none]) (st' := [.ref 396]) (h' := (N, SH v T, I, L, Dd)) rfl ?_
  refine Ev.getf (sX7_isCarAhead_0.lk 1 (q := (1, .getfield 7, 7, 0)) rfl) rfl rfl (sX7_isCarAhead_0.dc 1 (q := (1, .getfield 7, 7, 0)) rfl) ?_
  show Ev _ _ _ _ _ _ 4 [some (.ref 396), some (.int (nI x)), some (.int (nI y)), none, none] [.ref 397] (N, SH v T, I, L, Dd)
  refine Ev.sg hX (sX7_isCarAhead_0.sub 2 3) (pc' := 8) (ls' := [some (.ref 396), some (.int (nI x)), some (.int (nI y)), none, none]) (st' := [.int (99 + (nI y)), .ref 397]) (h' := (N, SH v T, I, L, Dd)) rfl ?_
  refine Ev.ialdE (n := (99 + y)) (N := 179) rfl (naI rfl rfl) (by omega) (by decide) dX7_isCarAhead_8 ?_
  show Ev _ _ _ _ _ _ 9 [some (.ref 396), some (.int (nI x)), some (.int (nI y)), none, none] [.int (I 397 (99 + y))] (N, SH v T, I, L, Dd)
  refine Ev.sg hX (sX7_isCarAhead_9.sub 0 1) (pc' := 10) (ls' := [some (.ref 396), some (.int (nI x)), some (.int (nI y)), none, none]) (st' := [.ref 396, .int (I 397 (99 + y))]) (h' := (N, SH v T, I, L, Dd)) rfl ?_
  refine Ev.getf (sX7_isCarAhead_9.lk 1 (q := (10, .getfield 7, 7, 0)) rfl) rfl rfl (sX7_isCarAhead_9.dc 1 (q := (10, .getfield 7, 7, 0)) rfl) ?_
  show Ev _ _ _ _ _ _ 13 [some (.ref 396), some (.int (nI x)), some (.int (nI y)), none, none] [.ref 397, .int (I 397 (99 + y))] (N, SH v T, I, L, Dd)
  refine Ev.sg hX (sX7_isCarAhead_9.sub 2 3) (pc' := 17) (ls' := [some (.ref 396), some (.int (nI x)), some (.int (nI y)), none, none]) (st' := [.int (99 + (nI x)), .ref 397, .int (I 397 (99 + y))]) (h' := (N, SH v T, I, L, Dd)) rfl ?_
  refine Ev.ialdE (n := (99 + x)) (N := 179) rfl (naI rfl rfl) (by omega) (by decide) dX7_isCarAhead_17 ?_
  show Ev _ _ _ _ _ _ 18 [some (.ref 396), some (.int (nI x)), some (.int (nI y)), none, none] [.int (I 397 (99 + x)), .int (I 397 (99 + y))] (N, SH v T, I, L, Dd)
  refine Ev.sg hX (sX7_isCarAhead_18.sub 0 3) (pc' := 21) (ls' := [some (.ref 396), some (.int (nI x)), some (.int (nI y)), some (.int ((I 397 (99 + y)) - (I 397 (99 + x)))), none]) (st' := [.ref 396]) (h' := (N, SH v T, I, L, Dd)) rfl ?_
  refine Ev.getf (sX7_isCarAhead_18.lk 3 (q := (21, .getfield 7, 7, 0)) rfl) rfl rfl (sX7_isCarAhead_18.dc 3 (q := (21, .getfield 7, 7, 0)) rfl) ?_
  show Ev _ _ _ _ _ _ 24 [some (.ref 396), some (.int (nI x)), some (.int (nI y)), some (.int ((I 397 (99 + y)) - (I 397 (99 + x)))), none] [.ref 397] (N, SH v T, I, L, Dd)
  refine Ev.sg hX (sX7_isCarAhead_18.sub 4 3) (pc' := 28) (ls' := [some (.ref 396), some (.int (nI x)), some (.int (nI y)), some (.int ((I 397 (99 + y)) - (I 397 (99 + x)))), none]) (st' := [.int (79 + (nI x)), .ref 397]) (h' := (N, SH v T, I, L, Dd)) rfl ?_
  refine Ev.ialdE (n := (79 + x)) (N := 179) rfl (naI rfl rfl) (by omega) (by decide) dX7_isCarAhead_28 ?_
  show Ev _ _ _ _ _ _ 29 [some (.ref 396), some (.int (nI x)), some (.int (nI y)), some (.int ((I 397 (99 + y)) - (I 397 (99 + x)))), none] [.int (I 397 (79 + x))] (N, SH v T, I, L, Dd)
  refine Ev.sg hX (sX7_isCarAhead_29.sub 0 1) (pc' := 30) (ls' := [some (.ref 396), some (.int (nI x)), some (.int (nI y)), some (.int ((I 397 (99 + y)) - (I 397 (99 + x)))), none]) (st' := [.ref 396, .int (I 397 (79 + x))]) (h' := (N, SH v T, I, L, Dd)) rfl ?_
  refine Ev.getf (sX7_isCarAhead_29.lk 1 (q := (30, .getfield 7, 7, 0)) rfl) rfl rfl (sX7_isCarAhead_29.dc 1 (q := (30, .getfield 7, 7, 0)) rfl) ?_
  show Ev _ _ _ _ _ _ 33 [some (.ref 396), some (.int (nI x)), some (.int (nI y)), some (.int ((I 397 (99 + y)) - (I 397 (99 + x)))), none] [.ref 397, .int (I 397 (79 + x))] (N, SH v T, I, L, Dd)
  refine Ev.sg hX (sX7_isCarAhead_29.sub 2 3) (pc' := 37) (ls' := [some (.ref 396), some (.int (nI x)), some (.int (nI y)), some (.int ((I 397 (99 + y)) - (I 397 (99 + x)))), none]) (st' := [.int (79 + (nI y)), .ref 397, .int (I 397 (79 + x))]) (h' := (N, SH v T, I, L, Dd)) rfl ?_
  refine Ev.ialdE (n := (79 + y)) (N := 179) rfl (naI rfl rfl) (by omega) (by decide) dX7_isCarAhead_37 ?_
  show Ev _ _ _ _ _ _ 38 [some (.ref 396), some (.int (nI x)), some (.int (nI y)), some (.int ((I 397 (99 + y)) - (I 397 (99 + x)))), none] [.int (I 397 (79 + y)), .int (I 397 (79 + x))] (N, SH v T, I, L, Dd)
  refine Ev.sg hX (sX7_isCarAhead_38.sub 0 3) (pc' := 42) (ls' := [some (.ref 396), some (.int (nI x)), some (.int (nI y)), some (.int ((I 397 (99 + y)) - (I 397 (99 + x)))), some (.int ((I 397 (79 + x)) - (I 397 (79 + y))))]) (st' := [.int ((I 397 (99 + y)) - (I 397 (99 + x)))]) (h' := (N, SH v T, I, L, Dd)) rfl ?_
  refine Ev.if_gt (tgt := 80) dX7_isCarAhead_42 (by decide) (fun b1 => ?_) (fun b1 => ?_)
  · refine Ev.sg hX (sX7_isCarAhead_80.sub 0 2) (pc' := 85) (ls' := [some (.ref 396), some (.int (nI x)), some (.int (nI y)), some (.int ((I 397 (99 + y)) - (I 397 (99 + x)))), some (.int ((I 397 (79 + x)) - (I 397 (79 + y))))]) (st' := [.int 1]) (h' := (N, SH v T, I, L, Dd)) rfl ?_
    refine Ev.zret dX7_isCarAhead_85 rfl ?_ ?_
    · rfl
    exact congrArg (fun w => Sum.inl (some (Value.int w), (N, SH v T, I, L, Dd))) (if_pos (Or.inl b1)).symm
  · refine Ev.sg hX (sX7_isCarAhead_45.sub 0 1) (pc' := 46) (ls' := [some (.ref 396), some (.int (nI x)), some (.int (nI y)), some (.int ((I 397 (99 + y)) - (I 397 (99 + x)))), some (.int ((I 397 (79 + x)) - (I 397 (79 + y))))]) (st' := [.int ((I 397 (99 + y)) - (I 397 (99 + x)))]) (h' := (N, SH v T, I, L, Dd)) rfl ?_
    refine Ev.if_ne (tgt := 84) dX7_isCarAhead_46 (by decide) (fun b2 => ?_) (fun b2 => ?_)
    · refine Ev.sg hX (sX7_isCarAhead_84.sub 0 1) (pc' := 85) (ls' := [some (.ref 396), some (.int (nI x)), some (.int (nI y)), some (.int ((I 397 (99 + y)) - (I 397 (99 + x)))), some (.int ((I 397 (79 + x)) - (I 397 (79 + y))))]) (st' := [.int 0]) (h' := (N, SH v T, I, L, Dd)) rfl ?_
      refine Ev.zret dX7_isCarAhead_85 rfl ?_ ?_
      · rfl
      exact congrArg (fun w => Sum.inl (some (Value.int w), (N, SH v T, I, L, Dd))) (if_neg (fun w => w.elim b1 (fun w2 => b2 w2.1))).symm
    · refine Ev.sg hX (sX7_isCarAhead_49.sub 0 1) (pc' := 51) (ls' := [some (.ref 396), some (.int (nI x)), some (.int (nI y)), some (.int ((I 397 (99 + y)) - (I 397 (99 + x)))), some (.int ((I 397 (79 + x)) - (I 397 (79 + y))))]) (st' := [.int ((I 397 (79 + x)) - (I 397 (79 + y)))]) (h' := (N, SH v T, I, L, Dd)) rfl ?_
      refine Ev.if_gt (tgt := 80) dX7_isCarAhead_51 (by decide) (fun b3 => ?_) (fun b3 => ?_)
      · refine Ev.sg hX (sX7_isCarAhead_80.sub 0 2) (pc' := 85) (ls' := [some (.ref 396), some (.int (nI x)), some (.int (nI y)), some (.int ((I 397 (99 + y)) - (I 397 (99 + x)))), some (.int ((I 397 (79 + x)) - (I 397 (79 + y))))]) (st' := [.int 1]) (h' := (N, SH v T, I, L, Dd)) rfl ?_
        refine Ev.zret dX7_isCarAhead_85 rfl ?_ ?_
        · rfl
        exact congrArg (fun w => Sum.inl (some (Value.int w), (N, SH v T, I, L, Dd))) (if_pos (Or.inr ⟨b2, Or.inl b3⟩)).symm
      · refine Ev.sg hX (sX7_isCarAhead_54.sub 0 1) (pc' := 56) (ls' := [some (.ref 396), some (.int (nI x)), some (.int (nI y)), some (.int ((I 397 (99 + y)) - (I 397 (99 + x)))), some (.int ((I 397 (79 + x)) - (I 397 (79 + y))))]) (st' := [.int ((I 397 (79 + x)) - (I 397 (79 + y)))]) (h' := (N, SH v T, I, L, Dd)) rfl ?_
        refine Ev.if_ne (tgt := 84) dX7_isCarAhead_56 (by decide) (fun b4 => ?_) (fun b4 => ?_)
        · refine Ev.sg hX (sX7_isCarAhead_84.sub 0 1) (pc' := 85) (ls' := [some (.ref 396), some (.int (nI x)), some (.int (nI y)), some (.int ((I 397 (99 + y)) - (I 397 (99 + x)))), some (.int ((I 397 (79 + x)) - (I 397 (79 + y))))]) (st' := [.int 0]) (h' := (N, SH v T, I, L, Dd)) rfl ?_
          refine Ev.zret dX7_isCarAhead_85 rfl ?_ ?_
          · rfl
          exact congrArg (fun w => Sum.inl (some (Value.int w), (N, SH v T, I, L, Dd))) (if_neg (fun w => w.elim b1 (fun w2 => w2.2.elim b3 (fun w3 => b4 w3.1)))).symm
        · refine Ev.sg hX (sX7_isCarAhead_59.sub 0 1) (pc' := 60) (ls' := [some (.ref 396), some (.int (nI x)), some (.int (nI y)), some (.int ((I 397 (99 + y)) - (I 397 (99 + x)))), some (.int ((I 397 (79 + x)) - (I 397 (79 + y))))]) (st' := [.ref 396]) (h' := (N, SH v T, I, L, Dd)) rfl ?_
          refine Ev.getf (sX7_isCarAhead_59.lk 1 (q := (60, .getfield 7, 7, 0)) rfl) rfl rfl (sX7_isCarAhead_59.dc 1 (q := (60, .getfield 7, 7, 0)) rfl) ?_
          show Ev _ _ _ _ _ _ 63 [some (.ref 396), some (.int (nI x)), some (.int (nI y)), some (.int ((I 397 (99 + y)) - (I 397 (99 + x)))), some (.int ((I 397 (79 + x)) - (I 397 (79 + y))))] [.ref 397] (N, SH v T, I, L, Dd)
          refine Ev.sg hX (sX7_isCarAhead_59.sub 2 3) (pc' := 67) (ls' := [some (.ref 396), some (.int (nI x)), some (.int (nI y)), some (.int ((I 397 (99 + y)) - (I 397 (99 + x)))), some (.int ((I 397 (79 + x)) - (I 397 (79 + y))))]) (st' := [.int (39 + (nI x)), .ref 397]) (h' := (N, SH v T, I, L, Dd)) rfl ?_
          refine Ev.ialdE (n := (39 + x)) (N := 179) rfl (naI rfl rfl) (by omega) (by decide) dX7_isCarAhead_67 ?_
          show Ev _ _ _ _ _ _ 68 [some (.ref 396), some (.int (nI x)), some (.int (nI y)), some (.int ((I 397 (99 + y)) - (I 397 (99 + x)))), some (.int ((I 397 (79 + x)) - (I 397 (79 + y))))] [.int (I 397 (39 + x))] (N, SH v T, I, L, Dd)
          refine Ev.sg hX (sX7_isCarAhead_68.sub 0 1) (pc' := 69) (ls' := [some (.ref 396), some (.int (nI x)), some (.int (nI y)), some (.int ((I 397 (99 + y)) - (I 397 (99 + x)))), some (.int ((I 397 (79 + x)) - (I 397 (79 + y))))]) (st' := [.ref 396, .int (I 397 (39 + x))]) (h' := (N, SH v T, I, L, Dd)) rfl ?_
          refine Ev.getf (sX7_isCarAhead_68.lk 1 (q := (69, .getfield 7, 7, 0)) rfl) rfl rfl (sX7_isCarAhead_68.dc 1 (q := (69, .getfield 7, 7, 0)) rfl) ?_
          show Ev _ _ _ _ _ _ 72 [some (.ref 396), some (.int (nI x)), some (.int (nI y)), some (.int ((I 397 (99 + y)) - (I 397 (99 + x)))), some (.int ((I 397 (79 + x)) - (I 397 (79 + y))))] [.ref 397, .int (I 397 (39 + x))] (N, SH v T, I, L, Dd)
          refine Ev.sg hX (sX7_isCarAhead_68.sub 2 3) (pc' := 76) (ls' := [some (.ref 396), some (.int (nI x)), some (.int (nI y)), some (.int ((I 397 (99 + y)) - (I 397 (99 + x)))), some (.int ((I 397 (79 + x)) - (I 397 (79 + y))))]) (st' := [.int (39 + (nI y)), .ref 397, .int (I 397 (39 + x))]) (h' := (N, SH v T, I, L, Dd)) rfl ?_
          refine Ev.ialdE (n := (39 + y)) (N := 179) rfl (naI rfl rfl) (by omega) (by decide) dX7_isCarAhead_76 ?_
          show Ev _ _ _ _ _ _ 77 [some (.ref 396), some (.int (nI x)), some (.int (nI y)), some (.int ((I 397 (99 + y)) - (I 397 (99 + x)))), some (.int ((I 397 (79 + x)) - (I 397 (79 + y))))] [.int (I 397 (39 + y)), .int (I 397 (39 + x))] (N, SH v T, I, L, Dd)
          refine Ev.icmp_ge (tgt := 84) dX7_isCarAhead_77 (by decide) (fun b5 => ?_) (fun b5 => ?_)
          · refine Ev.sg hX (sX7_isCarAhead_84.sub 0 1) (pc' := 85) (ls' := [some (.ref 396), some (.int (nI x)), some (.int (nI y)), some (.int ((I 397 (99 + y)) - (I 397 (99 + x)))), some (.int ((I 397 (79 + x)) - (I 397 (79 + y))))]) (st' := [.int 0]) (h' := (N, SH v T, I, L, Dd)) rfl ?_
            refine Ev.zret dX7_isCarAhead_85 rfl ?_ ?_
            · rfl
            exact congrArg (fun w => Sum.inl (some (Value.int w), (N, SH v T, I, L, Dd))) (if_neg (fun w => w.elim b1 (fun w2 => w2.2.elim b3 (fun w3 => absurd w3.2 (Int32.not_lt.mpr b5))))).symm
          · refine Ev.sg hX (sX7_isCarAhead_80.sub 0 2) (pc' := 85) (ls' := [some (.ref 396), some (.int (nI x)), some (.int (nI y)), some (.int ((I 397 (99 + y)) - (I 397 (99 + x)))), some (.int ((I 397 (79 + x)) - (I 397 (79 + y))))]) (st' := [.int 1]) (h' := (N, SH v T, I, L, Dd)) rfl ?_
            refine Ev.zret dX7_isCarAhead_85 rfl ?_ ?_
            · rfl
            exact congrArg (fun w => Sum.inl (some (Value.int w), (N, SH v T, I, L, Dd))) (if_pos (Or.inr ⟨b2, Or.inr ⟨b4, Int32.not_le.mp b5⟩⟩)).symm
theorem l_cr {Q : JR → Prop} (hX : JXok X) (hd : 2 ≤ d) (hm20 : m ≤ 20) (hm : I 397 1 = nI m) (hy : y < 20) : ∀ (n k : Nat) (acc : Int32), k + n = m → Ev X (jm jdX7_carAtRank) d 0 0 Q 52 [some (.ref 396), some (.int c), some (.int (nI y)), some (.int (fo (crS I y) n k acc)), some (.int (nI m))] [] (N, SH v T, I, L, Dd) → Ev X (jm jdX7_carAtRank) d 0 0 Q 17 [some (.ref 396), some (.int c), some (.int (nI y)), some (.int acc), some (.int (nI k))] [] (N, SH v T, I, L, Dd) := by
  intro n
  induction n with
  | zero =>
    intro k acc hk hQ
    refine Ev.sg hX (sX7_carAtRank_17.sub 0 2) (pc' := 20) (ls' := [some (.ref 396), some (.int c), some (.int (nI y)), some (.int acc), some (.int (nI k))]) (st' := [.ref 396, .int (nI k)]) (h' := (N, SH v T, I, L, Dd)) rfl ?_
    refine Ev.getf (sX7_carAtRank_17.lk 2 (q := (20, .getfield 7, 7, 0)) rfl) rfl rfl (sX7_carAtRank_17.dc 2 (q := (20, .getfield 7, 7, 0)) rfl) ?_
    show Ev _ _ _ _ _ _ 23 [some (.ref 396), some (.int c), some (.int (nI y)), some (.int acc), some (.int (nI k))] [.ref 397, .int (nI k)] (N, SH v T, I, L, Dd)
    refine Ev.sg hX (sX7_carAtRank_17.sub 3 1) (pc' := 24) (ls' := [some (.ref 396), some (.int c), some (.int (nI y)), some (.int acc), some (.int (nI k))]) (st' := [.int 1, .ref 397, .int (nI k)]) (h' := (N, SH v T, I, L, Dd)) rfl ?_
    refine Ev.ialdE (n := 1) (N := 179) rfl rfl (by omega) (by decide) (sX7_carAtRank_17.dc 4 (q := (24, .iaload, 0, 0)) rfl) ?_
    show Ev _ _ _ _ _ _ 25 [some (.ref 396), some (.int c), some (.int (nI y)), some (.int acc), some (.int (nI k))] [.int (I 397 1), .int (nI k)] (N, SH v T, I, L, Dd)
    refine Ev.eqst (st' := [.int (nI m), .int (nI k)]) (by rw [show I 397 1 = nI m from (hm)]) ?_
    refine Ev.icmp_ge (tgt := 52) dX7_carAtRank_25 (by decide) (fun b1 => ?_) (fun b1 => ?_)
    · rw [show k = m by omega]
      exact hQ
    · exact absurd ((nI_leI (a := m) (b := k) (by omega) (by omega)).mpr (by omega)) b1
  | succ n ih =>
    intro k acc hk hQ
    refine Ev.sg hX (sX7_carAtRank_17.sub 0 2) (pc' := 20) (ls' := [some (.ref 396), some (.int c), some (.int (nI y)), some (.int acc), some (.int (nI k))]) (st' := [.ref 396, .int (nI k)]) (h' := (N, SH v T, I, L, Dd)) rfl ?_
    refine Ev.getf (sX7_carAtRank_17.lk 2 (q := (20, .getfield 7, 7, 0)) rfl) rfl rfl (sX7_carAtRank_17.dc 2 (q := (20, .getfield 7, 7, 0)) rfl) ?_
    show Ev _ _ _ _ _ _ 23 [some (.ref 396), some (.int c), some (.int (nI y)), some (.int acc), some (.int (nI k))] [.ref 397, .int (nI k)] (N, SH v T, I, L, Dd)
    refine Ev.sg hX (sX7_carAtRank_17.sub 3 1) (pc' := 24) (ls' := [some (.ref 396), some (.int c), some (.int (nI y)), some (.int acc), some (.int (nI k))]) (st' := [.int 1, .ref 397, .int (nI k)]) (h' := (N, SH v T, I, L, Dd)) rfl ?_
    refine Ev.ialdE (n := 1) (N := 179) rfl rfl (by omega) (by decide) (sX7_carAtRank_17.dc 4 (q := (24, .iaload, 0, 0)) rfl) ?_
    show Ev _ _ _ _ _ _ 25 [some (.ref 396), some (.int c), some (.int (nI y)), some (.int acc), some (.int (nI k))] [.int (I 397 1), .int (nI k)] (N, SH v T, I, L, Dd)
    refine Ev.eqst (st' := [.int (nI m), .int (nI k)]) (by rw [show I 397 1 = nI m from (hm)]) ?_
    refine Ev.icmp_ge (tgt := 52) dX7_carAtRank_25 (by decide) (fun b1 => ?_) (fun b1 => ?_)
    · exact absurd ((nI_leI (a := m) (b := k) (by omega) (by omega)).mp b1) (by omega)
    · refine Ev.sg hX (sX7_carAtRank_28.sub 0 4) (pc' := 33) (ls' := [some (.ref 396), some (.int c), some (.int (nI y)), some (.int acc), some (.int (nI k))]) (st' := [.int (nI y), .int (nI k), .ref 396, .int acc]) (h' := (N, SH v T, I, L, Dd)) rfl ?_
      refine Ev.callV (As := [.int (nI k), .int (nI y)]) (rest := [.int acc]) dvX7_isCarAhead mkX7_169 rfl rfl dX7_carAtRank_33 (m_isCarAhead (d := d - 1) (I := I) (x := k) (y := y) hX (by omega) (by omega) (by omega)) ⟨by omega, by show 5 + 19 + 40 * _ ≤ 40 * _; omega⟩ ⟨Nat.zero_le _, Nat.zero_le _⟩ rfl (Nat.le_of_ble_eq_true rfl) (fun v9 h9 e9 => ?_) (fun E9 h9 e9 => nomatch e9)
      cases e9
      show Ev _ _ _ _ _ _ 36 [some (.ref 396), some (.int c), some (.int (nI y)), some (.int acc), some (.int (nI k))] [.int (bi (cahM I k y)), .int acc] (N, SH v T, I, L, Dd)
      refine Ev.if_eq (tgt := 43) dX7_carAtRank_36 (by decide) (fun b2 => ?_) (fun b2 => ?_)
      · refine Ev.sg hX (sX7_carAtRank_43.sub 0 1) (pc' := 44) (ls' := [some (.ref 396), some (.int c), some (.int (nI y)), some (.int acc), some (.int (nI k))]) (st' := [.int 0, .int acc]) (h' := (N, SH v T, I, L, Dd)) rfl ?_
        refine Ev.sg hX (sX7_carAtRank_44.sub 0 4) (pc' := 17) (ls' := [some (.ref 396), some (.int c), some (.int (nI y)), some (.int (acc + 0)), some (.int ((nI k) + 1))]) (st' := []) (h' := (N, SH v T, I, L, Dd)) rfl ?_
        have e1 : crS I y k acc = acc + 0 := by rw [crS, if_neg (bi_0.mp b2)]
        rw [nI_1, ← e1]
        exact ih (k + 1) (crS I y k acc) (by omega) hQ
      · refine Ev.sg hX (sX7_carAtRank_39.sub 0 2) (pc' := 44) (ls' := [some (.ref 396), some (.int c), some (.int (nI y)), some (.int acc), some (.int (nI k))]) (st' := [.int 1, .int acc]) (h' := (N, SH v T, I, L, Dd)) rfl ?_
        refine Ev.sg hX (sX7_carAtRank_44.sub 0 4) (pc' := 17) (ls' := [some (.ref 396), some (.int c), some (.int (nI y)), some (.int (acc + 1)), some (.int ((nI k) + 1))]) (st' := []) (h' := (N, SH v T, I, L, Dd)) rfl ?_
        have e1 : crS I y k acc = acc + 1 := by rw [crS, if_pos (bi_1.mp b2)]
        rw [nI_1, ← e1]
        exact ih (k + 1) (crS I y k acc) (by omega) hQ
theorem l_cro (hX : JXok X) (hd : 2 ≤ d) (hm20 : m ≤ 20) (hm : I 397 1 = nI m) : ∀ (n k : Nat) (l3 l4 : Option Value), k + n = m → Ev X (jm jdX7_carAtRank) d 0 0 (fun R => R = .inl (some (.int (crP I m c n k).1), (N, SH v T, (crP I m c n k).2, L, Dd))) 2 [some (.ref 396), some (.int c), some (.int (nI k)), l3, l4] [] (N, SH v T, I, L, Dd) := by
  intro n
  induction n with
  | zero =>
    intro k l3 l4 hk
    refine Ev.sg hX (sX7_carAtRank_2.sub 0 2) (pc' := 4) (ls' := [some (.ref 396), some (.int c), some (.int (nI k)), l3, l4]) (st' := [.ref 396, .int (nI k)]) (h' := (N, SH v T, I, L, Dd)) rfl ?_
    refine Ev.getf (sX7_carAtRank_2.lk 2 (q := (4, .getfield 7, 7, 0)) rfl) rfl rfl (sX7_carAtRank_2.dc 2 (q := (4, .getfield 7, 7, 0)) rfl) ?_
    show Ev _ _ _ _ _ _ 7 [some (.ref 396), some (.int c), some (.int (nI k)), l3, l4] [.ref 397, .int (nI k)] (N, SH v T, I, L, Dd)
    refine Ev.sg hX (sX7_carAtRank_2.sub 3 1) (pc' := 8) (ls' := [some (.ref 396), some (.int c), some (.int (nI k)), l3, l4]) (st' := [.int 1, .ref 397, .int (nI k)]) (h' := (N, SH v T, I, L, Dd)) rfl ?_
    refine Ev.ialdE (n := 1) (N := 179) rfl rfl (by omega) (by decide) (sX7_carAtRank_2.dc 4 (q := (8, .iaload, 0, 0)) rfl) ?_
    show Ev _ _ _ _ _ _ 9 [some (.ref 396), some (.int c), some (.int (nI k)), l3, l4] [.int (I 397 1), .int (nI k)] (N, SH v T, I, L, Dd)
    refine Ev.eqst (st' := [.int (nI m), .int (nI k)]) (by rw [show I 397 1 = nI m from (hm)]) ?_
    refine Ev.icmp_ge (tgt := 77) dX7_carAtRank_9 (by decide) (fun b1 => ?_) (fun b1 => ?_)
    · refine Ev.sg hX (sX7_carAtRank_77.sub 0 2) (pc' := 79) (ls' := [some (.ref 396), some (.int c), some (.int (nI k)), l3, l4]) (st' := [.int 1, .ref 396]) (h' := (N, SH v T, I, L, Dd)) rfl ?_
      refine Ev.callV (As := [.int 1]) (rest := []) dvX7_fails mkX7_75 rfl rfl dX7_carAtRank_79 (m_fails (d := d - 1) (I := I) hX (by omega)) ⟨by omega, by show 2 + 19 + 40 * _ ≤ 40 * _; omega⟩ ⟨Nat.zero_le _, Nat.zero_le _⟩ rfl (Nat.le_of_ble_eq_true rfl) (fun v9 h9 e9 => ?_) (fun E9 h9 e9 => nomatch e9)
      cases e9
      show Ev _ _ _ _ _ _ 82 [some (.ref 396), some (.int c), some (.int (nI k)), l3, l4] [.int 0] (N, SH v T, up2 I 396 12 1, L, Dd)
      refine Ev.iret dX7_carAtRank_82 rfl ?_
      rfl
    · exact absurd ((nI_leI (a := m) (b := k) (by omega) (by omega)).mpr (by omega)) b1
  | succ n ih =>
    intro k l3 l4 hk
    refine Ev.sg hX (sX7_carAtRank_2.sub 0 2) (pc' := 4) (ls' := [some (.ref 396), some (.int c), some (.int (nI k)), l3, l4]) (st' := [.ref 396, .int (nI k)]) (h' := (N, SH v T, I, L, Dd)) rfl ?_
    refine Ev.getf (sX7_carAtRank_2.lk 2 (q := (4, .getfield 7, 7, 0)) rfl) rfl rfl (sX7_carAtRank_2.dc 2 (q := (4, .getfield 7, 7, 0)) rfl) ?_
    show Ev _ _ _ _ _ _ 7 [some (.ref 396), some (.int c), some (.int (nI k)), l3, l4] [.ref 397, .int (nI k)] (N, SH v T, I, L, Dd)
    refine Ev.sg hX (sX7_carAtRank_2.sub 3 1) (pc' := 8) (ls' := [some (.ref 396), some (.int c), some (.int (nI k)), l3, l4]) (st' := [.int 1, .ref 397, .int (nI k)]) (h' := (N, SH v T, I, L, Dd)) rfl ?_
    refine Ev.ialdE (n := 1) (N := 179) rfl rfl (by omega) (by decide) (sX7_carAtRank_2.dc 4 (q := (8, .iaload, 0, 0)) rfl) ?_
    show Ev _ _ _ _ _ _ 9 [some (.ref 396), some (.int c), some (.int (nI k)), l3, l4] [.int (I 397 1), .int (nI k)] (N, SH v T, I, L, Dd)
    refine Ev.eqst (st' := [.int (nI m), .int (nI k)]) (by rw [show I 397 1 = nI m from (hm)]) ?_
    refine Ev.icmp_ge (tgt := 77) dX7_carAtRank_9 (by decide) (fun b1 => ?_) (fun b1 => ?_)
    · exact absurd ((nI_leI (a := m) (b := k) (by omega) (by omega)).mp b1) (by omega)
    · refine Ev.sg hX (sX7_carAtRank_12.sub 0 4) (pc' := 17) (ls' := [some (.ref 396), some (.int c), some (.int (nI k)), some (.int 0), some (.int 0)]) (st' := []) (h' := (N, SH v T, I, L, Dd)) rfl ?_
      refine l_cr hX hd hm20 hm (y := k) (by omega) m 0 0 (Nat.zero_add m) ?_
      refine Ev.sg hX (sX7_carAtRank_52.sub 0 2) (pc' := 54) (ls' := [some (.ref 396), some (.int c), some (.int (nI k)), some (.int (fo (crS I k) m 0 0)), some (.int (nI m))]) (st' := [.int c, .int (fo (crS I k) m 0 0)]) (h' := (N, SH v T, I, L, Dd)) rfl ?_
      refine Ev.icmp_ne (tgt := 71) dX7_carAtRank_54 (by decide) (fun b2 => ?_) (fun b2 => ?_)
      · refine Ev.sg hX (sX7_carAtRank_71.sub 0 2) (pc' := 2) (ls' := [some (.ref 396), some (.int c), some (.int ((nI k) + 1)), some (.int (fo (crS I k) m 0 0)), some (.int (nI m))]) (st' := []) (h' := (N, SH v T, I, L, Dd)) rfl ?_
        rw [nI_1, crP, if_neg b2]
        exact ih (k + 1) _ _ (by omega)
      · refine Ev.sg hX (sX7_carAtRank_57.sub 0 2) (pc' := 59) (ls' := [some (.ref 396), some (.int c), some (.int (nI k)), some (.int (fo (crS I k) m 0 0)), some (.int (nI m))]) (st' := [.ref 396, .ref 396]) (h' := (N, SH v T, I, L, Dd)) rfl ?_
        refine Ev.getf (sX7_carAtRank_57.lk 2 (q := (59, .getfield 7, 7, 0)) rfl) rfl rfl (sX7_carAtRank_57.dc 2 (q := (59, .getfield 7, 7, 0)) rfl) ?_
        show Ev _ _ _ _ _ _ 62 [some (.ref 396), some (.int c), some (.int (nI k)), some (.int (fo (crS I k) m 0 0)), some (.int (nI m))] [.ref 397, .ref 396] (N, SH v T, I, L, Dd)
        refine Ev.sg hX (sX7_carAtRank_57.sub 3 3) (pc' := 66) (ls' := [some (.ref 396), some (.int c), some (.int (nI k)), some (.int (fo (crS I k) m 0 0)), some (.int (nI m))]) (st' := [.int (39 + (nI k)), .ref 397, .ref 396]) (h' := (N, SH v T, I, L, Dd)) rfl ?_
        refine Ev.ialdE (n := (39 + k)) (N := 179) rfl (naI rfl rfl) (by omega) (by decide) dX7_carAtRank_66 ?_
        show Ev _ _ _ _ _ _ 67 [some (.ref 396), some (.int c), some (.int (nI k)), some (.int (fo (crS I k) m 0 0)), some (.int (nI m))] [.int (I 397 (39 + k)), .ref 396] (N, SH v T, I, L, Dd)
        refine Ev.callV (As := [.int (I 397 (39 + k))]) (rest := []) dvX7_done mkX7_79 rfl rfl dX7_carAtRank_67 (m_done (d := d - 1) (I := I) hX (by omega)) ⟨by omega, by show 2 + 19 + 40 * _ ≤ 40 * _; omega⟩ ⟨Nat.zero_le _, Nat.zero_le _⟩ rfl (Nat.le_of_ble_eq_true rfl) (fun v9 h9 e9 => ?_) (fun E9 h9 e9 => nomatch e9)
        cases e9
        show Ev _ _ _ _ _ _ 70 [some (.ref 396), some (.int c), some (.int (nI k)), some (.int (fo (crS I k) m 0 0)), some (.int (nI m))] [.int (I 397 (39 + k))] (N, SH v T, up2 I 396 12 0, L, Dd)
        refine Ev.iret dX7_carAtRank_70 rfl ?_
        rw [crP, if_pos b2]
theorem m_carAtRank (hX : JXok X) (hd : 2 ≤ d) (hm20 : m ≤ 20) (hm : I 397 1 = nI m) : MT X d 0 0 jdX7_carAtRank [.ref 396, .int c] (N, SH v T, I, L, Dd) (fun R => R = .inl (some (.int (crP I m c m 0).1), (N, SH v T, (crP I m c m 0).2, L, Dd))) := by
  refine MT.mk dvX7_carAtRank.1 ?_
  refine Ev.sg hX (sX7_carAtRank_0.sub 0 2) (pc' := 2) (ls' := [some (.ref 396), some (.int c), some (.int 0), none, none]) (st' := []) (h' := (N, SH v T, I, L, Dd)) rfl ?_
  exact l_cro hX hd hm20 hm m 0 none none (Nat.zero_add m)
theorem m_mtime (hX : JXok X) (hd : 1 ≤ d) : MT X d 0 0 jdX7_time [.ref 396] (N, SH v T, I, L, Dd) (fun R => R = .inl (some (.long ((I 397 5).toInt64)), (N, SH v T, up2 I 396 12 0, L, Dd))) := by
  refine MT.mk dvX7_time.1 ?_
  refine Ev.sg hX (sX7_time_0.sub 0 2) (pc' := 2) (ls' := [some (.ref 396)]) (st' := [.int 0, .ref 396]) (h' := (N, SH v T, I, L, Dd)) rfl ?_
  refine Ev.putf hX (sX7_time_0.lk 2 (q := (2, .putfield 42, 7, 12)) rfl) rfl rfl (sX7_time_0.dc 2 (q := (2, .putfield 42, 7, 12)) rfl) ?_
  show Ev _ _ _ _ _ _ 5 [some (.ref 396)] [] (N, SH v T, up2 I 396 12 0, L, Dd)
  refine Ev.sg hX (sX7_time_0.sub 3 1) (pc' := 6) (ls' := [some (.ref 396)]) (st' := [.ref 396]) (h' := (N, SH v T, up2 I 396 12 0, L, Dd)) rfl ?_
  refine Ev.getf (sX7_time_0.lk 4 (q := (6, .getfield 7, 7, 0)) rfl) rfl rfl (sX7_time_0.dc 4 (q := (6, .getfield 7, 7, 0)) rfl) ?_
  show Ev _ _ _ _ _ _ 9 [some (.ref 396)] [.ref 397] (N, SH v T, up2 I 396 12 0, L, Dd)
  refine Ev.sg hX (sX7_time_0.sub 5 1) (pc' := 10) (ls' := [some (.ref 396)]) (st' := [.int 5, .ref 397]) (h' := (N, SH v T, up2 I 396 12 0, L, Dd)) rfl ?_
  refine Ev.ialdE (n := 5) (N := 179) rfl rfl (by omega) (by decide) (sX7_time_0.dc 6 (q := (10, .iaload, 0, 0)) rfl) ?_
  show Ev _ _ _ _ _ _ 11 [some (.ref 396)] [.int ((up2 I 396 12 0) 397 5)] (N, SH v T, up2 I 396 12 0, L, Dd)
  refine Ev.eqst (st' := [.int (I 397 5)]) (by rw [show (up2 I 396 12 0) 397 5 = I 397 5 from ((congrFun (up2_ne (by decide)) 5))]) ?_
  refine Ev.sg hX (sX7_time_0.sub 7 1) (pc' := 12) (ls' := [some (.ref 396)]) (st' := [.long ((I 397 5).toInt64)]) (h' := (N, SH v T, up2 I 396 12 0, L, Dd)) rfl ?_
  refine Ev.lret dX7_time_12 rfl ?_
  rfl
theorem m_departedWeight (hX : JXok X) (hd : 1 ≤ d) : MT X d 0 0 jdX7_departedWeight [.ref 396] (N, SH v T, I, L, Dd) (fun R => R = .inl (some (.long ((I 397 6).toInt64)), (N, SH v T, up2 I 396 12 0, L, Dd))) := by
  refine MT.mk dvX7_departedWeight.1 ?_
  refine Ev.sg hX (sX7_departedWeight_0.sub 0 2) (pc' := 2) (ls' := [some (.ref 396)]) (st' := [.int 0, .ref 396]) (h' := (N, SH v T, I, L, Dd)) rfl ?_
  refine Ev.putf hX (sX7_departedWeight_0.lk 2 (q := (2, .putfield 42, 7, 12)) rfl) rfl rfl (sX7_departedWeight_0.dc 2 (q := (2, .putfield 42, 7, 12)) rfl) ?_
  show Ev _ _ _ _ _ _ 5 [some (.ref 396)] [] (N, SH v T, up2 I 396 12 0, L, Dd)
  refine Ev.sg hX (sX7_departedWeight_0.sub 3 1) (pc' := 6) (ls' := [some (.ref 396)]) (st' := [.ref 396]) (h' := (N, SH v T, up2 I 396 12 0, L, Dd)) rfl ?_
  refine Ev.getf (sX7_departedWeight_0.lk 4 (q := (6, .getfield 7, 7, 0)) rfl) rfl rfl (sX7_departedWeight_0.dc 4 (q := (6, .getfield 7, 7, 0)) rfl) ?_
  show Ev _ _ _ _ _ _ 9 [some (.ref 396)] [.ref 397] (N, SH v T, up2 I 396 12 0, L, Dd)
  refine Ev.sg hX (sX7_departedWeight_0.sub 5 1) (pc' := 11) (ls' := [some (.ref 396)]) (st' := [.int 6, .ref 397]) (h' := (N, SH v T, up2 I 396 12 0, L, Dd)) rfl ?_
  refine Ev.ialdE (n := 6) (N := 179) rfl rfl (by omega) (by decide) (sX7_departedWeight_0.dc 6 (q := (11, .iaload, 0, 0)) rfl) ?_
  show Ev _ _ _ _ _ _ 12 [some (.ref 396)] [.int ((up2 I 396 12 0) 397 6)] (N, SH v T, up2 I 396 12 0, L, Dd)
  refine Ev.eqst (st' := [.int (I 397 6)]) (by rw [show (up2 I 396 12 0) 397 6 = I 397 6 from ((congrFun (up2_ne (by decide)) 6))]) ?_
  refine Ev.sg hX (sX7_departedWeight_0.sub 7 1) (pc' := 13) (ls' := [some (.ref 396)]) (st' := [.long ((I 397 6).toInt64)]) (h' := (N, SH v T, up2 I 396 12 0, L, Dd)) rfl ?_
  refine Ev.lret dX7_departedWeight_13 rfl ?_
  rfl
theorem m_moveCount (hX : JXok X) (hd : 1 ≤ d) : MT X d 0 0 jdX7_moveCount [.ref 396] (N, SH v T, I, L, Dd) (fun R => R = .inl (some (.int (I 397 3)), (N, SH v T, up2 I 396 12 0, L, Dd))) := by
  refine MT.mk dvX7_moveCount.1 ?_
  refine Ev.sg hX (sX7_moveCount_0.sub 0 2) (pc' := 2) (ls' := [some (.ref 396)]) (st' := [.ref 396, .ref 396]) (h' := (N, SH v T, I, L, Dd)) rfl ?_
  refine Ev.getf (sX7_moveCount_0.lk 2 (q := (2, .getfield 7, 7, 0)) rfl) rfl rfl (sX7_moveCount_0.dc 2 (q := (2, .getfield 7, 7, 0)) rfl) ?_
  show Ev _ _ _ _ _ _ 5 [some (.ref 396)] [.ref 397, .ref 396] (N, SH v T, I, L, Dd)
  refine Ev.sg hX (sX7_moveCount_0.sub 3 1) (pc' := 6) (ls' := [some (.ref 396)]) (st' := [.int 3, .ref 397, .ref 396]) (h' := (N, SH v T, I, L, Dd)) rfl ?_
  refine Ev.ialdE (n := 3) (N := 179) rfl rfl (by omega) (by decide) (sX7_moveCount_0.dc 4 (q := (6, .iaload, 0, 0)) rfl) ?_
  show Ev _ _ _ _ _ _ 7 [some (.ref 396)] [.int (I 397 3), .ref 396] (N, SH v T, I, L, Dd)
  refine Ev.callV (As := [.int (I 397 3)]) (rest := []) dvX7_done mkX7_79 rfl rfl dX7_moveCount_7 (m_done (d := d - 1) (I := I) hX (by omega)) ⟨by omega, by show 2 + 19 + 40 * _ ≤ 40 * _; omega⟩ ⟨Nat.zero_le _, Nat.zero_le _⟩ rfl (Nat.le_of_ble_eq_true rfl) (fun v9 h9 e9 => ?_) (fun E9 h9 e9 => nomatch e9)
  cases e9
  show Ev _ _ _ _ _ _ 10 [some (.ref 396)] [.int (I 397 3)] (N, SH v T, up2 I 396 12 0, L, Dd)
  refine Ev.iret dX7_moveCount_10 rfl ?_
  rfl
theorem m_departedCars (hX : JXok X) (hd : 1 ≤ d) : MT X d 0 0 jdX7_departedCars [.ref 396] (N, SH v T, I, L, Dd) (fun R => R = .inl (some (.int (I 397 4)), (N, SH v T, up2 I 396 12 0, L, Dd))) := by
  refine MT.mk dvX7_departedCars.1 ?_
  refine Ev.sg hX (sX7_departedCars_0.sub 0 2) (pc' := 2) (ls' := [some (.ref 396)]) (st' := [.ref 396, .ref 396]) (h' := (N, SH v T, I, L, Dd)) rfl ?_
  refine Ev.getf (sX7_departedCars_0.lk 2 (q := (2, .getfield 7, 7, 0)) rfl) rfl rfl (sX7_departedCars_0.dc 2 (q := (2, .getfield 7, 7, 0)) rfl) ?_
  show Ev _ _ _ _ _ _ 5 [some (.ref 396)] [.ref 397, .ref 396] (N, SH v T, I, L, Dd)
  refine Ev.sg hX (sX7_departedCars_0.sub 3 1) (pc' := 6) (ls' := [some (.ref 396)]) (st' := [.int 4, .ref 397, .ref 396]) (h' := (N, SH v T, I, L, Dd)) rfl ?_
  refine Ev.ialdE (n := 4) (N := 179) rfl rfl (by omega) (by decide) (sX7_departedCars_0.dc 4 (q := (6, .iaload, 0, 0)) rfl) ?_
  show Ev _ _ _ _ _ _ 7 [some (.ref 396)] [.int (I 397 4), .ref 396] (N, SH v T, I, L, Dd)
  refine Ev.callV (As := [.int (I 397 4)]) (rest := []) dvX7_done mkX7_79 rfl rfl dX7_departedCars_7 (m_done (d := d - 1) (I := I) hX (by omega)) ⟨by omega, by show 2 + 19 + 40 * _ ≤ 40 * _; omega⟩ ⟨Nat.zero_le _, Nat.zero_le _⟩ rfl (Nat.le_of_ble_eq_true rfl) (fun v9 h9 e9 => ?_) (fun E9 h9 e9 => nomatch e9)
  cases e9
  show Ev _ _ _ _ _ _ 10 [some (.ref 396)] [.int (I 397 4)] (N, SH v T, up2 I 396 12 0, L, Dd)
  refine Ev.iret dX7_departedCars_10 rfl ?_
  rfl
theorem m_isConsistent (hX : JXok X) (hd : 1 ≤ d) : MT X d 0 0 jdX7_isConsistent [.ref 396] (N, SH v T, I, L, Dd) (fun R => R = .inl (some (.int (1)), (N, SH v T, up2 I 396 12 0, L, Dd))) := by
  refine MT.mk dvX7_isConsistent.1 ?_
  refine Ev.sg hX (sX7_isConsistent_0.sub 0 2) (pc' := 2) (ls' := [some (.ref 396)]) (st' := [.int 0, .ref 396]) (h' := (N, SH v T, I, L, Dd)) rfl ?_
  refine Ev.putf hX (sX7_isConsistent_0.lk 2 (q := (2, .putfield 42, 7, 12)) rfl) rfl rfl (sX7_isConsistent_0.dc 2 (q := (2, .putfield 42, 7, 12)) rfl) ?_
  show Ev _ _ _ _ _ _ 5 [some (.ref 396)] [] (N, SH v T, up2 I 396 12 0, L, Dd)
  refine Ev.sg hX (sX7_isConsistent_0.sub 3 1) (pc' := 6) (ls' := [some (.ref 396)]) (st' := [.int 1]) (h' := (N, SH v T, up2 I 396 12 0, L, Dd)) rfl ?_
  refine Ev.zret dX7_isConsistent_6 rfl ?_ ?_
  · rfl
  rfl
theorem m_errorPosition (hX : JXok X) (hd : 1 ≤ d) : MT X d 0 0 jdX7_errorPosition [.ref 396] (N, SH v T, I, L, Dd) (fun R => R = .inl (some (.int (if I 396 8 = -1 then ((0 : Int32), up2 I 396 12 1) else (I 396 8, up2 I 396 12 0)).1), (N, SH v T, (if I 396 8 = -1 then ((0 : Int32), up2 I 396 12 1) else (I 396 8, up2 I 396 12 0)).2, L, Dd))) := by
  refine MT.mk dvX7_errorPosition.1 ?_
  refine Ev.sg hX (sX7_errorPosition_0.sub 0 1) (pc' := 1) (ls' := [some (.ref 396)]) (st' := [.ref 396]) (h' := (N, SH v T, I, L, Dd)) rfl ?_
  refine Ev.getf (sX7_errorPosition_0.lk 1 (q := (1, .getfield 26, 7, 8)) rfl) rfl rfl (sX7_errorPosition_0.dc 1 (q := (1, .getfield 26, 7, 8)) rfl) ?_
  show Ev _ _ _ _ _ _ 4 [some (.ref 396)] [.int (I 396 8)] (N, SH v T, I, L, Dd)
  refine Ev.sg hX (sX7_errorPosition_0.sub 2 1) (pc' := 5) (ls' := [some (.ref 396)]) (st' := [.int (-1), .int (I 396 8)]) (h' := (N, SH v T, I, L, Dd)) rfl ?_
  refine Ev.icmp_ne (tgt := 16) dX7_errorPosition_5 (by decide) (fun b1 => ?_) (fun b1 => ?_)
  · refine Ev.sg hX (sX7_errorPosition_16.sub 0 2) (pc' := 18) (ls' := [some (.ref 396)]) (st' := [.ref 396, .ref 396]) (h' := (N, SH v T, I, L, Dd)) rfl ?_
    refine Ev.getf (sX7_errorPosition_16.lk 2 (q := (18, .getfield 26, 7, 8)) rfl) rfl rfl (sX7_errorPosition_16.dc 2 (q := (18, .getfield 26, 7, 8)) rfl) ?_
    show Ev _ _ _ _ _ _ 21 [some (.ref 396)] [.int (I 396 8), .ref 396] (N, SH v T, I, L, Dd)
    refine Ev.callV (As := [.int (I 396 8)]) (rest := []) dvX7_done mkX7_79 rfl rfl dX7_errorPosition_21 (m_done (d := d - 1) (I := I) hX (by omega)) ⟨by omega, by show 2 + 19 + 40 * _ ≤ 40 * _; omega⟩ ⟨Nat.zero_le _, Nat.zero_le _⟩ rfl (Nat.le_of_ble_eq_true rfl) (fun v9 h9 e9 => ?_) (fun E9 h9 e9 => nomatch e9)
    cases e9
    show Ev _ _ _ _ _ _ 24 [some (.ref 396)] [.int (I 396 8)] (N, SH v T, up2 I 396 12 0, L, Dd)
    refine Ev.iret dX7_errorPosition_24 rfl ?_
    rw [show (if I 396 8 = -1 then ((0 : Int32), up2 I 396 12 1) else (I 396 8, up2 I 396 12 0)) = (I 396 8, up2 I 396 12 0) from if_neg b1]
  · refine Ev.sg hX (sX7_errorPosition_8.sub 0 2) (pc' := 10) (ls' := [some (.ref 396)]) (st' := [.int 1, .ref 396]) (h' := (N, SH v T, I, L, Dd)) rfl ?_
    refine Ev.callV (As := [.int 1]) (rest := []) dvX7_fails mkX7_75 rfl rfl dX7_errorPosition_10 (m_fails (d := d - 1) (I := I) hX (by omega)) ⟨by omega, by show 2 + 19 + 40 * _ ≤ 40 * _; omega⟩ ⟨Nat.zero_le _, Nat.zero_le _⟩ rfl (Nat.le_of_ble_eq_true rfl) (fun v9 h9 e9 => ?_) (fun E9 h9 e9 => nomatch e9)
    cases e9
    show Ev _ _ _ _ _ _ 13 [some (.ref 396)] [.int 0] (N, SH v T, up2 I 396 12 1, L, Dd)
    refine Ev.sg hX (sX7_errorPosition_13.sub 0 1) (pc' := 24) (ls' := [some (.ref 396)]) (st' := [.int 0]) (h' := (N, SH v T, up2 I 396 12 1, L, Dd)) rfl ?_
    refine Ev.iret dX7_errorPosition_24 rfl ?_
    rw [show (if I 396 8 = -1 then ((0 : Int32), up2 I 396 12 1) else (I 396 8, up2 I 396 12 0)) = (0, up2 I 396 12 1) from if_pos b1]
theorem m_failedCommand (hX : JXok X) (hd : 1 ≤ d) : MT X d 0 0 jdX7_failedCommand [.ref 396] (N, SH v T, I, L, Dd) (fun R => R = .inl (some (.int (if I 396 9 = -1 then ((0 : Int32), up2 I 396 12 1) else (I 396 9, up2 I 396 12 0)).1), (N, SH v T, (if I 396 9 = -1 then ((0 : Int32), up2 I 396 12 1) else (I 396 9, up2 I 396 12 0)).2, L, Dd))) := by
  refine MT.mk dvX7_failedCommand.1 ?_
  refine Ev.sg hX (sX7_failedCommand_0.sub 0 1) (pc' := 1) (ls' := [some (.ref 396)]) (st' := [.ref 396]) (h' := (N, SH v T, I, L, Dd)) rfl ?_
  refine Ev.getf (sX7_failedCommand_0.lk 1 (q := (1, .getfield 30, 7, 9)) rfl) rfl rfl (sX7_failedCommand_0.dc 1 (q := (1, .getfield 30, 7, 9)) rfl) ?_
  show Ev _ _ _ _ _ _ 4 [some (.ref 396)] [.int (I 396 9)] (N, SH v T, I, L, Dd)
  refine Ev.sg hX (sX7_failedCommand_0.sub 2 1) (pc' := 5) (ls' := [some (.ref 396)]) (st' := [.int (-1), .int (I 396 9)]) (h' := (N, SH v T, I, L, Dd)) rfl ?_
  refine Ev.icmp_ne (tgt := 16) dX7_failedCommand_5 (by decide) (fun b1 => ?_) (fun b1 => ?_)
  · refine Ev.sg hX (sX7_failedCommand_16.sub 0 2) (pc' := 18) (ls' := [some (.ref 396)]) (st' := [.ref 396, .ref 396]) (h' := (N, SH v T, I, L, Dd)) rfl ?_
    refine Ev.getf (sX7_failedCommand_16.lk 2 (q := (18, .getfield 30, 7, 9)) rfl) rfl rfl (sX7_failedCommand_16.dc 2 (q := (18, .getfield 30, 7, 9)) rfl) ?_
    show Ev _ _ _ _ _ _ 21 [some (.ref 396)] [.int (I 396 9), .ref 396] (N, SH v T, I, L, Dd)
    refine Ev.callV (As := [.int (I 396 9)]) (rest := []) dvX7_done mkX7_79 rfl rfl dX7_failedCommand_21 (m_done (d := d - 1) (I := I) hX (by omega)) ⟨by omega, by show 2 + 19 + 40 * _ ≤ 40 * _; omega⟩ ⟨Nat.zero_le _, Nat.zero_le _⟩ rfl (Nat.le_of_ble_eq_true rfl) (fun v9 h9 e9 => ?_) (fun E9 h9 e9 => nomatch e9)
    cases e9
    show Ev _ _ _ _ _ _ 24 [some (.ref 396)] [.int (I 396 9)] (N, SH v T, up2 I 396 12 0, L, Dd)
    refine Ev.iret dX7_failedCommand_24 rfl ?_
    rw [show (if I 396 9 = -1 then ((0 : Int32), up2 I 396 12 1) else (I 396 9, up2 I 396 12 0)) = (I 396 9, up2 I 396 12 0) from if_neg b1]
  · refine Ev.sg hX (sX7_failedCommand_8.sub 0 2) (pc' := 10) (ls' := [some (.ref 396)]) (st' := [.int 1, .ref 396]) (h' := (N, SH v T, I, L, Dd)) rfl ?_
    refine Ev.callV (As := [.int 1]) (rest := []) dvX7_fails mkX7_75 rfl rfl dX7_failedCommand_10 (m_fails (d := d - 1) (I := I) hX (by omega)) ⟨by omega, by show 2 + 19 + 40 * _ ≤ 40 * _; omega⟩ ⟨Nat.zero_le _, Nat.zero_le _⟩ rfl (Nat.le_of_ble_eq_true rfl) (fun v9 h9 e9 => ?_) (fun E9 h9 e9 => nomatch e9)
    cases e9
    show Ev _ _ _ _ _ _ 13 [some (.ref 396)] [.int 0] (N, SH v T, up2 I 396 12 1, L, Dd)
    refine Ev.sg hX (sX7_failedCommand_13.sub 0 1) (pc' := 24) (ls' := [some (.ref 396)]) (st' := [.int 0]) (h' := (N, SH v T, up2 I 396 12 1, L, Dd)) rfl ?_
    refine Ev.iret dX7_failedCommand_24 rfl ?_
    rw [show (if I 396 9 = -1 then ((0 : Int32), up2 I 396 12 1) else (I 396 9, up2 I 396 12 0)) = (0, up2 I 396 12 1) from if_pos b1]
theorem m_save (hX : JXok X) (hd : 1 ≤ d) : MT X d 0 0 jdX7_save [.ref 396] (N, SH v T, I, L, Dd) (fun R => R = .inl (none, (N, SH v T, up2 (up2 (cpM I 397 0 400 0) 396 5 1) 396 12 0, L, Dd))) := by
  refine MT.mk dvX7_save.1 ?_
  refine Ev.sg hX (sX7_save_0.sub 0 1) (pc' := 1) (ls' := [some (.ref 396)]) (st' := [.ref 396]) (h' := (N, SH v T, I, L, Dd)) rfl ?_
  refine Ev.getf (sX7_save_0.lk 1 (q := (1, .getfield 7, 7, 0)) rfl) rfl rfl (sX7_save_0.dc 1 (q := (1, .getfield 7, 7, 0)) rfl) ?_
  show Ev _ _ _ _ _ _ 4 [some (.ref 396)] [.ref 397] (N, SH v T, I, L, Dd)
  refine Ev.sg hX (sX7_save_0.sub 2 2) (pc' := 6) (ls' := [some (.ref 396)]) (st' := [.ref 396, .int 0, .ref 397]) (h' := (N, SH v T, I, L, Dd)) rfl ?_
  refine Ev.getf (sX7_save_0.lk 4 (q := (6, .getfield 19, 7, 4)) rfl) rfl rfl (sX7_save_0.dc 4 (q := (6, .getfield 19, 7, 4)) rfl) ?_
  show Ev _ _ _ _ _ _ 9 [some (.ref 396)] [.ref 400, .int 0, .ref 397] (N, SH v T, I, L, Dd)
  refine Ev.sg hX (sX7_save_0.sub 5 1) (pc' := 10) (ls' := [some (.ref 396)]) (st' := [.int 0, .ref 400, .int 0, .ref 397]) (h' := (N, SH v T, I, L, Dd)) rfl ?_
  refine Ev.callS (As := [.ref 397, .int 0, .ref 400, .int 0]) (rest := []) dsX7_copy mkX7_45 dX7_save_10 (m_copy (d := d - 1) (I := I) (a := 397) (x := 0) (b := 400) (y := 0) (na := 179) (nb := 179) hX (by omega) (by decide) rfl rfl (by decide) (by decide) (by omega) (by omega)) ⟨by omega, by show 5 + 19 + 40 * _ ≤ 40 * _; omega⟩ ⟨Nat.zero_le _, Nat.zero_le _⟩ rfl (Nat.le_of_ble_eq_true rfl) (fun v9 h9 e9 => ?_) (fun E9 h9 e9 => nomatch e9)
  cases e9
  show Ev _ _ _ _ _ _ 13 [some (.ref 396)] [] (N, SH v T, cpM I 397 0 400 0, L, Dd)
  refine Ev.sg hX (sX7_save_13.sub 0 2) (pc' := 15) (ls' := [some (.ref 396)]) (st' := [.int 1, .ref 396]) (h' := (N, SH v T, cpM I 397 0 400 0, L, Dd)) rfl ?_
  refine Ev.putI (j := 5) hX ci_X7 (by decide) (bw_of 1491 (by decide +kernel) (by decide +kernel)) (Or.inl rfl) rfl rfl rfl rfl dX7_save_15 ?_
  show Ev _ _ _ _ _ _ 18 [some (.ref 396)] [] (N, SH v T, up2 (cpM I 397 0 400 0) 396 5 1, L, Dd)
  refine Ev.sg hX (sX7_save_18.sub 0 2) (pc' := 20) (ls' := [some (.ref 396)]) (st' := [.int 0, .ref 396]) (h' := (N, SH v T, up2 (cpM I 397 0 400 0) 396 5 1, L, Dd)) rfl ?_
  refine Ev.putf hX (sX7_save_18.lk 2 (q := (20, .putfield 42, 7, 12)) rfl) rfl rfl (sX7_save_18.dc 2 (q := (20, .putfield 42, 7, 12)) rfl) ?_
  show Ev _ _ _ _ _ _ 23 [some (.ref 396)] [] (N, SH v T, up2 (up2 (cpM I 397 0 400 0) 396 5 1) 396 12 0, L, Dd)
  refine Ev.vret dX7_save_23 rfl ?_
  rfl
def restM (I : HI) : HI := if I 396 5 = 0 then up2 I 396 12 1 else up2 (cpM (up2 I 396 12 0) 400 0 397 0) 396 3 0
theorem m_restore (hX : JXok X) (hd : 1 ≤ d) : MT X d 0 0 jdX7_restore [.ref 396] (N, SH v T, I, L, Dd) (fun R => R = .inl (none, (N, SH v T, restM I, L, Dd))) := by
  refine MT.mk dvX7_restore.1 ?_
  refine Ev.sg hX (sX7_restore_0.sub 0 2) (pc' := 2) (ls' := [some (.ref 396)]) (st' := [.ref 396, .ref 396]) (h' := (N, SH v T, I, L, Dd)) rfl ?_
  refine Ev.getf (sX7_restore_0.lk 2 (q := (2, .getfield 225, 7, 5)) rfl) rfl rfl (sX7_restore_0.dc 2 (q := (2, .getfield 225, 7, 5)) rfl) ?_
  show Ev _ _ _ _ _ _ 5 [some (.ref 396)] [.int (I 396 5), .ref 396] (N, SH v T, I, L, Dd)
  refine Ev.if_eq (tgt := 12) dX7_restore_5 (by decide) (fun b1 => ?_) (fun b1 => ?_)
  · refine Ev.sg hX (sX7_restore_12.sub 0 1) (pc' := 13) (ls' := [some (.ref 396)]) (st' := [.int 1, .ref 396]) (h' := (N, SH v T, I, L, Dd)) rfl ?_
    refine Ev.putf hX (sX7_restore_13.lk 0 (q := (13, .putfield 42, 7, 12)) rfl) rfl rfl (sX7_restore_13.dc 0 (q := (13, .putfield 42, 7, 12)) rfl) ?_
    show Ev _ _ _ _ _ _ 16 [some (.ref 396)] [] (N, SH v T, up2 I 396 12 1, L, Dd)
    refine Ev.sg hX (sX7_restore_13.sub 1 1) (pc' := 17) (ls' := [some (.ref 396)]) (st' := [.ref 396]) (h' := (N, SH v T, up2 I 396 12 1, L, Dd)) rfl ?_
    refine Ev.getf (sX7_restore_13.lk 2 (q := (17, .getfield 225, 7, 5)) rfl) rfl rfl (sX7_restore_13.dc 2 (q := (17, .getfield 225, 7, 5)) rfl) ?_
    show Ev _ _ _ _ _ _ 20 [some (.ref 396)] [.int ((up2 I 396 12 1) 396 5)] (N, SH v T, up2 I 396 12 1, L, Dd)
    refine Ev.eqst (st' := [.int (I 396 5)]) (by rw [show (up2 I 396 12 1) 396 5 = I 396 5 from ((up2_i (by omega)))]) ?_
    refine Ev.if_eq (tgt := 41) dX7_restore_20 (by decide) (fun b2 => ?_) (fun b2 => ?_)
    · refine Ev.vret dX7_restore_41 rfl ?_
      rw [restM, if_pos b1]
    · exact absurd b1 b2
  · refine Ev.sg hX (sX7_restore_8.sub 0 2) (pc' := 13) (ls' := [some (.ref 396)]) (st' := [.int 0, .ref 396]) (h' := (N, SH v T, I, L, Dd)) rfl ?_
    refine Ev.putf hX (sX7_restore_13.lk 0 (q := (13, .putfield 42, 7, 12)) rfl) rfl rfl (sX7_restore_13.dc 0 (q := (13, .putfield 42, 7, 12)) rfl) ?_
    show Ev _ _ _ _ _ _ 16 [some (.ref 396)] [] (N, SH v T, up2 I 396 12 0, L, Dd)
    refine Ev.sg hX (sX7_restore_13.sub 1 1) (pc' := 17) (ls' := [some (.ref 396)]) (st' := [.ref 396]) (h' := (N, SH v T, up2 I 396 12 0, L, Dd)) rfl ?_
    refine Ev.getf (sX7_restore_13.lk 2 (q := (17, .getfield 225, 7, 5)) rfl) rfl rfl (sX7_restore_13.dc 2 (q := (17, .getfield 225, 7, 5)) rfl) ?_
    show Ev _ _ _ _ _ _ 20 [some (.ref 396)] [.int ((up2 I 396 12 0) 396 5)] (N, SH v T, up2 I 396 12 0, L, Dd)
    refine Ev.eqst (st' := [.int (I 396 5)]) (by rw [show (up2 I 396 12 0) 396 5 = I 396 5 from ((up2_i (by omega)))]) ?_
    refine Ev.if_eq (tgt := 41) dX7_restore_20 (by decide) (fun b3 => ?_) (fun b3 => ?_)
    · exact absurd b3 b1
    · refine Ev.sg hX (sX7_restore_23.sub 0 1) (pc' := 24) (ls' := [some (.ref 396)]) (st' := [.ref 396]) (h' := (N, SH v T, up2 I 396 12 0, L, Dd)) rfl ?_
      refine Ev.getf (sX7_restore_23.lk 1 (q := (24, .getfield 19, 7, 4)) rfl) rfl rfl (sX7_restore_23.dc 1 (q := (24, .getfield 19, 7, 4)) rfl) ?_
      show Ev _ _ _ _ _ _ 27 [some (.ref 396)] [.ref 400] (N, SH v T, up2 I 396 12 0, L, Dd)
      refine Ev.sg hX (sX7_restore_23.sub 2 2) (pc' := 29) (ls' := [some (.ref 396)]) (st' := [.ref 396, .int 0, .ref 400]) (h' := (N, SH v T, up2 I 396 12 0, L, Dd)) rfl ?_
      refine Ev.getf (sX7_restore_23.lk 4 (q := (29, .getfield 7, 7, 0)) rfl) rfl rfl (sX7_restore_23.dc 4 (q := (29, .getfield 7, 7, 0)) rfl) ?_
      show Ev _ _ _ _ _ _ 32 [some (.ref 396)] [.ref 397, .int 0, .ref 400] (N, SH v T, up2 I 396 12 0, L, Dd)
      refine Ev.sg hX (sX7_restore_23.sub 5 1) (pc' := 33) (ls' := [some (.ref 396)]) (st' := [.int 0, .ref 397, .int 0, .ref 400]) (h' := (N, SH v T, up2 I 396 12 0, L, Dd)) rfl ?_
      refine Ev.callS (As := [.ref 400, .int 0, .ref 397, .int 0]) (rest := []) dsX7_copy mkX7_45 dX7_restore_33 (m_copy (d := d - 1) (I := (up2 I 396 12 0)) (a := 400) (x := 0) (b := 397) (y := 0) (na := 179) (nb := 179) hX (by omega) (by decide) rfl rfl (by decide) (by decide) (by omega) (by omega)) ⟨by omega, by show 5 + 19 + 40 * _ ≤ 40 * _; omega⟩ ⟨Nat.zero_le _, Nat.zero_le _⟩ rfl (Nat.le_of_ble_eq_true rfl) (fun v9 h9 e9 => ?_) (fun E9 h9 e9 => nomatch e9)
      cases e9
      show Ev _ _ _ _ _ _ 36 [some (.ref 396)] [] (N, SH v T, cpM (up2 I 396 12 0) 400 0 397 0, L, Dd)
      refine Ev.sg hX (sX7_restore_36.sub 0 2) (pc' := 38) (ls' := [some (.ref 396)]) (st' := [.int 0, .ref 396]) (h' := (N, SH v T, cpM (up2 I 396 12 0) 400 0 397 0, L, Dd)) rfl ?_
      refine Ev.putf hX (sX7_restore_36.lk 2 (q := (38, .putfield 49, 7, 3)) rfl) rfl rfl (sX7_restore_36.dc 2 (q := (38, .putfield 49, 7, 3)) rfl) ?_
      show Ev _ _ _ _ _ _ 41 [some (.ref 396)] [] (N, SH v T, up2 (cpM (up2 I 396 12 0) 400 0 397 0) 396 3 0, L, Dd)
      refine Ev.vret dX7_restore_41 rfl ?_
      rw [restM, if_neg b1]
def undM (I : HI) (ch : Nat) : Int32 × HI := if ch = 0 then (0, up2 I 396 12 1) else (nI (ch - 1), up2 (cpM (up2 I 396 3 (nI (ch - 1))) 399 ((ch - 1) * 179) 397 0) 396 12 0)
theorem m_undo (hX : JXok X) (hd : 2 ≤ d) (hch : I 396 3 = nI ch) (hch8 : ch ≤ 8) : MT X d 0 0 jdX7_undo [.ref 396] (N, SH v T, I, L, Dd) (fun R => R = .inl (some (.int (undM I ch).1), (N, SH v T, (undM I ch).2, L, Dd))) := by
  refine MT.mk dvX7_undo.1 ?_
  refine Ev.sg hX (sX7_undo_0.sub 0 1) (pc' := 1) (ls' := [some (.ref 396)]) (st' := [.ref 396]) (h' := (N, SH v T, I, L, Dd)) rfl ?_
  refine Ev.getf (sX7_undo_0.lk 1 (q := (1, .getfield 49, 7, 3)) rfl) rfl rfl (sX7_undo_0.dc 1 (q := (1, .getfield 49, 7, 3)) rfl) ?_
  show Ev _ _ _ _ _ _ 4 [some (.ref 396)] [.int (I 396 3)] (N, SH v T, I, L, Dd)
  refine Ev.eqst (st' := [.int (nI ch)]) (by rw [show I 396 3 = nI ch from (hch)]) ?_
  refine Ev.if_ne (tgt := 13) dX7_undo_4 (by decide) (fun b1 => ?_) (fun b1 => ?_)
  · have hc1 : 0 < ch := by have : ¬ ch = 0 := fun w => b1 (by rw [w]; rfl); omega
    refine Ev.sg hX (sX7_undo_13.sub 0 2) (pc' := 15) (ls' := [some (.ref 396)]) (st' := [.ref 396, .ref 396]) (h' := (N, SH v T, I, L, Dd)) rfl ?_
    refine Ev.getf (sX7_undo_13.lk 2 (q := (15, .getfield 49, 7, 3)) rfl) rfl rfl (sX7_undo_13.dc 2 (q := (15, .getfield 49, 7, 3)) rfl) ?_
    show Ev _ _ _ _ _ _ 18 [some (.ref 396)] [.int (I 396 3), .ref 396] (N, SH v T, I, L, Dd)
    refine Ev.eqst (st' := [.int (nI ch), .ref 396]) (by rw [show I 396 3 = nI ch from (hch)]) ?_
    refine Ev.sg hX (sX7_undo_13.sub 3 2) (pc' := 20) (ls' := [some (.ref 396)]) (st' := [.int ((nI ch) - 1), .ref 396]) (h' := (N, SH v T, I, L, Dd)) rfl ?_
    refine Ev.putf hX (sX7_undo_13.lk 5 (q := (20, .putfield 49, 7, 3)) rfl) rfl rfl (sX7_undo_13.dc 5 (q := (20, .putfield 49, 7, 3)) rfl) ?_
    show Ev _ _ _ _ _ _ 23 [some (.ref 396)] [] (N, SH v T, up2 I 396 3 ((nI ch) - 1), L, Dd)
    refine Ev.sg hX (sX7_undo_13.sub 6 1) (pc' := 24) (ls' := [some (.ref 396)]) (st' := [.ref 396]) (h' := (N, SH v T, up2 I 396 3 ((nI ch) - 1), L, Dd)) rfl ?_
    refine Ev.getf (sX7_undo_13.lk 7 (q := (24, .getfield 16, 7, 2)) rfl) rfl rfl (sX7_undo_13.dc 7 (q := (24, .getfield 16, 7, 2)) rfl) ?_
    show Ev _ _ _ _ _ _ 27 [some (.ref 396)] [.ref 399] (N, SH v T, up2 I 396 3 ((nI ch) - 1), L, Dd)
    refine Ev.sg hX (sX7_undo_13.sub 8 1) (pc' := 28) (ls' := [some (.ref 396)]) (st' := [.ref 396, .ref 399]) (h' := (N, SH v T, up2 I 396 3 ((nI ch) - 1), L, Dd)) rfl ?_
    refine Ev.getf (sX7_undo_13.lk 9 (q := (28, .getfield 49, 7, 3)) rfl) rfl rfl (sX7_undo_13.dc 9 (q := (28, .getfield 49, 7, 3)) rfl) ?_
    show Ev _ _ _ _ _ _ 31 [some (.ref 396)] [.int ((up2 I 396 3 ((nI ch) - 1)) 396 3), .ref 399] (N, SH v T, up2 I 396 3 ((nI ch) - 1), L, Dd)
    refine Ev.eqst (st' := [.int ((nI ch) - 1), .ref 399]) (by rw [show (up2 I 396 3 ((nI ch) - 1)) 396 3 = (nI ch) - 1 from (up2_hit)]) ?_
    refine Ev.sg hX (sX7_undo_13.sub 10 3) (pc' := 36) (ls' := [some (.ref 396)]) (st' := [.ref 396, .int (((nI ch) - 1) * 179), .ref 399]) (h' := (N, SH v T, up2 I 396 3 ((nI ch) - 1), L, Dd)) rfl ?_
    refine Ev.getf (sX7_undo_13.lk 13 (q := (36, .getfield 7, 7, 0)) rfl) rfl rfl (sX7_undo_13.dc 13 (q := (36, .getfield 7, 7, 0)) rfl) ?_
    show Ev _ _ _ _ _ _ 39 [some (.ref 396)] [.ref 397, .int (((nI ch) - 1) * 179), .ref 399] (N, SH v T, up2 I 396 3 ((nI ch) - 1), L, Dd)
    refine Ev.sg hX (sX7_undo_13.sub 14 1) (pc' := 40) (ls' := [some (.ref 396)]) (st' := [.int 0, .ref 397, .int (((nI ch) - 1) * 179), .ref 399]) (h' := (N, SH v T, up2 I 396 3 ((nI ch) - 1), L, Dd)) rfl ?_
    refine Ev.eqst (st' := [.int 0, .ref 397, .int (nI ((ch - 1) * 179)), .ref 399]) (by rw [show ((nI ch) - 1) * 179 = nI ((ch - 1) * 179) from (nmI (nsI rfl rfl (by omega)) rfl)]) ?_
    refine Ev.callS (As := [.ref 399, .int (nI ((ch - 1) * 179)), .ref 397, .int 0]) (rest := []) dsX7_copy mkX7_45 dX7_undo_40 (m_copy (d := d - 1) (I := (up2 I 396 3 ((nI ch) - 1))) (a := 399) (x := ((ch - 1) * 179)) (b := 397) (y := 0) (na := 1432) (nb := 179) hX (by omega) (by decide) rfl rfl (by decide) (by decide) (by omega) (by omega)) ⟨by omega, by show 5 + 19 + 40 * _ ≤ 40 * _; omega⟩ ⟨Nat.zero_le _, Nat.zero_le _⟩ rfl (Nat.le_of_ble_eq_true rfl) (fun v9 h9 e9 => ?_) (fun E9 h9 e9 => nomatch e9)
    cases e9
    show Ev _ _ _ _ _ _ 43 [some (.ref 396)] [] (N, SH v T, cpM (up2 I 396 3 ((nI ch) - 1)) 399 ((ch - 1) * 179) 397 0, L, Dd)
    refine Ev.sg hX (sX7_undo_43.sub 0 2) (pc' := 45) (ls' := [some (.ref 396)]) (st' := [.ref 396, .ref 396]) (h' := (N, SH v T, cpM (up2 I 396 3 ((nI ch) - 1)) 399 ((ch - 1) * 179) 397 0, L, Dd)) rfl ?_
    refine Ev.getf (sX7_undo_43.lk 2 (q := (45, .getfield 49, 7, 3)) rfl) rfl rfl (sX7_undo_43.dc 2 (q := (45, .getfield 49, 7, 3)) rfl) ?_
    show Ev _ _ _ _ _ _ 48 [some (.ref 396)] [.int ((cpM (up2 I 396 3 ((nI ch) - 1)) 399 ((ch - 1) * 179) 397 0) 396 3), .ref 396] (N, SH v T, cpM (up2 I 396 3 ((nI ch) - 1)) 399 ((ch - 1) * 179) 397 0, L, Dd)
    refine Ev.eqst (st' := [.int ((nI ch) - 1), .ref 396]) (by rw [show (cpM (up2 I 396 3 ((nI ch) - 1)) 399 ((ch - 1) * 179) 397 0) 396 3 = (nI ch) - 1 from (((congrFun (cpM_ne (by decide)) 3).trans up2_hit))]) ?_
    refine Ev.callV (As := [.int ((nI ch) - 1)]) (rest := []) dvX7_done mkX7_79 rfl rfl dX7_undo_48 (m_done (d := d - 1) (I := (cpM (up2 I 396 3 ((nI ch) - 1)) 399 ((ch - 1) * 179) 397 0)) hX (by omega)) ⟨by omega, by show 2 + 19 + 40 * _ ≤ 40 * _; omega⟩ ⟨Nat.zero_le _, Nat.zero_le _⟩ rfl (Nat.le_of_ble_eq_true rfl) (fun v9 h9 e9 => ?_) (fun E9 h9 e9 => nomatch e9)
    cases e9
    show Ev _ _ _ _ _ _ 51 [some (.ref 396)] [.int ((nI ch) - 1)] (N, SH v T, up2 (cpM (up2 I 396 3 ((nI ch) - 1)) 399 ((ch - 1) * 179) 397 0) 396 12 0, L, Dd)
    refine Ev.iret dX7_undo_51 rfl ?_
    rw [undM, if_neg (by omega), show nI ch - 1 = nI (ch - 1) by rw [show (1 : Int32) = nI 1 from rfl, nI_subN (by omega)]]
  · refine Ev.sg hX (sX7_undo_7.sub 0 2) (pc' := 9) (ls' := [some (.ref 396)]) (st' := [.int 1, .ref 396]) (h' := (N, SH v T, I, L, Dd)) rfl ?_
    refine Ev.callV (As := [.int 1]) (rest := []) dvX7_fails mkX7_75 rfl rfl dX7_undo_9 (m_fails (d := d - 1) (I := I) hX (by omega)) ⟨by omega, by show 2 + 19 + 40 * _ ≤ 40 * _; omega⟩ ⟨Nat.zero_le _, Nat.zero_le _⟩ rfl (Nat.le_of_ble_eq_true rfl) (fun v9 h9 e9 => ?_) (fun E9 h9 e9 => nomatch e9)
    cases e9
    show Ev _ _ _ _ _ _ 12 [some (.ref 396)] [.int 0] (N, SH v T, up2 I 396 12 1, L, Dd)
    refine Ev.iret dX7_undo_12 rfl ?_
    rw [undM, if_pos ((nI_eq (a := ch) (b := 0) (by omega) (by decide)).mp b1)]
end MODB
