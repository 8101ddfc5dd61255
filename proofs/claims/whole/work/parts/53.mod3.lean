/-! the model: tracks, switches, cars -/
theorem up2_hit {α : Type} {f : Nat → Nat → α} {a k : Nat} {v : α} : up2 f a k v a k = v := by
  unfold up2
  rw [if_pos rfl, if_pos rfl]
theorem up2_i {α : Type} {f : Nat → Nat → α} {a k b j : Nat} {v : α} (h : j ≠ k) : up2 f a k v b j = f b j := by
  unfold up2
  by_cases hb : b = a
  · rw [if_pos hb, if_neg h]
  · rw [if_neg hb]
theorem tkM_nI {I : HI} {z : Nat} (hz8 : z ≤ 8) (hz : I 397 0 = nI z) {t : Int32} (h : tkM I t) : ∃ k, k < z ∧ t = nI k := by
  obtain ⟨h1, h2⟩ := h
  rw [hz] at h2
  rcases Nat.eq_zero_or_pos z with e | e
  · subst e
    exact absurd (Int32.le_trans h1 h2) (by decide)
  · rw [show (1 : Int32) = nI 1 from rfl, nI_subN e] at h2
    obtain ⟨k, hk, rfl⟩ := nI_le_of h1 h2 (by omega)
    exact ⟨k, by omega, rfl⟩
def adtM (I : HI) (z : Nat) (c e : Int32) : Int32 × HI := if ¬ ((10 ≤ c ∧ c ≤ 200) ∧ (0 ≤ e ∧ e ≤ 5)) then (0, up2 I 396 12 1) else if z = 8 then (0, up2 I 396 12 2) else (nI z, up2 (up2 (up2 (up2 I 397 (7 + z) c) 397 (15 + z) e) 397 0 (nI z + 1)) 396 12 0)
def lisS (I : HI) (i : Nat) : Nat → Int32 → Int32 := fun j acc => acc + (if lkM I i j then 1 else 0)
def liM (I : HI) (z : Nat) : Int32 := fo (fun i acc => fo (lisS I i) i 0 acc) z 0 0
def tl1 (I : HI) (a b : Nat) : HI := up2 I 397 (23 + a) (I 397 (23 + a) ^^^ (1 <<< (nI b &&& 31)))
def tlM (I : HI) (a b : Nat) : HI := tl1 (tl1 I a b) b a
theorem tlM_ne {I : HI} {a b r : Nat} (h : r ≠ 397) : tlM I a b r = I r := by rw [tlM, tl1, tl1, up2_ne h, up2_ne h]
theorem tlM_i {I : HI} {a b r j : Nat} (h1 : j ≠ 23 + a) (h2 : j ≠ 23 + b) : tlM I a b r j = I r j := by rw [tlM, tl1, tl1, up2_i h2, up2_i h1]
def cnM (I : HI) (z : Nat) (c e : Int32) : Int32 × HI := if ¬ (tkM I c ∧ tkM I e) then (0, up2 I 396 12 1) else if c = e then (0, up2 I 396 12 2) else if lkM I c.toNatClampNeg e.toNatClampNeg then (0, up2 I 396 12 3) else (liM (tlM I c.toNatClampNeg e.toNatClampNeg) z, up2 (tlM I c.toNatClampNeg e.toNatClampNeg) 396 12 0)
def dcM (I : HI) (z : Nat) (c e : Int32) : Int32 × HI := if ¬ (tkM I c ∧ tkM I e) then (0, up2 I 396 12 1) else if lkM I c.toNatClampNeg e.toNatClampNeg then (liM (tlM I c.toNatClampNeg e.toNatClampNeg) z, up2 (tlM I c.toNatClampNeg e.toNatClampNeg) 396 12 0) else (0, up2 I 396 12 2)
def accI (I : HI) (m t : Nat) (le we de b : Int32) : HI := up2 (up2 (up2 (up2 (up2 (up2 (up2 (up2 (up2 (up2 I 397 (39 + m) (I 397 2)) 397 (59 + m) le) 397 (79 + m) we) 397 (99 + m) de) 397 (119 + m) b) 397 (139 + m) (nI t)) 397 (159 + m) (I 397 (31 + t))) 397 (31 + t) (I 397 (31 + t) + 1)) 397 1 (nI m + 1)) 397 2 (I 397 2 + 1)
def accM (I : HI) (m : Nat) (t le we de b : Int32) : Int32 × HI := if ¬ tkM I t then (0, up2 I 396 12 1) else if ¬ ((5 ≤ le ∧ le ≤ 30) ∧ (10 ≤ we ∧ we ≤ 90) ∧ (0 ≤ de ∧ de ≤ 9)) then (0, up2 I 396 12 2) else if m = 20 then (0, up2 I 396 12 3) else if roM I m t.toNatClampNeg < le then (0, up2 I 396 12 4) else (I 397 2, up2 (accI I m t.toNatClampNeg le we de b) 396 12 0)
section MOD3
variable {X : JX} {d N v : Nat} {T : Nat → Option JS} {I : Nat → Nat → Int32} {L : Nat → Nat → Int64} {Dd : Nat → Nat → UInt64} {c e i0 t le we de b : Int32} {m z : Nat}
theorem m_addsTrack (hX : JXok X) (hd : 2 ≤ d) (hz8 : z ≤ 8) (hz : I 397 0 = nI z) : MT X d 0 0 jdX7_addsTrack [.ref 396, .int c, .int e] (N, SH v T, I, L, Dd) (fun R => R = .inl (some (.int (adtM I z c e).1), (N, SH v T, (adtM I z c e).2, L, Dd))) := by
  refine MT.mk dvX7_addsTrack.1 ?_
  refine Ev.sg hX (sX7_addsTrack_0.sub 0 3) (pc' := 6) (ls' := [some (.ref 396), some (.int c), some (.int e), none]) (st' := [.int 200, .int 10, .int c]) (h' := (N, SH v T, I, L, Dd)) rfl ?_
  refine Ev.callS (As := [.int c, .int 10, .int 200]) (rest := []) dsX7_in mkX7_52 dX7_addsTrack_6 (m_in (d := d - 1) hX (by omega)) ⟨by omega, by show 3 + 19 + 40 * _ ≤ 40 * _; omega⟩ ⟨Nat.zero_le _, Nat.zero_le _⟩ rfl (Nat.le_of_ble_eq_true rfl) (fun v9 h9 e9 => ?_) (fun E9 h9 e9 => nomatch e9)
  cases e9
  show Ev _ _ _ _ _ _ 9 [some (.ref 396), some (.int c), some (.int e), none] [.int (bi (10 ≤ c ∧ c ≤ 200))] (N, SH v T, I, L, Dd)
  refine Ev.if_eq (tgt := 21) dX7_addsTrack_9 (by decide) (fun b1 => ?_) (fun b1 => ?_)
  · refine Ev.sg hX (sX7_addsTrack_21.sub 0 2) (pc' := 23) (ls' := [some (.ref 396), some (.int c), some (.int e), none]) (st' := [.int 1, .ref 396]) (h' := (N, SH v T, I, L, Dd)) rfl ?_
    refine Ev.callV (As := [.int 1]) (rest := []) dvX7_fails mkX7_75 rfl rfl dX7_addsTrack_23 (m_fails (d := d - 1) (I := I) hX (by omega)) ⟨by omega, by show 2 + 19 + 40 * _ ≤ 40 * _; omega⟩ ⟨Nat.zero_le _, Nat.zero_le _⟩ rfl (Nat.le_of_ble_eq_true rfl) (fun v9 h9 e9 => ?_) (fun E9 h9 e9 => nomatch e9)
    cases e9
    show Ev _ _ _ _ _ _ 26 [some (.ref 396), some (.int c), some (.int e), none] [.int 0] (N, SH v T, up2 I 396 12 1, L, Dd)
    refine Ev.iret dX7_addsTrack_26 rfl ?_
    rw [adtM, if_pos (fun z => (bi_0.mp b1) z.1)]
  · refine Ev.sg hX (sX7_addsTrack_12.sub 0 3) (pc' := 15) (ls' := [some (.ref 396), some (.int c), some (.int e), none]) (st' := [.int 5, .int 0, .int e]) (h' := (N, SH v T, I, L, Dd)) rfl ?_
    refine Ev.callS (As := [.int e, .int 0, .int 5]) (rest := []) dsX7_in mkX7_52 dX7_addsTrack_15 (m_in (d := d - 1) hX (by omega)) ⟨by omega, by show 3 + 19 + 40 * _ ≤ 40 * _; omega⟩ ⟨Nat.zero_le _, Nat.zero_le _⟩ rfl (Nat.le_of_ble_eq_true rfl) (fun v9 h9 e9 => ?_) (fun E9 h9 e9 => nomatch e9)
    cases e9
    show Ev _ _ _ _ _ _ 18 [some (.ref 396), some (.int c), some (.int e), none] [.int (bi (0 ≤ e ∧ e ≤ 5))] (N, SH v T, I, L, Dd)
    refine Ev.if_ne (tgt := 27) dX7_addsTrack_18 (by decide) (fun b2 => ?_) (fun b2 => ?_)
    · refine Ev.sg hX (sX7_addsTrack_27.sub 0 1) (pc' := 28) (ls' := [some (.ref 396), some (.int c), some (.int e), none]) (st' := [.ref 396]) (h' := (N, SH v T, I, L, Dd)) rfl ?_
      refine Ev.getf (sX7_addsTrack_27.lk 1 (q := (28, .getfield 7, 7, 0)) rfl) rfl rfl (sX7_addsTrack_27.dc 1 (q := (28, .getfield 7, 7, 0)) rfl) ?_
      show Ev _ _ _ _ _ _ 31 [some (.ref 396), some (.int c), some (.int e), none] [.ref 397] (N, SH v T, I, L, Dd)
      refine Ev.sg hX (sX7_addsTrack_27.sub 2 1) (pc' := 32) (ls' := [some (.ref 396), some (.int c), some (.int e), none]) (st' := [.int 0, .ref 397]) (h' := (N, SH v T, I, L, Dd)) rfl ?_
      refine Ev.ialdE (n := 0) (N := 179) rfl rfl (by omega) (by decide) (sX7_addsTrack_27.dc 3 (q := (32, .iaload, 0, 0)) rfl) ?_
      show Ev _ _ _ _ _ _ 33 [some (.ref 396), some (.int c), some (.int e), none] [.int (I 397 0)] (N, SH v T, I, L, Dd)
      refine Ev.eqst (st' := [.int (nI z)]) (by rw [show I 397 0 = nI z from (hz)]) ?_
      refine Ev.sg hX (sX7_addsTrack_27.sub 4 3) (pc' := 37) (ls' := [some (.ref 396), some (.int c), some (.int e), some (.int (nI z))]) (st' := [.int 8, .int (nI z)]) (h' := (N, SH v T, I, L, Dd)) rfl ?_
      refine Ev.icmp_ne (tgt := 46) dX7_addsTrack_37 (by decide) (fun b3 => ?_) (fun b3 => ?_)
      · have hz7 : z < 8 := by have : ¬ z = 8 := fun z9 => b3 (by rw [z9]; rfl); omega
        refine Ev.sg hX (sX7_addsTrack_46.sub 0 1) (pc' := 47) (ls' := [some (.ref 396), some (.int c), some (.int e), some (.int (nI z))]) (st' := [.ref 396]) (h' := (N, SH v T, I, L, Dd)) rfl ?_
        refine Ev.getf (sX7_addsTrack_46.lk 1 (q := (47, .getfield 7, 7, 0)) rfl) rfl rfl (sX7_addsTrack_46.dc 1 (q := (47, .getfield 7, 7, 0)) rfl) ?_
        show Ev _ _ _ _ _ _ 50 [some (.ref 396), some (.int c), some (.int e), some (.int (nI z))] [.ref 397] (N, SH v T, I, L, Dd)
        refine Ev.sg hX (sX7_addsTrack_46.sub 2 4) (pc' := 55) (ls' := [some (.ref 396), some (.int c), some (.int e), some (.int (nI z))]) (st' := [.int c, .int (7 + (nI z)), .ref 397]) (h' := (N, SH v T, I, L, Dd)) rfl ?_
        refine Ev.iastE (n := (7 + z)) (N := 179) hX rfl (naI rfl rfl) (by omega) (by decide) dX7_addsTrack_55 ?_
        show Ev _ _ _ _ _ _ 56 [some (.ref 396), some (.int c), some (.int e), some (.int (nI z))] [] (N, SH v T, up2 I 397 (7 + z) c, L, Dd)
        refine Ev.sg hX (sX7_addsTrack_56.sub 0 1) (pc' := 57) (ls' := [some (.ref 396), some (.int c), some (.int e), some (.int (nI z))]) (st' := [.ref 396]) (h' := (N, SH v T, up2 I 397 (7 + z) c, L, Dd)) rfl ?_
        refine Ev.getf (sX7_addsTrack_56.lk 1 (q := (57, .getfield 7, 7, 0)) rfl) rfl rfl (sX7_addsTrack_56.dc 1 (q := (57, .getfield 7, 7, 0)) rfl) ?_
        show Ev _ _ _ _ _ _ 60 [some (.ref 396), some (.int c), some (.int e), some (.int (nI z))] [.ref 397] (N, SH v T, up2 I 397 (7 + z) c, L, Dd)
        refine Ev.sg hX (sX7_addsTrack_56.sub 2 4) (pc' := 65) (ls' := [some (.ref 396), some (.int c), some (.int e), some (.int (nI z))]) (st' := [.int e, .int (15 + (nI z)), .ref 397]) (h' := (N, SH v T, up2 I 397 (7 + z) c, L, Dd)) rfl ?_
        refine Ev.iastE (n := (15 + z)) (N := 179) hX rfl (naI rfl rfl) (by omega) (by decide) dX7_addsTrack_65 ?_
        show Ev _ _ _ _ _ _ 66 [some (.ref 396), some (.int c), some (.int e), some (.int (nI z))] [] (N, SH v T, up2 (up2 I 397 (7 + z) c) 397 (15 + z) e, L, Dd)
        refine Ev.sg hX (sX7_addsTrack_66.sub 0 1) (pc' := 67) (ls' := [some (.ref 396), some (.int c), some (.int e), some (.int (nI z))]) (st' := [.ref 396]) (h' := (N, SH v T, up2 (up2 I 397 (7 + z) c) 397 (15 + z) e, L, Dd)) rfl ?_
        refine Ev.getf (sX7_addsTrack_66.lk 1 (q := (67, .getfield 7, 7, 0)) rfl) rfl rfl (sX7_addsTrack_66.dc 1 (q := (67, .getfield 7, 7, 0)) rfl) ?_
        show Ev _ _ _ _ _ _ 70 [some (.ref 396), some (.int c), some (.int e), some (.int (nI z))] [.ref 397] (N, SH v T, up2 (up2 I 397 (7 + z) c) 397 (15 + z) e, L, Dd)
        refine Ev.sg hX (sX7_addsTrack_66.sub 2 2) (pc' := 72) (ls' := [some (.ref 396), some (.int c), some (.int e), some (.int (nI z))]) (st' := [.int 0, .ref 397, .int 0, .ref 397]) (h' := (N, SH v T, up2 (up2 I 397 (7 + z) c) 397 (15 + z) e, L, Dd)) rfl ?_
        refine Ev.ialdE (n := 0) (N := 179) rfl rfl (by omega) (by decide) dX7_addsTrack_72 ?_
        show Ev _ _ _ _ _ _ 73 [some (.ref 396), some (.int c), some (.int e), some (.int (nI z))] [.int ((up2 (up2 I 397 (7 + z) c) 397 (15 + z) e) 397 0), .int 0, .ref 397] (N, SH v T, up2 (up2 I 397 (7 + z) c) 397 (15 + z) e, L, Dd)
        refine Ev.eqst (st' := [.int (nI z), .int 0, .ref 397]) (by rw [show (up2 (up2 I 397 (7 + z) c) 397 (15 + z) e) 397 0 = nI z from (((up2_i (by omega)).trans (up2_i (by omega))).trans hz)]) ?_
        refine Ev.sg hX (sX7_addsTrack_73.sub 0 2) (pc' := 75) (ls' := [some (.ref 396), some (.int c), some (.int e), some (.int (nI z))]) (st' := [.int ((nI z) + 1), .int 0, .ref 397]) (h' := (N, SH v T, up2 (up2 I 397 (7 + z) c) 397 (15 + z) e, L, Dd)) rfl ?_
        refine Ev.iastE (n := 0) (N := 179) hX rfl rfl (by omega) (by decide) dX7_addsTrack_75 ?_
        show Ev _ _ _ _ _ _ 76 [some (.ref 396), some (.int c), some (.int e), some (.int (nI z))] [] (N, SH v T, up2 (up2 (up2 I 397 (7 + z) c) 397 (15 + z) e) 397 0 ((nI z) + 1), L, Dd)
        refine Ev.sg hX (sX7_addsTrack_76.sub 0 2) (pc' := 78) (ls' := [some (.ref 396), some (.int c), some (.int e), some (.int (nI z))]) (st' := [.int (nI z), .ref 396]) (h' := (N, SH v T, up2 (up2 (up2 I 397 (7 + z) c) 397 (15 + z) e) 397 0 ((nI z) + 1), L, Dd)) rfl ?_
        refine Ev.callV (As := [.int (nI z)]) (rest := []) dvX7_done mkX7_79 rfl rfl dX7_addsTrack_78 (m_done (d := d - 1) (I := (up2 (up2 (up2 I 397 (7 + z) c) 397 (15 + z) e) 397 0 ((nI z) + 1))) hX (by omega)) ⟨by omega, by show 2 + 19 + 40 * _ ≤ 40 * _; omega⟩ ⟨Nat.zero_le _, Nat.zero_le _⟩ rfl (Nat.le_of_ble_eq_true rfl) (fun v9 h9 e9 => ?_) (fun E9 h9 e9 => nomatch e9)
        cases e9
        show Ev _ _ _ _ _ _ 81 [some (.ref 396), some (.int c), some (.int e), some (.int (nI z))] [.int (nI z)] (N, SH v T, up2 (up2 (up2 (up2 I 397 (7 + z) c) 397 (15 + z) e) 397 0 ((nI z) + 1)) 396 12 0, L, Dd)
        refine Ev.iret dX7_addsTrack_81 rfl ?_
        rw [adtM, if_neg (fun z => z ⟨bi_1.mp b1, bi_1.mp b2⟩), if_neg (fun z9 => b3 (by rw [z9]; rfl))]
      · refine Ev.sg hX (sX7_addsTrack_40.sub 0 2) (pc' := 42) (ls' := [some (.ref 396), some (.int c), some (.int e), some (.int (nI z))]) (st' := [.int 2, .ref 396]) (h' := (N, SH v T, I, L, Dd)) rfl ?_
        refine Ev.callV (As := [.int 2]) (rest := []) dvX7_fails mkX7_75 rfl rfl dX7_addsTrack_42 (m_fails (d := d - 1) (I := I) hX (by omega)) ⟨by omega, by show 2 + 19 + 40 * _ ≤ 40 * _; omega⟩ ⟨Nat.zero_le _, Nat.zero_le _⟩ rfl (Nat.le_of_ble_eq_true rfl) (fun v9 h9 e9 => ?_) (fun E9 h9 e9 => nomatch e9)
        cases e9
        show Ev _ _ _ _ _ _ 45 [some (.ref 396), some (.int c), some (.int e), some (.int (nI z))] [.int 0] (N, SH v T, up2 I 396 12 2, L, Dd)
        refine Ev.iret dX7_addsTrack_45 rfl ?_
        rw [adtM, if_neg (fun z => z ⟨bi_1.mp b1, bi_1.mp b2⟩), if_pos ((nI_eq (a := z) (b := 8) (by omega) (by decide)).mp b3)]
    · refine Ev.sg hX (sX7_addsTrack_21.sub 0 2) (pc' := 23) (ls' := [some (.ref 396), some (.int c), some (.int e), none]) (st' := [.int 1, .ref 396]) (h' := (N, SH v T, I, L, Dd)) rfl ?_
      refine Ev.callV (As := [.int 1]) (rest := []) dvX7_fails mkX7_75 rfl rfl dX7_addsTrack_23 (m_fails (d := d - 1) (I := I) hX (by omega)) ⟨by omega, by show 2 + 19 + 40 * _ ≤ 40 * _; omega⟩ ⟨Nat.zero_le _, Nat.zero_le _⟩ rfl (Nat.le_of_ble_eq_true rfl) (fun v9 h9 e9 => ?_) (fun E9 h9 e9 => nomatch e9)
      cases e9
      show Ev _ _ _ _ _ _ 26 [some (.ref 396), some (.int c), some (.int e), none] [.int 0] (N, SH v T, up2 I 396 12 1, L, Dd)
      refine Ev.iret dX7_addsTrack_26 rfl ?_
      rw [adtM, if_pos (fun z => (bi_0.mp b2) z.2)]
theorem l_links2 {i : Nat} {Q : JR → Prop} (hX : JXok X) (hd : 2 ≤ d) (hi : i < 8) : ∀ (n k : Nat) (acc : Int32), k + n = i → Ev X (jm jdX7_links) d 0 0 Q 44 [some (.ref 396), some (.int (fo (lisS I i) n k acc)), some (.int (nI i)), some (.int (nI i))] [] (N, SH v T, I, L, Dd) → Ev X (jm jdX7_links) d 0 0 Q 16 [some (.ref 396), some (.int acc), some (.int (nI i)), some (.int (nI k))] [] (N, SH v T, I, L, Dd) := by
  intro n
  induction n with
  | zero =>
    intro k acc hk hQ
    refine Ev.sg hX (sX7_links_16.sub 0 2) (pc' := 18) (ls' := [some (.ref 396), some (.int acc), some (.int (nI i)), some (.int (nI k))]) (st' := [.int (nI i), .int (nI k)]) (h' := (N, SH v T, I, L, Dd)) rfl ?_
    refine Ev.icmp_ge (tgt := 44) dX7_links_18 (by decide) (fun b1 => ?_) (fun b1 => ?_)
    · rw [show k = i by omega]
      exact hQ
    · exact absurd ((nI_leI (a := i) (b := k) (by omega) (by omega)).mpr (by omega)) b1
  | succ n ih =>
    intro k acc hk hQ
    refine Ev.sg hX (sX7_links_16.sub 0 2) (pc' := 18) (ls' := [some (.ref 396), some (.int acc), some (.int (nI i)), some (.int (nI k))]) (st' := [.int (nI i), .int (nI k)]) (h' := (N, SH v T, I, L, Dd)) rfl ?_
    refine Ev.icmp_ge (tgt := 44) dX7_links_18 (by decide) (fun b1 => ?_) (fun b1 => ?_)
    · exact absurd ((nI_leI (a := i) (b := k) (by omega) (by omega)).mp b1) (by omega)
    · refine Ev.sg hX (sX7_links_21.sub 0 4) (pc' := 25) (ls' := [some (.ref 396), some (.int acc), some (.int (nI i)), some (.int (nI k))]) (st' := [.int (nI k), .int (nI i), .ref 396, .int acc]) (h' := (N, SH v T, I, L, Dd)) rfl ?_
      refine Ev.callV (As := [.int (nI i), .int (nI k)]) (rest := [.int acc]) dvX7_isLinked mkX7_67 rfl rfl dX7_links_25 (m_isLinked (d := d - 1) (I := I) (a := i) (b := k) hX (by omega) (by omega)) ⟨by omega, by show 3 + 19 + 40 * _ ≤ 40 * _; omega⟩ ⟨Nat.zero_le _, Nat.zero_le _⟩ rfl (Nat.le_of_ble_eq_true rfl) (fun v9 h9 e9 => ?_) (fun E9 h9 e9 => nomatch e9)
      cases e9
      show Ev _ _ _ _ _ _ 28 [some (.ref 396), some (.int acc), some (.int (nI i)), some (.int (nI k))] [.int (bi (lkM I i k)), .int acc] (N, SH v T, I, L, Dd)
      refine Ev.if_eq (tgt := 35) dX7_links_28 (by decide) (fun b2 => ?_) (fun b2 => ?_)
      · refine Ev.sg hX (sX7_links_35.sub 0 1) (pc' := 36) (ls' := [some (.ref 396), some (.int acc), some (.int (nI i)), some (.int (nI k))]) (st' := [.int 0, .int acc]) (h' := (N, SH v T, I, L, Dd)) rfl ?_
        refine Ev.sg hX (sX7_links_36.sub 0 4) (pc' := 16) (ls' := [some (.ref 396), some (.int (acc + 0)), some (.int (nI i)), some (.int ((nI k) + 1))]) (st' := []) (h' := (N, SH v T, I, L, Dd)) rfl ?_
        rw [nI_1]
        have e1 : lisS I i k acc = acc + 0 := by rw [lisS, if_neg (bi_0.mp b2)]
        rw [← e1]
        exact ih (k + 1) (lisS I i k acc) (by omega) hQ
      · refine Ev.sg hX (sX7_links_31.sub 0 2) (pc' := 36) (ls' := [some (.ref 396), some (.int acc), some (.int (nI i)), some (.int (nI k))]) (st' := [.int 1, .int acc]) (h' := (N, SH v T, I, L, Dd)) rfl ?_
        refine Ev.sg hX (sX7_links_36.sub 0 4) (pc' := 16) (ls' := [some (.ref 396), some (.int (acc + 1)), some (.int (nI i)), some (.int ((nI k) + 1))]) (st' := []) (h' := (N, SH v T, I, L, Dd)) rfl ?_
        rw [nI_1]
        have e1 : lisS I i k acc = acc + 1 := by rw [lisS, if_pos (bi_1.mp b2)]
        rw [← e1]
        exact ih (k + 1) (lisS I i k acc) (by omega) hQ
theorem l_links (hX : JXok X) (hd : 2 ≤ d) (hz8 : z ≤ 8) (hz : I 397 0 = nI z) : ∀ (n k : Nat) (acc : Int32) (l3 : Option Value), k + n = z → Ev X (jm jdX7_links) d 0 0 (fun R => R = .inl (some (.int (fo (fun i acc => fo (lisS I i) i 0 acc) n k acc)), (N, SH v T, I, L, Dd))) 4 [some (.ref 396), some (.int acc), some (.int (nI k)), l3] [] (N, SH v T, I, L, Dd) := by
  intro n
  induction n with
  | zero =>
    intro k acc l3 hk
    refine Ev.sg hX (sX7_links_4.sub 0 2) (pc' := 6) (ls' := [some (.ref 396), some (.int acc), some (.int (nI k)), l3]) (st' := [.ref 396, .int (nI k)]) (h' := (N, SH v T, I, L, Dd)) rfl ?_
    refine Ev.getf (sX7_links_4.lk 2 (q := (6, .getfield 7, 7, 0)) rfl) rfl rfl (sX7_links_4.dc 2 (q := (6, .getfield 7, 7, 0)) rfl) ?_
    show Ev _ _ _ _ _ _ 9 [some (.ref 396), some (.int acc), some (.int (nI k)), l3] [.ref 397, .int (nI k)] (N, SH v T, I, L, Dd)
    refine Ev.sg hX (sX7_links_4.sub 3 1) (pc' := 10) (ls' := [some (.ref 396), some (.int acc), some (.int (nI k)), l3]) (st' := [.int 0, .ref 397, .int (nI k)]) (h' := (N, SH v T, I, L, Dd)) rfl ?_
    refine Ev.ialdE (n := 0) (N := 179) rfl rfl (by omega) (by decide) (sX7_links_4.dc 4 (q := (10, .iaload, 0, 0)) rfl) ?_
    show Ev _ _ _ _ _ _ 11 [some (.ref 396), some (.int acc), some (.int (nI k)), l3] [.int (I 397 0), .int (nI k)] (N, SH v T, I, L, Dd)
    refine Ev.eqst (st' := [.int (nI z), .int (nI k)]) (by rw [show I 397 0 = nI z from (hz)]) ?_
    refine Ev.icmp_ge (tgt := 50) dX7_links_11 (by decide) (fun b1 => ?_) (fun b1 => ?_)
    · refine Ev.sg hX (sX7_links_50.sub 0 1) (pc' := 51) (ls' := [some (.ref 396), some (.int acc), some (.int (nI k)), l3]) (st' := [.int acc]) (h' := (N, SH v T, I, L, Dd)) rfl ?_
      refine Ev.iret dX7_links_51 rfl ?_
      rfl
    · exact absurd ((nI_leI (a := z) (b := k) (by omega) (by omega)).mpr (by omega)) b1
  | succ n ih =>
    intro k acc l3 hk
    refine Ev.sg hX (sX7_links_4.sub 0 2) (pc' := 6) (ls' := [some (.ref 396), some (.int acc), some (.int (nI k)), l3]) (st' := [.ref 396, .int (nI k)]) (h' := (N, SH v T, I, L, Dd)) rfl ?_
    refine Ev.getf (sX7_links_4.lk 2 (q := (6, .getfield 7, 7, 0)) rfl) rfl rfl (sX7_links_4.dc 2 (q := (6, .getfield 7, 7, 0)) rfl) ?_
    show Ev _ _ _ _ _ _ 9 [some (.ref 396), some (.int acc), some (.int (nI k)), l3] [.ref 397, .int (nI k)] (N, SH v T, I, L, Dd)
    refine Ev.sg hX (sX7_links_4.sub 3 1) (pc' := 10) (ls' := [some (.ref 396), some (.int acc), some (.int (nI k)), l3]) (st' := [.int 0, .ref 397, .int (nI k)]) (h' := (N, SH v T, I, L, Dd)) rfl ?_
    refine Ev.ialdE (n := 0) (N := 179) rfl rfl (by omega) (by decide) (sX7_links_4.dc 4 (q := (10, .iaload, 0, 0)) rfl) ?_
    show Ev _ _ _ _ _ _ 11 [some (.ref 396), some (.int acc), some (.int (nI k)), l3] [.int (I 397 0), .int (nI k)] (N, SH v T, I, L, Dd)
    refine Ev.eqst (st' := [.int (nI z), .int (nI k)]) (by rw [show I 397 0 = nI z from (hz)]) ?_
    refine Ev.icmp_ge (tgt := 50) dX7_links_11 (by decide) (fun b1 => ?_) (fun b1 => ?_)
    · exact absurd ((nI_leI (a := z) (b := k) (by omega) (by omega)).mp b1) (by omega)
    · refine Ev.sg hX (sX7_links_14.sub 0 2) (pc' := 16) (ls' := [some (.ref 396), some (.int acc), some (.int (nI k)), some (.int 0)]) (st' := []) (h' := (N, SH v T, I, L, Dd)) rfl ?_
      refine l_links2 hX hd (by omega) k 0 acc (Nat.zero_add k) ?_
      refine Ev.sg hX sX7_links_44 (pc' := 4) (ls' := [some (.ref 396), some (.int (fo (lisS I k) k 0 acc)), some (.int (nI k + 1)), some (.int (nI k))]) (st' := []) (h' := (N, SH v T, I, L, Dd)) rfl ?_
      rw [nI_1]
      exact ih (k + 1) _ _ (by omega)
theorem m_links (hX : JXok X) (hd : 2 ≤ d) (hz8 : z ≤ 8) (hz : I 397 0 = nI z) : MT X d 0 0 jdX7_links [.ref 396] (N, SH v T, I, L, Dd) (fun R => R = .inl (some (.int (liM I z)), (N, SH v T, I, L, Dd))) := by
  refine MT.mk dvX7_links.1 ?_
  refine Ev.sg hX (sX7_links_0.sub 0 4) (pc' := 4) (ls' := [some (.ref 396), some (.int 0), some (.int 0), none]) (st' := []) (h' := (N, SH v T, I, L, Dd)) rfl ?_
  exact l_links hX hd hz8 hz z 0 0 none (Nat.zero_add z)
theorem m_turnsLink {a b : Nat} (hX : JXok X) (hd : 3 ≤ d) (hz8 : z ≤ 8) (hz : I 397 0 = nI z) (ha : a < 8) (hb : b < 8) : MT X d 0 0 jdX7_turnsLink [.ref 396, .int (nI a), .int (nI b)] (N, SH v T, I, L, Dd) (fun R => R = .inl (some (.int (liM (tlM I a b) z)), (N, SH v T, up2 (tlM I a b) 396 12 0, L, Dd))) := by
  refine MT.mk dvX7_turnsLink.1 ?_
  refine Ev.sg hX (sX7_turnsLink_0.sub 0 1) (pc' := 1) (ls' := [some (.ref 396), some (.int (nI a)), some (.int (nI b))]) (st' := [.ref 396]) (h' := (N, SH v T, I, L, Dd)) rfl ?_
  refine Ev.getf (sX7_turnsLink_0.lk 1 (q := (1, .getfield 7, 7, 0)) rfl) rfl rfl (sX7_turnsLink_0.dc 1 (q := (1, .getfield 7, 7, 0)) rfl) ?_
  show Ev _ _ _ _ _ _ 4 [some (.ref 396), some (.int (nI a)), some (.int (nI b))] [.ref 397] (N, SH v T, I, L, Dd)
  refine Ev.sg hX (sX7_turnsLink_0.sub 2 4) (pc' := 9) (ls' := [some (.ref 396), some (.int (nI a)), some (.int (nI b))]) (st' := [.int (23 + (nI a)), .ref 397, .int (23 + (nI a)), .ref 397]) (h' := (N, SH v T, I, L, Dd)) rfl ?_
  refine Ev.ialdE (n := (23 + a)) (N := 179) rfl (naI rfl rfl) (by omega) (by decide) dX7_turnsLink_9 ?_
  show Ev _ _ _ _ _ _ 10 [some (.ref 396), some (.int (nI a)), some (.int (nI b))] [.int (I 397 (23 + a)), .int (23 + (nI a)), .ref 397] (N, SH v T, I, L, Dd)
  refine Ev.sg hX (sX7_turnsLink_10.sub 0 4) (pc' := 14) (ls' := [some (.ref 396), some (.int (nI a)), some (.int (nI b))]) (st' := [.int ((I 397 (23 + a)) ^^^ (1 <<< ((nI b) &&& 31))), .int (23 + (nI a)), .ref 397]) (h' := (N, SH v T, I, L, Dd)) rfl ?_
  refine Ev.iastE (n := (23 + a)) (N := 179) hX rfl (naI rfl rfl) (by omega) (by decide) dX7_turnsLink_14 ?_
  show Ev _ _ _ _ _ _ 15 [some (.ref 396), some (.int (nI a)), some (.int (nI b))] [] (N, SH v T, up2 I 397 (23 + a) ((I 397 (23 + a)) ^^^ (1 <<< ((nI b) &&& 31))), L, Dd)
  refine Ev.sg hX (sX7_turnsLink_15.sub 0 1) (pc' := 16) (ls' := [some (.ref 396), some (.int (nI a)), some (.int (nI b))]) (st' := [.ref 396]) (h' := (N, SH v T, up2 I 397 (23 + a) ((I 397 (23 + a)) ^^^ (1 <<< ((nI b) &&& 31))), L, Dd)) rfl ?_
  refine Ev.getf (sX7_turnsLink_15.lk 1 (q := (16, .getfield 7, 7, 0)) rfl) rfl rfl (sX7_turnsLink_15.dc 1 (q := (16, .getfield 7, 7, 0)) rfl) ?_
  show Ev _ _ _ _ _ _ 19 [some (.ref 396), some (.int (nI a)), some (.int (nI b))] [.ref 397] (N, SH v T, up2 I 397 (23 + a) ((I 397 (23 + a)) ^^^ (1 <<< ((nI b) &&& 31))), L, Dd)
  refine Ev.sg hX (sX7_turnsLink_15.sub 2 4) (pc' := 24) (ls' := [some (.ref 396), some (.int (nI a)), some (.int (nI b))]) (st' := [.int (23 + (nI b)), .ref 397, .int (23 + (nI b)), .ref 397]) (h' := (N, SH v T, up2 I 397 (23 + a) ((I 397 (23 + a)) ^^^ (1 <<< ((nI b) &&& 31))), L, Dd)) rfl ?_
  refine Ev.ialdE (n := (23 + b)) (N := 179) rfl (naI rfl rfl) (by omega) (by decide) dX7_turnsLink_24 ?_
  show Ev _ _ _ _ _ _ 25 [some (.ref 396), some (.int (nI a)), some (.int (nI b))] [.int ((up2 I 397 (23 + a) ((I 397 (23 + a)) ^^^ (1 <<< ((nI b) &&& 31)))) 397 (23 + b)), .int (23 + (nI b)), .ref 397] (N, SH v T, up2 I 397 (23 + a) ((I 397 (23 + a)) ^^^ (1 <<< ((nI b) &&& 31))), L, Dd)
  refine Ev.sg hX (sX7_turnsLink_25.sub 0 4) (pc' := 29) (ls' := [some (.ref 396), some (.int (nI a)), some (.int (nI b))]) (st' := [.int (((up2 I 397 (23 + a) ((I 397 (23 + a)) ^^^ (1 <<< ((nI b) &&& 31)))) 397 (23 + b)) ^^^ (1 <<< ((nI a) &&& 31))), .int (23 + (nI b)), .ref 397]) (h' := (N, SH v T, up2 I 397 (23 + a) ((I 397 (23 + a)) ^^^ (1 <<< ((nI b) &&& 31))), L, Dd)) rfl ?_
  refine Ev.iastE (n := (23 + b)) (N := 179) hX rfl (naI rfl rfl) (by omega) (by decide) dX7_turnsLink_29 ?_
  show Ev _ _ _ _ _ _ 30 [some (.ref 396), some (.int (nI a)), some (.int (nI b))] [] (N, SH v T, up2 (up2 I 397 (23 + a) ((I 397 (23 + a)) ^^^ (1 <<< ((nI b) &&& 31)))) 397 (23 + b) (((up2 I 397 (23 + a) ((I 397 (23 + a)) ^^^ (1 <<< ((nI b) &&& 31)))) 397 (23 + b)) ^^^ (1 <<< ((nI a) &&& 31))), L, Dd)
  show Ev _ _ _ _ _ _ 30 [some (.ref 396), some (.int (nI a)), some (.int (nI b))] [] (N, SH v T, tlM I a b, L, Dd)
  refine Ev.sg hX (sX7_turnsLink_30.sub 0 2) (pc' := 32) (ls' := [some (.ref 396), some (.int (nI a)), some (.int (nI b))]) (st' := [.ref 396, .ref 396]) (h' := (N, SH v T, tlM I a b, L, Dd)) rfl ?_
  refine Ev.callV (As := []) (rest := [.ref 396]) dvX7_links mkX7_91 rfl rfl dX7_turnsLink_32 (m_links (d := d - 1) (I := (tlM I a b)) hX (by omega) hz8 ((tlM_i (by omega) (by omega)).trans hz)) ⟨by omega, by show 4 + 19 + 40 * _ ≤ 40 * _; omega⟩ ⟨Nat.zero_le _, Nat.zero_le _⟩ rfl (Nat.le_of_ble_eq_true rfl) (fun v9 h9 e9 => ?_) (fun E9 h9 e9 => nomatch e9)
  cases e9
  show Ev _ _ _ _ _ _ 35 [some (.ref 396), some (.int (nI a)), some (.int (nI b))] [.int (liM (tlM I a b) z), .ref 396] (N, SH v T, tlM I a b, L, Dd)
  refine Ev.callV (As := [.int (liM (tlM I a b) z)]) (rest := []) dvX7_done mkX7_79 rfl rfl dX7_turnsLink_35 (m_done (d := d - 1) (I := (tlM I a b)) hX (by omega)) ⟨by omega, by show 2 + 19 + 40 * _ ≤ 40 * _; omega⟩ ⟨Nat.zero_le _, Nat.zero_le _⟩ rfl (Nat.le_of_ble_eq_true rfl) (fun v9 h9 e9 => ?_) (fun E9 h9 e9 => nomatch e9)
  cases e9
  show Ev _ _ _ _ _ _ 38 [some (.ref 396), some (.int (nI a)), some (.int (nI b))] [.int (liM (tlM I a b) z)] (N, SH v T, up2 (tlM I a b) 396 12 0, L, Dd)
  refine Ev.iret dX7_turnsLink_38 rfl ?_
  rfl
theorem m_connects (hX : JXok X) (hd : 4 ≤ d) (hz8 : z ≤ 8) (hz : I 397 0 = nI z) : MT X d 0 0 jdX7_connects [.ref 396, .int c, .int e] (N, SH v T, I, L, Dd) (fun R => R = .inl (some (.int (cnM I z c e).1), (N, SH v T, (cnM I z c e).2, L, Dd))) := by
  refine MT.mk dvX7_connects.1 ?_
  refine Ev.sg hX (sX7_connects_0.sub 0 3) (pc' := 3) (ls' := [some (.ref 396), some (.int c), some (.int e)]) (st' := [.int e, .int c, .ref 396]) (h' := (N, SH v T, I, L, Dd)) rfl ?_
  refine Ev.callV (As := [.int c, .int e]) (rest := []) dvX7_areTracks mkX7_95 rfl rfl dX7_connects_3 (m_areTracks (d := d - 1) (I := I) hX (by omega)) ⟨by omega, by show 3 + 19 + 40 * _ ≤ 40 * _; omega⟩ ⟨Nat.zero_le _, Nat.zero_le _⟩ rfl (Nat.le_of_ble_eq_true rfl) (fun v9 h9 e9 => ?_) (fun E9 h9 e9 => nomatch e9)
  cases e9
  show Ev _ _ _ _ _ _ 6 [some (.ref 396), some (.int c), some (.int e)] [.int (bi (tkM I c ∧ tkM I e))] (N, SH v T, I, L, Dd)
  refine Ev.if_ne (tgt := 15) dX7_connects_6 (by decide) (fun b1 => ?_) (fun b1 => ?_)
  · have htt := bi_1.mp b1
    obtain ⟨x, hx, rfl⟩ := tkM_nI hz8 hz htt.1
    obtain ⟨y, hy, rfl⟩ := tkM_nI hz8 hz htt.2
    have hcx : (nI x).toNatClampNeg = x := nI_clamp (by omega)
    have hcy : (nI y).toNatClampNeg = y := nI_clamp (by omega)
    refine Ev.sg hX (sX7_connects_15.sub 0 2) (pc' := 17) (ls' := [some (.ref 396), some (.int (nI x)), some (.int (nI y))]) (st' := [.int (nI y), .int (nI x)]) (h' := (N, SH v T, I, L, Dd)) rfl ?_
    refine Ev.icmp_ne (tgt := 26) dX7_connects_17 (by decide) (fun b2 => ?_) (fun b2 => ?_)
    · refine Ev.sg hX (sX7_connects_26.sub 0 3) (pc' := 29) (ls' := [some (.ref 396), some (.int (nI x)), some (.int (nI y))]) (st' := [.int (nI y), .int (nI x), .ref 396]) (h' := (N, SH v T, I, L, Dd)) rfl ?_
      refine Ev.callV (As := [.int (nI x), .int (nI y)]) (rest := []) dvX7_isLinked mkX7_67 rfl rfl dX7_connects_29 (m_isLinked (d := d - 1) (I := I) (a := x) (b := y) hX (by omega) (by omega)) ⟨by omega, by show 3 + 19 + 40 * _ ≤ 40 * _; omega⟩ ⟨Nat.zero_le _, Nat.zero_le _⟩ rfl (Nat.le_of_ble_eq_true rfl) (fun v9 h9 e9 => ?_) (fun E9 h9 e9 => nomatch e9)
      cases e9
      show Ev _ _ _ _ _ _ 32 [some (.ref 396), some (.int (nI x)), some (.int (nI y))] [.int (bi (lkM I x y))] (N, SH v T, I, L, Dd)
      refine Ev.if_eq (tgt := 43) dX7_connects_32 (by decide) (fun b3 => ?_) (fun b3 => ?_)
      · refine Ev.sg hX (sX7_connects_43.sub 0 3) (pc' := 46) (ls' := [some (.ref 396), some (.int (nI x)), some (.int (nI y))]) (st' := [.int (nI y), .int (nI x), .ref 396]) (h' := (N, SH v T, I, L, Dd)) rfl ?_
        refine Ev.callV (As := [.int (nI x), .int (nI y)]) (rest := []) dvX7_turnsLink mkX7_98 rfl rfl dX7_connects_46 (m_turnsLink (d := d - 1) (I := I) (a := x) (b := y) hX (by omega) hz8 hz (by omega) (by omega)) ⟨by omega, by show 3 + 19 + 40 * _ ≤ 40 * _; omega⟩ ⟨Nat.zero_le _, Nat.zero_le _⟩ rfl (Nat.le_of_ble_eq_true rfl) (fun v9 h9 e9 => ?_) (fun E9 h9 e9 => nomatch e9)
        cases e9
        show Ev _ _ _ _ _ _ 49 [some (.ref 396), some (.int (nI x)), some (.int (nI y))] [.int (liM (tlM I x y) z)] (N, SH v T, up2 (tlM I x y) 396 12 0, L, Dd)
        refine Ev.iret dX7_connects_49 rfl ?_
        rw [cnM, if_neg (fun z => z htt), if_neg b2, hcx, hcy, if_neg (bi_0.mp b3)]
      · refine Ev.sg hX (sX7_connects_35.sub 0 2) (pc' := 37) (ls' := [some (.ref 396), some (.int (nI x)), some (.int (nI y))]) (st' := [.int 3, .ref 396]) (h' := (N, SH v T, I, L, Dd)) rfl ?_
        refine Ev.callV (As := [.int 3]) (rest := []) dvX7_fails mkX7_75 rfl rfl dX7_connects_37 (m_fails (d := d - 1) (I := I) hX (by omega)) ⟨by omega, by show 2 + 19 + 40 * _ ≤ 40 * _; omega⟩ ⟨Nat.zero_le _, Nat.zero_le _⟩ rfl (Nat.le_of_ble_eq_true rfl) (fun v9 h9 e9 => ?_) (fun E9 h9 e9 => nomatch e9)
        cases e9
        show Ev _ _ _ _ _ _ 40 [some (.ref 396), some (.int (nI x)), some (.int (nI y))] [.int 0] (N, SH v T, up2 I 396 12 3, L, Dd)
        refine Ev.sg hX (sX7_connects_40.sub 0 1) (pc' := 49) (ls' := [some (.ref 396), some (.int (nI x)), some (.int (nI y))]) (st' := [.int 0]) (h' := (N, SH v T, up2 I 396 12 3, L, Dd)) rfl ?_
        refine Ev.iret dX7_connects_49 rfl ?_
        rw [cnM, if_neg (fun z => z htt), if_neg b2, hcx, hcy, if_pos (bi_1.mp b3)]
    · refine Ev.sg hX (sX7_connects_20.sub 0 2) (pc' := 22) (ls' := [some (.ref 396), some (.int (nI x)), some (.int (nI y))]) (st' := [.int 2, .ref 396]) (h' := (N, SH v T, I, L, Dd)) rfl ?_
      refine Ev.callV (As := [.int 2]) (rest := []) dvX7_fails mkX7_75 rfl rfl dX7_connects_22 (m_fails (d := d - 1) (I := I) hX (by omega)) ⟨by omega, by show 2 + 19 + 40 * _ ≤ 40 * _; omega⟩ ⟨Nat.zero_le _, Nat.zero_le _⟩ rfl (Nat.le_of_ble_eq_true rfl) (fun v9 h9 e9 => ?_) (fun E9 h9 e9 => nomatch e9)
      cases e9
      show Ev _ _ _ _ _ _ 25 [some (.ref 396), some (.int (nI x)), some (.int (nI y))] [.int 0] (N, SH v T, up2 I 396 12 2, L, Dd)
      refine Ev.iret dX7_connects_25 rfl ?_
      rw [cnM, if_neg (fun z => z htt), if_pos b2]
  · refine Ev.sg hX (sX7_connects_9.sub 0 2) (pc' := 11) (ls' := [some (.ref 396), some (.int c), some (.int e)]) (st' := [.int 1, .ref 396]) (h' := (N, SH v T, I, L, Dd)) rfl ?_
    refine Ev.callV (As := [.int 1]) (rest := []) dvX7_fails mkX7_75 rfl rfl dX7_connects_11 (m_fails (d := d - 1) (I := I) hX (by omega)) ⟨by omega, by show 2 + 19 + 40 * _ ≤ 40 * _; omega⟩ ⟨Nat.zero_le _, Nat.zero_le _⟩ rfl (Nat.le_of_ble_eq_true rfl) (fun v9 h9 e9 => ?_) (fun E9 h9 e9 => nomatch e9)
    cases e9
    show Ev _ _ _ _ _ _ 14 [some (.ref 396), some (.int c), some (.int e)] [.int 0] (N, SH v T, up2 I 396 12 1, L, Dd)
    refine Ev.iret dX7_connects_14 rfl ?_
    rw [cnM, if_pos (bi_0.mp b1)]
theorem m_disconnects (hX : JXok X) (hd : 4 ≤ d) (hz8 : z ≤ 8) (hz : I 397 0 = nI z) : MT X d 0 0 jdX7_disconnects [.ref 396, .int c, .int e] (N, SH v T, I, L, Dd) (fun R => R = .inl (some (.int (dcM I z c e).1), (N, SH v T, (dcM I z c e).2, L, Dd))) := by
  refine MT.mk dvX7_disconnects.1 ?_
  refine Ev.sg hX (sX7_disconnects_0.sub 0 3) (pc' := 3) (ls' := [some (.ref 396), some (.int c), some (.int e)]) (st' := [.int e, .int c, .ref 396]) (h' := (N, SH v T, I, L, Dd)) rfl ?_
  refine Ev.callV (As := [.int c, .int e]) (rest := []) dvX7_areTracks mkX7_95 rfl rfl dX7_disconnects_3 (m_areTracks (d := d - 1) (I := I) hX (by omega)) ⟨by omega, by show 3 + 19 + 40 * _ ≤ 40 * _; omega⟩ ⟨Nat.zero_le _, Nat.zero_le _⟩ rfl (Nat.le_of_ble_eq_true rfl) (fun v9 h9 e9 => ?_) (fun E9 h9 e9 => nomatch e9)
  cases e9
  show Ev _ _ _ _ _ _ 6 [some (.ref 396), some (.int c), some (.int e)] [.int (bi (tkM I c ∧ tkM I e))] (N, SH v T, I, L, Dd)
  refine Ev.if_ne (tgt := 15) dX7_disconnects_6 (by decide) (fun b1 => ?_) (fun b1 => ?_)
  · have htt := bi_1.mp b1
    obtain ⟨x, hx, rfl⟩ := tkM_nI hz8 hz htt.1
    obtain ⟨y, hy, rfl⟩ := tkM_nI hz8 hz htt.2
    have hcx : (nI x).toNatClampNeg = x := nI_clamp (by omega)
    have hcy : (nI y).toNatClampNeg = y := nI_clamp (by omega)
    refine Ev.sg hX (sX7_disconnects_15.sub 0 3) (pc' := 18) (ls' := [some (.ref 396), some (.int (nI x)), some (.int (nI y))]) (st' := [.int (nI y), .int (nI x), .ref 396]) (h' := (N, SH v T, I, L, Dd)) rfl ?_
    refine Ev.callV (As := [.int (nI x), .int (nI y)]) (rest := []) dvX7_isLinked mkX7_67 rfl rfl dX7_disconnects_18 (m_isLinked (d := d - 1) (I := I) (a := x) (b := y) hX (by omega) (by omega)) ⟨by omega, by show 3 + 19 + 40 * _ ≤ 40 * _; omega⟩ ⟨Nat.zero_le _, Nat.zero_le _⟩ rfl (Nat.le_of_ble_eq_true rfl) (fun v9 h9 e9 => ?_) (fun E9 h9 e9 => nomatch e9)
    cases e9
    show Ev _ _ _ _ _ _ 21 [some (.ref 396), some (.int (nI x)), some (.int (nI y))] [.int (bi (lkM I x y))] (N, SH v T, I, L, Dd)
    refine Ev.if_eq (tgt := 33) dX7_disconnects_21 (by decide) (fun b2 => ?_) (fun b2 => ?_)
    · refine Ev.sg hX (sX7_disconnects_33.sub 0 2) (pc' := 35) (ls' := [some (.ref 396), some (.int (nI x)), some (.int (nI y))]) (st' := [.int 2, .ref 396]) (h' := (N, SH v T, I, L, Dd)) rfl ?_
      refine Ev.callV (As := [.int 2]) (rest := []) dvX7_fails mkX7_75 rfl rfl dX7_disconnects_35 (m_fails (d := d - 1) (I := I) hX (by omega)) ⟨by omega, by show 2 + 19 + 40 * _ ≤ 40 * _; omega⟩ ⟨Nat.zero_le _, Nat.zero_le _⟩ rfl (Nat.le_of_ble_eq_true rfl) (fun v9 h9 e9 => ?_) (fun E9 h9 e9 => nomatch e9)
      cases e9
      show Ev _ _ _ _ _ _ 38 [some (.ref 396), some (.int (nI x)), some (.int (nI y))] [.int 0] (N, SH v T, up2 I 396 12 2, L, Dd)
      refine Ev.iret dX7_disconnects_38 rfl ?_
      rw [dcM, if_neg (fun z => z htt), hcx, hcy, if_neg (bi_0.mp b2)]
    · refine Ev.sg hX (sX7_disconnects_24.sub 0 3) (pc' := 27) (ls' := [some (.ref 396), some (.int (nI x)), some (.int (nI y))]) (st' := [.int (nI y), .int (nI x), .ref 396]) (h' := (N, SH v T, I, L, Dd)) rfl ?_
      refine Ev.callV (As := [.int (nI x), .int (nI y)]) (rest := []) dvX7_turnsLink mkX7_98 rfl rfl dX7_disconnects_27 (m_turnsLink (d := d - 1) (I := I) (a := x) (b := y) hX (by omega) hz8 hz (by omega) (by omega)) ⟨by omega, by show 3 + 19 + 40 * _ ≤ 40 * _; omega⟩ ⟨Nat.zero_le _, Nat.zero_le _⟩ rfl (Nat.le_of_ble_eq_true rfl) (fun v9 h9 e9 => ?_) (fun E9 h9 e9 => nomatch e9)
      cases e9
      show Ev _ _ _ _ _ _ 30 [some (.ref 396), some (.int (nI x)), some (.int (nI y))] [.int (liM (tlM I x y) z)] (N, SH v T, up2 (tlM I x y) 396 12 0, L, Dd)
      refine Ev.sg hX (sX7_disconnects_30.sub 0 1) (pc' := 38) (ls' := [some (.ref 396), some (.int (nI x)), some (.int (nI y))]) (st' := [.int (liM (tlM I x y) z)]) (h' := (N, SH v T, up2 (tlM I x y) 396 12 0, L, Dd)) rfl ?_
      refine Ev.iret dX7_disconnects_38 rfl ?_
      rw [dcM, if_neg (fun z => z htt), hcx, hcy, if_pos (bi_1.mp b2)]
  · refine Ev.sg hX (sX7_disconnects_9.sub 0 2) (pc' := 11) (ls' := [some (.ref 396), some (.int c), some (.int e)]) (st' := [.int 1, .ref 396]) (h' := (N, SH v T, I, L, Dd)) rfl ?_
    refine Ev.callV (As := [.int 1]) (rest := []) dvX7_fails mkX7_75 rfl rfl dX7_disconnects_11 (m_fails (d := d - 1) (I := I) hX (by omega)) ⟨by omega, by show 2 + 19 + 40 * _ ≤ 40 * _; omega⟩ ⟨Nat.zero_le _, Nat.zero_le _⟩ rfl (Nat.le_of_ble_eq_true rfl) (fun v9 h9 e9 => ?_) (fun E9 h9 e9 => nomatch e9)
    cases e9
    show Ev _ _ _ _ _ _ 14 [some (.ref 396), some (.int c), some (.int e)] [.int 0] (N, SH v T, up2 I 396 12 1, L, Dd)
    refine Ev.iret dX7_disconnects_14 rfl ?_
    rw [dcM, if_pos (bi_0.mp b1)]
theorem m_addsCar (hX : JXok X) (hd : 4 ≤ d) (hm20 : m ≤ 20) (hm : I 397 1 = nI m) (hz8 : z ≤ 8) (hz : I 397 0 = nI z) : MT X d 0 0 jdX7_addsCar [.ref 396, .int t, .int le, .int we, .int de, .int b] (N, SH v T, I, L, Dd) (fun R => R = .inl (some (.int (accM I m t le we de b).1), (N, SH v T, (accM I m t le we de b).2, L, Dd))) := by
  refine MT.mk dvX7_addsCar.1 ?_
  refine Ev.sg hX (sX7_addsCar_0.sub 0 2) (pc' := 2) (ls' := [some (.ref 396), some (.int t), some (.int le), some (.int we), some (.int de), some (.int b), none]) (st' := [.int t, .ref 396]) (h' := (N, SH v T, I, L, Dd)) rfl ?_
  refine Ev.callV (As := [.int t]) (rest := []) dvX7_isTrack mkX7_56 rfl rfl dX7_addsCar_2 (m_isTrack (d := d - 1) (I := I) hX (by omega)) ⟨by omega, by show 2 + 19 + 40 * _ ≤ 40 * _; omega⟩ ⟨Nat.zero_le _, Nat.zero_le _⟩ rfl (Nat.le_of_ble_eq_true rfl) (fun v9 h9 e9 => ?_) (fun E9 h9 e9 => nomatch e9)
  cases e9
  show Ev _ _ _ _ _ _ 5 [some (.ref 396), some (.int t), some (.int le), some (.int we), some (.int de), some (.int b), none] [.int (bi (tkM I t))] (N, SH v T, I, L, Dd)
  refine Ev.if_ne (tgt := 14) dX7_addsCar_5 (by decide) (fun b1 => ?_) (fun b1 => ?_)
  · have htt := bi_1.mp b1
    obtain ⟨x, hx, rfl⟩ := tkM_nI hz8 hz htt
    have hcx : (nI x).toNatClampNeg = x := nI_clamp (by omega)
    refine Ev.sg hX (sX7_addsCar_14.sub 0 3) (pc' := 18) (ls' := [some (.ref 396), some (.int (nI x)), some (.int le), some (.int we), some (.int de), some (.int b), none]) (st' := [.int 30, .int 5, .int le]) (h' := (N, SH v T, I, L, Dd)) rfl ?_
    refine Ev.callS (As := [.int le, .int 5, .int 30]) (rest := []) dsX7_in mkX7_52 dX7_addsCar_18 (m_in (d := d - 1) hX (by omega)) ⟨by omega, by show 3 + 19 + 40 * _ ≤ 40 * _; omega⟩ ⟨Nat.zero_le _, Nat.zero_le _⟩ rfl (Nat.le_of_ble_eq_true rfl) (fun v9 h9 e9 => ?_) (fun E9 h9 e9 => nomatch e9)
    cases e9
    show Ev _ _ _ _ _ _ 21 [some (.ref 396), some (.int (nI x)), some (.int le), some (.int we), some (.int de), some (.int b), none] [.int (bi (5 ≤ le ∧ le ≤ 30))] (N, SH v T, I, L, Dd)
    refine Ev.if_eq (tgt := 46) dX7_addsCar_21 (by decide) (fun b2 => ?_) (fun b2 => ?_)
    · refine Ev.sg hX (sX7_addsCar_46.sub 0 2) (pc' := 48) (ls' := [some (.ref 396), some (.int (nI x)), some (.int le), some (.int we), some (.int de), some (.int b), none]) (st' := [.int 2, .ref 396]) (h' := (N, SH v T, I, L, Dd)) rfl ?_
      refine Ev.callV (As := [.int 2]) (rest := []) dvX7_fails mkX7_75 rfl rfl dX7_addsCar_48 (m_fails (d := d - 1) (I := I) hX (by omega)) ⟨by omega, by show 2 + 19 + 40 * _ ≤ 40 * _; omega⟩ ⟨Nat.zero_le _, Nat.zero_le _⟩ rfl (Nat.le_of_ble_eq_true rfl) (fun v9 h9 e9 => ?_) (fun E9 h9 e9 => nomatch e9)
      cases e9
      show Ev _ _ _ _ _ _ 51 [some (.ref 396), some (.int (nI x)), some (.int le), some (.int we), some (.int de), some (.int b), none] [.int 0] (N, SH v T, up2 I 396 12 2, L, Dd)
      refine Ev.iret dX7_addsCar_51 rfl ?_
      rw [accM, if_neg (fun z => z htt), if_pos (fun z => (bi_0.mp b2) z.1)]
    · refine Ev.sg hX (sX7_addsCar_24.sub 0 3) (pc' := 29) (ls' := [some (.ref 396), some (.int (nI x)), some (.int le), some (.int we), some (.int de), some (.int b), none]) (st' := [.int 90, .int 10, .int we]) (h' := (N, SH v T, I, L, Dd)) rfl ?_
      refine Ev.callS (As := [.int we, .int 10, .int 90]) (rest := []) dsX7_in mkX7_52 dX7_addsCar_29 (m_in (d := d - 1) hX (by omega)) ⟨by omega, by show 3 + 19 + 40 * _ ≤ 40 * _; omega⟩ ⟨Nat.zero_le _, Nat.zero_le _⟩ rfl (Nat.le_of_ble_eq_true rfl) (fun v9 h9 e9 => ?_) (fun E9 h9 e9 => nomatch e9)
      cases e9
      show Ev _ _ _ _ _ _ 32 [some (.ref 396), some (.int (nI x)), some (.int le), some (.int we), some (.int de), some (.int b), none] [.int (bi (10 ≤ we ∧ we ≤ 90))] (N, SH v T, I, L, Dd)
      refine Ev.if_eq (tgt := 46) dX7_addsCar_32 (by decide) (fun b3 => ?_) (fun b3 => ?_)
      · refine Ev.sg hX (sX7_addsCar_46.sub 0 2) (pc' := 48) (ls' := [some (.ref 396), some (.int (nI x)), some (.int le), some (.int we), some (.int de), some (.int b), none]) (st' := [.int 2, .ref 396]) (h' := (N, SH v T, I, L, Dd)) rfl ?_
        refine Ev.callV (As := [.int 2]) (rest := []) dvX7_fails mkX7_75 rfl rfl dX7_addsCar_48 (m_fails (d := d - 1) (I := I) hX (by omega)) ⟨by omega, by show 2 + 19 + 40 * _ ≤ 40 * _; omega⟩ ⟨Nat.zero_le _, Nat.zero_le _⟩ rfl (Nat.le_of_ble_eq_true rfl) (fun v9 h9 e9 => ?_) (fun E9 h9 e9 => nomatch e9)
        cases e9
        show Ev _ _ _ _ _ _ 51 [some (.ref 396), some (.int (nI x)), some (.int le), some (.int we), some (.int de), some (.int b), none] [.int 0] (N, SH v T, up2 I 396 12 2, L, Dd)
        refine Ev.iret dX7_addsCar_51 rfl ?_
        rw [accM, if_neg (fun z => z htt), if_pos (fun z => (bi_0.mp b3) z.2.1)]
      · refine Ev.sg hX (sX7_addsCar_35.sub 0 3) (pc' := 40) (ls' := [some (.ref 396), some (.int (nI x)), some (.int le), some (.int we), some (.int de), some (.int b), none]) (st' := [.int 9, .int 0, .int de]) (h' := (N, SH v T, I, L, Dd)) rfl ?_
        refine Ev.callS (As := [.int de, .int 0, .int 9]) (rest := []) dsX7_in mkX7_52 dX7_addsCar_40 (m_in (d := d - 1) hX (by omega)) ⟨by omega, by show 3 + 19 + 40 * _ ≤ 40 * _; omega⟩ ⟨Nat.zero_le _, Nat.zero_le _⟩ rfl (Nat.le_of_ble_eq_true rfl) (fun v9 h9 e9 => ?_) (fun E9 h9 e9 => nomatch e9)
        cases e9
        show Ev _ _ _ _ _ _ 43 [some (.ref 396), some (.int (nI x)), some (.int le), some (.int we), some (.int de), some (.int b), none] [.int (bi (0 ≤ de ∧ de ≤ 9))] (N, SH v T, I, L, Dd)
        refine Ev.if_ne (tgt := 52) dX7_addsCar_43 (by decide) (fun b4 => ?_) (fun b4 => ?_)
        · refine Ev.sg hX (sX7_addsCar_52.sub 0 1) (pc' := 53) (ls' := [some (.ref 396), some (.int (nI x)), some (.int le), some (.int we), some (.int de), some (.int b), none]) (st' := [.ref 396]) (h' := (N, SH v T, I, L, Dd)) rfl ?_
          refine Ev.getf (sX7_addsCar_52.lk 1 (q := (53, .getfield 7, 7, 0)) rfl) rfl rfl (sX7_addsCar_52.dc 1 (q := (53, .getfield 7, 7, 0)) rfl) ?_
          show Ev _ _ _ _ _ _ 56 [some (.ref 396), some (.int (nI x)), some (.int le), some (.int we), some (.int de), some (.int b), none] [.ref 397] (N, SH v T, I, L, Dd)
          refine Ev.sg hX (sX7_addsCar_52.sub 2 1) (pc' := 57) (ls' := [some (.ref 396), some (.int (nI x)), some (.int le), some (.int we), some (.int de), some (.int b), none]) (st' := [.int 1, .ref 397]) (h' := (N, SH v T, I, L, Dd)) rfl ?_
          refine Ev.ialdE (n := 1) (N := 179) rfl rfl (by omega) (by decide) (sX7_addsCar_52.dc 3 (q := (57, .iaload, 0, 0)) rfl) ?_
          show Ev _ _ _ _ _ _ 58 [some (.ref 396), some (.int (nI x)), some (.int le), some (.int we), some (.int de), some (.int b), none] [.int (I 397 1)] (N, SH v T, I, L, Dd)
          refine Ev.eqst (st' := [.int (nI m)]) (by rw [show I 397 1 = nI m from (hm)]) ?_
          refine Ev.sg hX (sX7_addsCar_52.sub 4 3) (pc' := 64) (ls' := [some (.ref 396), some (.int (nI x)), some (.int le), some (.int we), some (.int de), some (.int b), some (.int (nI m))]) (st' := [.int 20, .int (nI m)]) (h' := (N, SH v T, I, L, Dd)) rfl ?_
          refine Ev.icmp_ne (tgt := 73) dX7_addsCar_64 (by decide) (fun b5 => ?_) (fun b5 => ?_)
          · refine Ev.sg hX (sX7_addsCar_73.sub 0 2) (pc' := 75) (ls' := [some (.ref 396), some (.int (nI x)), some (.int le), some (.int we), some (.int de), some (.int b), some (.int (nI m))]) (st' := [.int (nI x), .ref 396]) (h' := (N, SH v T, I, L, Dd)) rfl ?_
            refine Ev.callV (As := [.int (nI x)]) (rest := []) dvX7_room mkX7_107 rfl rfl dX7_addsCar_75 (m_room (d := d - 1) (I := I) (t := x) hX (by omega) hm20 hm (by omega)) ⟨by omega, by show 2 + 19 + 40 * _ ≤ 40 * _; omega⟩ ⟨Nat.zero_le _, Nat.zero_le _⟩ rfl (Nat.le_of_ble_eq_true rfl) (fun v9 h9 e9 => ?_) (fun E9 h9 e9 => nomatch e9)
            cases e9
            show Ev _ _ _ _ _ _ 78 [some (.ref 396), some (.int (nI x)), some (.int le), some (.int we), some (.int de), some (.int b), some (.int (nI m))] [.int (roM I m x)] (N, SH v T, I, L, Dd)
            refine Ev.sg hX (sX7_addsCar_78.sub 0 1) (pc' := 79) (ls' := [some (.ref 396), some (.int (nI x)), some (.int le), some (.int we), some (.int de), some (.int b), some (.int (nI m))]) (st' := [.int le, .int (roM I m x)]) (h' := (N, SH v T, I, L, Dd)) rfl ?_
            refine Ev.icmp_ge (tgt := 88) dX7_addsCar_79 (by decide) (fun b6 => ?_) (fun b6 => ?_)
            · have hm2 : m < 20 := by have : ¬ m = 20 := fun z9 => b5 (by rw [z9]; rfl); omega
              refine Ev.sg hX (sX7_addsCar_88.sub 0 1) (pc' := 89) (ls' := [some (.ref 396), some (.int (nI x)), some (.int le), some (.int we), some (.int de), some (.int b), some (.int (nI m))]) (st' := [.ref 396]) (h' := (N, SH v T, I, L, Dd)) rfl ?_
              refine Ev.getf (sX7_addsCar_88.lk 1 (q := (89, .getfield 7, 7, 0)) rfl) rfl rfl (sX7_addsCar_88.dc 1 (q := (89, .getfield 7, 7, 0)) rfl) ?_
              show Ev _ _ _ _ _ _ 92 [some (.ref 396), some (.int (nI x)), some (.int le), some (.int we), some (.int de), some (.int b), some (.int (nI m))] [.ref 397] (N, SH v T, I, L, Dd)
              refine Ev.sg hX (sX7_addsCar_88.sub 2 4) (pc' := 98) (ls' := [some (.ref 396), some (.int (nI x)), some (.int le), some (.int we), some (.int de), some (.int b), some (.int (nI m))]) (st' := [.ref 396, .int (39 + (nI m)), .ref 397]) (h' := (N, SH v T, I, L, Dd)) rfl ?_
              refine Ev.getf (sX7_addsCar_88.lk 6 (q := (98, .getfield 7, 7, 0)) rfl) rfl rfl (sX7_addsCar_88.dc 6 (q := (98, .getfield 7, 7, 0)) rfl) ?_
              show Ev _ _ _ _ _ _ 101 [some (.ref 396), some (.int (nI x)), some (.int le), some (.int we), some (.int de), some (.int b), some (.int (nI m))] [.ref 397, .int (39 + (nI m)), .ref 397] (N, SH v T, I, L, Dd)
              refine Ev.sg hX (sX7_addsCar_88.sub 7 1) (pc' := 102) (ls' := [some (.ref 396), some (.int (nI x)), some (.int le), some (.int we), some (.int de), some (.int b), some (.int (nI m))]) (st' := [.int 2, .ref 397, .int (39 + (nI m)), .ref 397]) (h' := (N, SH v T, I, L, Dd)) rfl ?_
              refine Ev.ialdE (n := 2) (N := 179) rfl rfl (by omega) (by decide) (sX7_addsCar_88.dc 8 (q := (102, .iaload, 0, 0)) rfl) ?_
              show Ev _ _ _ _ _ _ 103 [some (.ref 396), some (.int (nI x)), some (.int le), some (.int we), some (.int de), some (.int b), some (.int (nI m))] [.int (I 397 2), .int (39 + (nI m)), .ref 397] (N, SH v T, I, L, Dd)
              refine Ev.iastE (n := (39 + m)) (N := 179) hX rfl (naI rfl rfl) (by omega) (by decide) dX7_addsCar_103 ?_
              show Ev _ _ _ _ _ _ 104 [some (.ref 396), some (.int (nI x)), some (.int le), some (.int we), some (.int de), some (.int b), some (.int (nI m))] [] (N, SH v T, up2 I 397 (39 + m) (I 397 2), L, Dd)
              refine Ev.sg hX (sX7_addsCar_104.sub 0 1) (pc' := 105) (ls' := [some (.ref 396), some (.int (nI x)), some (.int le), some (.int we), some (.int de), some (.int b), some (.int (nI m))]) (st' := [.ref 396]) (h' := (N, SH v T, up2 I 397 (39 + m) (I 397 2), L, Dd)) rfl ?_
              refine Ev.getf (sX7_addsCar_104.lk 1 (q := (105, .getfield 7, 7, 0)) rfl) rfl rfl (sX7_addsCar_104.dc 1 (q := (105, .getfield 7, 7, 0)) rfl) ?_
              show Ev _ _ _ _ _ _ 108 [some (.ref 396), some (.int (nI x)), some (.int le), some (.int we), some (.int de), some (.int b), some (.int (nI m))] [.ref 397] (N, SH v T, up2 I 397 (39 + m) (I 397 2), L, Dd)
              refine Ev.sg hX (sX7_addsCar_104.sub 2 4) (pc' := 114) (ls' := [some (.ref 396), some (.int (nI x)), some (.int le), some (.int we), some (.int de), some (.int b), some (.int (nI m))]) (st' := [.int le, .int (59 + (nI m)), .ref 397]) (h' := (N, SH v T, up2 I 397 (39 + m) (I 397 2), L, Dd)) rfl ?_
              refine Ev.iastE (n := (59 + m)) (N := 179) hX rfl (naI rfl rfl) (by omega) (by decide) dX7_addsCar_114 ?_
              show Ev _ _ _ _ _ _ 115 [some (.ref 396), some (.int (nI x)), some (.int le), some (.int we), some (.int de), some (.int b), some (.int (nI m))] [] (N, SH v T, up2 (up2 I 397 (39 + m) (I 397 2)) 397 (59 + m) le, L, Dd)
              refine Ev.sg hX (sX7_addsCar_115.sub 0 1) (pc' := 116) (ls' := [some (.ref 396), some (.int (nI x)), some (.int le), some (.int we), some (.int de), some (.int b), some (.int (nI m))]) (st' := [.ref 396]) (h' := (N, SH v T, up2 (up2 I 397 (39 + m) (I 397 2)) 397 (59 + m) le, L, Dd)) rfl ?_
              refine Ev.getf (sX7_addsCar_115.lk 1 (q := (116, .getfield 7, 7, 0)) rfl) rfl rfl (sX7_addsCar_115.dc 1 (q := (116, .getfield 7, 7, 0)) rfl) ?_
              show Ev _ _ _ _ _ _ 119 [some (.ref 396), some (.int (nI x)), some (.int le), some (.int we), some (.int de), some (.int b), some (.int (nI m))] [.ref 397] (N, SH v T, up2 (up2 I 397 (39 + m) (I 397 2)) 397 (59 + m) le, L, Dd)
              refine Ev.sg hX (sX7_addsCar_115.sub 2 4) (pc' := 125) (ls' := [some (.ref 396), some (.int (nI x)), some (.int le), some (.int we), some (.int de), some (.int b), some (.int (nI m))]) (st' := [.int we, .int (79 + (nI m)), .ref 397]) (h' := (N, SH v T, up2 (up2 I 397 (39 + m) (I 397 2)) 397 (59 + m) le, L, Dd)) rfl ?_
              refine Ev.iastE (n := (79 + m)) (N := 179) hX rfl (naI rfl rfl) (by omega) (by decide) dX7_addsCar_125 ?_
              show Ev _ _ _ _ _ _ 126 [some (.ref 396), some (.int (nI x)), some (.int le), some (.int we), some (.int de), some (.int b), some (.int (nI m))] [] (N, SH v T, up2 (up2 (up2 I 397 (39 + m) (I 397 2)) 397 (59 + m) le) 397 (79 + m) we, L, Dd)
              refine Ev.sg hX (sX7_addsCar_126.sub 0 1) (pc' := 127) (ls' := [some (.ref 396), some (.int (nI x)), some (.int le), some (.int we), some (.int de), some (.int b), some (.int (nI m))]) (st' := [.ref 396]) (h' := (N, SH v T, up2 (up2 (up2 I 397 (39 + m) (I 397 2)) 397 (59 + m) le) 397 (79 + m) we, L, Dd)) rfl ?_
              refine Ev.getf (sX7_addsCar_126.lk 1 (q := (127, .getfield 7, 7, 0)) rfl) rfl rfl (sX7_addsCar_126.dc 1 (q := (127, .getfield 7, 7, 0)) rfl) ?_
              show Ev _ _ _ _ _ _ 130 [some (.ref 396), some (.int (nI x)), some (.int le), some (.int we), some (.int de), some (.int b), some (.int (nI m))] [.ref 397] (N, SH v T, up2 (up2 (up2 I 397 (39 + m) (I 397 2)) 397 (59 + m) le) 397 (79 + m) we, L, Dd)
              refine Ev.sg hX (sX7_addsCar_126.sub 2 4) (pc' := 137) (ls' := [some (.ref 396), some (.int (nI x)), some (.int le), some (.int we), some (.int de), some (.int b), some (.int (nI m))]) (st' := [.int de, .int (99 + (nI m)), .ref 397]) (h' := (N, SH v T, up2 (up2 (up2 I 397 (39 + m) (I 397 2)) 397 (59 + m) le) 397 (79 + m) we, L, Dd)) rfl ?_
              refine Ev.iastE (n := (99 + m)) (N := 179) hX rfl (naI rfl rfl) (by omega) (by decide) dX7_addsCar_137 ?_
              show Ev _ _ _ _ _ _ 138 [some (.ref 396), some (.int (nI x)), some (.int le), some (.int we), some (.int de), some (.int b), some (.int (nI m))] [] (N, SH v T, up2 (up2 (up2 (up2 I 397 (39 + m) (I 397 2)) 397 (59 + m) le) 397 (79 + m) we) 397 (99 + m) de, L, Dd)
              refine Ev.sg hX (sX7_addsCar_138.sub 0 1) (pc' := 139) (ls' := [some (.ref 396), some (.int (nI x)), some (.int le), some (.int we), some (.int de), some (.int b), some (.int (nI m))]) (st' := [.ref 396]) (h' := (N, SH v T, up2 (up2 (up2 (up2 I 397 (39 + m) (I 397 2)) 397 (59 + m) le) 397 (79 + m) we) 397 (99 + m) de, L, Dd)) rfl ?_
              refine Ev.getf (sX7_addsCar_138.lk 1 (q := (139, .getfield 7, 7, 0)) rfl) rfl rfl (sX7_addsCar_138.dc 1 (q := (139, .getfield 7, 7, 0)) rfl) ?_
              show Ev _ _ _ _ _ _ 142 [some (.ref 396), some (.int (nI x)), some (.int le), some (.int we), some (.int de), some (.int b), some (.int (nI m))] [.ref 397] (N, SH v T, up2 (up2 (up2 (up2 I 397 (39 + m) (I 397 2)) 397 (59 + m) le) 397 (79 + m) we) 397 (99 + m) de, L, Dd)
              refine Ev.sg hX (sX7_addsCar_138.sub 2 4) (pc' := 149) (ls' := [some (.ref 396), some (.int (nI x)), some (.int le), some (.int we), some (.int de), some (.int b), some (.int (nI m))]) (st' := [.int b, .int (119 + (nI m)), .ref 397]) (h' := (N, SH v T, up2 (up2 (up2 (up2 I 397 (39 + m) (I 397 2)) 397 (59 + m) le) 397 (79 + m) we) 397 (99 + m) de, L, Dd)) rfl ?_
              refine Ev.iastE (n := (119 + m)) (N := 179) hX rfl (naI rfl rfl) (by omega) (by decide) dX7_addsCar_149 ?_
              show Ev _ _ _ _ _ _ 150 [some (.ref 396), some (.int (nI x)), some (.int le), some (.int we), some (.int de), some (.int b), some (.int (nI m))] [] (N, SH v T, up2 (up2 (up2 (up2 (up2 I 397 (39 + m) (I 397 2)) 397 (59 + m) le) 397 (79 + m) we) 397 (99 + m) de) 397 (119 + m) b, L, Dd)
              refine Ev.sg hX (sX7_addsCar_150.sub 0 1) (pc' := 151) (ls' := [some (.ref 396), some (.int (nI x)), some (.int le), some (.int we), some (.int de), some (.int b), some (.int (nI m))]) (st' := [.ref 396]) (h' := (N, SH v T, up2 (up2 (up2 (up2 (up2 I 397 (39 + m) (I 397 2)) 397 (59 + m) le) 397 (79 + m) we) 397 (99 + m) de) 397 (119 + m) b, L, Dd)) rfl ?_
              refine Ev.getf (sX7_addsCar_150.lk 1 (q := (151, .getfield 7, 7, 0)) rfl) rfl rfl (sX7_addsCar_150.dc 1 (q := (151, .getfield 7, 7, 0)) rfl) ?_
              show Ev _ _ _ _ _ _ 154 [some (.ref 396), some (.int (nI x)), some (.int le), some (.int we), some (.int de), some (.int b), some (.int (nI m))] [.ref 397] (N, SH v T, up2 (up2 (up2 (up2 (up2 I 397 (39 + m) (I 397 2)) 397 (59 + m) le) 397 (79 + m) we) 397 (99 + m) de) 397 (119 + m) b, L, Dd)
              refine Ev.sg hX (sX7_addsCar_150.sub 2 4) (pc' := 161) (ls' := [some (.ref 396), some (.int (nI x)), some (.int le), some (.int we), some (.int de), some (.int b), some (.int (nI m))]) (st' := [.int (nI x), .int (139 + (nI m)), .ref 397]) (h' := (N, SH v T, up2 (up2 (up2 (up2 (up2 I 397 (39 + m) (I 397 2)) 397 (59 + m) le) 397 (79 + m) we) 397 (99 + m) de) 397 (119 + m) b, L, Dd)) rfl ?_
              refine Ev.iastE (n := (139 + m)) (N := 179) hX rfl (naI rfl rfl) (by omega) (by decide) dX7_addsCar_161 ?_
              show Ev _ _ _ _ _ _ 162 [some (.ref 396), some (.int (nI x)), some (.int le), some (.int we), some (.int de), some (.int b), some (.int (nI m))] [] (N, SH v T, up2 (up2 (up2 (up2 (up2 (up2 I 397 (39 + m) (I 397 2)) 397 (59 + m) le) 397 (79 + m) we) 397 (99 + m) de) 397 (119 + m) b) 397 (139 + m) (nI x), L, Dd)
              refine Ev.sg hX (sX7_addsCar_162.sub 0 1) (pc' := 163) (ls' := [some (.ref 396), some (.int (nI x)), some (.int le), some (.int we), some (.int de), some (.int b), some (.int (nI m))]) (st' := [.ref 396]) (h' := (N, SH v T, up2 (up2 (up2 (up2 (up2 (up2 I 397 (39 + m) (I 397 2)) 397 (59 + m) le) 397 (79 + m) we) 397 (99 + m) de) 397 (119 + m) b) 397 (139 + m) (nI x), L, Dd)) rfl ?_
              refine Ev.getf (sX7_addsCar_162.lk 1 (q := (163, .getfield 7, 7, 0)) rfl) rfl rfl (sX7_addsCar_162.dc 1 (q := (163, .getfield 7, 7, 0)) rfl) ?_
              show Ev _ _ _ _ _ _ 166 [some (.ref 396), some (.int (nI x)), some (.int le), some (.int we), some (.int de), some (.int b), some (.int (nI m))] [.ref 397] (N, SH v T, up2 (up2 (up2 (up2 (up2 (up2 I 397 (39 + m) (I 397 2)) 397 (59 + m) le) 397 (79 + m) we) 397 (99 + m) de) 397 (119 + m) b) 397 (139 + m) (nI x), L, Dd)
              refine Ev.sg hX (sX7_addsCar_162.sub 2 4) (pc' := 173) (ls' := [some (.ref 396), some (.int (nI x)), some (.int le), some (.int we), some (.int de), some (.int b), some (.int (nI m))]) (st' := [.ref 396, .int (159 + (nI m)), .ref 397]) (h' := (N, SH v T, up2 (up2 (up2 (up2 (up2 (up2 I 397 (39 + m) (I 397 2)) 397 (59 + m) le) 397 (79 + m) we) 397 (99 + m) de) 397 (119 + m) b) 397 (139 + m) (nI x), L, Dd)) rfl ?_
              refine Ev.getf (sX7_addsCar_162.lk 6 (q := (173, .getfield 7, 7, 0)) rfl) rfl rfl (sX7_addsCar_162.dc 6 (q := (173, .getfield 7, 7, 0)) rfl) ?_
              show Ev _ _ _ _ _ _ 176 [some (.ref 396), some (.int (nI x)), some (.int le), some (.int we), some (.int de), some (.int b), some (.int (nI m))] [.ref 397, .int (159 + (nI m)), .ref 397] (N, SH v T, up2 (up2 (up2 (up2 (up2 (up2 I 397 (39 + m) (I 397 2)) 397 (59 + m) le) 397 (79 + m) we) 397 (99 + m) de) 397 (119 + m) b) 397 (139 + m) (nI x), L, Dd)
              refine Ev.sg hX (sX7_addsCar_162.sub 7 3) (pc' := 180) (ls' := [some (.ref 396), some (.int (nI x)), some (.int le), some (.int we), some (.int de), some (.int b), some (.int (nI m))]) (st' := [.int (31 + (nI x)), .ref 397, .int (159 + (nI m)), .ref 397]) (h' := (N, SH v T, up2 (up2 (up2 (up2 (up2 (up2 I 397 (39 + m) (I 397 2)) 397 (59 + m) le) 397 (79 + m) we) 397 (99 + m) de) 397 (119 + m) b) 397 (139 + m) (nI x), L, Dd)) rfl ?_
              refine Ev.ialdE (n := (31 + x)) (N := 179) rfl (naI rfl rfl) (by omega) (by decide) dX7_addsCar_180 ?_
              show Ev _ _ _ _ _ _ 181 [some (.ref 396), some (.int (nI x)), some (.int le), some (.int we), some (.int de), some (.int b), some (.int (nI m))] [.int ((up2 (up2 (up2 (up2 (up2 (up2 I 397 (39 + m) (I 397 2)) 397 (59 + m) le) 397 (79 + m) we) 397 (99 + m) de) 397 (119 + m) b) 397 (139 + m) (nI x)) 397 (31 + x)), .int (159 + (nI m)), .ref 397] (N, SH v T, up2 (up2 (up2 (up2 (up2 (up2 I 397 (39 + m) (I 397 2)) 397 (59 + m) le) 397 (79 + m) we) 397 (99 + m) de) 397 (119 + m) b) 397 (139 + m) (nI x), L, Dd)
              refine Ev.eqst (st' := [.int (I 397 (31 + x)), .int (159 + (nI m)), .ref 397]) (by rw [show (up2 (up2 (up2 (up2 (up2 (up2 I 397 (39 + m) (I 397 2)) 397 (59 + m) le) 397 (79 + m) we) 397 (99 + m) de) 397 (119 + m) b) 397 (139 + m) (nI x)) 397 (31 + x) = I 397 (31 + x) from (((up2_i (by omega)).trans ((up2_i (by omega)).trans ((up2_i (by omega)).trans ((up2_i (by omega)).trans ((up2_i (by omega)).trans (up2_i (by omega))))))))]) ?_
              refine Ev.iastE (n := (159 + m)) (N := 179) hX rfl (naI rfl rfl) (by omega) (by decide) dX7_addsCar_181 ?_
              show Ev _ _ _ _ _ _ 182 [some (.ref 396), some (.int (nI x)), some (.int le), some (.int we), some (.int de), some (.int b), some (.int (nI m))] [] (N, SH v T, up2 (up2 (up2 (up2 (up2 (up2 (up2 I 397 (39 + m) (I 397 2)) 397 (59 + m) le) 397 (79 + m) we) 397 (99 + m) de) 397 (119 + m) b) 397 (139 + m) (nI x)) 397 (159 + m) (I 397 (31 + x)), L, Dd)
              refine Ev.sg hX (sX7_addsCar_182.sub 0 1) (pc' := 183) (ls' := [some (.ref 396), some (.int (nI x)), some (.int le), some (.int we), some (.int de), some (.int b), some (.int (nI m))]) (st' := [.ref 396]) (h' := (N, SH v T, up2 (up2 (up2 (up2 (up2 (up2 (up2 I 397 (39 + m) (I 397 2)) 397 (59 + m) le) 397 (79 + m) we) 397 (99 + m) de) 397 (119 + m) b) 397 (139 + m) (nI x)) 397 (159 + m) (I 397 (31 + x)), L, Dd)) rfl ?_
              refine Ev.getf (sX7_addsCar_182.lk 1 (q := (183, .getfield 7, 7, 0)) rfl) rfl rfl (sX7_addsCar_182.dc 1 (q := (183, .getfield 7, 7, 0)) rfl) ?_
              show Ev _ _ _ _ _ _ 186 [some (.ref 396), some (.int (nI x)), some (.int le), some (.int we), some (.int de), some (.int b), some (.int (nI m))] [.ref 397] (N, SH v T, up2 (up2 (up2 (up2 (up2 (up2 (up2 I 397 (39 + m) (I 397 2)) 397 (59 + m) le) 397 (79 + m) we) 397 (99 + m) de) 397 (119 + m) b) 397 (139 + m) (nI x)) 397 (159 + m) (I 397 (31 + x)), L, Dd)
              refine Ev.sg hX (sX7_addsCar_182.sub 2 4) (pc' := 191) (ls' := [some (.ref 396), some (.int (nI x)), some (.int le), some (.int we), some (.int de), some (.int b), some (.int (nI m))]) (st' := [.int (31 + (nI x)), .ref 397, .int (31 + (nI x)), .ref 397]) (h' := (N, SH v T, up2 (up2 (up2 (up2 (up2 (up2 (up2 I 397 (39 + m) (I 397 2)) 397 (59 + m) le) 397 (79 + m) we) 397 (99 + m) de) 397 (119 + m) b) 397 (139 + m) (nI x)) 397 (159 + m) (I 397 (31 + x)), L, Dd)) rfl ?_
              refine Ev.ialdE (n := (31 + x)) (N := 179) rfl (naI rfl rfl) (by omega) (by decide) dX7_addsCar_191 ?_
              show Ev _ _ _ _ _ _ 192 [some (.ref 396), some (.int (nI x)), some (.int le), some (.int we), some (.int de), some (.int b), some (.int (nI m))] [.int ((up2 (up2 (up2 (up2 (up2 (up2 (up2 I 397 (39 + m) (I 397 2)) 397 (59 + m) le) 397 (79 + m) we) 397 (99 + m) de) 397 (119 + m) b) 397 (139 + m) (nI x)) 397 (159 + m) (I 397 (31 + x))) 397 (31 + x)), .int (31 + (nI x)), .ref 397] (N, SH v T, up2 (up2 (up2 (up2 (up2 (up2 (up2 I 397 (39 + m) (I 397 2)) 397 (59 + m) le) 397 (79 + m) we) 397 (99 + m) de) 397 (119 + m) b) 397 (139 + m) (nI x)) 397 (159 + m) (I 397 (31 + x)), L, Dd)
              refine Ev.eqst (st' := [.int (I 397 (31 + x)), .int (31 + (nI x)), .ref 397]) (by rw [show (up2 (up2 (up2 (up2 (up2 (up2 (up2 I 397 (39 + m) (I 397 2)) 397 (59 + m) le) 397 (79 + m) we) 397 (99 + m) de) 397 (119 + m) b) 397 (139 + m) (nI x)) 397 (159 + m) (I 397 (31 + x))) 397 (31 + x) = I 397 (31 + x) from (((up2_i (by omega)).trans ((up2_i (by omega)).trans ((up2_i (by omega)).trans ((up2_i (by omega)).trans ((up2_i (by omega)).trans ((up2_i (by omega)).trans (up2_i (by omega)))))))))]) ?_
              refine Ev.sg hX (sX7_addsCar_192.sub 0 2) (pc' := 194) (ls' := [some (.ref 396), some (.int (nI x)), some (.int le), some (.int we), some (.int de), some (.int b), some (.int (nI m))]) (st' := [.int ((I 397 (31 + x)) + 1), .int (31 + (nI x)), .ref 397]) (h' := (N, SH v T, up2 (up2 (up2 (up2 (up2 (up2 (up2 I 397 (39 + m) (I 397 2)) 397 (59 + m) le) 397 (79 + m) we) 397 (99 + m) de) 397 (119 + m) b) 397 (139 + m) (nI x)) 397 (159 + m) (I 397 (31 + x)), L, Dd)) rfl ?_
              refine Ev.iastE (n := (31 + x)) (N := 179) hX rfl (naI rfl rfl) (by omega) (by decide) dX7_addsCar_194 ?_
              show Ev _ _ _ _ _ _ 195 [some (.ref 396), some (.int (nI x)), some (.int le), some (.int we), some (.int de), some (.int b), some (.int (nI m))] [] (N, SH v T, up2 (up2 (up2 (up2 (up2 (up2 (up2 (up2 I 397 (39 + m) (I 397 2)) 397 (59 + m) le) 397 (79 + m) we) 397 (99 + m) de) 397 (119 + m) b) 397 (139 + m) (nI x)) 397 (159 + m) (I 397 (31 + x))) 397 (31 + x) ((I 397 (31 + x)) + 1), L, Dd)
              refine Ev.sg hX (sX7_addsCar_195.sub 0 1) (pc' := 196) (ls' := [some (.ref 396), some (.int (nI x)), some (.int le), some (.int we), some (.int de), some (.int b), some (.int (nI m))]) (st' := [.ref 396]) (h' := (N, SH v T, up2 (up2 (up2 (up2 (up2 (up2 (up2 (up2 I 397 (39 + m) (I 397 2)) 397 (59 + m) le) 397 (79 + m) we) 397 (99 + m) de) 397 (119 + m) b) 397 (139 + m) (nI x)) 397 (159 + m) (I 397 (31 + x))) 397 (31 + x) ((I 397 (31 + x)) + 1), L, Dd)) rfl ?_
              refine Ev.getf (sX7_addsCar_195.lk 1 (q := (196, .getfield 7, 7, 0)) rfl) rfl rfl (sX7_addsCar_195.dc 1 (q := (196, .getfield 7, 7, 0)) rfl) ?_
              show Ev _ _ _ _ _ _ 199 [some (.ref 396), some (.int (nI x)), some (.int le), some (.int we), some (.int de), some (.int b), some (.int (nI m))] [.ref 397] (N, SH v T, up2 (up2 (up2 (up2 (up2 (up2 (up2 (up2 I 397 (39 + m) (I 397 2)) 397 (59 + m) le) 397 (79 + m) we) 397 (99 + m) de) 397 (119 + m) b) 397 (139 + m) (nI x)) 397 (159 + m) (I 397 (31 + x))) 397 (31 + x) ((I 397 (31 + x)) + 1), L, Dd)
              refine Ev.sg hX (sX7_addsCar_195.sub 2 2) (pc' := 201) (ls' := [some (.ref 396), some (.int (nI x)), some (.int le), some (.int we), some (.int de), some (.int b), some (.int (nI m))]) (st' := [.int 1, .ref 397, .int 1, .ref 397]) (h' := (N, SH v T, up2 (up2 (up2 (up2 (up2 (up2 (up2 (up2 I 397 (39 + m) (I 397 2)) 397 (59 + m) le) 397 (79 + m) we) 397 (99 + m) de) 397 (119 + m) b) 397 (139 + m) (nI x)) 397 (159 + m) (I 397 (31 + x))) 397 (31 + x) ((I 397 (31 + x)) + 1), L, Dd)) rfl ?_
              refine Ev.ialdE (n := 1) (N := 179) rfl rfl (by omega) (by decide) dX7_addsCar_201 ?_
              show Ev _ _ _ _ _ _ 202 [some (.ref 396), some (.int (nI x)), some (.int le), some (.int we), some (.int de), some (.int b), some (.int (nI m))] [.int ((up2 (up2 (up2 (up2 (up2 (up2 (up2 (up2 I 397 (39 + m) (I 397 2)) 397 (59 + m) le) 397 (79 + m) we) 397 (99 + m) de) 397 (119 + m) b) 397 (139 + m) (nI x)) 397 (159 + m) (I 397 (31 + x))) 397 (31 + x) ((I 397 (31 + x)) + 1)) 397 1), .int 1, .ref 397] (N, SH v T, up2 (up2 (up2 (up2 (up2 (up2 (up2 (up2 I 397 (39 + m) (I 397 2)) 397 (59 + m) le) 397 (79 + m) we) 397 (99 + m) de) 397 (119 + m) b) 397 (139 + m) (nI x)) 397 (159 + m) (I 397 (31 + x))) 397 (31 + x) ((I 397 (31 + x)) + 1), L, Dd)
              refine Ev.eqst (st' := [.int (nI m), .int 1, .ref 397]) (by rw [show (up2 (up2 (up2 (up2 (up2 (up2 (up2 (up2 I 397 (39 + m) (I 397 2)) 397 (59 + m) le) 397 (79 + m) we) 397 (99 + m) de) 397 (119 + m) b) 397 (139 + m) (nI x)) 397 (159 + m) (I 397 (31 + x))) 397 (31 + x) ((I 397 (31 + x)) + 1)) 397 1 = nI m from (((up2_i (by omega)).trans ((up2_i (by omega)).trans ((up2_i (by omega)).trans ((up2_i (by omega)).trans ((up2_i (by omega)).trans ((up2_i (by omega)).trans ((up2_i (by omega)).trans (up2_i (by omega))))))))).trans hm)]) ?_
              refine Ev.sg hX (sX7_addsCar_202.sub 0 2) (pc' := 204) (ls' := [some (.ref 396), some (.int (nI x)), some (.int le), some (.int we), some (.int de), some (.int b), some (.int (nI m))]) (st' := [.int ((nI m) + 1), .int 1, .ref 397]) (h' := (N, SH v T, up2 (up2 (up2 (up2 (up2 (up2 (up2 (up2 I 397 (39 + m) (I 397 2)) 397 (59 + m) le) 397 (79 + m) we) 397 (99 + m) de) 397 (119 + m) b) 397 (139 + m) (nI x)) 397 (159 + m) (I 397 (31 + x))) 397 (31 + x) ((I 397 (31 + x)) + 1), L, Dd)) rfl ?_
              refine Ev.iastE (n := 1) (N := 179) hX rfl rfl (by omega) (by decide) dX7_addsCar_204 ?_
              show Ev _ _ _ _ _ _ 205 [some (.ref 396), some (.int (nI x)), some (.int le), some (.int we), some (.int de), some (.int b), some (.int (nI m))] [] (N, SH v T, up2 (up2 (up2 (up2 (up2 (up2 (up2 (up2 (up2 I 397 (39 + m) (I 397 2)) 397 (59 + m) le) 397 (79 + m) we) 397 (99 + m) de) 397 (119 + m) b) 397 (139 + m) (nI x)) 397 (159 + m) (I 397 (31 + x))) 397 (31 + x) ((I 397 (31 + x)) + 1)) 397 1 ((nI m) + 1), L, Dd)
              refine Ev.sg hX (sX7_addsCar_205.sub 0 1) (pc' := 206) (ls' := [some (.ref 396), some (.int (nI x)), some (.int le), some (.int we), some (.int de), some (.int b), some (.int (nI m))]) (st' := [.ref 396]) (h' := (N, SH v T, up2 (up2 (up2 (up2 (up2 (up2 (up2 (up2 (up2 I 397 (39 + m) (I 397 2)) 397 (59 + m) le) 397 (79 + m) we) 397 (99 + m) de) 397 (119 + m) b) 397 (139 + m) (nI x)) 397 (159 + m) (I 397 (31 + x))) 397 (31 + x) ((I 397 (31 + x)) + 1)) 397 1 ((nI m) + 1), L, Dd)) rfl ?_
              refine Ev.getf (sX7_addsCar_205.lk 1 (q := (206, .getfield 7, 7, 0)) rfl) rfl rfl (sX7_addsCar_205.dc 1 (q := (206, .getfield 7, 7, 0)) rfl) ?_
              show Ev _ _ _ _ _ _ 209 [some (.ref 396), some (.int (nI x)), some (.int le), some (.int we), some (.int de), some (.int b), some (.int (nI m))] [.ref 397] (N, SH v T, up2 (up2 (up2 (up2 (up2 (up2 (up2 (up2 (up2 I 397 (39 + m) (I 397 2)) 397 (59 + m) le) 397 (79 + m) we) 397 (99 + m) de) 397 (119 + m) b) 397 (139 + m) (nI x)) 397 (159 + m) (I 397 (31 + x))) 397 (31 + x) ((I 397 (31 + x)) + 1)) 397 1 ((nI m) + 1), L, Dd)
              refine Ev.sg hX (sX7_addsCar_205.sub 2 2) (pc' := 211) (ls' := [some (.ref 396), some (.int (nI x)), some (.int le), some (.int we), some (.int de), some (.int b), some (.int (nI m))]) (st' := [.int 2, .ref 397, .int 2, .ref 397]) (h' := (N, SH v T, up2 (up2 (up2 (up2 (up2 (up2 (up2 (up2 (up2 I 397 (39 + m) (I 397 2)) 397 (59 + m) le) 397 (79 + m) we) 397 (99 + m) de) 397 (119 + m) b) 397 (139 + m) (nI x)) 397 (159 + m) (I 397 (31 + x))) 397 (31 + x) ((I 397 (31 + x)) + 1)) 397 1 ((nI m) + 1), L, Dd)) rfl ?_
              refine Ev.ialdE (n := 2) (N := 179) rfl rfl (by omega) (by decide) dX7_addsCar_211 ?_
              show Ev _ _ _ _ _ _ 212 [some (.ref 396), some (.int (nI x)), some (.int le), some (.int we), some (.int de), some (.int b), some (.int (nI m))] [.int ((up2 (up2 (up2 (up2 (up2 (up2 (up2 (up2 (up2 I 397 (39 + m) (I 397 2)) 397 (59 + m) le) 397 (79 + m) we) 397 (99 + m) de) 397 (119 + m) b) 397 (139 + m) (nI x)) 397 (159 + m) (I 397 (31 + x))) 397 (31 + x) ((I 397 (31 + x)) + 1)) 397 1 ((nI m) + 1)) 397 2), .int 2, .ref 397] (N, SH v T, up2 (up2 (up2 (up2 (up2 (up2 (up2 (up2 (up2 I 397 (39 + m) (I 397 2)) 397 (59 + m) le) 397 (79 + m) we) 397 (99 + m) de) 397 (119 + m) b) 397 (139 + m) (nI x)) 397 (159 + m) (I 397 (31 + x))) 397 (31 + x) ((I 397 (31 + x)) + 1)) 397 1 ((nI m) + 1), L, Dd)
              refine Ev.eqst (st' := [.int (I 397 2), .int 2, .ref 397]) (by rw [show (up2 (up2 (up2 (up2 (up2 (up2 (up2 (up2 (up2 I 397 (39 + m) (I 397 2)) 397 (59 + m) le) 397 (79 + m) we) 397 (99 + m) de) 397 (119 + m) b) 397 (139 + m) (nI x)) 397 (159 + m) (I 397 (31 + x))) 397 (31 + x) ((I 397 (31 + x)) + 1)) 397 1 ((nI m) + 1)) 397 2 = I 397 2 from (((up2_i (by omega)).trans ((up2_i (by omega)).trans ((up2_i (by omega)).trans ((up2_i (by omega)).trans ((up2_i (by omega)).trans ((up2_i (by omega)).trans ((up2_i (by omega)).trans ((up2_i (by omega)).trans (up2_i (by omega)))))))))))]) ?_
              refine Ev.sg hX (sX7_addsCar_212.sub 0 2) (pc' := 214) (ls' := [some (.ref 396), some (.int (nI x)), some (.int le), some (.int we), some (.int de), some (.int b), some (.int (nI m))]) (st' := [.int ((I 397 2) + 1), .int 2, .ref 397]) (h' := (N, SH v T, up2 (up2 (up2 (up2 (up2 (up2 (up2 (up2 (up2 I 397 (39 + m) (I 397 2)) 397 (59 + m) le) 397 (79 + m) we) 397 (99 + m) de) 397 (119 + m) b) 397 (139 + m) (nI x)) 397 (159 + m) (I 397 (31 + x))) 397 (31 + x) ((I 397 (31 + x)) + 1)) 397 1 ((nI m) + 1), L, Dd)) rfl ?_
              refine Ev.iastE (n := 2) (N := 179) hX rfl rfl (by omega) (by decide) dX7_addsCar_214 ?_
              show Ev _ _ _ _ _ _ 215 [some (.ref 396), some (.int (nI x)), some (.int le), some (.int we), some (.int de), some (.int b), some (.int (nI m))] [] (N, SH v T, up2 (up2 (up2 (up2 (up2 (up2 (up2 (up2 (up2 (up2 I 397 (39 + m) (I 397 2)) 397 (59 + m) le) 397 (79 + m) we) 397 (99 + m) de) 397 (119 + m) b) 397 (139 + m) (nI x)) 397 (159 + m) (I 397 (31 + x))) 397 (31 + x) ((I 397 (31 + x)) + 1)) 397 1 ((nI m) + 1)) 397 2 ((I 397 2) + 1), L, Dd)
              refine Ev.sg hX (sX7_addsCar_215.sub 0 2) (pc' := 217) (ls' := [some (.ref 396), some (.int (nI x)), some (.int le), some (.int we), some (.int de), some (.int b), some (.int (nI m))]) (st' := [.ref 396, .ref 396]) (h' := (N, SH v T, up2 (up2 (up2 (up2 (up2 (up2 (up2 (up2 (up2 (up2 I 397 (39 + m) (I 397 2)) 397 (59 + m) le) 397 (79 + m) we) 397 (99 + m) de) 397 (119 + m) b) 397 (139 + m) (nI x)) 397 (159 + m) (I 397 (31 + x))) 397 (31 + x) ((I 397 (31 + x)) + 1)) 397 1 ((nI m) + 1)) 397 2 ((I 397 2) + 1), L, Dd)) rfl ?_
              refine Ev.getf (sX7_addsCar_215.lk 2 (q := (217, .getfield 7, 7, 0)) rfl) rfl rfl (sX7_addsCar_215.dc 2 (q := (217, .getfield 7, 7, 0)) rfl) ?_
              show Ev _ _ _ _ _ _ 220 [some (.ref 396), some (.int (nI x)), some (.int le), some (.int we), some (.int de), some (.int b), some (.int (nI m))] [.ref 397, .ref 396] (N, SH v T, up2 (up2 (up2 (up2 (up2 (up2 (up2 (up2 (up2 (up2 I 397 (39 + m) (I 397 2)) 397 (59 + m) le) 397 (79 + m) we) 397 (99 + m) de) 397 (119 + m) b) 397 (139 + m) (nI x)) 397 (159 + m) (I 397 (31 + x))) 397 (31 + x) ((I 397 (31 + x)) + 1)) 397 1 ((nI m) + 1)) 397 2 ((I 397 2) + 1), L, Dd)
              refine Ev.sg hX (sX7_addsCar_215.sub 3 3) (pc' := 225) (ls' := [some (.ref 396), some (.int (nI x)), some (.int le), some (.int we), some (.int de), some (.int b), some (.int (nI m))]) (st' := [.int (39 + (nI m)), .ref 397, .ref 396]) (h' := (N, SH v T, up2 (up2 (up2 (up2 (up2 (up2 (up2 (up2 (up2 (up2 I 397 (39 + m) (I 397 2)) 397 (59 + m) le) 397 (79 + m) we) 397 (99 + m) de) 397 (119 + m) b) 397 (139 + m) (nI x)) 397 (159 + m) (I 397 (31 + x))) 397 (31 + x) ((I 397 (31 + x)) + 1)) 397 1 ((nI m) + 1)) 397 2 ((I 397 2) + 1), L, Dd)) rfl ?_
              refine Ev.ialdE (n := (39 + m)) (N := 179) rfl (naI rfl rfl) (by omega) (by decide) dX7_addsCar_225 ?_
              show Ev _ _ _ _ _ _ 226 [some (.ref 396), some (.int (nI x)), some (.int le), some (.int we), some (.int de), some (.int b), some (.int (nI m))] [.int ((up2 (up2 (up2 (up2 (up2 (up2 (up2 (up2 (up2 (up2 I 397 (39 + m) (I 397 2)) 397 (59 + m) le) 397 (79 + m) we) 397 (99 + m) de) 397 (119 + m) b) 397 (139 + m) (nI x)) 397 (159 + m) (I 397 (31 + x))) 397 (31 + x) ((I 397 (31 + x)) + 1)) 397 1 ((nI m) + 1)) 397 2 ((I 397 2) + 1)) 397 (39 + m)), .ref 396] (N, SH v T, up2 (up2 (up2 (up2 (up2 (up2 (up2 (up2 (up2 (up2 I 397 (39 + m) (I 397 2)) 397 (59 + m) le) 397 (79 + m) we) 397 (99 + m) de) 397 (119 + m) b) 397 (139 + m) (nI x)) 397 (159 + m) (I 397 (31 + x))) 397 (31 + x) ((I 397 (31 + x)) + 1)) 397 1 ((nI m) + 1)) 397 2 ((I 397 2) + 1), L, Dd)
              refine Ev.eqst (st' := [.int (I 397 2), .ref 396]) (by rw [show (up2 (up2 (up2 (up2 (up2 (up2 (up2 (up2 (up2 (up2 I 397 (39 + m) (I 397 2)) 397 (59 + m) le) 397 (79 + m) we) 397 (99 + m) de) 397 (119 + m) b) 397 (139 + m) (nI x)) 397 (159 + m) (I 397 (31 + x))) 397 (31 + x) ((I 397 (31 + x)) + 1)) 397 1 ((nI m) + 1)) 397 2 ((I 397 2) + 1)) 397 (39 + m) = I 397 2 from (((up2_i (by omega)).trans ((up2_i (by omega)).trans ((up2_i (by omega)).trans ((up2_i (by omega)).trans ((up2_i (by omega)).trans ((up2_i (by omega)).trans ((up2_i (by omega)).trans ((up2_i (by omega)).trans ((up2_i (by omega)).trans up2_hit))))))))))]) ?_
              refine Ev.callV (As := [.int (I 397 2)]) (rest := []) dvX7_done mkX7_79 rfl rfl dX7_addsCar_226 (m_done (d := d - 1) (I := (up2 (up2 (up2 (up2 (up2 (up2 (up2 (up2 (up2 (up2 I 397 (39 + m) (I 397 2)) 397 (59 + m) le) 397 (79 + m) we) 397 (99 + m) de) 397 (119 + m) b) 397 (139 + m) (nI x)) 397 (159 + m) (I 397 (31 + x))) 397 (31 + x) ((I 397 (31 + x)) + 1)) 397 1 ((nI m) + 1)) 397 2 ((I 397 2) + 1))) hX (by omega)) ⟨by omega, by show 2 + 19 + 40 * _ ≤ 40 * _; omega⟩ ⟨Nat.zero_le _, Nat.zero_le _⟩ rfl (Nat.le_of_ble_eq_true rfl) (fun v9 h9 e9 => ?_) (fun E9 h9 e9 => nomatch e9)
              cases e9
              show Ev _ _ _ _ _ _ 229 [some (.ref 396), some (.int (nI x)), some (.int le), some (.int we), some (.int de), some (.int b), some (.int (nI m))] [.int (I 397 2)] (N, SH v T, up2 (up2 (up2 (up2 (up2 (up2 (up2 (up2 (up2 (up2 (up2 I 397 (39 + m) (I 397 2)) 397 (59 + m) le) 397 (79 + m) we) 397 (99 + m) de) 397 (119 + m) b) 397 (139 + m) (nI x)) 397 (159 + m) (I 397 (31 + x))) 397 (31 + x) ((I 397 (31 + x)) + 1)) 397 1 ((nI m) + 1)) 397 2 ((I 397 2) + 1)) 396 12 0, L, Dd)
              refine Ev.iret dX7_addsCar_229 rfl ?_
              rw [accM, if_neg (fun z => z htt), if_neg (fun z => z ⟨bi_1.mp b2, bi_1.mp b3, bi_1.mp b4⟩), if_neg (fun z9 => b5 (by rw [z9]; rfl)), hcx, if_neg (Int32.not_lt.mpr b6), accI]
            · refine Ev.sg hX (sX7_addsCar_82.sub 0 2) (pc' := 84) (ls' := [some (.ref 396), some (.int (nI x)), some (.int le), some (.int we), some (.int de), some (.int b), some (.int (nI m))]) (st' := [.int 4, .ref 396]) (h' := (N, SH v T, I, L, Dd)) rfl ?_
              refine Ev.callV (As := [.int 4]) (rest := []) dvX7_fails mkX7_75 rfl rfl dX7_addsCar_84 (m_fails (d := d - 1) (I := I) hX (by omega)) ⟨by omega, by show 2 + 19 + 40 * _ ≤ 40 * _; omega⟩ ⟨Nat.zero_le _, Nat.zero_le _⟩ rfl (Nat.le_of_ble_eq_true rfl) (fun v9 h9 e9 => ?_) (fun E9 h9 e9 => nomatch e9)
              cases e9
              show Ev _ _ _ _ _ _ 87 [some (.ref 396), some (.int (nI x)), some (.int le), some (.int we), some (.int de), some (.int b), some (.int (nI m))] [.int 0] (N, SH v T, up2 I 396 12 4, L, Dd)
              refine Ev.iret dX7_addsCar_87 rfl ?_
              rw [accM, if_neg (fun z => z htt), if_neg (fun z => z ⟨bi_1.mp b2, bi_1.mp b3, bi_1.mp b4⟩), if_neg (fun z9 => b5 (by rw [z9]; rfl)), hcx, if_pos (Int32.not_le.mp b6)]
          · refine Ev.sg hX (sX7_addsCar_67.sub 0 2) (pc' := 69) (ls' := [some (.ref 396), some (.int (nI x)), some (.int le), some (.int we), some (.int de), some (.int b), some (.int (nI m))]) (st' := [.int 3, .ref 396]) (h' := (N, SH v T, I, L, Dd)) rfl ?_
            refine Ev.callV (As := [.int 3]) (rest := []) dvX7_fails mkX7_75 rfl rfl dX7_addsCar_69 (m_fails (d := d - 1) (I := I) hX (by omega)) ⟨by omega, by show 2 + 19 + 40 * _ ≤ 40 * _; omega⟩ ⟨Nat.zero_le _, Nat.zero_le _⟩ rfl (Nat.le_of_ble_eq_true rfl) (fun v9 h9 e9 => ?_) (fun E9 h9 e9 => nomatch e9)
            cases e9
            show Ev _ _ _ _ _ _ 72 [some (.ref 396), some (.int (nI x)), some (.int le), some (.int we), some (.int de), some (.int b), some (.int (nI m))] [.int 0] (N, SH v T, up2 I 396 12 3, L, Dd)
            refine Ev.iret dX7_addsCar_72 rfl ?_
            rw [accM, if_neg (fun z => z htt), if_neg (fun z => z ⟨bi_1.mp b2, bi_1.mp b3, bi_1.mp b4⟩), if_pos ((nI_eq (a := m) (b := 20) (by omega) (by decide)).mp b5)]
        · refine Ev.sg hX (sX7_addsCar_46.sub 0 2) (pc' := 48) (ls' := [some (.ref 396), some (.int (nI x)), some (.int le), some (.int we), some (.int de), some (.int b), none]) (st' := [.int 2, .ref 396]) (h' := (N, SH v T, I, L, Dd)) rfl ?_
          refine Ev.callV (As := [.int 2]) (rest := []) dvX7_fails mkX7_75 rfl rfl dX7_addsCar_48 (m_fails (d := d - 1) (I := I) hX (by omega)) ⟨by omega, by show 2 + 19 + 40 * _ ≤ 40 * _; omega⟩ ⟨Nat.zero_le _, Nat.zero_le _⟩ rfl (Nat.le_of_ble_eq_true rfl) (fun v9 h9 e9 => ?_) (fun E9 h9 e9 => nomatch e9)
          cases e9
          show Ev _ _ _ _ _ _ 51 [some (.ref 396), some (.int (nI x)), some (.int le), some (.int we), some (.int de), some (.int b), none] [.int 0] (N, SH v T, up2 I 396 12 2, L, Dd)
          refine Ev.iret dX7_addsCar_51 rfl ?_
          rw [accM, if_neg (fun z => z htt), if_pos (fun z => (bi_0.mp b4) z.2.2)]
  · refine Ev.sg hX (sX7_addsCar_8.sub 0 2) (pc' := 10) (ls' := [some (.ref 396), some (.int t), some (.int le), some (.int we), some (.int de), some (.int b), none]) (st' := [.int 1, .ref 396]) (h' := (N, SH v T, I, L, Dd)) rfl ?_
    refine Ev.callV (As := [.int 1]) (rest := []) dvX7_fails mkX7_75 rfl rfl dX7_addsCar_10 (m_fails (d := d - 1) (I := I) hX (by omega)) ⟨by omega, by show 2 + 19 + 40 * _ ≤ 40 * _; omega⟩ ⟨Nat.zero_le _, Nat.zero_le _⟩ rfl (Nat.le_of_ble_eq_true rfl) (fun v9 h9 e9 => ?_) (fun E9 h9 e9 => nomatch e9)
    cases e9
    show Ev _ _ _ _ _ _ 13 [some (.ref 396), some (.int t), some (.int le), some (.int we), some (.int de), some (.int b), none] [.int 0] (N, SH v T, up2 I 396 12 1, L, Dd)
    refine Ev.iret dX7_addsCar_13 rfl ?_
    rw [accM, if_pos (bi_0.mp b1)]
end MOD3
