/-! the model: ranks and routes -/
theorem nI_mi {j : Nat} (h : j < 2 ^ 31) : ¬ nI j = -1 := by
  intro e
  have := congrArg Int32.toInt e
  rw [nI_toInt h] at this
  exact absurd this (by rw [show (-1 : Int32).toInt = -1 from rfl]; omega)
def rkS (I : HI) (m t : Nat) : Nat → Int32 → Int32 := fun k acc => acc + (if ahM I m k t then 1 else 0)
def rkF (I : HI) (m z : Nat) (c : Int32) : Nat → Nat → Int32 := fnd (fun t => fo (rkS I m t) z 0 0 = c)
def rkP (I : HI) (f : Int32) : Int32 × HI := if f = -1 then (0, up2 I 396 12 1) else (f, up2 I 396 12 0)
def acM (I : HI) (c e : Int32) : Int32 × HI := if tkM I c ∧ tkM I e then (bi (lkM (up2 I 396 12 0) c.toNatClampNeg e.toNatClampNeg), up2 I 396 12 0) else (0, up2 I 396 12 1)
def rlM (I : HI) (z : Nat) (c e : Int32) : Int32 × HI := if ¬ (tkM I c ∧ tkM I e) then (0, up2 I 396 12 1) else if exM I z e.toNatClampNeg 403 c.toNatClampNeg = 100 then (0, up2 (exM I z e.toNatClampNeg) 396 12 2) else (exM I z e.toNatClampNeg 403 c.toNatClampNeg, up2 (exM I z e.toNatClampNeg) 396 12 0)
def neM (I : HI) (x : Nat) : Nat → Nat → Int32 := fnd (fun n => lkM I x n ∧ I 403 n = I 403 x - 1)
def rtN (I : HI) : Nat → Nat → Nat
  | 0, x => x
  | n + 1, x => rtN I n (neM I x 8 0).toNatClampNeg
def okRt (I : HI) : Nat → Nat → Prop
  | 0, _ => True
  | n + 1, x => (∃ j, j < 8 ∧ neM I x 8 0 = nI j) ∧ okRt I n (neM I x 8 0).toNatClampNeg
def rtM (I : HI) (z : Nat) (c e i : Int32) : Int32 × HI := if ¬ (rlM I z c e).2 396 12 ≤ 0 then (0, (rlM I z c e).2) else if ¬ (0 ≤ i ∧ i ≤ (rlM I z c e).1) then (0, up2 (rlM I z c e).2 396 12 2) else (nI (rtN (rlM I z c e).2 i.toNatClampNeg c.toNatClampNeg), up2 (rlM I z c e).2 396 12 0)
def stiM (I : HI) (m z : Nat) (a b c : Int32) : Int32 × HI := if 0 < (whM I m z a b c).1 then (0, up2 (whM I m z a b c).2 396 12 (if (whM I m z a b c).1 < 3 then (whM I m z a b c).1 else 3)) else (miM (exM I z b.toNatClampNeg) m z a.toNatClampNeg b.toNatClampNeg c.toNatClampNeg, up2 (exM (exM I z b.toNatClampNeg) z b.toNatClampNeg) 396 12 0)
abbrev beL (I : HI) (m z x y1 y2 : Nat) : Int32 := miM I m z x y2 1 - miM (exM I z y2) m z x y1 1
abbrev beM (I : HI) (m z x y1 y2 : Nat) : Prop := 0 < beL I m z x y1 y2 ∨ (beL I m z x y1 y2 = 0 ∧ roM (exM (exM I z y2) z y1) m y2 < roM (exM (exM I z y2) z y1) m y1)
def nfS (m z x : Nat) : Nat → Int32 × HI → Int32 × HI := fun k u => if ¬ (whM u.2 m z (nI x) (nI k) 1).1 = 0 then (u.1, (whM u.2 m z (nI x) (nI k) 1).2) else if u.1 = -1 then (nI k, (whM u.2 m z (nI x) (nI k) 1).2)
  else (if beM (whM u.2 m z (nI x) (nI k) 1).2 m z x k u.1.toNatClampNeg then nI k else u.1, exM (exM (whM u.2 m z (nI x) (nI k) 1).2 z u.1.toNatClampNeg) z k)
def nfM (I : HI) (m z : Nat) (t : Int32) : Int32 × HI := if ¬ tkM I t then (0, up2 I 396 12 1) else if (fo (nfS m z t.toNatClampNeg) z 0 (-1, I)).1 = -1 then (0, up2 (fo (nfS m z t.toNatClampNeg) z 0 (-1, I)).2 396 12 2) else ((fo (nfS m z t.toNatClampNeg) z 0 (-1, I)).1, up2 (fo (nfS m z t.toNatClampNeg) z 0 (-1, I)).2 396 12 0)
section MOD9
variable {X : JX} {d N v : Nat} {T : Nat → Option JS} {I : Nat → Nat → Int32} {L : Nat → Nat → Int64} {Dd : Nat → Nat → UInt64} {a b c e i0 t dd le we de i : Int32} {m z x y q c0 s n ch : Nat}
theorem m_isAhead (hX : JXok X) (hd : 4 ≤ d) (hm20 : m ≤ 20) (hm : I 397 1 = nI m) (hx : x < 8) (hy : y < 8) : MT X d 0 0 jdX7_isAhead [.ref 396, .int (nI x), .int (nI y)] (N, SH v T, I, L, Dd) (fun R => R = .inl (some (.int (bi (ahM I m x y))), (N, SH v T, I, L, Dd))) := by
  refine MT.mk dvX7_isAhead.1 ?_
  refine Ev.sg hX (sX7_isAhead_0.sub 0 2) (pc' := 2) (ls' := [some (.ref 396), some (.int (nI x)), some (.int (nI y)), none, none]) (st' := [.int (nI x), .ref 396]) (h' := (N, SH v T, I, L, Dd)) rfl ?_
  refine Ev.callV (As := [.int (nI x)]) (rest := []) dvX7_room mkX7_107 rfl rfl dX7_isAhead_2 (m_room (d := d - 1) (I := I) (t := x) hX (by omega) hm20 hm (by omega)) ⟨by omega, by show 2 + 19 + 40 * _ ≤ 40 * _; omega⟩ ⟨Nat.zero_le _, Nat.zero_le _⟩ rfl (Nat.le_of_ble_eq_true rfl) (fun v9 h9 e9 => ?_) (fun E9 h9 e9 => nomatch e9)
  cases e9
  show Ev _ _ _ _ _ _ 5 [some (.ref 396), some (.int (nI x)), some (.int (nI y)), none, none] [.int (roM I m x)] (N, SH v T, I, L, Dd)
  refine Ev.sg hX (sX7_isAhead_5.sub 0 2) (pc' := 7) (ls' := [some (.ref 396), some (.int (nI x)), some (.int (nI y)), none, none]) (st' := [.int (nI y), .ref 396, .int (roM I m x)]) (h' := (N, SH v T, I, L, Dd)) rfl ?_
  refine Ev.callV (As := [.int (nI y)]) (rest := [.int (roM I m x)]) dvX7_room mkX7_107 rfl rfl dX7_isAhead_7 (m_room (d := d - 1) (I := I) (t := y) hX (by omega) hm20 hm (by omega)) ⟨by omega, by show 2 + 19 + 40 * _ ≤ 40 * _; omega⟩ ⟨Nat.zero_le _, Nat.zero_le _⟩ rfl (Nat.le_of_ble_eq_true rfl) (fun v9 h9 e9 => ?_) (fun E9 h9 e9 => nomatch e9)
  cases e9
  show Ev _ _ _ _ _ _ 10 [some (.ref 396), some (.int (nI x)), some (.int (nI y)), none, none] [.int (roM I m y), .int (roM I m x)] (N, SH v T, I, L, Dd)
  refine Ev.sg hX (sX7_isAhead_10.sub 0 3) (pc' := 13) (ls' := [some (.ref 396), some (.int (nI x)), some (.int (nI y)), some (.int ((roM I m x) - (roM I m y))), none]) (st' := [.ref 396]) (h' := (N, SH v T, I, L, Dd)) rfl ?_
  refine Ev.getf (sX7_isAhead_10.lk 3 (q := (13, .getfield 7, 7, 0)) rfl) rfl rfl (sX7_isAhead_10.dc 3 (q := (13, .getfield 7, 7, 0)) rfl) ?_
  show Ev _ _ _ _ _ _ 16 [some (.ref 396), some (.int (nI x)), some (.int (nI y)), some (.int ((roM I m x) - (roM I m y))), none] [.ref 397] (N, SH v T, I, L, Dd)
  refine Ev.sg hX (sX7_isAhead_10.sub 4 3) (pc' := 20) (ls' := [some (.ref 396), some (.int (nI x)), some (.int (nI y)), some (.int ((roM I m x) - (roM I m y))), none]) (st' := [.int (15 + (nI y)), .ref 397]) (h' := (N, SH v T, I, L, Dd)) rfl ?_
  refine Ev.ialdE (n := (15 + y)) (N := 179) rfl (naI rfl rfl) (by omega) (by decide) dX7_isAhead_20 ?_
  show Ev _ _ _ _ _ _ 21 [some (.ref 396), some (.int (nI x)), some (.int (nI y)), some (.int ((roM I m x) - (roM I m y))), none] [.int (I 397 (15 + y))] (N, SH v T, I, L, Dd)
  refine Ev.sg hX (sX7_isAhead_21.sub 0 1) (pc' := 22) (ls' := [some (.ref 396), some (.int (nI x)), some (.int (nI y)), some (.int ((roM I m x) - (roM I m y))), none]) (st' := [.ref 396, .int (I 397 (15 + y))]) (h' := (N, SH v T, I, L, Dd)) rfl ?_
  refine Ev.getf (sX7_isAhead_21.lk 1 (q := (22, .getfield 7, 7, 0)) rfl) rfl rfl (sX7_isAhead_21.dc 1 (q := (22, .getfield 7, 7, 0)) rfl) ?_
  show Ev _ _ _ _ _ _ 25 [some (.ref 396), some (.int (nI x)), some (.int (nI y)), some (.int ((roM I m x) - (roM I m y))), none] [.ref 397, .int (I 397 (15 + y))] (N, SH v T, I, L, Dd)
  refine Ev.sg hX (sX7_isAhead_21.sub 2 3) (pc' := 29) (ls' := [some (.ref 396), some (.int (nI x)), some (.int (nI y)), some (.int ((roM I m x) - (roM I m y))), none]) (st' := [.int (15 + (nI x)), .ref 397, .int (I 397 (15 + y))]) (h' := (N, SH v T, I, L, Dd)) rfl ?_
  refine Ev.ialdE (n := (15 + x)) (N := 179) rfl (naI rfl rfl) (by omega) (by decide) dX7_isAhead_29 ?_
  show Ev _ _ _ _ _ _ 30 [some (.ref 396), some (.int (nI x)), some (.int (nI y)), some (.int ((roM I m x) - (roM I m y))), none] [.int (I 397 (15 + x)), .int (I 397 (15 + y))] (N, SH v T, I, L, Dd)
  refine Ev.sg hX (sX7_isAhead_30.sub 0 3) (pc' := 34) (ls' := [some (.ref 396), some (.int (nI x)), some (.int (nI y)), some (.int ((roM I m x) - (roM I m y))), some (.int ((I 397 (15 + y)) - (I 397 (15 + x))))]) (st' := [.int ((roM I m x) - (roM I m y))]) (h' := (N, SH v T, I, L, Dd)) rfl ?_
  refine Ev.if_gt (tgt := 56) dX7_isAhead_34 (by decide) (fun b1 => ?_) (fun b1 => ?_)
  · refine Ev.sg hX (sX7_isAhead_56.sub 0 2) (pc' := 61) (ls' := [some (.ref 396), some (.int (nI x)), some (.int (nI y)), some (.int ((roM I m x) - (roM I m y))), some (.int ((I 397 (15 + y)) - (I 397 (15 + x))))]) (st' := [.int 1]) (h' := (N, SH v T, I, L, Dd)) rfl ?_
    refine Ev.zret dX7_isAhead_61 rfl ?_ ?_
    · rfl
    exact congrArg (fun w => Sum.inl (some (Value.int w), (N, SH v T, I, L, Dd))) (if_pos (Or.inl b1)).symm
  · refine Ev.sg hX (sX7_isAhead_37.sub 0 1) (pc' := 38) (ls' := [some (.ref 396), some (.int (nI x)), some (.int (nI y)), some (.int ((roM I m x) - (roM I m y))), some (.int ((I 397 (15 + y)) - (I 397 (15 + x))))]) (st' := [.int ((roM I m x) - (roM I m y))]) (h' := (N, SH v T, I, L, Dd)) rfl ?_
    refine Ev.if_ne (tgt := 60) dX7_isAhead_38 (by decide) (fun b2 => ?_) (fun b2 => ?_)
    · refine Ev.sg hX (sX7_isAhead_60.sub 0 1) (pc' := 61) (ls' := [some (.ref 396), some (.int (nI x)), some (.int (nI y)), some (.int ((roM I m x) - (roM I m y))), some (.int ((I 397 (15 + y)) - (I 397 (15 + x))))]) (st' := [.int 0]) (h' := (N, SH v T, I, L, Dd)) rfl ?_
      refine Ev.zret dX7_isAhead_61 rfl ?_ ?_
      · rfl
      exact congrArg (fun w => Sum.inl (some (Value.int w), (N, SH v T, I, L, Dd))) (if_neg (fun w => w.elim b1 (fun w2 => b2 w2.1))).symm
    · refine Ev.sg hX (sX7_isAhead_41.sub 0 1) (pc' := 43) (ls' := [some (.ref 396), some (.int (nI x)), some (.int (nI y)), some (.int ((roM I m x) - (roM I m y))), some (.int ((I 397 (15 + y)) - (I 397 (15 + x))))]) (st' := [.int ((I 397 (15 + y)) - (I 397 (15 + x)))]) (h' := (N, SH v T, I, L, Dd)) rfl ?_
      refine Ev.if_gt (tgt := 56) dX7_isAhead_43 (by decide) (fun b3 => ?_) (fun b3 => ?_)
      · refine Ev.sg hX (sX7_isAhead_56.sub 0 2) (pc' := 61) (ls' := [some (.ref 396), some (.int (nI x)), some (.int (nI y)), some (.int ((roM I m x) - (roM I m y))), some (.int ((I 397 (15 + y)) - (I 397 (15 + x))))]) (st' := [.int 1]) (h' := (N, SH v T, I, L, Dd)) rfl ?_
        refine Ev.zret dX7_isAhead_61 rfl ?_ ?_
        · rfl
        exact congrArg (fun w => Sum.inl (some (Value.int w), (N, SH v T, I, L, Dd))) (if_pos (Or.inr ⟨b2, Or.inl b3⟩)).symm
      · refine Ev.sg hX (sX7_isAhead_46.sub 0 1) (pc' := 48) (ls' := [some (.ref 396), some (.int (nI x)), some (.int (nI y)), some (.int ((roM I m x) - (roM I m y))), some (.int ((I 397 (15 + y)) - (I 397 (15 + x))))]) (st' := [.int ((I 397 (15 + y)) - (I 397 (15 + x)))]) (h' := (N, SH v T, I, L, Dd)) rfl ?_
        refine Ev.if_ne (tgt := 60) dX7_isAhead_48 (by decide) (fun b4 => ?_) (fun b4 => ?_)
        · refine Ev.sg hX (sX7_isAhead_60.sub 0 1) (pc' := 61) (ls' := [some (.ref 396), some (.int (nI x)), some (.int (nI y)), some (.int ((roM I m x) - (roM I m y))), some (.int ((I 397 (15 + y)) - (I 397 (15 + x))))]) (st' := [.int 0]) (h' := (N, SH v T, I, L, Dd)) rfl ?_
          refine Ev.zret dX7_isAhead_61 rfl ?_ ?_
          · rfl
          exact congrArg (fun w => Sum.inl (some (Value.int w), (N, SH v T, I, L, Dd))) (if_neg (fun w => w.elim b1 (fun w2 => w2.2.elim b3 (fun w3 => b4 w3.1)))).symm
        · refine Ev.sg hX (sX7_isAhead_51.sub 0 2) (pc' := 53) (ls' := [some (.ref 396), some (.int (nI x)), some (.int (nI y)), some (.int ((roM I m x) - (roM I m y))), some (.int ((I 397 (15 + y)) - (I 397 (15 + x))))]) (st' := [.int (nI y), .int (nI x)]) (h' := (N, SH v T, I, L, Dd)) rfl ?_
          refine Ev.icmp_ge (tgt := 60) dX7_isAhead_53 (by decide) (fun b5 => ?_) (fun b5 => ?_)
          · refine Ev.sg hX (sX7_isAhead_60.sub 0 1) (pc' := 61) (ls' := [some (.ref 396), some (.int (nI x)), some (.int (nI y)), some (.int ((roM I m x) - (roM I m y))), some (.int ((I 397 (15 + y)) - (I 397 (15 + x))))]) (st' := [.int 0]) (h' := (N, SH v T, I, L, Dd)) rfl ?_
            refine Ev.zret dX7_isAhead_61 rfl ?_ ?_
            · rfl
            exact congrArg (fun w => Sum.inl (some (Value.int w), (N, SH v T, I, L, Dd))) (if_neg (fun w => w.elim b1 (fun w2 => w2.2.elim b3 (fun w3 => absurd w3.2 (Int32.not_lt.mpr b5))))).symm
          · refine Ev.sg hX (sX7_isAhead_56.sub 0 2) (pc' := 61) (ls' := [some (.ref 396), some (.int (nI x)), some (.int (nI y)), some (.int ((roM I m x) - (roM I m y))), some (.int ((I 397 (15 + y)) - (I 397 (15 + x))))]) (st' := [.int 1]) (h' := (N, SH v T, I, L, Dd)) rfl ?_
            refine Ev.zret dX7_isAhead_61 rfl ?_ ?_
            · rfl
            exact congrArg (fun w => Sum.inl (some (Value.int w), (N, SH v T, I, L, Dd))) (if_pos (Or.inr ⟨b2, Or.inr ⟨b4, Int32.not_le.mp b5⟩⟩)).symm
theorem l_rk {Q : JR → Prop} (hX : JXok X) (hd : 5 ≤ d) (hm20 : m ≤ 20) (hm : I 397 1 = nI m) (hz8 : z ≤ 8) (hz : I 397 0 = nI z) (hy : y < 8) : ∀ (n k : Nat) (acc : Int32), k + n = z → Ev X (jm jdX7_trackAtRank) d 0 0 Q 52 [some (.ref 396), some (.int c), some (.int (nI y)), some (.int (fo (rkS I m y) n k acc)), some (.int (nI z))] [] (N, SH v T, I, L, Dd) → Ev X (jm jdX7_trackAtRank) d 0 0 Q 17 [some (.ref 396), some (.int c), some (.int (nI y)), some (.int acc), some (.int (nI k))] [] (N, SH v T, I, L, Dd) := by
  intro n
  induction n with
  | zero =>
    intro k acc hk hQ
    refine Ev.sg hX (sX7_trackAtRank_17.sub 0 2) (pc' := 20) (ls' := [some (.ref 396), some (.int c), some (.int (nI y)), some (.int acc), some (.int (nI k))]) (st' := [.ref 396, .int (nI k)]) (h' := (N, SH v T, I, L, Dd)) rfl ?_
    refine Ev.getf (sX7_trackAtRank_17.lk 2 (q := (20, .getfield 7, 7, 0)) rfl) rfl rfl (sX7_trackAtRank_17.dc 2 (q := (20, .getfield 7, 7, 0)) rfl) ?_
    show Ev _ _ _ _ _ _ 23 [some (.ref 396), some (.int c), some (.int (nI y)), some (.int acc), some (.int (nI k))] [.ref 397, .int (nI k)] (N, SH v T, I, L, Dd)
    refine Ev.sg hX (sX7_trackAtRank_17.sub 3 1) (pc' := 24) (ls' := [some (.ref 396), some (.int c), some (.int (nI y)), some (.int acc), some (.int (nI k))]) (st' := [.int 0, .ref 397, .int (nI k)]) (h' := (N, SH v T, I, L, Dd)) rfl ?_
    refine Ev.ialdE (n := 0) (N := 179) rfl rfl (by omega) (by decide) (sX7_trackAtRank_17.dc 4 (q := (24, .iaload, 0, 0)) rfl) ?_
    show Ev _ _ _ _ _ _ 25 [some (.ref 396), some (.int c), some (.int (nI y)), some (.int acc), some (.int (nI k))] [.int (I 397 0), .int (nI k)] (N, SH v T, I, L, Dd)
    refine Ev.eqst (st' := [.int (nI z), .int (nI k)]) (by rw [show I 397 0 = nI z from (hz)]) ?_
    refine Ev.icmp_ge (tgt := 52) dX7_trackAtRank_25 (by decide) (fun b1 => ?_) (fun b1 => ?_)
    · rw [show k = z by omega]
      exact hQ
    · exact absurd ((nI_leI (a := z) (b := k) (by omega) (by omega)).mpr (by omega)) b1
  | succ n ih =>
    intro k acc hk hQ
    refine Ev.sg hX (sX7_trackAtRank_17.sub 0 2) (pc' := 20) (ls' := [some (.ref 396), some (.int c), some (.int (nI y)), some (.int acc), some (.int (nI k))]) (st' := [.ref 396, .int (nI k)]) (h' := (N, SH v T, I, L, Dd)) rfl ?_
    refine Ev.getf (sX7_trackAtRank_17.lk 2 (q := (20, .getfield 7, 7, 0)) rfl) rfl rfl (sX7_trackAtRank_17.dc 2 (q := (20, .getfield 7, 7, 0)) rfl) ?_
    show Ev _ _ _ _ _ _ 23 [some (.ref 396), some (.int c), some (.int (nI y)), some (.int acc), some (.int (nI k))] [.ref 397, .int (nI k)] (N, SH v T, I, L, Dd)
    refine Ev.sg hX (sX7_trackAtRank_17.sub 3 1) (pc' := 24) (ls' := [some (.ref 396), some (.int c), some (.int (nI y)), some (.int acc), some (.int (nI k))]) (st' := [.int 0, .ref 397, .int (nI k)]) (h' := (N, SH v T, I, L, Dd)) rfl ?_
    refine Ev.ialdE (n := 0) (N := 179) rfl rfl (by omega) (by decide) (sX7_trackAtRank_17.dc 4 (q := (24, .iaload, 0, 0)) rfl) ?_
    show Ev _ _ _ _ _ _ 25 [some (.ref 396), some (.int c), some (.int (nI y)), some (.int acc), some (.int (nI k))] [.int (I 397 0), .int (nI k)] (N, SH v T, I, L, Dd)
    refine Ev.eqst (st' := [.int (nI z), .int (nI k)]) (by rw [show I 397 0 = nI z from (hz)]) ?_
    refine Ev.icmp_ge (tgt := 52) dX7_trackAtRank_25 (by decide) (fun b1 => ?_) (fun b1 => ?_)
    · exact absurd ((nI_leI (a := z) (b := k) (by omega) (by omega)).mp b1) (by omega)
    · refine Ev.sg hX (sX7_trackAtRank_28.sub 0 4) (pc' := 33) (ls' := [some (.ref 396), some (.int c), some (.int (nI y)), some (.int acc), some (.int (nI k))]) (st' := [.int (nI y), .int (nI k), .ref 396, .int acc]) (h' := (N, SH v T, I, L, Dd)) rfl ?_
      refine Ev.callV (As := [.int (nI k), .int (nI y)]) (rest := [.int acc]) dvX7_isAhead mkX7_154 rfl rfl dX7_trackAtRank_33 (m_isAhead (d := d - 1) (I := I) (x := k) (y := y) hX (by omega) hm20 hm (by omega) (by omega)) ⟨by omega, by show 5 + 19 + 40 * _ ≤ 40 * _; omega⟩ ⟨Nat.zero_le _, Nat.zero_le _⟩ rfl (Nat.le_of_ble_eq_true rfl) (fun v9 h9 e9 => ?_) (fun E9 h9 e9 => nomatch e9)
      cases e9
      show Ev _ _ _ _ _ _ 36 [some (.ref 396), some (.int c), some (.int (nI y)), some (.int acc), some (.int (nI k))] [.int (bi (ahM I m k y)), .int acc] (N, SH v T, I, L, Dd)
      refine Ev.if_eq (tgt := 43) dX7_trackAtRank_36 (by decide) (fun b2 => ?_) (fun b2 => ?_)
      · refine Ev.sg hX (sX7_trackAtRank_43.sub 0 1) (pc' := 44) (ls' := [some (.ref 396), some (.int c), some (.int (nI y)), some (.int acc), some (.int (nI k))]) (st' := [.int 0, .int acc]) (h' := (N, SH v T, I, L, Dd)) rfl ?_
        refine Ev.sg hX (sX7_trackAtRank_44.sub 0 4) (pc' := 17) (ls' := [some (.ref 396), some (.int c), some (.int (nI y)), some (.int (acc + 0)), some (.int ((nI k) + 1))]) (st' := []) (h' := (N, SH v T, I, L, Dd)) rfl ?_
        have e1 : rkS I m y k acc = acc + 0 := by rw [rkS, if_neg (bi_0.mp b2)]
        rw [nI_1, ← e1]
        exact ih (k + 1) (rkS I m y k acc) (by omega) hQ
      · refine Ev.sg hX (sX7_trackAtRank_39.sub 0 2) (pc' := 44) (ls' := [some (.ref 396), some (.int c), some (.int (nI y)), some (.int acc), some (.int (nI k))]) (st' := [.int 1, .int acc]) (h' := (N, SH v T, I, L, Dd)) rfl ?_
        refine Ev.sg hX (sX7_trackAtRank_44.sub 0 4) (pc' := 17) (ls' := [some (.ref 396), some (.int c), some (.int (nI y)), some (.int (acc + 1)), some (.int ((nI k) + 1))]) (st' := []) (h' := (N, SH v T, I, L, Dd)) rfl ?_
        have e1 : rkS I m y k acc = acc + 1 := by rw [rkS, if_pos (bi_1.mp b2)]
        rw [nI_1, ← e1]
        exact ih (k + 1) (rkS I m y k acc) (by omega) hQ
theorem l_rko (hX : JXok X) (hd : 5 ≤ d) (hm20 : m ≤ 20) (hm : I 397 1 = nI m) (hz8 : z ≤ 8) (hz : I 397 0 = nI z) : ∀ (n k : Nat) (l3 l4 : Option Value), k + n = z → Ev X (jm jdX7_trackAtRank) d 0 0 (fun R => R = .inl (some (.int (rkP I (rkF I m z c n k)).1), (N, SH v T, (rkP I (rkF I m z c n k)).2, L, Dd))) 2 [some (.ref 396), some (.int c), some (.int (nI k)), l3, l4] [] (N, SH v T, I, L, Dd) := by
  intro n
  induction n with
  | zero =>
    intro k l3 l4 hk
    refine Ev.sg hX (sX7_trackAtRank_2.sub 0 2) (pc' := 4) (ls' := [some (.ref 396), some (.int c), some (.int (nI k)), l3, l4]) (st' := [.ref 396, .int (nI k)]) (h' := (N, SH v T, I, L, Dd)) rfl ?_
    refine Ev.getf (sX7_trackAtRank_2.lk 2 (q := (4, .getfield 7, 7, 0)) rfl) rfl rfl (sX7_trackAtRank_2.dc 2 (q := (4, .getfield 7, 7, 0)) rfl) ?_
    show Ev _ _ _ _ _ _ 7 [some (.ref 396), some (.int c), some (.int (nI k)), l3, l4] [.ref 397, .int (nI k)] (N, SH v T, I, L, Dd)
    refine Ev.sg hX (sX7_trackAtRank_2.sub 3 1) (pc' := 8) (ls' := [some (.ref 396), some (.int c), some (.int (nI k)), l3, l4]) (st' := [.int 0, .ref 397, .int (nI k)]) (h' := (N, SH v T, I, L, Dd)) rfl ?_
    refine Ev.ialdE (n := 0) (N := 179) rfl rfl (by omega) (by decide) (sX7_trackAtRank_2.dc 4 (q := (8, .iaload, 0, 0)) rfl) ?_
    show Ev _ _ _ _ _ _ 9 [some (.ref 396), some (.int c), some (.int (nI k)), l3, l4] [.int (I 397 0), .int (nI k)] (N, SH v T, I, L, Dd)
    refine Ev.eqst (st' := [.int (nI z), .int (nI k)]) (by rw [show I 397 0 = nI z from (hz)]) ?_
    refine Ev.icmp_ge (tgt := 69) dX7_trackAtRank_9 (by decide) (fun b1 => ?_) (fun b1 => ?_)
    · refine Ev.sg hX (sX7_trackAtRank_69.sub 0 2) (pc' := 71) (ls' := [some (.ref 396), some (.int c), some (.int (nI k)), l3, l4]) (st' := [.int 1, .ref 396]) (h' := (N, SH v T, I, L, Dd)) rfl ?_
      refine Ev.callV (As := [.int 1]) (rest := []) dvX7_fails mkX7_75 rfl rfl dX7_trackAtRank_71 (m_fails (d := d - 1) (I := I) hX (by omega)) ⟨by omega, by show 2 + 19 + 40 * _ ≤ 40 * _; omega⟩ ⟨Nat.zero_le _, Nat.zero_le _⟩ rfl (Nat.le_of_ble_eq_true rfl) (fun v9 h9 e9 => ?_) (fun E9 h9 e9 => nomatch e9)
      cases e9
      show Ev _ _ _ _ _ _ 74 [some (.ref 396), some (.int c), some (.int (nI k)), l3, l4] [.int 0] (N, SH v T, up2 I 396 12 1, L, Dd)
      refine Ev.iret dX7_trackAtRank_74 rfl ?_
      rfl
    · exact absurd ((nI_leI (a := z) (b := k) (by omega) (by omega)).mpr (by omega)) b1
  | succ n ih =>
    intro k l3 l4 hk
    refine Ev.sg hX (sX7_trackAtRank_2.sub 0 2) (pc' := 4) (ls' := [some (.ref 396), some (.int c), some (.int (nI k)), l3, l4]) (st' := [.ref 396, .int (nI k)]) (h' := (N, SH v T, I, L, Dd)) rfl ?_
    refine Ev.getf (sX7_trackAtRank_2.lk 2 (q := (4, .getfield 7, 7, 0)) rfl) rfl rfl (sX7_trackAtRank_2.dc 2 (q := (4, .getfield 7, 7, 0)) rfl) ?_
    show Ev _ _ _ _ _ _ 7 [some (.ref 396), some (.int c), some (.int (nI k)), l3, l4] [.ref 397, .int (nI k)] (N, SH v T, I, L, Dd)
    refine Ev.sg hX (sX7_trackAtRank_2.sub 3 1) (pc' := 8) (ls' := [some (.ref 396), some (.int c), some (.int (nI k)), l3, l4]) (st' := [.int 0, .ref 397, .int (nI k)]) (h' := (N, SH v T, I, L, Dd)) rfl ?_
    refine Ev.ialdE (n := 0) (N := 179) rfl rfl (by omega) (by decide) (sX7_trackAtRank_2.dc 4 (q := (8, .iaload, 0, 0)) rfl) ?_
    show Ev _ _ _ _ _ _ 9 [some (.ref 396), some (.int c), some (.int (nI k)), l3, l4] [.int (I 397 0), .int (nI k)] (N, SH v T, I, L, Dd)
    refine Ev.eqst (st' := [.int (nI z), .int (nI k)]) (by rw [show I 397 0 = nI z from (hz)]) ?_
    refine Ev.icmp_ge (tgt := 69) dX7_trackAtRank_9 (by decide) (fun b1 => ?_) (fun b1 => ?_)
    · exact absurd ((nI_leI (a := z) (b := k) (by omega) (by omega)).mp b1) (by omega)
    · refine Ev.sg hX (sX7_trackAtRank_12.sub 0 4) (pc' := 17) (ls' := [some (.ref 396), some (.int c), some (.int (nI k)), some (.int 0), some (.int 0)]) (st' := []) (h' := (N, SH v T, I, L, Dd)) rfl ?_
      refine l_rk hX hd hm20 hm hz8 hz (y := k) (by omega) z 0 0 (Nat.zero_add z) ?_
      refine Ev.sg hX (sX7_trackAtRank_52.sub 0 2) (pc' := 54) (ls' := [some (.ref 396), some (.int c), some (.int (nI k)), some (.int (fo (rkS I m k) z 0 0)), some (.int (nI z))]) (st' := [.int c, .int (fo (rkS I m k) z 0 0)]) (h' := (N, SH v T, I, L, Dd)) rfl ?_
      refine Ev.icmp_ne (tgt := 63) dX7_trackAtRank_54 (by decide) (fun b2 => ?_) (fun b2 => ?_)
      · refine Ev.sg hX (sX7_trackAtRank_63.sub 0 2) (pc' := 2) (ls' := [some (.ref 396), some (.int c), some (.int ((nI k) + 1)), some (.int (fo (rkS I m k) z 0 0)), some (.int (nI z))]) (st' := []) (h' := (N, SH v T, I, L, Dd)) rfl ?_
        rw [nI_1, rkF, fnd, if_neg b2]
        exact ih (k + 1) _ _ (by omega)
      · refine Ev.sg hX (sX7_trackAtRank_57.sub 0 2) (pc' := 59) (ls' := [some (.ref 396), some (.int c), some (.int (nI k)), some (.int (fo (rkS I m k) z 0 0)), some (.int (nI z))]) (st' := [.int (nI k), .ref 396]) (h' := (N, SH v T, I, L, Dd)) rfl ?_
        refine Ev.callV (As := [.int (nI k)]) (rest := []) dvX7_done mkX7_79 rfl rfl dX7_trackAtRank_59 (m_done (d := d - 1) (I := I) hX (by omega)) ⟨by omega, by show 2 + 19 + 40 * _ ≤ 40 * _; omega⟩ ⟨Nat.zero_le _, Nat.zero_le _⟩ rfl (Nat.le_of_ble_eq_true rfl) (fun v9 h9 e9 => ?_) (fun E9 h9 e9 => nomatch e9)
        cases e9
        show Ev _ _ _ _ _ _ 62 [some (.ref 396), some (.int c), some (.int (nI k)), some (.int (fo (rkS I m k) z 0 0)), some (.int (nI z))] [.int (nI k)] (N, SH v T, up2 I 396 12 0, L, Dd)
        refine Ev.iret dX7_trackAtRank_62 rfl ?_
        rw [rkF, fnd, if_pos b2, rkP, if_neg (nI_mi (by omega))]
theorem m_trackAtRank (hX : JXok X) (hd : 5 ≤ d) (hm20 : m ≤ 20) (hm : I 397 1 = nI m) (hz8 : z ≤ 8) (hz : I 397 0 = nI z) : MT X d 0 0 jdX7_trackAtRank [.ref 396, .int c] (N, SH v T, I, L, Dd) (fun R => R = .inl (some (.int (rkP I (rkF I m z c z 0)).1), (N, SH v T, (rkP I (rkF I m z c z 0)).2, L, Dd))) := by
  refine MT.mk dvX7_trackAtRank.1 ?_
  refine Ev.sg hX (sX7_trackAtRank_0.sub 0 2) (pc' := 2) (ls' := [some (.ref 396), some (.int c), some (.int 0), none, none]) (st' := []) (h' := (N, SH v T, I, L, Dd)) rfl ?_
  exact l_rko hX hd hm20 hm hz8 hz z 0 none none (Nat.zero_add z)
theorem m_areConnected (hX : JXok X) (hd : 4 ≤ d) (hz8 : z ≤ 8) (hz : I 397 0 = nI z) : MT X d 0 0 jdX7_areConnected [.ref 396, .int c, .int e] (N, SH v T, I, L, Dd) (fun R => R = .inl (some (.int (acM I c e).1), (N, SH v T, (acM I c e).2, L, Dd))) := by
  refine MT.mk dvX7_areConnected.1 ?_
  refine Ev.sg hX (sX7_areConnected_0.sub 0 4) (pc' := 4) (ls' := [some (.ref 396), some (.int c), some (.int e)]) (st' := [.int e, .int c, .ref 396, .ref 396]) (h' := (N, SH v T, I, L, Dd)) rfl ?_
  refine Ev.callV (As := [.int c, .int e]) (rest := [.ref 396]) dvX7_areTracks mkX7_95 rfl rfl dX7_areConnected_4 (m_areTracks (d := d - 1) (I := I) hX (by omega)) ⟨by omega, by show 3 + 19 + 40 * _ ≤ 40 * _; omega⟩ ⟨Nat.zero_le _, Nat.zero_le _⟩ rfl (Nat.le_of_ble_eq_true rfl) (fun v9 h9 e9 => ?_) (fun E9 h9 e9 => nomatch e9)
  cases e9
  show Ev _ _ _ _ _ _ 7 [some (.ref 396), some (.int c), some (.int e)] [.int (bi (tkM I c ∧ tkM I e)), .ref 396] (N, SH v T, I, L, Dd)
  refine Ev.if_eq (tgt := 14) dX7_areConnected_7 (by decide) (fun b1 => ?_) (fun b1 => ?_)
  · refine Ev.sg hX (sX7_areConnected_14.sub 0 1) (pc' := 15) (ls' := [some (.ref 396), some (.int c), some (.int e)]) (st' := [.int 1, .ref 396]) (h' := (N, SH v T, I, L, Dd)) rfl ?_
    refine Ev.putf hX (sX7_areConnected_15.lk 0 (q := (15, .putfield 42, 7, 12)) rfl) rfl rfl (sX7_areConnected_15.dc 0 (q := (15, .putfield 42, 7, 12)) rfl) ?_
    show Ev _ _ _ _ _ _ 18 [some (.ref 396), some (.int c), some (.int e)] [] (N, SH v T, up2 I 396 12 1, L, Dd)
    refine Ev.sg hX (sX7_areConnected_15.sub 1 1) (pc' := 19) (ls' := [some (.ref 396), some (.int c), some (.int e)]) (st' := [.ref 396]) (h' := (N, SH v T, up2 I 396 12 1, L, Dd)) rfl ?_
    refine Ev.getf (sX7_areConnected_15.lk 2 (q := (19, .getfield 42, 7, 12)) rfl) rfl rfl (sX7_areConnected_15.dc 2 (q := (19, .getfield 42, 7, 12)) rfl) ?_
    show Ev _ _ _ _ _ _ 22 [some (.ref 396), some (.int c), some (.int e)] [.int ((up2 I 396 12 1) 396 12)] (N, SH v T, up2 I 396 12 1, L, Dd)
    refine Ev.eqst (st' := [.int 1]) (by rw [show (up2 I 396 12 1) 396 12 = 1 from (up2_hit)]) ?_
    refine Ev.if_ne (tgt := 38) dX7_areConnected_22 (by decide) (fun b2 => ?_) (fun b2 => ?_)
    · refine Ev.sg hX (sX7_areConnected_38.sub 0 1) (pc' := 39) (ls' := [some (.ref 396), some (.int c), some (.int e)]) (st' := [.int 0]) (h' := (N, SH v T, up2 I 396 12 1, L, Dd)) rfl ?_
      refine Ev.zret dX7_areConnected_39 rfl ?_ ?_
      · rfl
      rw [acM, if_neg (bi_0.mp b1)]
    · exact absurd b2 (by decide)
  · refine Ev.sg hX (sX7_areConnected_10.sub 0 2) (pc' := 15) (ls' := [some (.ref 396), some (.int c), some (.int e)]) (st' := [.int 0, .ref 396]) (h' := (N, SH v T, I, L, Dd)) rfl ?_
    refine Ev.putf hX (sX7_areConnected_15.lk 0 (q := (15, .putfield 42, 7, 12)) rfl) rfl rfl (sX7_areConnected_15.dc 0 (q := (15, .putfield 42, 7, 12)) rfl) ?_
    show Ev _ _ _ _ _ _ 18 [some (.ref 396), some (.int c), some (.int e)] [] (N, SH v T, up2 I 396 12 0, L, Dd)
    refine Ev.sg hX (sX7_areConnected_15.sub 1 1) (pc' := 19) (ls' := [some (.ref 396), some (.int c), some (.int e)]) (st' := [.ref 396]) (h' := (N, SH v T, up2 I 396 12 0, L, Dd)) rfl ?_
    refine Ev.getf (sX7_areConnected_15.lk 2 (q := (19, .getfield 42, 7, 12)) rfl) rfl rfl (sX7_areConnected_15.dc 2 (q := (19, .getfield 42, 7, 12)) rfl) ?_
    show Ev _ _ _ _ _ _ 22 [some (.ref 396), some (.int c), some (.int e)] [.int ((up2 I 396 12 0) 396 12)] (N, SH v T, up2 I 396 12 0, L, Dd)
    refine Ev.eqst (st' := [.int 0]) (by rw [show (up2 I 396 12 0) 396 12 = 0 from (up2_hit)]) ?_
    refine Ev.if_ne (tgt := 38) dX7_areConnected_22 (by decide) (fun b3 => ?_) (fun b3 => ?_)
    · exact absurd rfl b3
    · have htt := bi_1.mp b1
      obtain ⟨x, hx, rfl⟩ := tkM_nI hz8 hz htt.1
      obtain ⟨y, hy, rfl⟩ := tkM_nI hz8 hz htt.2
      have hcx : (nI x).toNatClampNeg = x := nI_clamp (by omega)
      have hcy : (nI y).toNatClampNeg = y := nI_clamp (by omega)
      refine Ev.sg hX (sX7_areConnected_25.sub 0 3) (pc' := 28) (ls' := [some (.ref 396), some (.int (nI x)), some (.int (nI y))]) (st' := [.int (nI y), .int (nI x), .ref 396]) (h' := (N, SH v T, up2 I 396 12 0, L, Dd)) rfl ?_
      refine Ev.callV (As := [.int (nI x), .int (nI y)]) (rest := []) dvX7_isLinked mkX7_67 rfl rfl dX7_areConnected_28 (m_isLinked (d := d - 1) (I := (up2 I 396 12 0)) (a := x) (b := y) hX (by omega) (by omega)) ⟨by omega, by show 3 + 19 + 40 * _ ≤ 40 * _; omega⟩ ⟨Nat.zero_le _, Nat.zero_le _⟩ rfl (Nat.le_of_ble_eq_true rfl) (fun v9 h9 e9 => ?_) (fun E9 h9 e9 => nomatch e9)
      cases e9
      show Ev _ _ _ _ _ _ 31 [some (.ref 396), some (.int (nI x)), some (.int (nI y))] [.int (bi (lkM (up2 I 396 12 0) x y))] (N, SH v T, up2 I 396 12 0, L, Dd)
      refine Ev.if_eq (tgt := 38) dX7_areConnected_31 (by decide) (fun b4 => ?_) (fun b4 => ?_)
      · refine Ev.sg hX (sX7_areConnected_38.sub 0 1) (pc' := 39) (ls' := [some (.ref 396), some (.int (nI x)), some (.int (nI y))]) (st' := [.int 0]) (h' := (N, SH v T, up2 I 396 12 0, L, Dd)) rfl ?_
        refine Ev.zret dX7_areConnected_39 rfl ?_ ?_
        · rfl
        (rw [acM, if_pos htt, hcx, hcy]; exact congrArg (fun w => Sum.inl (some (Value.int w), (N, SH v T, up2 I 396 12 0, L, Dd))) (if_neg (bi_0.mp b4)).symm)
      · refine Ev.sg hX (sX7_areConnected_34.sub 0 2) (pc' := 39) (ls' := [some (.ref 396), some (.int (nI x)), some (.int (nI y))]) (st' := [.int 1]) (h' := (N, SH v T, up2 I 396 12 0, L, Dd)) rfl ?_
        refine Ev.zret dX7_areConnected_39 rfl ?_ ?_
        · rfl
        (rw [acM, if_pos htt, hcx, hcy]; exact congrArg (fun w => Sum.inl (some (Value.int w), (N, SH v T, up2 I 396 12 0, L, Dd))) (if_pos (bi_1.mp b4)).symm)
theorem m_routeLength (hX : JXok X) (hd : 5 ≤ d) (hz8 : z ≤ 8) (hz : I 397 0 = nI z) : MT X d 0 0 jdX7_routeLength [.ref 396, .int c, .int e] (N, SH v T, I, L, Dd) (fun R => R = .inl (some (.int (rlM I z c e).1), (N, SH v T, (rlM I z c e).2, L, Dd))) := by
  refine MT.mk dvX7_routeLength.1 ?_
  refine Ev.sg hX (sX7_routeLength_0.sub 0 3) (pc' := 3) (ls' := [some (.ref 396), some (.int c), some (.int e), none]) (st' := [.int e, .int c, .ref 396]) (h' := (N, SH v T, I, L, Dd)) rfl ?_
  refine Ev.callV (As := [.int c, .int e]) (rest := []) dvX7_areTracks mkX7_95 rfl rfl dX7_routeLength_3 (m_areTracks (d := d - 1) (I := I) hX (by omega)) ⟨by omega, by show 3 + 19 + 40 * _ ≤ 40 * _; omega⟩ ⟨Nat.zero_le _, Nat.zero_le _⟩ rfl (Nat.le_of_ble_eq_true rfl) (fun v9 h9 e9 => ?_) (fun E9 h9 e9 => nomatch e9)
  cases e9
  show Ev _ _ _ _ _ _ 6 [some (.ref 396), some (.int c), some (.int e), none] [.int (bi (tkM I c ∧ tkM I e))] (N, SH v T, I, L, Dd)
  refine Ev.if_ne (tgt := 15) dX7_routeLength_6 (by decide) (fun b1 => ?_) (fun b1 => ?_)
  · have htt := bi_1.mp b1
    obtain ⟨x, hx, rfl⟩ := tkM_nI hz8 hz htt.1
    obtain ⟨y, hy, rfl⟩ := tkM_nI hz8 hz htt.2
    have hcx : (nI x).toNatClampNeg = x := nI_clamp (by omega)
    have hcy : (nI y).toNatClampNeg = y := nI_clamp (by omega)
    refine Ev.sg hX (sX7_routeLength_15.sub 0 3) (pc' := 18) (ls' := [some (.ref 396), some (.int (nI x)), some (.int (nI y)), none]) (st' := [.int (nI y), .int (nI x), .ref 396]) (h' := (N, SH v T, I, L, Dd)) rfl ?_
    refine Ev.callV (As := [.int (nI x), .int (nI y)]) (rest := []) dvX7_lengthOf mkX7_114 rfl rfl dX7_routeLength_18 (m_lengthOf (d := d - 1) (I := I) (a := x) (u := y) hX (by omega) hz8 hz (by omega) (by omega)) ⟨by omega, by show 3 + 19 + 40 * _ ≤ 40 * _; omega⟩ ⟨Nat.zero_le _, Nat.zero_le _⟩ rfl (Nat.le_of_ble_eq_true rfl) (fun v9 h9 e9 => ?_) (fun E9 h9 e9 => nomatch e9)
    cases e9
    show Ev _ _ _ _ _ _ 21 [some (.ref 396), some (.int (nI x)), some (.int (nI y)), none] [.int (exM I z y 403 x)] (N, SH v T, exM I z y, L, Dd)
    refine Ev.sg hX (sX7_routeLength_21.sub 0 3) (pc' := 25) (ls' := [some (.ref 396), some (.int (nI x)), some (.int (nI y)), some (.int (exM I z y 403 x))]) (st' := [.int 100, .int (exM I z y 403 x)]) (h' := (N, SH v T, exM I z y, L, Dd)) rfl ?_
    refine Ev.icmp_ne (tgt := 36) dX7_routeLength_25 (by decide) (fun b2 => ?_) (fun b2 => ?_)
    · refine Ev.sg hX (sX7_routeLength_36.sub 0 2) (pc' := 38) (ls' := [some (.ref 396), some (.int (nI x)), some (.int (nI y)), some (.int (exM I z y 403 x))]) (st' := [.int (exM I z y 403 x), .ref 396]) (h' := (N, SH v T, exM I z y, L, Dd)) rfl ?_
      refine Ev.callV (As := [.int (exM I z y 403 x)]) (rest := []) dvX7_done mkX7_79 rfl rfl dX7_routeLength_38 (m_done (d := d - 1) (I := (exM I z y)) hX (by omega)) ⟨by omega, by show 2 + 19 + 40 * _ ≤ 40 * _; omega⟩ ⟨Nat.zero_le _, Nat.zero_le _⟩ rfl (Nat.le_of_ble_eq_true rfl) (fun v9 h9 e9 => ?_) (fun E9 h9 e9 => nomatch e9)
      cases e9
      show Ev _ _ _ _ _ _ 41 [some (.ref 396), some (.int (nI x)), some (.int (nI y)), some (.int (exM I z y 403 x))] [.int (exM I z y 403 x)] (N, SH v T, up2 (exM I z y) 396 12 0, L, Dd)
      refine Ev.iret dX7_routeLength_41 rfl ?_
      rw [rlM, if_neg (fun w => w htt), hcx, hcy, if_neg b2]
    · refine Ev.sg hX (sX7_routeLength_28.sub 0 2) (pc' := 30) (ls' := [some (.ref 396), some (.int (nI x)), some (.int (nI y)), some (.int (exM I z y 403 x))]) (st' := [.int 2, .ref 396]) (h' := (N, SH v T, exM I z y, L, Dd)) rfl ?_
      refine Ev.callV (As := [.int 2]) (rest := []) dvX7_fails mkX7_75 rfl rfl dX7_routeLength_30 (m_fails (d := d - 1) (I := (exM I z y)) hX (by omega)) ⟨by omega, by show 2 + 19 + 40 * _ ≤ 40 * _; omega⟩ ⟨Nat.zero_le _, Nat.zero_le _⟩ rfl (Nat.le_of_ble_eq_true rfl) (fun v9 h9 e9 => ?_) (fun E9 h9 e9 => nomatch e9)
      cases e9
      show Ev _ _ _ _ _ _ 33 [some (.ref 396), some (.int (nI x)), some (.int (nI y)), some (.int (exM I z y 403 x))] [.int 0] (N, SH v T, up2 (exM I z y) 396 12 2, L, Dd)
      refine Ev.sg hX (sX7_routeLength_33.sub 0 1) (pc' := 41) (ls' := [some (.ref 396), some (.int (nI x)), some (.int (nI y)), some (.int (exM I z y 403 x))]) (st' := [.int 0]) (h' := (N, SH v T, up2 (exM I z y) 396 12 2, L, Dd)) rfl ?_
      refine Ev.iret dX7_routeLength_41 rfl ?_
      rw [rlM, if_neg (fun w => w htt), hcx, hcy, if_pos b2]
  · refine Ev.sg hX (sX7_routeLength_9.sub 0 2) (pc' := 11) (ls' := [some (.ref 396), some (.int c), some (.int e), none]) (st' := [.int 1, .ref 396]) (h' := (N, SH v T, I, L, Dd)) rfl ?_
    refine Ev.callV (As := [.int 1]) (rest := []) dvX7_fails mkX7_75 rfl rfl dX7_routeLength_11 (m_fails (d := d - 1) (I := I) hX (by omega)) ⟨by omega, by show 2 + 19 + 40 * _ ≤ 40 * _; omega⟩ ⟨Nat.zero_le _, Nat.zero_le _⟩ rfl (Nat.le_of_ble_eq_true rfl) (fun v9 h9 e9 => ?_) (fun E9 h9 e9 => nomatch e9)
    cases e9
    show Ev _ _ _ _ _ _ 14 [some (.ref 396), some (.int c), some (.int e), none] [.int 0] (N, SH v T, up2 I 396 12 1, L, Dd)
    refine Ev.iret dX7_routeLength_14 rfl ?_
    rw [rlM, if_pos (bi_0.mp b1)]
theorem m_routeLengthByMatrix (hX : JXok X) (hd : 6 ≤ d) (hz8 : z ≤ 8) (hz : I 397 0 = nI z) : MT X d 0 0 jdX7_routeLengthByMatrix [.ref 396, .int c, .int e] (N, SH v T, I, L, Dd) (fun R => R = .inl (some (.int (rlM I z c e).1), (N, SH v T, (rlM I z c e).2, L, Dd))) := by
  refine MT.mk dvX7_routeLengthByMatrix.1 ?_
  refine Ev.sg hX (sX7_routeLengthByMatrix_0.sub 0 3) (pc' := 3) (ls' := [some (.ref 396), some (.int c), some (.int e)]) (st' := [.int e, .int c, .ref 396]) (h' := (N, SH v T, I, L, Dd)) rfl ?_
  refine Ev.callV (As := [.int c, .int e]) (rest := []) dvX7_routeLength mkX7_157 rfl rfl dX7_routeLengthByMatrix_3 (m_routeLength (d := d - 1) (I := I) hX (by omega) hz8 hz) ⟨by omega, by show 4 + 19 + 40 * _ ≤ 40 * _; omega⟩ ⟨Nat.zero_le _, Nat.zero_le _⟩ rfl (Nat.le_of_ble_eq_true rfl) (fun v9 h9 e9 => ?_) (fun E9 h9 e9 => nomatch e9)
  cases e9
  show Ev _ _ _ _ _ _ 6 [some (.ref 396), some (.int c), some (.int e)] [.int ((rlM I z c e).1)] (N, SH v T, (rlM I z c e).2, L, Dd)
  refine Ev.iret dX7_routeLengthByMatrix_6 rfl ?_
  rfl
theorem l_mnear (hX : JXok X) (hd : 2 ≤ d) (hx : x < 8) : ∀ (n k : Nat), k + n = 8 → (∃ j, j < 8 ∧ neM I x n k = nI j) → Ev X (jm jdX7_nearer) d 0 0 (fun R => R = .inl (some (.int (neM I x n k)), (N, SH v T, I, L, Dd))) 2 [some (.ref 396), some (.int (nI x)), some (.int (nI k))] [] (N, SH v T, I, L, Dd) := by
  intro n
  induction n with
  | zero =>
    intro k hk hj
    obtain ⟨j, h1, h2⟩ := hj
    exact absurd h2.symm (nI_mi (by omega))
  | succ n ih =>
    intro k hk hj
    refine Ev.sg hX (sX7_nearer_2.sub 0 3) (pc' := 5) (ls' := [some (.ref 396), some (.int (nI x)), some (.int (nI k))]) (st' := [.int (nI k), .int (nI x), .ref 396]) (h' := (N, SH v T, I, L, Dd)) rfl ?_
    refine Ev.callV (As := [.int (nI x), .int (nI k)]) (rest := []) dvX7_isLinked mkX7_67 rfl rfl dX7_nearer_5 (m_isLinked (d := d - 1) (I := I) (a := x) (b := k) hX (by omega) (by omega)) ⟨by omega, by show 3 + 19 + 40 * _ ≤ 40 * _; omega⟩ ⟨Nat.zero_le _, Nat.zero_le _⟩ rfl (Nat.le_of_ble_eq_true rfl) (fun v9 h9 e9 => ?_) (fun E9 h9 e9 => nomatch e9)
    cases e9
    show Ev _ _ _ _ _ _ 8 [some (.ref 396), some (.int (nI x)), some (.int (nI k))] [.int (bi (lkM I x k))] (N, SH v T, I, L, Dd)
    refine Ev.if_eq (tgt := 28) dX7_nearer_8 (by decide) (fun b1 => ?_) (fun b1 => ?_)
    · refine Ev.sg hX (sX7_nearer_28.sub 0 2) (pc' := 2) (ls' := [some (.ref 396), some (.int (nI x)), some (.int ((nI k) + 1))]) (st' := []) (h' := (N, SH v T, I, L, Dd)) rfl ?_
      have e1 : neM I x (n + 1) k = neM I x n (k + 1) := by rw [neM, fnd, if_neg (fun w => (bi_0.mp b1) w.1)]
      rw [nI_1, e1]
      exact ih (k + 1) (by omega) (by rw [← e1]; exact hj)
    · refine Ev.sg hX (sX7_nearer_11.sub 0 1) (pc' := 12) (ls' := [some (.ref 396), some (.int (nI x)), some (.int (nI k))]) (st' := [.ref 396]) (h' := (N, SH v T, I, L, Dd)) rfl ?_
      refine Ev.getf (sX7_nearer_11.lk 1 (q := (12, .getfield 36, 7, 13)) rfl) rfl rfl (sX7_nearer_11.dc 1 (q := (12, .getfield 36, 7, 13)) rfl) ?_
      show Ev _ _ _ _ _ _ 15 [some (.ref 396), some (.int (nI x)), some (.int (nI k))] [.ref 403] (N, SH v T, I, L, Dd)
      refine Ev.sg hX (sX7_nearer_11.sub 2 1) (pc' := 16) (ls' := [some (.ref 396), some (.int (nI x)), some (.int (nI k))]) (st' := [.int (nI k), .ref 403]) (h' := (N, SH v T, I, L, Dd)) rfl ?_
      refine Ev.ialdE (n := k) (N := 8) rfl rfl (by omega) (by decide) dX7_nearer_16 ?_
      show Ev _ _ _ _ _ _ 17 [some (.ref 396), some (.int (nI x)), some (.int (nI k))] [.int (I 403 k)] (N, SH v T, I, L, Dd)
      refine Ev.sg hX (sX7_nearer_17.sub 0 1) (pc' := 18) (ls' := [some (.ref 396), some (.int (nI x)), some (.int (nI k))]) (st' := [.ref 396, .int (I 403 k)]) (h' := (N, SH v T, I, L, Dd)) rfl ?_
      refine Ev.getf (sX7_nearer_17.lk 1 (q := (18, .getfield 36, 7, 13)) rfl) rfl rfl (sX7_nearer_17.dc 1 (q := (18, .getfield 36, 7, 13)) rfl) ?_
      show Ev _ _ _ _ _ _ 21 [some (.ref 396), some (.int (nI x)), some (.int (nI k))] [.ref 403, .int (I 403 k)] (N, SH v T, I, L, Dd)
      refine Ev.sg hX (sX7_nearer_17.sub 2 1) (pc' := 22) (ls' := [some (.ref 396), some (.int (nI x)), some (.int (nI k))]) (st' := [.int (nI x), .ref 403, .int (I 403 k)]) (h' := (N, SH v T, I, L, Dd)) rfl ?_
      refine Ev.ialdE (n := x) (N := 8) rfl rfl (by omega) (by decide) dX7_nearer_22 ?_
      show Ev _ _ _ _ _ _ 23 [some (.ref 396), some (.int (nI x)), some (.int (nI k))] [.int (I 403 x), .int (I 403 k)] (N, SH v T, I, L, Dd)
      refine Ev.sg hX (sX7_nearer_23.sub 0 2) (pc' := 25) (ls' := [some (.ref 396), some (.int (nI x)), some (.int (nI k))]) (st' := [.int ((I 403 x) - 1), .int (I 403 k)]) (h' := (N, SH v T, I, L, Dd)) rfl ?_
      refine Ev.icmp_eq (tgt := 34) dX7_nearer_25 (by decide) (fun b2 => ?_) (fun b2 => ?_)
      · refine Ev.sg hX (sX7_nearer_34.sub 0 1) (pc' := 35) (ls' := [some (.ref 396), some (.int (nI x)), some (.int (nI k))]) (st' := [.int (nI k)]) (h' := (N, SH v T, I, L, Dd)) rfl ?_
        refine Ev.iret dX7_nearer_35 rfl ?_
        rw [neM, fnd, if_pos ⟨bi_1.mp b1, b2⟩]
      · refine Ev.sg hX (sX7_nearer_28.sub 0 2) (pc' := 2) (ls' := [some (.ref 396), some (.int (nI x)), some (.int ((nI k) + 1))]) (st' := []) (h' := (N, SH v T, I, L, Dd)) rfl ?_
        have e1 : neM I x (n + 1) k = neM I x n (k + 1) := by rw [neM, fnd, if_neg (fun w => b2 w.2)]
        rw [nI_1, e1]
        exact ih (k + 1) (by omega) (by rw [← e1]; exact hj)
theorem m_nearer (hX : JXok X) (hd : 2 ≤ d) (hx : x < 8) (hj : ∃ j, j < 8 ∧ neM I x 8 0 = nI j) : MT X d 0 0 jdX7_nearer [.ref 396, .int (nI x)] (N, SH v T, I, L, Dd) (fun R => R = .inl (some (.int (neM I x 8 0)), (N, SH v T, I, L, Dd))) := by
  refine MT.mk dvX7_nearer.1 ?_
  refine Ev.sg hX (sX7_nearer_0.sub 0 2) (pc' := 2) (ls' := [some (.ref 396), some (.int (nI x)), some (.int 0)]) (st' := []) (h' := (N, SH v T, I, L, Dd)) rfl ?_
  exact l_mnear hX hd hx 8 0 rfl hj
theorem l_rt {Q : JR → Prop} {J : HI} (hX : JXok X) (hd : 3 ≤ d) (hq31 : q < 2 ^ 31) : ∀ (n k x : Nat), k + n = q → x < 8 → okRt J n x → Ev X (jm jdX7_routeTrack) d 0 0 Q 59 [some (.ref 396), some (.int c), some (.int e), some (.int (nI q)), some (.int i), some (.int (nI (rtN J n x))), some (.int (nI q))] [] (N, SH v T, J, L, Dd) → Ev X (jm jdX7_routeTrack) d 0 0 Q 39 [some (.ref 396), some (.int c), some (.int e), some (.int (nI q)), some (.int i), some (.int (nI x)), some (.int (nI k))] [] (N, SH v T, J, L, Dd) := by
  intro n
  induction n with
  | zero =>
    intro k x hk hx hok hQ
    refine Ev.sg hX (sX7_routeTrack_39.sub 0 2) (pc' := 42) (ls' := [some (.ref 396), some (.int c), some (.int e), some (.int (nI q)), some (.int i), some (.int (nI x)), some (.int (nI k))]) (st' := [.int (nI q), .int (nI k)]) (h' := (N, SH v T, J, L, Dd)) rfl ?_
    refine Ev.icmp_ge (tgt := 59) dX7_routeTrack_42 (by decide) (fun b1 => ?_) (fun b1 => ?_)
    · rw [show k = q by omega]
      exact hQ
    · exact absurd ((nI_leI (a := q) (b := k) (by omega) (by omega)).mpr (by omega)) b1
  | succ n ih =>
    intro k x hk hx hok hQ
    refine Ev.sg hX (sX7_routeTrack_39.sub 0 2) (pc' := 42) (ls' := [some (.ref 396), some (.int c), some (.int e), some (.int (nI q)), some (.int i), some (.int (nI x)), some (.int (nI k))]) (st' := [.int (nI q), .int (nI k)]) (h' := (N, SH v T, J, L, Dd)) rfl ?_
    refine Ev.icmp_ge (tgt := 59) dX7_routeTrack_42 (by decide) (fun b1 => ?_) (fun b1 => ?_)
    · exact absurd ((nI_leI (a := q) (b := k) (by omega) (by omega)).mp b1) (by omega)
    · obtain ⟨⟨j, hj, hne⟩, hok⟩ := hok
      rw [hne, show (nI j).toNatClampNeg = j from nI_clamp (by omega)] at hok
      rw [rtN, hne, show (nI j).toNatClampNeg = j from nI_clamp (by omega)] at hQ
      refine Ev.sg hX (sX7_routeTrack_45.sub 0 2) (pc' := 48) (ls' := [some (.ref 396), some (.int c), some (.int e), some (.int (nI q)), some (.int i), some (.int (nI x)), some (.int (nI k))]) (st' := [.int (nI x), .ref 396]) (h' := (N, SH v T, J, L, Dd)) rfl ?_
      refine Ev.callV (As := [.int (nI x)]) (rest := []) dvX7_nearer mkX7_160 rfl rfl dX7_routeTrack_48 (m_nearer (d := d - 1) (I := J) (x := x) hX (by omega) hx ⟨j, hj, hne⟩) ⟨by omega, by show 3 + 19 + 40 * _ ≤ 40 * _; omega⟩ ⟨Nat.zero_le _, Nat.zero_le _⟩ rfl (Nat.le_of_ble_eq_true rfl) (fun v9 h9 e9 => ?_) (fun E9 h9 e9 => nomatch e9)
      cases e9
      refine Ev.eqst (st' := [.int (nI j)]) (by rw [hne]; rfl) ?_
      show Ev _ _ _ _ _ _ 51 [some (.ref 396), some (.int c), some (.int e), some (.int (nI q)), some (.int i), some (.int (nI x)), some (.int (nI k))] [.int (nI j)] (N, SH v T, J, L, Dd)
      refine Ev.sg hX (sX7_routeTrack_51.sub 0 3) (pc' := 39) (ls' := [some (.ref 396), some (.int c), some (.int e), some (.int (nI q)), some (.int i), some (.int (nI j)), some (.int ((nI k) + 1))]) (st' := []) (h' := (N, SH v T, J, L, Dd)) rfl ?_
      rw [nI_1]
      exact ih (k + 1) j (by omega) hj hok hQ
theorem rlM_ok {I : HI} {z : Nat} {c e : Int32} (hz8 : z ≤ 8) (hz : I 397 0 = nI z) (h : (rlM I z c e).2 396 12 ≤ 0) : ∃ x, x < z ∧ c = nI x := by
  by_cases h1 : tkM I c ∧ tkM I e
  · exact tkM_nI hz8 hz h1.1
  · rw [rlM, if_pos h1] at h
    exact absurd (show (1 : Int32) ≤ 0 from h) (by decide)
theorem m_routeTrack (hX : JXok X) (hd : 6 ≤ d) (hz8 : z ≤ 8) (hz : I 397 0 = nI z) (hok : (rlM I z c e).2 396 12 ≤ 0 → (0 ≤ i0 ∧ i0 ≤ (rlM I z c e).1) → okRt (rlM I z c e).2 i0.toNatClampNeg c.toNatClampNeg) : MT X d 0 0 jdX7_routeTrack [.ref 396, .int c, .int e, .int i0] (N, SH v T, I, L, Dd) (fun R => R = .inl (some (.int (rtM I z c e i0).1), (N, SH v T, (rtM I z c e i0).2, L, Dd))) := by
  refine MT.mk dvX7_routeTrack.1 ?_
  refine Ev.sg hX (sX7_routeTrack_0.sub 0 3) (pc' := 3) (ls' := [some (.ref 396), some (.int c), some (.int e), some (.int i0), none, none, none]) (st' := [.int e, .int c, .ref 396]) (h' := (N, SH v T, I, L, Dd)) rfl ?_
  refine Ev.callV (As := [.int c, .int e]) (rest := []) dvX7_routeLength mkX7_157 rfl rfl dX7_routeTrack_3 (m_routeLength (d := d - 1) (I := I) hX (by omega) hz8 hz) ⟨by omega, by show 4 + 19 + 40 * _ ≤ 40 * _; omega⟩ ⟨Nat.zero_le _, Nat.zero_le _⟩ rfl (Nat.le_of_ble_eq_true rfl) (fun v9 h9 e9 => ?_) (fun E9 h9 e9 => nomatch e9)
  cases e9
  show Ev _ _ _ _ _ _ 6 [some (.ref 396), some (.int c), some (.int e), some (.int i0), none, none, none] [.int ((rlM I z c e).1)] (N, SH v T, (rlM I z c e).2, L, Dd)
  refine Ev.sg hX (sX7_routeTrack_6.sub 0 2) (pc' := 9) (ls' := [some (.ref 396), some (.int c), some (.int e), some (.int i0), some (.int ((rlM I z c e).1)), none, none]) (st' := [.ref 396]) (h' := (N, SH v T, (rlM I z c e).2, L, Dd)) rfl ?_
  refine Ev.getf (sX7_routeTrack_6.lk 2 (q := (9, .getfield 42, 7, 12)) rfl) rfl rfl (sX7_routeTrack_6.dc 2 (q := (9, .getfield 42, 7, 12)) rfl) ?_
  show Ev _ _ _ _ _ _ 12 [some (.ref 396), some (.int c), some (.int e), some (.int i0), some (.int ((rlM I z c e).1)), none, none] [.int (((rlM I z c e).2) 396 12)] (N, SH v T, (rlM I z c e).2, L, Dd)
  refine Ev.if_le (tgt := 17) dX7_routeTrack_12 (by decide) (fun b1 => ?_) (fun b1 => ?_)
  · refine Ev.sg hX (sX7_routeTrack_17.sub 0 3) (pc' := 21) (ls' := [some (.ref 396), some (.int c), some (.int e), some (.int i0), some (.int ((rlM I z c e).1)), none, none]) (st' := [.int ((rlM I z c e).1), .int 0, .int i0]) (h' := (N, SH v T, (rlM I z c e).2, L, Dd)) rfl ?_
    refine Ev.callS (As := [.int i0, .int 0, .int ((rlM I z c e).1)]) (rest := []) dsX7_in mkX7_52 dX7_routeTrack_21 (m_in (d := d - 1) hX (by omega)) ⟨by omega, by show 3 + 19 + 40 * _ ≤ 40 * _; omega⟩ ⟨Nat.zero_le _, Nat.zero_le _⟩ rfl (Nat.le_of_ble_eq_true rfl) (fun v9 h9 e9 => ?_) (fun E9 h9 e9 => nomatch e9)
    cases e9
    show Ev _ _ _ _ _ _ 24 [some (.ref 396), some (.int c), some (.int e), some (.int i0), some (.int ((rlM I z c e).1)), none, none] [.int (bi (0 ≤ i0 ∧ i0 ≤ ((rlM I z c e).1)))] (N, SH v T, (rlM I z c e).2, L, Dd)
    refine Ev.if_ne (tgt := 33) dX7_routeTrack_24 (by decide) (fun b2 => ?_) (fun b2 => ?_)
    · have hin := bi_1.mp b2
      have hth := b1
      obtain ⟨q, hq31, rfl⟩ := nI_of (Int32.not_lt.mpr hin.1)
      have hcq : (nI q).toNatClampNeg = q := nI_clamp hq31
      obtain ⟨x, hx, rfl⟩ := rlM_ok hz8 hz hth
      have hcx : (nI x).toNatClampNeg = x := nI_clamp (by omega)
      refine Ev.sg hX (sX7_routeTrack_33.sub 0 4) (pc' := 39) (ls' := [some (.ref 396), some (.int (nI x)), some (.int e), some (.int (nI q)), some (.int ((rlM I z (nI x) e).1)), some (.int (nI x)), some (.int 0)]) (st' := []) (h' := (N, SH v T, (rlM I z (nI x) e).2, L, Dd)) rfl ?_
      refine l_rt (J := (rlM I z (nI x) e).2) hX (by omega) hq31 q 0 x (Nat.zero_add q) (by omega) (by have h9 := hok hth hin; rw [hcq, hcx] at h9; exact h9) ?_
      refine Ev.sg hX (sX7_routeTrack_59.sub 0 2) (pc' := 62) (ls' := [some (.ref 396), some (.int (nI x)), some (.int e), some (.int (nI q)), some (.int ((rlM I z (nI x) e).1)), some (.int (nI (rtN (rlM I z (nI x) e).2 q x))), some (.int (nI q))]) (st' := [.int (nI (rtN (rlM I z (nI x) e).2 q x)), .ref 396]) (h' := (N, SH v T, (rlM I z (nI x) e).2, L, Dd)) rfl ?_
      refine Ev.callV (As := [.int (nI (rtN (rlM I z (nI x) e).2 q x))]) (rest := []) dvX7_done mkX7_79 rfl rfl dX7_routeTrack_62 (m_done (d := d - 1) (I := ((rlM I z (nI x) e).2)) hX (by omega)) ⟨by omega, by show 2 + 19 + 40 * _ ≤ 40 * _; omega⟩ ⟨Nat.zero_le _, Nat.zero_le _⟩ rfl (Nat.le_of_ble_eq_true rfl) (fun v9 h9 e9 => ?_) (fun E9 h9 e9 => nomatch e9)
      cases e9
      show Ev _ _ _ _ _ _ 65 [some (.ref 396), some (.int (nI x)), some (.int e), some (.int (nI q)), some (.int ((rlM I z (nI x) e).1)), some (.int (nI (rtN (rlM I z (nI x) e).2 q x))), some (.int (nI q))] [.int (nI (rtN (rlM I z (nI x) e).2 q x))] (N, SH v T, up2 ((rlM I z (nI x) e).2) 396 12 0, L, Dd)
      refine Ev.iret dX7_routeTrack_65 rfl ?_
      rw [rtM, if_neg (fun w => w hth), if_neg (fun w => w hin), hcq, hcx]
    · refine Ev.sg hX (sX7_routeTrack_27.sub 0 2) (pc' := 29) (ls' := [some (.ref 396), some (.int c), some (.int e), some (.int i0), some (.int ((rlM I z c e).1)), none, none]) (st' := [.int 2, .ref 396]) (h' := (N, SH v T, (rlM I z c e).2, L, Dd)) rfl ?_
      refine Ev.callV (As := [.int 2]) (rest := []) dvX7_fails mkX7_75 rfl rfl dX7_routeTrack_29 (m_fails (d := d - 1) (I := ((rlM I z c e).2)) hX (by omega)) ⟨by omega, by show 2 + 19 + 40 * _ ≤ 40 * _; omega⟩ ⟨Nat.zero_le _, Nat.zero_le _⟩ rfl (Nat.le_of_ble_eq_true rfl) (fun v9 h9 e9 => ?_) (fun E9 h9 e9 => nomatch e9)
      cases e9
      show Ev _ _ _ _ _ _ 32 [some (.ref 396), some (.int c), some (.int e), some (.int i0), some (.int ((rlM I z c e).1)), none, none] [.int 0] (N, SH v T, up2 ((rlM I z c e).2) 396 12 2, L, Dd)
      refine Ev.iret dX7_routeTrack_32 rfl ?_
      rw [rtM, if_neg (fun w => w b1), if_pos (bi_0.mp b2)]
  · refine Ev.sg hX (sX7_routeTrack_15.sub 0 1) (pc' := 16) (ls' := [some (.ref 396), some (.int c), some (.int e), some (.int i0), some (.int ((rlM I z c e).1)), none, none]) (st' := [.int 0]) (h' := (N, SH v T, (rlM I z c e).2, L, Dd)) rfl ?_
    refine Ev.iret dX7_routeTrack_16 rfl ?_
    rw [rtM, if_pos b1]
end MOD9
