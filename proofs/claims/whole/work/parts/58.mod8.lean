/-! the model: queries about tracks -/
def dnM (p : Prop) [Decidable p] (c : Int32) (I : HI) (e : Int32) : Int32 × HI := if p then (c, up2 I 396 12 0) else (0, up2 I 396 12 e)
theorem dnM_t {p : Prop} [Decidable p] {c e : Int32} {I : HI} (h : p) : dnM p c I e = (c, up2 I 396 12 0) := if_pos h
theorem dnM_f {p : Prop} [Decidable p] {c e : Int32} {I : HI} (h : ¬ p) : dnM p c I e = (0, up2 I 396 12 e) := if_neg h
def paS (I : HI) (m x i : Nat) : Nat → Int32 → Int32 := fun j acc => acc + (if I 397 (99 + (slAM I m (nI x) (nI j)).toNatClampNeg) < I 397 (99 + (slAM I m (nI x) (nI i)).toNatClampNeg) then 1 else 0)
def paM (I : HI) (m x c0 : Nat) : Int32 := fo (fun i acc => fo (paS I m x i) i 0 acc) c0 0 0
abbrev ahM (I : HI) (m a b : Nat) : Prop := 0 < roM I m a - roM I m b ∨ (roM I m a - roM I m b = 0 ∧ (0 < I 397 (15 + b) - I 397 (15 + a) ∨ (I 397 (15 + b) - I 397 (15 + a) = 0 ∧ nI a < nI b)))
section MOD8
variable {X : JX} {d N v : Nat} {T : Nat → Option JS} {I : Nat → Nat → Int32} {L : Nat → Nat → Int64} {Dd : Nat → Nat → UInt64} {a b c e i0 t dd le we de : Int32} {m z x y q c0 s n ch : Nat}
theorem m_trackCount (hX : JXok X) (hd : 1 ≤ d) (hz8 : z ≤ 8) (hz : I 397 0 = nI z) : MT X d 0 0 jdX7_trackCount [.ref 396] (N, SH v T, I, L, Dd) (fun R => R = .inl (some (.int (nI z)), (N, SH v T, up2 I 396 12 0, L, Dd))) := by
  refine MT.mk dvX7_trackCount.1 ?_
  refine Ev.sg hX (sX7_trackCount_0.sub 0 2) (pc' := 2) (ls' := [some (.ref 396)]) (st' := [.ref 396, .ref 396]) (h' := (N, SH v T, I, L, Dd)) rfl ?_
  refine Ev.getf (sX7_trackCount_0.lk 2 (q := (2, .getfield 7, 7, 0)) rfl) rfl rfl (sX7_trackCount_0.dc 2 (q := (2, .getfield 7, 7, 0)) rfl) ?_
  show Ev _ _ _ _ _ _ 5 [some (.ref 396)] [.ref 397, .ref 396] (N, SH v T, I, L, Dd)
  refine Ev.sg hX (sX7_trackCount_0.sub 3 1) (pc' := 6) (ls' := [some (.ref 396)]) (st' := [.int 0, .ref 397, .ref 396]) (h' := (N, SH v T, I, L, Dd)) rfl ?_
  refine Ev.ialdE (n := 0) (N := 179) rfl rfl (by omega) (by decide) (sX7_trackCount_0.dc 4 (q := (6, .iaload, 0, 0)) rfl) ?_
  show Ev _ _ _ _ _ _ 7 [some (.ref 396)] [.int (I 397 0), .ref 396] (N, SH v T, I, L, Dd)
  refine Ev.eqst (st' := [.int (nI z), .ref 396]) (by rw [show I 397 0 = nI z from (hz)]) ?_
  refine Ev.callV (As := [.int (nI z)]) (rest := []) dvX7_done mkX7_79 rfl rfl dX7_trackCount_7 (m_done (d := d - 1) (I := I) hX (by omega)) ⟨by omega, by show 2 + 19 + 40 * _ ≤ 40 * _; omega⟩ ⟨Nat.zero_le _, Nat.zero_le _⟩ rfl (Nat.le_of_ble_eq_true rfl) (fun v9 h9 e9 => ?_) (fun E9 h9 e9 => nomatch e9)
  cases e9
  show Ev _ _ _ _ _ _ 10 [some (.ref 396)] [.int (nI z)] (N, SH v T, up2 I 396 12 0, L, Dd)
  refine Ev.iret dX7_trackCount_10 rfl ?_
  rfl
theorem m_freeLength (hX : JXok X) (hd : 3 ≤ d) (hm20 : m ≤ 20) (hm : I 397 1 = nI m) (hz8 : z ≤ 8) (hz : I 397 0 = nI z) : MT X d 0 0 jdX7_freeLength [.ref 396, .int t] (N, SH v T, I, L, Dd) (fun R => R = .inl (some (.int (dnM (tkM I t) (roM I m t.toNatClampNeg) I 1).1), (N, SH v T, (dnM (tkM I t) (roM I m t.toNatClampNeg) I 1).2, L, Dd))) := by
  refine MT.mk dvX7_freeLength.1 ?_
  refine Ev.sg hX (sX7_freeLength_0.sub 0 2) (pc' := 2) (ls' := [some (.ref 396), some (.int t)]) (st' := [.int t, .ref 396]) (h' := (N, SH v T, I, L, Dd)) rfl ?_
  refine Ev.callV (As := [.int t]) (rest := []) dvX7_isTrack mkX7_56 rfl rfl dX7_freeLength_2 (m_isTrack (d := d - 1) (I := I) hX (by omega)) ⟨by omega, by show 2 + 19 + 40 * _ ≤ 40 * _; omega⟩ ⟨Nat.zero_le _, Nat.zero_le _⟩ rfl (Nat.le_of_ble_eq_true rfl) (fun v9 h9 e9 => ?_) (fun E9 h9 e9 => nomatch e9)
  cases e9
  show Ev _ _ _ _ _ _ 5 [some (.ref 396), some (.int t)] [.int (bi (tkM I t))] (N, SH v T, I, L, Dd)
  refine Ev.if_eq (tgt := 20) dX7_freeLength_5 (by decide) (fun b1 => ?_) (fun b1 => ?_)
  · refine Ev.sg hX (sX7_freeLength_20.sub 0 2) (pc' := 22) (ls' := [some (.ref 396), some (.int t)]) (st' := [.int 1, .ref 396]) (h' := (N, SH v T, I, L, Dd)) rfl ?_
    refine Ev.callV (As := [.int 1]) (rest := []) dvX7_fails mkX7_75 rfl rfl dX7_freeLength_22 (m_fails (d := d - 1) (I := I) hX (by omega)) ⟨by omega, by show 2 + 19 + 40 * _ ≤ 40 * _; omega⟩ ⟨Nat.zero_le _, Nat.zero_le _⟩ rfl (Nat.le_of_ble_eq_true rfl) (fun v9 h9 e9 => ?_) (fun E9 h9 e9 => nomatch e9)
    cases e9
    show Ev _ _ _ _ _ _ 25 [some (.ref 396), some (.int t)] [.int 0] (N, SH v T, up2 I 396 12 1, L, Dd)
    refine Ev.iret dX7_freeLength_25 rfl ?_
    rw [dnM_f (bi_0.mp b1)]
  · have htt := bi_1.mp b1
    obtain ⟨x, hx, rfl⟩ := tkM_nI hz8 hz htt
    have hcx : (nI x).toNatClampNeg = x := nI_clamp (by omega)
    refine Ev.sg hX (sX7_freeLength_8.sub 0 3) (pc' := 11) (ls' := [some (.ref 396), some (.int (nI x))]) (st' := [.int (nI x), .ref 396, .ref 396]) (h' := (N, SH v T, I, L, Dd)) rfl ?_
    refine Ev.callV (As := [.int (nI x)]) (rest := [.ref 396]) dvX7_room mkX7_107 rfl rfl dX7_freeLength_11 (m_room (d := d - 1) (I := I) (t := x) hX (by omega) hm20 hm (by omega)) ⟨by omega, by show 2 + 19 + 40 * _ ≤ 40 * _; omega⟩ ⟨Nat.zero_le _, Nat.zero_le _⟩ rfl (Nat.le_of_ble_eq_true rfl) (fun v9 h9 e9 => ?_) (fun E9 h9 e9 => nomatch e9)
    cases e9
    show Ev _ _ _ _ _ _ 14 [some (.ref 396), some (.int (nI x))] [.int (roM I m x), .ref 396] (N, SH v T, I, L, Dd)
    refine Ev.callV (As := [.int (roM I m x)]) (rest := []) dvX7_done mkX7_79 rfl rfl dX7_freeLength_14 (m_done (d := d - 1) (I := I) hX (by omega)) ⟨by omega, by show 2 + 19 + 40 * _ ≤ 40 * _; omega⟩ ⟨Nat.zero_le _, Nat.zero_le _⟩ rfl (Nat.le_of_ble_eq_true rfl) (fun v9 h9 e9 => ?_) (fun E9 h9 e9 => nomatch e9)
    cases e9
    show Ev _ _ _ _ _ _ 17 [some (.ref 396), some (.int (nI x))] [.int (roM I m x)] (N, SH v T, up2 I 396 12 0, L, Dd)
    refine Ev.sg hX (sX7_freeLength_17.sub 0 1) (pc' := 25) (ls' := [some (.ref 396), some (.int (nI x))]) (st' := [.int (roM I m x)]) (h' := (N, SH v T, up2 I 396 12 0, L, Dd)) rfl ?_
    refine Ev.iret dX7_freeLength_25 rfl ?_
    rw [dnM_t (bi_1.mp b1), hcx]
theorem m_carsOn (hX : JXok X) (hd : 3 ≤ d) (hm20 : m ≤ 20) (hm : I 397 1 = nI m) (hz8 : z ≤ 8) (hz : I 397 0 = nI z) : MT X d 0 0 jdX7_carsOn [.ref 396, .int t] (N, SH v T, I, L, Dd) (fun R => R = .inl (some (.int (dnM (tkM I t) (I 397 (31 + t.toNatClampNeg)) I 1).1), (N, SH v T, (dnM (tkM I t) (I 397 (31 + t.toNatClampNeg)) I 1).2, L, Dd))) := by
  refine MT.mk dvX7_carsOn.1 ?_
  refine Ev.sg hX (sX7_carsOn_0.sub 0 2) (pc' := 2) (ls' := [some (.ref 396), some (.int t)]) (st' := [.int t, .ref 396]) (h' := (N, SH v T, I, L, Dd)) rfl ?_
  refine Ev.callV (As := [.int t]) (rest := []) dvX7_isTrack mkX7_56 rfl rfl dX7_carsOn_2 (m_isTrack (d := d - 1) (I := I) hX (by omega)) ⟨by omega, by show 2 + 19 + 40 * _ ≤ 40 * _; omega⟩ ⟨Nat.zero_le _, Nat.zero_le _⟩ rfl (Nat.le_of_ble_eq_true rfl) (fun v9 h9 e9 => ?_) (fun E9 h9 e9 => nomatch e9)
  cases e9
  show Ev _ _ _ _ _ _ 5 [some (.ref 396), some (.int t)] [.int (bi (tkM I t))] (N, SH v T, I, L, Dd)
  refine Ev.if_eq (tgt := 24) dX7_carsOn_5 (by decide) (fun b1 => ?_) (fun b1 => ?_)
  · refine Ev.sg hX (sX7_carsOn_24.sub 0 2) (pc' := 26) (ls' := [some (.ref 396), some (.int t)]) (st' := [.int 1, .ref 396]) (h' := (N, SH v T, I, L, Dd)) rfl ?_
    refine Ev.callV (As := [.int 1]) (rest := []) dvX7_fails mkX7_75 rfl rfl dX7_carsOn_26 (m_fails (d := d - 1) (I := I) hX (by omega)) ⟨by omega, by show 2 + 19 + 40 * _ ≤ 40 * _; omega⟩ ⟨Nat.zero_le _, Nat.zero_le _⟩ rfl (Nat.le_of_ble_eq_true rfl) (fun v9 h9 e9 => ?_) (fun E9 h9 e9 => nomatch e9)
    cases e9
    show Ev _ _ _ _ _ _ 29 [some (.ref 396), some (.int t)] [.int 0] (N, SH v T, up2 I 396 12 1, L, Dd)
    refine Ev.iret dX7_carsOn_29 rfl ?_
    rw [dnM_f (bi_0.mp b1)]
  · have htt := bi_1.mp b1
    obtain ⟨x, hx, rfl⟩ := tkM_nI hz8 hz htt
    have hcx : (nI x).toNatClampNeg = x := nI_clamp (by omega)
    refine Ev.sg hX (sX7_carsOn_8.sub 0 2) (pc' := 10) (ls' := [some (.ref 396), some (.int (nI x))]) (st' := [.ref 396, .ref 396]) (h' := (N, SH v T, I, L, Dd)) rfl ?_
    refine Ev.getf (sX7_carsOn_8.lk 2 (q := (10, .getfield 7, 7, 0)) rfl) rfl rfl (sX7_carsOn_8.dc 2 (q := (10, .getfield 7, 7, 0)) rfl) ?_
    show Ev _ _ _ _ _ _ 13 [some (.ref 396), some (.int (nI x))] [.ref 397, .ref 396] (N, SH v T, I, L, Dd)
    refine Ev.sg hX (sX7_carsOn_8.sub 3 3) (pc' := 17) (ls' := [some (.ref 396), some (.int (nI x))]) (st' := [.int (31 + (nI x)), .ref 397, .ref 396]) (h' := (N, SH v T, I, L, Dd)) rfl ?_
    refine Ev.ialdE (n := (31 + x)) (N := 179) rfl (naI rfl rfl) (by omega) (by decide) dX7_carsOn_17 ?_
    show Ev _ _ _ _ _ _ 18 [some (.ref 396), some (.int (nI x))] [.int (I 397 (31 + x)), .ref 396] (N, SH v T, I, L, Dd)
    refine Ev.callV (As := [.int (I 397 (31 + x))]) (rest := []) dvX7_done mkX7_79 rfl rfl dX7_carsOn_18 (m_done (d := d - 1) (I := I) hX (by omega)) ⟨by omega, by show 2 + 19 + 40 * _ ≤ 40 * _; omega⟩ ⟨Nat.zero_le _, Nat.zero_le _⟩ rfl (Nat.le_of_ble_eq_true rfl) (fun v9 h9 e9 => ?_) (fun E9 h9 e9 => nomatch e9)
    cases e9
    show Ev _ _ _ _ _ _ 21 [some (.ref 396), some (.int (nI x))] [.int (I 397 (31 + x))] (N, SH v T, up2 I 396 12 0, L, Dd)
    refine Ev.sg hX (sX7_carsOn_21.sub 0 1) (pc' := 29) (ls' := [some (.ref 396), some (.int (nI x))]) (st' := [.int (I 397 (31 + x))]) (h' := (N, SH v T, up2 I 396 12 0, L, Dd)) rfl ?_
    refine Ev.iret dX7_carsOn_29 rfl ?_
    rw [dnM_t (bi_1.mp b1), hcx]
theorem m_weightOn (hX : JXok X) (hd : 3 ≤ d) (hm20 : m ≤ 20) (hm : I 397 1 = nI m) (hz8 : z ≤ 8) (hz : I 397 0 = nI z) : MT X d 0 0 jdX7_weightOn [.ref 396, .int t] (N, SH v T, I, L, Dd) (fun R => R = .inl (some (.int (dnM (tkM I t) (smM I m t 79) I 1).1), (N, SH v T, (dnM (tkM I t) (smM I m t 79) I 1).2, L, Dd))) := by
  refine MT.mk dvX7_weightOn.1 ?_
  refine Ev.sg hX (sX7_weightOn_0.sub 0 2) (pc' := 2) (ls' := [some (.ref 396), some (.int t)]) (st' := [.int t, .ref 396]) (h' := (N, SH v T, I, L, Dd)) rfl ?_
  refine Ev.callV (As := [.int t]) (rest := []) dvX7_isTrack mkX7_56 rfl rfl dX7_weightOn_2 (m_isTrack (d := d - 1) (I := I) hX (by omega)) ⟨by omega, by show 2 + 19 + 40 * _ ≤ 40 * _; omega⟩ ⟨Nat.zero_le _, Nat.zero_le _⟩ rfl (Nat.le_of_ble_eq_true rfl) (fun v9 h9 e9 => ?_) (fun E9 h9 e9 => nomatch e9)
  cases e9
  show Ev _ _ _ _ _ _ 5 [some (.ref 396), some (.int t)] [.int (bi (tkM I t))] (N, SH v T, I, L, Dd)
  refine Ev.if_eq (tgt := 22) dX7_weightOn_5 (by decide) (fun b1 => ?_) (fun b1 => ?_)
  · refine Ev.sg hX (sX7_weightOn_22.sub 0 2) (pc' := 24) (ls' := [some (.ref 396), some (.int t)]) (st' := [.int 1, .ref 396]) (h' := (N, SH v T, I, L, Dd)) rfl ?_
    refine Ev.callV (As := [.int 1]) (rest := []) dvX7_fails mkX7_75 rfl rfl dX7_weightOn_24 (m_fails (d := d - 1) (I := I) hX (by omega)) ⟨by omega, by show 2 + 19 + 40 * _ ≤ 40 * _; omega⟩ ⟨Nat.zero_le _, Nat.zero_le _⟩ rfl (Nat.le_of_ble_eq_true rfl) (fun v9 h9 e9 => ?_) (fun E9 h9 e9 => nomatch e9)
    cases e9
    show Ev _ _ _ _ _ _ 27 [some (.ref 396), some (.int t)] [.int 0] (N, SH v T, up2 I 396 12 1, L, Dd)
    refine Ev.iret dX7_weightOn_27 rfl ?_
    rw [dnM_f (bi_0.mp b1)]
  · have htt := bi_1.mp b1
    obtain ⟨x, hx, rfl⟩ := tkM_nI hz8 hz htt
    have hcx : (nI x).toNatClampNeg = x := nI_clamp (by omega)
    refine Ev.sg hX (sX7_weightOn_8.sub 0 4) (pc' := 13) (ls' := [some (.ref 396), some (.int (nI x))]) (st' := [.int 79, .int (nI x), .ref 396, .ref 396]) (h' := (N, SH v T, I, L, Dd)) rfl ?_
    refine Ev.callV (As := [.int (nI x), .int 79]) (rest := [.ref 396]) dvX7_sumOn mkX7_64 rfl rfl dX7_weightOn_13 (m_sumOn (d := d - 1) (I := I) (a := 79) hX (by omega) hm20 hm (by omega)) ⟨by omega, by show 5 + 19 + 40 * _ ≤ 40 * _; omega⟩ ⟨Nat.zero_le _, Nat.zero_le _⟩ rfl (Nat.le_of_ble_eq_true rfl) (fun v9 h9 e9 => ?_) (fun E9 h9 e9 => nomatch e9)
    cases e9
    show Ev _ _ _ _ _ _ 16 [some (.ref 396), some (.int (nI x))] [.int (smM I m (nI x) 79), .ref 396] (N, SH v T, I, L, Dd)
    refine Ev.callV (As := [.int (smM I m (nI x) 79)]) (rest := []) dvX7_done mkX7_79 rfl rfl dX7_weightOn_16 (m_done (d := d - 1) (I := I) hX (by omega)) ⟨by omega, by show 2 + 19 + 40 * _ ≤ 40 * _; omega⟩ ⟨Nat.zero_le _, Nat.zero_le _⟩ rfl (Nat.le_of_ble_eq_true rfl) (fun v9 h9 e9 => ?_) (fun E9 h9 e9 => nomatch e9)
    cases e9
    show Ev _ _ _ _ _ _ 19 [some (.ref 396), some (.int (nI x))] [.int (smM I m (nI x) 79)] (N, SH v T, up2 I 396 12 0, L, Dd)
    refine Ev.sg hX (sX7_weightOn_19.sub 0 1) (pc' := 27) (ls' := [some (.ref 396), some (.int (nI x))]) (st' := [.int (smM I m (nI x) 79)]) (h' := (N, SH v T, up2 I 396 12 0, L, Dd)) rfl ?_
    refine Ev.iret dX7_weightOn_27 rfl ?_
    rw [dnM_t (bi_1.mp b1)]
def carAtM (I : HI) (m : Nat) (t c : Int32) : Int32 × HI := if ¬ tkM I t then (0, up2 I 396 12 1) else dnM (0 ≤ c ∧ c ≤ I 397 (31 + t.toNatClampNeg) - 1) (I 397 (39 + (slAM I m t c).toNatClampNeg)) I 2
theorem m_carAt (hX : JXok X) (hd : 3 ≤ d) (hm20 : m ≤ 20) (hm : I 397 1 = nI m) (hz8 : z ≤ 8) (hz : I 397 0 = nI z) (hPL : PLM I m) : MT X d 0 0 jdX7_carAt [.ref 396, .int t, .int c] (N, SH v T, I, L, Dd) (fun R => R = .inl (some (.int (carAtM I m t c).1), (N, SH v T, (carAtM I m t c).2, L, Dd))) := by
  refine MT.mk dvX7_carAt.1 ?_
  refine Ev.sg hX (sX7_carAt_0.sub 0 2) (pc' := 2) (ls' := [some (.ref 396), some (.int t), some (.int c)]) (st' := [.int t, .ref 396]) (h' := (N, SH v T, I, L, Dd)) rfl ?_
  refine Ev.callV (As := [.int t]) (rest := []) dvX7_isTrack mkX7_56 rfl rfl dX7_carAt_2 (m_isTrack (d := d - 1) (I := I) hX (by omega)) ⟨by omega, by show 2 + 19 + 40 * _ ≤ 40 * _; omega⟩ ⟨Nat.zero_le _, Nat.zero_le _⟩ rfl (Nat.le_of_ble_eq_true rfl) (fun v9 h9 e9 => ?_) (fun E9 h9 e9 => nomatch e9)
  cases e9
  show Ev _ _ _ _ _ _ 5 [some (.ref 396), some (.int t), some (.int c)] [.int (bi (tkM I t))] (N, SH v T, I, L, Dd)
  refine Ev.if_ne (tgt := 14) dX7_carAt_5 (by decide) (fun b1 => ?_) (fun b1 => ?_)
  · have htt := bi_1.mp b1
    obtain ⟨x, hx, rfl⟩ := tkM_nI hz8 hz htt
    have hcx : (nI x).toNatClampNeg = x := nI_clamp (by omega)
    refine Ev.sg hX (sX7_carAt_14.sub 0 3) (pc' := 17) (ls' := [some (.ref 396), some (.int (nI x)), some (.int c)]) (st' := [.ref 396, .int 0, .int c]) (h' := (N, SH v T, I, L, Dd)) rfl ?_
    refine Ev.getf (sX7_carAt_14.lk 3 (q := (17, .getfield 7, 7, 0)) rfl) rfl rfl (sX7_carAt_14.dc 3 (q := (17, .getfield 7, 7, 0)) rfl) ?_
    show Ev _ _ _ _ _ _ 20 [some (.ref 396), some (.int (nI x)), some (.int c)] [.ref 397, .int 0, .int c] (N, SH v T, I, L, Dd)
    refine Ev.sg hX (sX7_carAt_14.sub 4 3) (pc' := 24) (ls' := [some (.ref 396), some (.int (nI x)), some (.int c)]) (st' := [.int (31 + (nI x)), .ref 397, .int 0, .int c]) (h' := (N, SH v T, I, L, Dd)) rfl ?_
    refine Ev.ialdE (n := (31 + x)) (N := 179) rfl (naI rfl rfl) (by omega) (by decide) dX7_carAt_24 ?_
    show Ev _ _ _ _ _ _ 25 [some (.ref 396), some (.int (nI x)), some (.int c)] [.int (I 397 (31 + x)), .int 0, .int c] (N, SH v T, I, L, Dd)
    refine Ev.sg hX (sX7_carAt_25.sub 0 2) (pc' := 27) (ls' := [some (.ref 396), some (.int (nI x)), some (.int c)]) (st' := [.int ((I 397 (31 + x)) - 1), .int 0, .int c]) (h' := (N, SH v T, I, L, Dd)) rfl ?_
    refine Ev.callS (As := [.int c, .int 0, .int ((I 397 (31 + x)) - 1)]) (rest := []) dsX7_in mkX7_52 dX7_carAt_27 (m_in (d := d - 1) hX (by omega)) ⟨by omega, by show 3 + 19 + 40 * _ ≤ 40 * _; omega⟩ ⟨Nat.zero_le _, Nat.zero_le _⟩ rfl (Nat.le_of_ble_eq_true rfl) (fun v9 h9 e9 => ?_) (fun E9 h9 e9 => nomatch e9)
    cases e9
    show Ev _ _ _ _ _ _ 30 [some (.ref 396), some (.int (nI x)), some (.int c)] [.int (bi (0 ≤ c ∧ c ≤ ((I 397 (31 + x)) - 1)))] (N, SH v T, I, L, Dd)
    refine Ev.if_eq (tgt := 54) dX7_carAt_30 (by decide) (fun b2 => ?_) (fun b2 => ?_)
    · refine Ev.sg hX (sX7_carAt_54.sub 0 2) (pc' := 56) (ls' := [some (.ref 396), some (.int (nI x)), some (.int c)]) (st' := [.int 2, .ref 396]) (h' := (N, SH v T, I, L, Dd)) rfl ?_
      refine Ev.callV (As := [.int 2]) (rest := []) dvX7_fails mkX7_75 rfl rfl dX7_carAt_56 (m_fails (d := d - 1) (I := I) hX (by omega)) ⟨by omega, by show 2 + 19 + 40 * _ ≤ 40 * _; omega⟩ ⟨Nat.zero_le _, Nat.zero_le _⟩ rfl (Nat.le_of_ble_eq_true rfl) (fun v9 h9 e9 => ?_) (fun E9 h9 e9 => nomatch e9)
      cases e9
      show Ev _ _ _ _ _ _ 59 [some (.ref 396), some (.int (nI x)), some (.int c)] [.int 0] (N, SH v T, up2 I 396 12 2, L, Dd)
      refine Ev.iret dX7_carAt_59 rfl ?_
      rw [carAtM, if_neg (fun w => w (bi_1.mp b1)), hcx, dnM_f (bi_0.mp b2)]
    · obtain ⟨c0, hc0, hg, hp⟩ := hPL x (by omega)
      have hin := bi_1.mp b2
      obtain ⟨y, hy, rfl⟩ : ∃ y, y < c0 ∧ c = nI y := by
        rw [hg] at hin
        rcases Nat.eq_zero_or_pos c0 with e | e
        · subst e; exact absurd (Int32.le_trans hin.1 hin.2) (by decide)
        · rw [show (1 : Int32) = nI 1 from rfl, nI_subN e] at hin; obtain ⟨k, hk, rfl⟩ := nI_le_of hin.1 hin.2 (by omega); exact ⟨k, by omega, rfl⟩
      obtain ⟨s, hs, hsl⟩ := hp y hy
      refine Ev.sg hX (sX7_carAt_33.sub 0 2) (pc' := 35) (ls' := [some (.ref 396), some (.int (nI x)), some (.int (nI y))]) (st' := [.ref 396, .ref 396]) (h' := (N, SH v T, I, L, Dd)) rfl ?_
      refine Ev.getf (sX7_carAt_33.lk 2 (q := (35, .getfield 7, 7, 0)) rfl) rfl rfl (sX7_carAt_33.dc 2 (q := (35, .getfield 7, 7, 0)) rfl) ?_
      show Ev _ _ _ _ _ _ 38 [some (.ref 396), some (.int (nI x)), some (.int (nI y))] [.ref 397, .ref 396] (N, SH v T, I, L, Dd)
      refine Ev.sg hX (sX7_carAt_33.sub 3 4) (pc' := 43) (ls' := [some (.ref 396), some (.int (nI x)), some (.int (nI y))]) (st' := [.int (nI y), .int (nI x), .ref 396, .int 39, .ref 397, .ref 396]) (h' := (N, SH v T, I, L, Dd)) rfl ?_
      refine Ev.callV (As := [.int (nI x), .int (nI y)]) (rest := [.int 39, .ref 397, .ref 396]) dvX7_slotAt mkX7_60 rfl rfl dX7_carAt_43 (m_slotAt (d := d - 1) (I := I) hX (by omega) hm20 hm) ⟨by omega, by show 4 + 19 + 40 * _ ≤ 40 * _; omega⟩ ⟨Nat.zero_le _, Nat.zero_le _⟩ rfl (Nat.le_of_ble_eq_true rfl) (fun v9 h9 e9 => ?_) (fun E9 h9 e9 => nomatch e9)
      cases e9
      show Ev _ _ _ _ _ _ 46 [some (.ref 396), some (.int (nI x)), some (.int (nI y))] [.int (slAM I m (nI x) (nI y)), .int 39, .ref 397, .ref 396] (N, SH v T, I, L, Dd)
      refine Ev.eqst (st' := [.int (nI s), .int 39, .ref 397, .ref 396]) (by rw [hsl]) ?_
      show Ev _ _ _ _ _ _ 46 [some (.ref 396), some (.int (nI x)), some (.int (nI y))] [.int (nI s), .int 39, .ref 397, .ref 396] (N, SH v T, I, L, Dd)
      refine Ev.sg hX (sX7_carAt_46.sub 0 1) (pc' := 47) (ls' := [some (.ref 396), some (.int (nI x)), some (.int (nI y))]) (st' := [.int (39 + (nI s)), .ref 397, .ref 396]) (h' := (N, SH v T, I, L, Dd)) rfl ?_
      refine Ev.ialdE (n := (39 + s)) (N := 179) rfl (naI rfl rfl) (by omega) (by decide) dX7_carAt_47 ?_
      show Ev _ _ _ _ _ _ 48 [some (.ref 396), some (.int (nI x)), some (.int (nI y))] [.int (I 397 (39 + s)), .ref 396] (N, SH v T, I, L, Dd)
      refine Ev.callV (As := [.int (I 397 (39 + s))]) (rest := []) dvX7_done mkX7_79 rfl rfl dX7_carAt_48 (m_done (d := d - 1) (I := I) hX (by omega)) ⟨by omega, by show 2 + 19 + 40 * _ ≤ 40 * _; omega⟩ ⟨Nat.zero_le _, Nat.zero_le _⟩ rfl (Nat.le_of_ble_eq_true rfl) (fun v9 h9 e9 => ?_) (fun E9 h9 e9 => nomatch e9)
      cases e9
      show Ev _ _ _ _ _ _ 51 [some (.ref 396), some (.int (nI x)), some (.int (nI y))] [.int (I 397 (39 + s))] (N, SH v T, up2 I 396 12 0, L, Dd)
      refine Ev.sg hX (sX7_carAt_51.sub 0 1) (pc' := 59) (ls' := [some (.ref 396), some (.int (nI x)), some (.int (nI y))]) (st' := [.int (I 397 (39 + s))]) (h' := (N, SH v T, up2 I 396 12 0, L, Dd)) rfl ?_
      refine Ev.iret dX7_carAt_59 rfl ?_
      rw [carAtM, if_neg (fun w => w htt), hcx, dnM_t (bi_1.mp b2), hsl, show (nI s).toNatClampNeg = s from nI_clamp (by omega)]
  · refine Ev.sg hX (sX7_carAt_8.sub 0 2) (pc' := 10) (ls' := [some (.ref 396), some (.int t), some (.int c)]) (st' := [.int 1, .ref 396]) (h' := (N, SH v T, I, L, Dd)) rfl ?_
    refine Ev.callV (As := [.int 1]) (rest := []) dvX7_fails mkX7_75 rfl rfl dX7_carAt_10 (m_fails (d := d - 1) (I := I) hX (by omega)) ⟨by omega, by show 2 + 19 + 40 * _ ≤ 40 * _; omega⟩ ⟨Nat.zero_le _, Nat.zero_le _⟩ rfl (Nat.le_of_ble_eq_true rfl) (fun v9 h9 e9 => ?_) (fun E9 h9 e9 => nomatch e9)
    cases e9
    show Ev _ _ _ _ _ _ 13 [some (.ref 396), some (.int t), some (.int c)] [.int 0] (N, SH v T, up2 I 396 12 1, L, Dd)
    refine Ev.iret dX7_carAt_13 rfl ?_
    rw [carAtM, if_pos (bi_0.mp b1)]
theorem l_pa {Q : JR → Prop} (hX : JXok X) (hd : 3 ≤ d) {i : Nat} (hm20 : m ≤ 20) (hm : I 397 1 = nI m) (hx : x < 8) (hc0 : c0 ≤ 20) (hg : I 397 (31 + x) = nI c0) (hp : ∀ p, p < c0 → ∃ s, s < m ∧ slAM I m (nI x) (nI p) = nI s) (hi : i < c0) : ∀ (n k : Nat) (acc : Int32), k + n = i → Ev X (jm jdX7_pairs) d 0 0 Q 72 [some (.ref 396), some (.int (nI x)), some (.int (fo (paS I m x i) n k acc)), some (.int (nI i)), some (.int (nI i))] [] (N, SH v T, I, L, Dd) → Ev X (jm jdX7_pairs) d 0 0 Q 20 [some (.ref 396), some (.int (nI x)), some (.int acc), some (.int (nI i)), some (.int (nI k))] [] (N, SH v T, I, L, Dd) := by
  intro n
  induction n with
  | zero =>
    intro k acc hk hQ
    refine Ev.sg hX (sX7_pairs_20.sub 0 2) (pc' := 23) (ls' := [some (.ref 396), some (.int (nI x)), some (.int acc), some (.int (nI i)), some (.int (nI k))]) (st' := [.int (nI i), .int (nI k)]) (h' := (N, SH v T, I, L, Dd)) rfl ?_
    refine Ev.icmp_ge (tgt := 72) dX7_pairs_23 (by decide) (fun b1 => ?_) (fun b1 => ?_)
    · rw [show k = i by omega]
      exact hQ
    · exact absurd ((nI_leI (a := i) (b := k) (by omega) (by omega)).mpr (by omega)) b1
  | succ n ih =>
    intro k acc hk hQ
    refine Ev.sg hX (sX7_pairs_20.sub 0 2) (pc' := 23) (ls' := [some (.ref 396), some (.int (nI x)), some (.int acc), some (.int (nI i)), some (.int (nI k))]) (st' := [.int (nI i), .int (nI k)]) (h' := (N, SH v T, I, L, Dd)) rfl ?_
    refine Ev.icmp_ge (tgt := 72) dX7_pairs_23 (by decide) (fun b1 => ?_) (fun b1 => ?_)
    · exact absurd ((nI_leI (a := i) (b := k) (by omega) (by omega)).mp b1) (by omega)
    · obtain ⟨s1, hb1, hs1⟩ := hp i (by omega)
      obtain ⟨s2, hb2, hs2⟩ := hp k (by omega)
      have e1 : paS I m x i k acc = acc + (if I 397 (99 + s2) < I 397 (99 + s1) then 1 else 0) := by rw [paS, hs1, hs2, show (nI s1).toNatClampNeg = s1 from nI_clamp (by omega), show (nI s2).toNatClampNeg = s2 from nI_clamp (by omega)]
      refine Ev.sg hX (sX7_pairs_26.sub 0 2) (pc' := 28) (ls' := [some (.ref 396), some (.int (nI x)), some (.int acc), some (.int (nI i)), some (.int (nI k))]) (st' := [.ref 396, .int acc]) (h' := (N, SH v T, I, L, Dd)) rfl ?_
      refine Ev.getf (sX7_pairs_26.lk 2 (q := (28, .getfield 7, 7, 0)) rfl) rfl rfl (sX7_pairs_26.dc 2 (q := (28, .getfield 7, 7, 0)) rfl) ?_
      show Ev _ _ _ _ _ _ 31 [some (.ref 396), some (.int (nI x)), some (.int acc), some (.int (nI i)), some (.int (nI k))] [.ref 397, .int acc] (N, SH v T, I, L, Dd)
      refine Ev.sg hX (sX7_pairs_26.sub 3 4) (pc' := 36) (ls' := [some (.ref 396), some (.int (nI x)), some (.int acc), some (.int (nI i)), some (.int (nI k))]) (st' := [.int (nI i), .int (nI x), .ref 396, .int 99, .ref 397, .int acc]) (h' := (N, SH v T, I, L, Dd)) rfl ?_
      refine Ev.callV (As := [.int (nI x), .int (nI i)]) (rest := [.int 99, .ref 397, .int acc]) dvX7_slotAt mkX7_60 rfl rfl dX7_pairs_36 (m_slotAt (d := d - 1) (I := I) hX (by omega) hm20 hm) ⟨by omega, by show 4 + 19 + 40 * _ ≤ 40 * _; omega⟩ ⟨Nat.zero_le _, Nat.zero_le _⟩ rfl (Nat.le_of_ble_eq_true rfl) (fun v9 h9 e9 => ?_) (fun E9 h9 e9 => nomatch e9)
      cases e9
      show Ev _ _ _ _ _ _ 39 [some (.ref 396), some (.int (nI x)), some (.int acc), some (.int (nI i)), some (.int (nI k))] [.int (slAM I m (nI x) (nI i)), .int 99, .ref 397, .int acc] (N, SH v T, I, L, Dd)
      refine Ev.eqst (st' := [.int (nI s1), .int 99, .ref 397, .int acc]) (by rw [hs1]) ?_
      show Ev _ _ _ _ _ _ 39 [some (.ref 396), some (.int (nI x)), some (.int acc), some (.int (nI i)), some (.int (nI k))] [.int (nI s1), .int 99, .ref 397, .int acc] (N, SH v T, I, L, Dd)
      refine Ev.sg hX (sX7_pairs_39.sub 0 1) (pc' := 40) (ls' := [some (.ref 396), some (.int (nI x)), some (.int acc), some (.int (nI i)), some (.int (nI k))]) (st' := [.int (99 + (nI s1)), .ref 397, .int acc]) (h' := (N, SH v T, I, L, Dd)) rfl ?_
      refine Ev.ialdE (n := (99 + s1)) (N := 179) rfl (naI rfl rfl) (by omega) (by decide) dX7_pairs_40 ?_
      show Ev _ _ _ _ _ _ 41 [some (.ref 396), some (.int (nI x)), some (.int acc), some (.int (nI i)), some (.int (nI k))] [.int (I 397 (99 + s1)), .int acc] (N, SH v T, I, L, Dd)
      refine Ev.sg hX (sX7_pairs_41.sub 0 1) (pc' := 42) (ls' := [some (.ref 396), some (.int (nI x)), some (.int acc), some (.int (nI i)), some (.int (nI k))]) (st' := [.ref 396, .int (I 397 (99 + s1)), .int acc]) (h' := (N, SH v T, I, L, Dd)) rfl ?_
      refine Ev.getf (sX7_pairs_41.lk 1 (q := (42, .getfield 7, 7, 0)) rfl) rfl rfl (sX7_pairs_41.dc 1 (q := (42, .getfield 7, 7, 0)) rfl) ?_
      show Ev _ _ _ _ _ _ 45 [some (.ref 396), some (.int (nI x)), some (.int acc), some (.int (nI i)), some (.int (nI k))] [.ref 397, .int (I 397 (99 + s1)), .int acc] (N, SH v T, I, L, Dd)
      refine Ev.sg hX (sX7_pairs_41.sub 2 4) (pc' := 51) (ls' := [some (.ref 396), some (.int (nI x)), some (.int acc), some (.int (nI i)), some (.int (nI k))]) (st' := [.int (nI k), .int (nI x), .ref 396, .int 99, .ref 397, .int (I 397 (99 + s1)), .int acc]) (h' := (N, SH v T, I, L, Dd)) rfl ?_
      refine Ev.callV (As := [.int (nI x), .int (nI k)]) (rest := [.int 99, .ref 397, .int (I 397 (99 + s1)), .int acc]) dvX7_slotAt mkX7_60 rfl rfl dX7_pairs_51 (m_slotAt (d := d - 1) (I := I) hX (by omega) hm20 hm) ⟨by omega, by show 4 + 19 + 40 * _ ≤ 40 * _; omega⟩ ⟨Nat.zero_le _, Nat.zero_le _⟩ rfl (Nat.le_of_ble_eq_true rfl) (fun v9 h9 e9 => ?_) (fun E9 h9 e9 => nomatch e9)
      cases e9
      show Ev _ _ _ _ _ _ 54 [some (.ref 396), some (.int (nI x)), some (.int acc), some (.int (nI i)), some (.int (nI k))] [.int (slAM I m (nI x) (nI k)), .int 99, .ref 397, .int (I 397 (99 + s1)), .int acc] (N, SH v T, I, L, Dd)
      refine Ev.eqst (st' := [.int (nI s2), .int 99, .ref 397, .int (I 397 (99 + s1)), .int acc]) (by rw [hs2]) ?_
      show Ev _ _ _ _ _ _ 54 [some (.ref 396), some (.int (nI x)), some (.int acc), some (.int (nI i)), some (.int (nI k))] [.int (nI s2), .int 99, .ref 397, .int (I 397 (99 + s1)), .int acc] (N, SH v T, I, L, Dd)
      refine Ev.sg hX (sX7_pairs_54.sub 0 1) (pc' := 55) (ls' := [some (.ref 396), some (.int (nI x)), some (.int acc), some (.int (nI i)), some (.int (nI k))]) (st' := [.int (99 + (nI s2)), .ref 397, .int (I 397 (99 + s1)), .int acc]) (h' := (N, SH v T, I, L, Dd)) rfl ?_
      refine Ev.ialdE (n := (99 + s2)) (N := 179) rfl (naI rfl rfl) (by omega) (by decide) dX7_pairs_55 ?_
      show Ev _ _ _ _ _ _ 56 [some (.ref 396), some (.int (nI x)), some (.int acc), some (.int (nI i)), some (.int (nI k))] [.int (I 397 (99 + s2)), .int (I 397 (99 + s1)), .int acc] (N, SH v T, I, L, Dd)
      refine Ev.icmp_le (tgt := 63) dX7_pairs_56 (by decide) (fun b2 => ?_) (fun b2 => ?_)
      · refine Ev.sg hX (sX7_pairs_63.sub 0 1) (pc' := 64) (ls' := [some (.ref 396), some (.int (nI x)), some (.int acc), some (.int (nI i)), some (.int (nI k))]) (st' := [.int 0, .int acc]) (h' := (N, SH v T, I, L, Dd)) rfl ?_
        refine Ev.sg hX (sX7_pairs_64.sub 0 4) (pc' := 20) (ls' := [some (.ref 396), some (.int (nI x)), some (.int (acc + 0)), some (.int (nI i)), some (.int ((nI k) + 1))]) (st' := []) (h' := (N, SH v T, I, L, Dd)) rfl ?_
        rw [if_neg (Int32.not_lt.mpr b2)] at e1
        rw [nI_1, ← e1]
        exact ih (k + 1) (paS I m x i k acc) (by omega) hQ
      · refine Ev.sg hX (sX7_pairs_59.sub 0 2) (pc' := 64) (ls' := [some (.ref 396), some (.int (nI x)), some (.int acc), some (.int (nI i)), some (.int (nI k))]) (st' := [.int 1, .int acc]) (h' := (N, SH v T, I, L, Dd)) rfl ?_
        refine Ev.sg hX (sX7_pairs_64.sub 0 4) (pc' := 20) (ls' := [some (.ref 396), some (.int (nI x)), some (.int (acc + 1)), some (.int (nI i)), some (.int ((nI k) + 1))]) (st' := []) (h' := (N, SH v T, I, L, Dd)) rfl ?_
        rw [if_pos (Int32.not_le.mp b2)] at e1
        rw [nI_1, ← e1]
        exact ih (k + 1) (paS I m x i k acc) (by omega) hQ
theorem l_pao (hX : JXok X) (hd : 3 ≤ d) (hm20 : m ≤ 20) (hm : I 397 1 = nI m) (hx : x < 8) (hc0 : c0 ≤ 20) (hg : I 397 (31 + x) = nI c0) (hp : ∀ p, p < c0 → ∃ s, s < m ∧ slAM I m (nI x) (nI p) = nI s) : ∀ (n k : Nat) (acc : Int32) (l4 : Option Value), k + n = c0 → Ev X (jm jdX7_pairs) d 0 0 (fun R => R = .inl (some (.int (fo (fun i acc => fo (paS I m x i) i 0 acc) n k acc)), (N, SH v T, I, L, Dd))) 4 [some (.ref 396), some (.int (nI x)), some (.int acc), some (.int (nI k)), l4] [] (N, SH v T, I, L, Dd) := by
  intro n
  induction n with
  | zero =>
    intro k acc l4 hk
    refine Ev.sg hX (sX7_pairs_4.sub 0 2) (pc' := 6) (ls' := [some (.ref 396), some (.int (nI x)), some (.int acc), some (.int (nI k)), l4]) (st' := [.ref 396, .int (nI k)]) (h' := (N, SH v T, I, L, Dd)) rfl ?_
    refine Ev.getf (sX7_pairs_4.lk 2 (q := (6, .getfield 7, 7, 0)) rfl) rfl rfl (sX7_pairs_4.dc 2 (q := (6, .getfield 7, 7, 0)) rfl) ?_
    show Ev _ _ _ _ _ _ 9 [some (.ref 396), some (.int (nI x)), some (.int acc), some (.int (nI k)), l4] [.ref 397, .int (nI k)] (N, SH v T, I, L, Dd)
    refine Ev.sg hX (sX7_pairs_4.sub 3 3) (pc' := 13) (ls' := [some (.ref 396), some (.int (nI x)), some (.int acc), some (.int (nI k)), l4]) (st' := [.int (31 + (nI x)), .ref 397, .int (nI k)]) (h' := (N, SH v T, I, L, Dd)) rfl ?_
    refine Ev.ialdE (n := (31 + x)) (N := 179) rfl (naI rfl rfl) (by omega) (by decide) dX7_pairs_13 ?_
    show Ev _ _ _ _ _ _ 14 [some (.ref 396), some (.int (nI x)), some (.int acc), some (.int (nI k)), l4] [.int (I 397 (31 + x)), .int (nI k)] (N, SH v T, I, L, Dd)
    refine Ev.eqst (st' := [.int (nI c0), .int (nI k)]) (by rw [show I 397 (31 + x) = nI c0 from (hg)]) ?_
    refine Ev.icmp_ge (tgt := 78) dX7_pairs_14 (by decide) (fun b1 => ?_) (fun b1 => ?_)
    · refine Ev.sg hX (sX7_pairs_78.sub 0 1) (pc' := 79) (ls' := [some (.ref 396), some (.int (nI x)), some (.int acc), some (.int (nI k)), l4]) (st' := [.int acc]) (h' := (N, SH v T, I, L, Dd)) rfl ?_
      refine Ev.iret dX7_pairs_79 rfl ?_
      rfl
    · exact absurd ((nI_leI (a := c0) (b := k) (by omega) (by omega)).mpr (by omega)) b1
  | succ n ih =>
    intro k acc l4 hk
    refine Ev.sg hX (sX7_pairs_4.sub 0 2) (pc' := 6) (ls' := [some (.ref 396), some (.int (nI x)), some (.int acc), some (.int (nI k)), l4]) (st' := [.ref 396, .int (nI k)]) (h' := (N, SH v T, I, L, Dd)) rfl ?_
    refine Ev.getf (sX7_pairs_4.lk 2 (q := (6, .getfield 7, 7, 0)) rfl) rfl rfl (sX7_pairs_4.dc 2 (q := (6, .getfield 7, 7, 0)) rfl) ?_
    show Ev _ _ _ _ _ _ 9 [some (.ref 396), some (.int (nI x)), some (.int acc), some (.int (nI k)), l4] [.ref 397, .int (nI k)] (N, SH v T, I, L, Dd)
    refine Ev.sg hX (sX7_pairs_4.sub 3 3) (pc' := 13) (ls' := [some (.ref 396), some (.int (nI x)), some (.int acc), some (.int (nI k)), l4]) (st' := [.int (31 + (nI x)), .ref 397, .int (nI k)]) (h' := (N, SH v T, I, L, Dd)) rfl ?_
    refine Ev.ialdE (n := (31 + x)) (N := 179) rfl (naI rfl rfl) (by omega) (by decide) dX7_pairs_13 ?_
    show Ev _ _ _ _ _ _ 14 [some (.ref 396), some (.int (nI x)), some (.int acc), some (.int (nI k)), l4] [.int (I 397 (31 + x)), .int (nI k)] (N, SH v T, I, L, Dd)
    refine Ev.eqst (st' := [.int (nI c0), .int (nI k)]) (by rw [show I 397 (31 + x) = nI c0 from (hg)]) ?_
    refine Ev.icmp_ge (tgt := 78) dX7_pairs_14 (by decide) (fun b1 => ?_) (fun b1 => ?_)
    · exact absurd ((nI_leI (a := c0) (b := k) (by omega) (by omega)).mp b1) (by omega)
    · refine Ev.sg hX (sX7_pairs_17.sub 0 2) (pc' := 20) (ls' := [some (.ref 396), some (.int (nI x)), some (.int acc), some (.int (nI k)), some (.int 0)]) (st' := []) (h' := (N, SH v T, I, L, Dd)) rfl ?_
      refine l_pa hX hd hm20 hm hx hc0 hg hp (i := k) (by omega) k 0 acc (Nat.zero_add k) ?_
      refine Ev.sg hX sX7_pairs_72 (pc' := 4) (ls' := [some (.ref 396), some (.int (nI x)), some (.int (fo (paS I m x k) k 0 acc)), some (.int (nI k + 1)), some (.int (nI k))]) (st' := []) (h' := (N, SH v T, I, L, Dd)) rfl ?_
      rw [nI_1]
      exact ih (k + 1) _ _ (by omega)
theorem m_pairs (hX : JXok X) (hd : 3 ≤ d) (hm20 : m ≤ 20) (hm : I 397 1 = nI m) (hx : x < 8) (hc0 : c0 ≤ 20) (hg : I 397 (31 + x) = nI c0) (hp : ∀ p, p < c0 → ∃ s, s < m ∧ slAM I m (nI x) (nI p) = nI s) : MT X d 0 0 jdX7_pairs [.ref 396, .int (nI x)] (N, SH v T, I, L, Dd) (fun R => R = .inl (some (.int (paM I m x c0)), (N, SH v T, I, L, Dd))) := by
  refine MT.mk dvX7_pairs.1 ?_
  refine Ev.sg hX (sX7_pairs_0.sub 0 4) (pc' := 4) (ls' := [some (.ref 396), some (.int (nI x)), some (.int 0), some (.int 0), none]) (st' := []) (h' := (N, SH v T, I, L, Dd)) rfl ?_
  exact l_pao hX hd hm20 hm hx hc0 hg hp c0 0 0 none (Nat.zero_add c0)
theorem m_disorder (hX : JXok X) (hd : 4 ≤ d) (hm20 : m ≤ 20) (hm : I 397 1 = nI m) (hz8 : z ≤ 8) (hz : I 397 0 = nI z) (hPL : PLM I m) : MT X d 0 0 jdX7_disorder [.ref 396, .int t] (N, SH v T, I, L, Dd) (fun R => R = .inl (some (.int (dnM (tkM I t) (paM I m t.toNatClampNeg (I 397 (31 + t.toNatClampNeg)).toNatClampNeg) I 1).1), (N, SH v T, (dnM (tkM I t) (paM I m t.toNatClampNeg (I 397 (31 + t.toNatClampNeg)).toNatClampNeg) I 1).2, L, Dd))) := by
  refine MT.mk dvX7_disorder.1 ?_
  refine Ev.sg hX (sX7_disorder_0.sub 0 2) (pc' := 2) (ls' := [some (.ref 396), some (.int t)]) (st' := [.int t, .ref 396]) (h' := (N, SH v T, I, L, Dd)) rfl ?_
  refine Ev.callV (As := [.int t]) (rest := []) dvX7_isTrack mkX7_56 rfl rfl dX7_disorder_2 (m_isTrack (d := d - 1) (I := I) hX (by omega)) ⟨by omega, by show 2 + 19 + 40 * _ ≤ 40 * _; omega⟩ ⟨Nat.zero_le _, Nat.zero_le _⟩ rfl (Nat.le_of_ble_eq_true rfl) (fun v9 h9 e9 => ?_) (fun E9 h9 e9 => nomatch e9)
  cases e9
  show Ev _ _ _ _ _ _ 5 [some (.ref 396), some (.int t)] [.int (bi (tkM I t))] (N, SH v T, I, L, Dd)
  refine Ev.if_eq (tgt := 20) dX7_disorder_5 (by decide) (fun b1 => ?_) (fun b1 => ?_)
  · refine Ev.sg hX (sX7_disorder_20.sub 0 2) (pc' := 22) (ls' := [some (.ref 396), some (.int t)]) (st' := [.int 1, .ref 396]) (h' := (N, SH v T, I, L, Dd)) rfl ?_
    refine Ev.callV (As := [.int 1]) (rest := []) dvX7_fails mkX7_75 rfl rfl dX7_disorder_22 (m_fails (d := d - 1) (I := I) hX (by omega)) ⟨by omega, by show 2 + 19 + 40 * _ ≤ 40 * _; omega⟩ ⟨Nat.zero_le _, Nat.zero_le _⟩ rfl (Nat.le_of_ble_eq_true rfl) (fun v9 h9 e9 => ?_) (fun E9 h9 e9 => nomatch e9)
    cases e9
    show Ev _ _ _ _ _ _ 25 [some (.ref 396), some (.int t)] [.int 0] (N, SH v T, up2 I 396 12 1, L, Dd)
    refine Ev.iret dX7_disorder_25 rfl ?_
    rw [dnM_f (bi_0.mp b1)]
  · have htt := bi_1.mp b1
    obtain ⟨x, hx, rfl⟩ := tkM_nI hz8 hz htt
    have hcx : (nI x).toNatClampNeg = x := nI_clamp (by omega)
    obtain ⟨c0, hc0, hg, hp⟩ := hPL x (by omega)
    refine Ev.sg hX (sX7_disorder_8.sub 0 3) (pc' := 11) (ls' := [some (.ref 396), some (.int (nI x))]) (st' := [.int (nI x), .ref 396, .ref 396]) (h' := (N, SH v T, I, L, Dd)) rfl ?_
    refine Ev.callV (As := [.int (nI x)]) (rest := [.ref 396]) dvX7_pairs mkX7_148 rfl rfl dX7_disorder_11 (m_pairs (d := d - 1) (I := I) (x := x) hX (by omega) hm20 hm (by omega) hc0 hg hp) ⟨by omega, by show 5 + 19 + 40 * _ ≤ 40 * _; omega⟩ ⟨Nat.zero_le _, Nat.zero_le _⟩ rfl (Nat.le_of_ble_eq_true rfl) (fun v9 h9 e9 => ?_) (fun E9 h9 e9 => nomatch e9)
    cases e9
    show Ev _ _ _ _ _ _ 14 [some (.ref 396), some (.int (nI x))] [.int (paM I m x c0), .ref 396] (N, SH v T, I, L, Dd)
    refine Ev.callV (As := [.int (paM I m x c0)]) (rest := []) dvX7_done mkX7_79 rfl rfl dX7_disorder_14 (m_done (d := d - 1) (I := I) hX (by omega)) ⟨by omega, by show 2 + 19 + 40 * _ ≤ 40 * _; omega⟩ ⟨Nat.zero_le _, Nat.zero_le _⟩ rfl (Nat.le_of_ble_eq_true rfl) (fun v9 h9 e9 => ?_) (fun E9 h9 e9 => nomatch e9)
    cases e9
    show Ev _ _ _ _ _ _ 17 [some (.ref 396), some (.int (nI x))] [.int (paM I m x c0)] (N, SH v T, up2 I 396 12 0, L, Dd)
    refine Ev.sg hX (sX7_disorder_17.sub 0 1) (pc' := 25) (ls' := [some (.ref 396), some (.int (nI x))]) (st' := [.int (paM I m x c0)]) (h' := (N, SH v T, up2 I 396 12 0, L, Dd)) rfl ?_
    refine Ev.iret dX7_disorder_25 rfl ?_
    rw [dnM_t (bi_1.mp b1), hcx, hg, show (nI c0).toNatClampNeg = c0 from nI_clamp (by omega)]
theorem m_disorderByInsertion (hX : JXok X) (hd : 5 ≤ d) (hm20 : m ≤ 20) (hm : I 397 1 = nI m) (hz8 : z ≤ 8) (hz : I 397 0 = nI z) (hPL : PLM I m) : MT X d 0 0 jdX7_disorderByInsertion [.ref 396, .int t] (N, SH v T, I, L, Dd) (fun R => R = .inl (some (.int (dnM (tkM I t) (paM I m t.toNatClampNeg (I 397 (31 + t.toNatClampNeg)).toNatClampNeg) I 1).1), (N, SH v T, (dnM (tkM I t) (paM I m t.toNatClampNeg (I 397 (31 + t.toNatClampNeg)).toNatClampNeg) I 1).2, L, Dd))) := by
  refine MT.mk dvX7_disorderByInsertion.1 ?_
  refine Ev.sg hX (sX7_disorderByInsertion_0.sub 0 2) (pc' := 2) (ls' := [some (.ref 396), some (.int t)]) (st' := [.int t, .ref 396]) (h' := (N, SH v T, I, L, Dd)) rfl ?_
  refine Ev.callV (As := [.int t]) (rest := []) dvX7_disorder mkX7_151 rfl rfl dX7_disorderByInsertion_2 (m_disorder (d := d - 1) (I := I) hX (by omega) hm20 hm hz8 hz hPL) ⟨by omega, by show 2 + 19 + 40 * _ ≤ 40 * _; omega⟩ ⟨Nat.zero_le _, Nat.zero_le _⟩ rfl (Nat.le_of_ble_eq_true rfl) (fun v9 h9 e9 => ?_) (fun E9 h9 e9 => nomatch e9)
  cases e9
  show Ev _ _ _ _ _ _ 5 [some (.ref 396), some (.int t)] [.int ((dnM (tkM I t) (paM I m t.toNatClampNeg (I 397 (31 + t.toNatClampNeg)).toNatClampNeg) I 1).1)] (N, SH v T, (dnM (tkM I t) (paM I m t.toNatClampNeg (I 397 (31 + t.toNatClampNeg)).toNatClampNeg) I 1).2, L, Dd)
  refine Ev.iret dX7_disorderByInsertion_5 rfl ?_
  rfl
theorem m_trainLength (hX : JXok X) (hd : 4 ≤ d) (hm20 : m ≤ 20) (hm : I 397 1 = nI m) (hz8 : z ≤ 8) (hz : I 397 0 = nI z) (hPL : PLM I m) : MT X d 0 0 jdX7_trainLength [.ref 396, .int t] (N, SH v T, I, L, Dd) (fun R => R = .inl (some (.int (dnM (tkM I t) (trN I m t.toNatClampNeg) I 1).1), (N, SH v T, (dnM (tkM I t) (trN I m t.toNatClampNeg) I 1).2, L, Dd))) := by
  refine MT.mk dvX7_trainLength.1 ?_
  refine Ev.sg hX (sX7_trainLength_0.sub 0 2) (pc' := 2) (ls' := [some (.ref 396), some (.int t)]) (st' := [.int t, .ref 396]) (h' := (N, SH v T, I, L, Dd)) rfl ?_
  refine Ev.callV (As := [.int t]) (rest := []) dvX7_isTrack mkX7_56 rfl rfl dX7_trainLength_2 (m_isTrack (d := d - 1) (I := I) hX (by omega)) ⟨by omega, by show 2 + 19 + 40 * _ ≤ 40 * _; omega⟩ ⟨Nat.zero_le _, Nat.zero_le _⟩ rfl (Nat.le_of_ble_eq_true rfl) (fun v9 h9 e9 => ?_) (fun E9 h9 e9 => nomatch e9)
  cases e9
  show Ev _ _ _ _ _ _ 5 [some (.ref 396), some (.int t)] [.int (bi (tkM I t))] (N, SH v T, I, L, Dd)
  refine Ev.if_eq (tgt := 20) dX7_trainLength_5 (by decide) (fun b1 => ?_) (fun b1 => ?_)
  · refine Ev.sg hX (sX7_trainLength_20.sub 0 2) (pc' := 22) (ls' := [some (.ref 396), some (.int t)]) (st' := [.int 1, .ref 396]) (h' := (N, SH v T, I, L, Dd)) rfl ?_
    refine Ev.callV (As := [.int 1]) (rest := []) dvX7_fails mkX7_75 rfl rfl dX7_trainLength_22 (m_fails (d := d - 1) (I := I) hX (by omega)) ⟨by omega, by show 2 + 19 + 40 * _ ≤ 40 * _; omega⟩ ⟨Nat.zero_le _, Nat.zero_le _⟩ rfl (Nat.le_of_ble_eq_true rfl) (fun v9 h9 e9 => ?_) (fun E9 h9 e9 => nomatch e9)
    cases e9
    show Ev _ _ _ _ _ _ 25 [some (.ref 396), some (.int t)] [.int 0] (N, SH v T, up2 I 396 12 1, L, Dd)
    refine Ev.iret dX7_trainLength_25 rfl ?_
    rw [dnM_f (bi_0.mp b1)]
  · have htt := bi_1.mp b1
    obtain ⟨x, hx, rfl⟩ := tkM_nI hz8 hz htt
    have hcx : (nI x).toNatClampNeg = x := nI_clamp (by omega)
    obtain ⟨c0, hc0, hg, hp⟩ := hPL x (by omega)
    refine Ev.sg hX (sX7_trainLength_8.sub 0 3) (pc' := 11) (ls' := [some (.ref 396), some (.int (nI x))]) (st' := [.int (nI x), .ref 396, .ref 396]) (h' := (N, SH v T, I, L, Dd)) rfl ?_
    refine Ev.callV (As := [.int (nI x)]) (rest := [.ref 396]) dvX7_train mkX7_136 rfl rfl dX7_trainLength_11 (m_train (d := d - 1) (I := I) (x := x) hX (by omega) hm20 hm (by omega) hc0 hg hp) ⟨by omega, by show 3 + 19 + 40 * _ ≤ 40 * _; omega⟩ ⟨Nat.zero_le _, Nat.zero_le _⟩ rfl (Nat.le_of_ble_eq_true rfl) (fun v9 h9 e9 => ?_) (fun E9 h9 e9 => nomatch e9)
    cases e9
    show Ev _ _ _ _ _ _ 14 [some (.ref 396), some (.int (nI x))] [.int (trM I m x c0 0), .ref 396] (N, SH v T, I, L, Dd)
    refine Ev.callV (As := [.int (trM I m x c0 0)]) (rest := []) dvX7_done mkX7_79 rfl rfl dX7_trainLength_14 (m_done (d := d - 1) (I := I) hX (by omega)) ⟨by omega, by show 2 + 19 + 40 * _ ≤ 40 * _; omega⟩ ⟨Nat.zero_le _, Nat.zero_le _⟩ rfl (Nat.le_of_ble_eq_true rfl) (fun v9 h9 e9 => ?_) (fun E9 h9 e9 => nomatch e9)
    cases e9
    show Ev _ _ _ _ _ _ 17 [some (.ref 396), some (.int (nI x))] [.int (trM I m x c0 0)] (N, SH v T, up2 I 396 12 0, L, Dd)
    refine Ev.sg hX (sX7_trainLength_17.sub 0 1) (pc' := 25) (ls' := [some (.ref 396), some (.int (nI x))]) (st' := [.int (trM I m x c0 0)]) (h' := (N, SH v T, up2 I 396 12 0, L, Dd)) rfl ?_
    refine Ev.iret dX7_trainLength_25 rfl ?_
    rw [dnM_t (bi_1.mp b1), hcx, trN, hg, show (nI c0).toNatClampNeg = c0 from nI_clamp (by omega)]
def srtM (I : HI) (m : Nat) (t : Int32) : Int32 × HI := if tkM I t then (bi ((paM I m t.toNatClampNeg (I 397 (31 + t.toNatClampNeg)).toNatClampNeg) = 0), up2 I 396 12 0) else (0, up2 I 396 12 1)
theorem m_isSorted (hX : JXok X) (hd : 4 ≤ d) (hm20 : m ≤ 20) (hm : I 397 1 = nI m) (hz8 : z ≤ 8) (hz : I 397 0 = nI z) (hPL : PLM I m) : MT X d 0 0 jdX7_isSorted [.ref 396, .int t] (N, SH v T, I, L, Dd) (fun R => R = .inl (some (.int (srtM I m t).1), (N, SH v T, (srtM I m t).2, L, Dd))) := by
  refine MT.mk dvX7_isSorted.1 ?_
  refine Ev.sg hX (sX7_isSorted_0.sub 0 3) (pc' := 3) (ls' := [some (.ref 396), some (.int t)]) (st' := [.int t, .ref 396, .ref 396]) (h' := (N, SH v T, I, L, Dd)) rfl ?_
  refine Ev.callV (As := [.int t]) (rest := [.ref 396]) dvX7_isTrack mkX7_56 rfl rfl dX7_isSorted_3 (m_isTrack (d := d - 1) (I := I) hX (by omega)) ⟨by omega, by show 2 + 19 + 40 * _ ≤ 40 * _; omega⟩ ⟨Nat.zero_le _, Nat.zero_le _⟩ rfl (Nat.le_of_ble_eq_true rfl) (fun v9 h9 e9 => ?_) (fun E9 h9 e9 => nomatch e9)
  cases e9
  show Ev _ _ _ _ _ _ 6 [some (.ref 396), some (.int t)] [.int (bi (tkM I t)), .ref 396] (N, SH v T, I, L, Dd)
  refine Ev.if_eq (tgt := 13) dX7_isSorted_6 (by decide) (fun b1 => ?_) (fun b1 => ?_)
  · refine Ev.sg hX (sX7_isSorted_13.sub 0 1) (pc' := 14) (ls' := [some (.ref 396), some (.int t)]) (st' := [.int 1, .ref 396]) (h' := (N, SH v T, I, L, Dd)) rfl ?_
    refine Ev.putf hX (sX7_isSorted_14.lk 0 (q := (14, .putfield 42, 7, 12)) rfl) rfl rfl (sX7_isSorted_14.dc 0 (q := (14, .putfield 42, 7, 12)) rfl) ?_
    show Ev _ _ _ _ _ _ 17 [some (.ref 396), some (.int t)] [] (N, SH v T, up2 I 396 12 1, L, Dd)
    refine Ev.sg hX (sX7_isSorted_14.sub 1 1) (pc' := 18) (ls' := [some (.ref 396), some (.int t)]) (st' := [.ref 396]) (h' := (N, SH v T, up2 I 396 12 1, L, Dd)) rfl ?_
    refine Ev.getf (sX7_isSorted_14.lk 2 (q := (18, .getfield 42, 7, 12)) rfl) rfl rfl (sX7_isSorted_14.dc 2 (q := (18, .getfield 42, 7, 12)) rfl) ?_
    show Ev _ _ _ _ _ _ 21 [some (.ref 396), some (.int t)] [.int ((up2 I 396 12 1) 396 12)] (N, SH v T, up2 I 396 12 1, L, Dd)
    refine Ev.eqst (st' := [.int 1]) (by rw [show (up2 I 396 12 1) 396 12 = 1 from (up2_hit)]) ?_
    refine Ev.if_ne (tgt := 36) dX7_isSorted_21 (by decide) (fun b2 => ?_) (fun b2 => ?_)
    · refine Ev.sg hX (sX7_isSorted_36.sub 0 1) (pc' := 37) (ls' := [some (.ref 396), some (.int t)]) (st' := [.int 0]) (h' := (N, SH v T, up2 I 396 12 1, L, Dd)) rfl ?_
      refine Ev.zret dX7_isSorted_37 rfl ?_ ?_
      · rfl
      (rw [srtM, if_neg (bi_0.mp b1)])
    · exact absurd b2 (by decide)
  · refine Ev.sg hX (sX7_isSorted_9.sub 0 2) (pc' := 14) (ls' := [some (.ref 396), some (.int t)]) (st' := [.int 0, .ref 396]) (h' := (N, SH v T, I, L, Dd)) rfl ?_
    refine Ev.putf hX (sX7_isSorted_14.lk 0 (q := (14, .putfield 42, 7, 12)) rfl) rfl rfl (sX7_isSorted_14.dc 0 (q := (14, .putfield 42, 7, 12)) rfl) ?_
    show Ev _ _ _ _ _ _ 17 [some (.ref 396), some (.int t)] [] (N, SH v T, up2 I 396 12 0, L, Dd)
    refine Ev.sg hX (sX7_isSorted_14.sub 1 1) (pc' := 18) (ls' := [some (.ref 396), some (.int t)]) (st' := [.ref 396]) (h' := (N, SH v T, up2 I 396 12 0, L, Dd)) rfl ?_
    refine Ev.getf (sX7_isSorted_14.lk 2 (q := (18, .getfield 42, 7, 12)) rfl) rfl rfl (sX7_isSorted_14.dc 2 (q := (18, .getfield 42, 7, 12)) rfl) ?_
    show Ev _ _ _ _ _ _ 21 [some (.ref 396), some (.int t)] [.int ((up2 I 396 12 0) 396 12)] (N, SH v T, up2 I 396 12 0, L, Dd)
    refine Ev.eqst (st' := [.int 0]) (by rw [show (up2 I 396 12 0) 396 12 = 0 from (up2_hit)]) ?_
    refine Ev.if_ne (tgt := 36) dX7_isSorted_21 (by decide) (fun b3 => ?_) (fun b3 => ?_)
    · exact absurd rfl b3
    · have htt := bi_1.mp b1
      obtain ⟨x, hx, rfl⟩ := tkM_nI hz8 hz htt
      have hcx : (nI x).toNatClampNeg = x := nI_clamp (by omega)
      obtain ⟨c0, hc0, hg, hp⟩ := hPL x (by omega)
      refine Ev.sg hX (sX7_isSorted_24.sub 0 2) (pc' := 26) (ls' := [some (.ref 396), some (.int (nI x))]) (st' := [.int (nI x), .ref 396]) (h' := (N, SH v T, up2 I 396 12 0, L, Dd)) rfl ?_
      refine Ev.callV (As := [.int (nI x)]) (rest := []) dvX7_pairs mkX7_148 rfl rfl dX7_isSorted_26 (m_pairs (d := d - 1) (I := (up2 I 396 12 0)) (x := x) hX (by omega) hm20 ((congrFun ((up2_ne (by decide)).trans rfl) 1).trans hm) (by omega) hc0 ((congrFun (up2_ne (by decide)) (31 + x)).trans hg) (fun p hp9 => by obtain ⟨s, h1, h2⟩ := hp p hp9; exact ⟨s, h1, by rw [slAM_congr (up2_ne (by decide))]; exact h2⟩)) ⟨by omega, by show 5 + 19 + 40 * _ ≤ 40 * _; omega⟩ ⟨Nat.zero_le _, Nat.zero_le _⟩ rfl (Nat.le_of_ble_eq_true rfl) (fun v9 h9 e9 => ?_) (fun E9 h9 e9 => nomatch e9)
      cases e9
      show Ev _ _ _ _ _ _ 29 [some (.ref 396), some (.int (nI x))] [.int (paM (up2 I 396 12 0) m x c0)] (N, SH v T, up2 I 396 12 0, L, Dd)
      refine Ev.if_ne (tgt := 36) dX7_isSorted_29 (by decide) (fun b4 => ?_) (fun b4 => ?_)
      · refine Ev.sg hX (sX7_isSorted_36.sub 0 1) (pc' := 37) (ls' := [some (.ref 396), some (.int (nI x))]) (st' := [.int 0]) (h' := (N, SH v T, up2 I 396 12 0, L, Dd)) rfl ?_
        refine Ev.zret dX7_isSorted_37 rfl ?_ ?_
        · rfl
        (rw [srtM, if_pos htt, hcx, hg, show (nI c0).toNatClampNeg = c0 from nI_clamp (by omega), ← (show paM (up2 I 396 12 0) m x c0 = paM I m x c0 from by unfold paM paS; simp only [slAM_congr (show up2 I 396 12 0 397 = I 397 from up2_ne (by decide)), show up2 I 396 12 0 397 = I 397 from up2_ne (by decide)])]; exact congrArg (fun w => Sum.inl (some (Value.int w), (N, SH v T, up2 I 396 12 0, L, Dd))) (if_neg b4).symm)
      · refine Ev.sg hX (sX7_isSorted_32.sub 0 2) (pc' := 37) (ls' := [some (.ref 396), some (.int (nI x))]) (st' := [.int 1]) (h' := (N, SH v T, up2 I 396 12 0, L, Dd)) rfl ?_
        refine Ev.zret dX7_isSorted_37 rfl ?_ ?_
        · rfl
        (rw [srtM, if_pos htt, hcx, hg, show (nI c0).toNatClampNeg = c0 from nI_clamp (by omega), ← (show paM (up2 I 396 12 0) m x c0 = paM I m x c0 from by unfold paM paS; simp only [slAM_congr (show up2 I 396 12 0 397 = I 397 from up2_ne (by decide)), show up2 I 396 12 0 397 = I 397 from up2_ne (by decide)])]; exact congrArg (fun w => Sum.inl (some (Value.int w), (N, SH v T, up2 I 396 12 0, L, Dd))) (if_pos b4).symm)
end MOD8
