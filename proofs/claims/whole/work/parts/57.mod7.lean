/-! the model: the calls that change, as a whole -/
theorem begM_ne {I : HI} {r : Nat} (h : r ≠ 398) : begM I r = I r := cpM_ne h
theorem adt_ch {I : HI} {z : Nat} {c e : Int32} : (adtM I z c e).2 396 3 = I 396 3 := by
  unfold adtM
  (repeat' split) <;> rfl
theorem cn_ch {I : HI} {z : Nat} {c e : Int32} : (cnM I z c e).2 396 3 = I 396 3 := by
  unfold cnM
  (repeat' split) <;> first | rfl | (dsimp only; rw [up2_i (show (3 : Nat) ≠ 12 by decide), tlM_ne (show (396 : Nat) ≠ 397 by decide)])
theorem dc_ch {I : HI} {z : Nat} {c e : Int32} : (dcM I z c e).2 396 3 = I 396 3 := by
  unfold dcM
  (repeat' split) <;> first | rfl | (dsimp only; rw [up2_i (show (3 : Nat) ≠ 12 by decide), tlM_ne (show (396 : Nat) ≠ 397 by decide)])
theorem acc_ch {I : HI} {m : Nat} {t le we de b : Int32} : (accM I m t le we de b).2 396 3 = I 396 3 := by
  unfold accM accI
  (repeat' split) <;> rfl
theorem rep_ch {I : HI} {m : Nat} {c : Int32} : (repM I m c).2 396 3 = I 396 3 := by
  unfold repM
  (repeat' split) <;> rfl
theorem shK_ne {I : HI} {m z x y q r : Nat} (h : r ≠ 397) (h2 : r ≠ 403) : shK I m z x y q r = I r := (fo_inv (P := fun (Z : HI) => Z r = exM (exM I z y) z y r) (fun i Z e => (mvS_ne h).trans e) _ _ _ rfl).trans ((exM_ne h2).trans (exM_ne h2))
theorem shu_ch {I : HI} {m z : Nat} {a b c : Int32} : (shuM I m z a b c).2 396 3 = I 396 3 := by
  unfold shuM
  split
  · dsimp only
    rw [up2_i (show (3 : Nat) ≠ 12 by decide), whM_ne (show (396 : Nat) ≠ 403 by decide)]
  · dsimp only
    rw [up2_i (show (3 : Nat) ≠ 12 by decide), up2_ne (show (396 : Nat) ≠ 397 by decide), up2_ne (show (396 : Nat) ≠ 397 by decide), shK_ne (show (396 : Nat) ≠ 397 by decide) (show (396 : Nat) ≠ 403 by decide)]
theorem dpF_ne {m x n k r : Nat} {J : HI} (h : r ≠ 397) : fo (dpS m x) n k J r = J r := fo_inv (P := fun (Z : HI) => Z r = J r) (fun i Z e => (lvM_ne h).trans e) _ _ J rfl
theorem dep_ch {I : HI} {m : Nat} {t dd : Int32} : (depM I m t dd).2 396 3 = I 396 3 := by
  unfold depM
  (repeat' split) <;> first | rfl | (dsimp only; rw [up2_i (show (3 : Nat) ≠ 12 by decide), dpF_ne (show (396 : Nat) ≠ 397 by decide)])
def pubM (f : Int32 × HI) (ch : Nat) : Int32 × HI := kepM f.2 f.1 ch
section MOD7
variable {X : JX} {d N v : Nat} {T : Nat → Option JS} {I : Nat → Nat → Int32} {L : Nat → Nat → Int64} {Dd : Nat → Nat → UInt64} {a b c e i0 t dd le we de : Int32} {m z x y q c0 s n ch : Nat}
theorem m_addTrack (hX : JXok X) (hd : 5 ≤ d) (hz8 : z ≤ 8) (hz : I 397 0 = nI z) (hch : I 396 3 = nI ch) (hch8 : ch ≤ 8) : MT X d 0 0 jdX7_addTrack [.ref 396, .int c, .int e] (N, SH v T, I, L, Dd) (fun R => R = .inl (some (.int (pubM (adtM (begM I) z c e) ch).1), (N, SH v T, (pubM (adtM (begM I) z c e) ch).2, L, Dd))) := by
  refine MT.mk dvX7_addTrack.1 ?_
  refine Ev.sg hX (sX7_addTrack_0.sub 0 1) (pc' := 1) (ls' := [some (.ref 396), some (.int c), some (.int e)]) (st' := [.ref 396]) (h' := (N, SH v T, I, L, Dd)) rfl ?_
  refine Ev.callV (As := []) (rest := []) dvX7_begin mkX7_82 rfl rfl dX7_addTrack_1 (m_begin (d := d - 1) (I := I) hX (by omega)) ⟨by omega, by show 1 + 19 + 40 * _ ≤ 40 * _; omega⟩ ⟨Nat.zero_le _, Nat.zero_le _⟩ rfl (Nat.le_of_ble_eq_true rfl) (fun v9 h9 e9 => ?_) (fun E9 h9 e9 => nomatch e9)
  cases e9
  show Ev _ _ _ _ _ _ 4 [some (.ref 396), some (.int c), some (.int e)] [] (N, SH v T, begM I, L, Dd)
  refine Ev.sg hX (sX7_addTrack_4.sub 0 4) (pc' := 8) (ls' := [some (.ref 396), some (.int c), some (.int e)]) (st' := [.int e, .int c, .ref 396, .ref 396]) (h' := (N, SH v T, begM I, L, Dd)) rfl ?_
  refine Ev.callV (As := [.int c, .int e]) (rest := [.ref 396]) dvX7_addsTrack mkX7_85 rfl rfl dX7_addTrack_8 (m_addsTrack (d := d - 1) (I := begM I) hX (by omega) hz8 ((congrFun (begM_ne (by decide)) 0).trans hz)) ⟨by omega, by show 4 + 19 + 40 * _ ≤ 40 * _; omega⟩ ⟨Nat.zero_le _, Nat.zero_le _⟩ rfl (Nat.le_of_ble_eq_true rfl) (fun v9 h9 e9 => ?_) (fun E9 h9 e9 => nomatch e9)
  cases e9
  show Ev _ _ _ _ _ _ 11 [some (.ref 396), some (.int c), some (.int e)] [.int ((adtM (begM I) z c e).1), .ref 396] (N, SH v T, (adtM (begM I) z c e).2, L, Dd)
  refine Ev.callV (As := [.int ((adtM (begM I) z c e).1)]) (rest := []) dvX7_kept mkX7_88 rfl rfl dX7_addTrack_11 (m_kept (d := d - 1) (I := (adtM (begM I) z c e).2) hX (by omega) (adt_ch.trans ((congrFun (begM_ne (by decide)) 3).trans hch)) hch8) ⟨by omega, by show 3 + 19 + 40 * _ ≤ 40 * _; omega⟩ ⟨Nat.zero_le _, Nat.zero_le _⟩ rfl (Nat.le_of_ble_eq_true rfl) (fun v9 h9 e9 => ?_) (fun E9 h9 e9 => nomatch e9)
  cases e9
  show Ev _ _ _ _ _ _ 14 [some (.ref 396), some (.int c), some (.int e)] [.int ((pubM (adtM (begM I) z c e) ch).1)] (N, SH v T, (pubM (adtM (begM I) z c e) ch).2, L, Dd)
  refine Ev.iret dX7_addTrack_14 rfl ?_
  rfl
theorem m_connect (hX : JXok X) (hd : 6 ≤ d) (hz8 : z ≤ 8) (hz : I 397 0 = nI z) (hch : I 396 3 = nI ch) (hch8 : ch ≤ 8) : MT X d 0 0 jdX7_connect [.ref 396, .int c, .int e] (N, SH v T, I, L, Dd) (fun R => R = .inl (some (.int (pubM (cnM (begM I) z c e) ch).1), (N, SH v T, (pubM (cnM (begM I) z c e) ch).2, L, Dd))) := by
  refine MT.mk dvX7_connect.1 ?_
  refine Ev.sg hX (sX7_connect_0.sub 0 1) (pc' := 1) (ls' := [some (.ref 396), some (.int c), some (.int e)]) (st' := [.ref 396]) (h' := (N, SH v T, I, L, Dd)) rfl ?_
  refine Ev.callV (As := []) (rest := []) dvX7_begin mkX7_82 rfl rfl dX7_connect_1 (m_begin (d := d - 1) (I := I) hX (by omega)) ⟨by omega, by show 1 + 19 + 40 * _ ≤ 40 * _; omega⟩ ⟨Nat.zero_le _, Nat.zero_le _⟩ rfl (Nat.le_of_ble_eq_true rfl) (fun v9 h9 e9 => ?_) (fun E9 h9 e9 => nomatch e9)
  cases e9
  show Ev _ _ _ _ _ _ 4 [some (.ref 396), some (.int c), some (.int e)] [] (N, SH v T, begM I, L, Dd)
  refine Ev.sg hX (sX7_connect_4.sub 0 4) (pc' := 8) (ls' := [some (.ref 396), some (.int c), some (.int e)]) (st' := [.int e, .int c, .ref 396, .ref 396]) (h' := (N, SH v T, begM I, L, Dd)) rfl ?_
  refine Ev.callV (As := [.int c, .int e]) (rest := [.ref 396]) dvX7_connects mkX7_101 rfl rfl dX7_connect_8 (m_connects (d := d - 1) (I := begM I) hX (by omega) hz8 ((congrFun (begM_ne (by decide)) 0).trans hz)) ⟨by omega, by show 3 + 19 + 40 * _ ≤ 40 * _; omega⟩ ⟨Nat.zero_le _, Nat.zero_le _⟩ rfl (Nat.le_of_ble_eq_true rfl) (fun v9 h9 e9 => ?_) (fun E9 h9 e9 => nomatch e9)
  cases e9
  show Ev _ _ _ _ _ _ 11 [some (.ref 396), some (.int c), some (.int e)] [.int ((cnM (begM I) z c e).1), .ref 396] (N, SH v T, (cnM (begM I) z c e).2, L, Dd)
  refine Ev.callV (As := [.int ((cnM (begM I) z c e).1)]) (rest := []) dvX7_kept mkX7_88 rfl rfl dX7_connect_11 (m_kept (d := d - 1) (I := (cnM (begM I) z c e).2) hX (by omega) (cn_ch.trans ((congrFun (begM_ne (by decide)) 3).trans hch)) hch8) ⟨by omega, by show 3 + 19 + 40 * _ ≤ 40 * _; omega⟩ ⟨Nat.zero_le _, Nat.zero_le _⟩ rfl (Nat.le_of_ble_eq_true rfl) (fun v9 h9 e9 => ?_) (fun E9 h9 e9 => nomatch e9)
  cases e9
  show Ev _ _ _ _ _ _ 14 [some (.ref 396), some (.int c), some (.int e)] [.int ((pubM (cnM (begM I) z c e) ch).1)] (N, SH v T, (pubM (cnM (begM I) z c e) ch).2, L, Dd)
  refine Ev.iret dX7_connect_14 rfl ?_
  rfl
theorem m_disconnect (hX : JXok X) (hd : 6 ≤ d) (hz8 : z ≤ 8) (hz : I 397 0 = nI z) (hch : I 396 3 = nI ch) (hch8 : ch ≤ 8) : MT X d 0 0 jdX7_disconnect [.ref 396, .int c, .int e] (N, SH v T, I, L, Dd) (fun R => R = .inl (some (.int (pubM (dcM (begM I) z c e) ch).1), (N, SH v T, (pubM (dcM (begM I) z c e) ch).2, L, Dd))) := by
  refine MT.mk dvX7_disconnect.1 ?_
  refine Ev.sg hX (sX7_disconnect_0.sub 0 1) (pc' := 1) (ls' := [some (.ref 396), some (.int c), some (.int e)]) (st' := [.ref 396]) (h' := (N, SH v T, I, L, Dd)) rfl ?_
  refine Ev.callV (As := []) (rest := []) dvX7_begin mkX7_82 rfl rfl dX7_disconnect_1 (m_begin (d := d - 1) (I := I) hX (by omega)) ⟨by omega, by show 1 + 19 + 40 * _ ≤ 40 * _; omega⟩ ⟨Nat.zero_le _, Nat.zero_le _⟩ rfl (Nat.le_of_ble_eq_true rfl) (fun v9 h9 e9 => ?_) (fun E9 h9 e9 => nomatch e9)
  cases e9
  show Ev _ _ _ _ _ _ 4 [some (.ref 396), some (.int c), some (.int e)] [] (N, SH v T, begM I, L, Dd)
  refine Ev.sg hX (sX7_disconnect_4.sub 0 4) (pc' := 8) (ls' := [some (.ref 396), some (.int c), some (.int e)]) (st' := [.int e, .int c, .ref 396, .ref 396]) (h' := (N, SH v T, begM I, L, Dd)) rfl ?_
  refine Ev.callV (As := [.int c, .int e]) (rest := [.ref 396]) dvX7_disconnects mkX7_104 rfl rfl dX7_disconnect_8 (m_disconnects (d := d - 1) (I := begM I) hX (by omega) hz8 ((congrFun (begM_ne (by decide)) 0).trans hz)) ⟨by omega, by show 3 + 19 + 40 * _ ≤ 40 * _; omega⟩ ⟨Nat.zero_le _, Nat.zero_le _⟩ rfl (Nat.le_of_ble_eq_true rfl) (fun v9 h9 e9 => ?_) (fun E9 h9 e9 => nomatch e9)
  cases e9
  show Ev _ _ _ _ _ _ 11 [some (.ref 396), some (.int c), some (.int e)] [.int ((dcM (begM I) z c e).1), .ref 396] (N, SH v T, (dcM (begM I) z c e).2, L, Dd)
  refine Ev.callV (As := [.int ((dcM (begM I) z c e).1)]) (rest := []) dvX7_kept mkX7_88 rfl rfl dX7_disconnect_11 (m_kept (d := d - 1) (I := (dcM (begM I) z c e).2) hX (by omega) (dc_ch.trans ((congrFun (begM_ne (by decide)) 3).trans hch)) hch8) ⟨by omega, by show 3 + 19 + 40 * _ ≤ 40 * _; omega⟩ ⟨Nat.zero_le _, Nat.zero_le _⟩ rfl (Nat.le_of_ble_eq_true rfl) (fun v9 h9 e9 => ?_) (fun E9 h9 e9 => nomatch e9)
  cases e9
  show Ev _ _ _ _ _ _ 14 [some (.ref 396), some (.int c), some (.int e)] [.int ((pubM (dcM (begM I) z c e) ch).1)] (N, SH v T, (pubM (dcM (begM I) z c e) ch).2, L, Dd)
  refine Ev.iret dX7_disconnect_14 rfl ?_
  rfl
theorem m_shunt (hX : JXok X) (hd : 7 ≤ d) (hm20 : m ≤ 20) (hm : I 397 1 = nI m) (hz8 : z ≤ 8) (hz : I 397 0 = nI z) (hPL : PLM I m) (hok : ¬ 0 < (whM (begM I) m z a b c).1 → okMv m a.toNatClampNeg b.toNatClampNeg c.toNatClampNeg (exM (exM (begM I) z b.toNatClampNeg) z b.toNatClampNeg)) (hch : I 396 3 = nI ch) (hch8 : ch ≤ 8) : MT X d 0 0 jdX7_shunt [.ref 396, .int a, .int b, .int c] (N, SH v T, I, L, Dd) (fun R => R = .inl (some (.int (pubM (shuM (begM I) m z a b c) ch).1), (N, SH v T, (pubM (shuM (begM I) m z a b c) ch).2, L, Dd))) := by
  refine MT.mk dvX7_shunt.1 ?_
  refine Ev.sg hX (sX7_shunt_0.sub 0 1) (pc' := 1) (ls' := [some (.ref 396), some (.int a), some (.int b), some (.int c)]) (st' := [.ref 396]) (h' := (N, SH v T, I, L, Dd)) rfl ?_
  refine Ev.callV (As := []) (rest := []) dvX7_begin mkX7_82 rfl rfl dX7_shunt_1 (m_begin (d := d - 1) (I := I) hX (by omega)) ⟨by omega, by show 1 + 19 + 40 * _ ≤ 40 * _; omega⟩ ⟨Nat.zero_le _, Nat.zero_le _⟩ rfl (Nat.le_of_ble_eq_true rfl) (fun v9 h9 e9 => ?_) (fun E9 h9 e9 => nomatch e9)
  cases e9
  show Ev _ _ _ _ _ _ 4 [some (.ref 396), some (.int a), some (.int b), some (.int c)] [] (N, SH v T, begM I, L, Dd)
  refine Ev.sg hX (sX7_shunt_4.sub 0 5) (pc' := 9) (ls' := [some (.ref 396), some (.int a), some (.int b), some (.int c)]) (st' := [.int c, .int b, .int a, .ref 396, .ref 396]) (h' := (N, SH v T, begM I, L, Dd)) rfl ?_
  refine Ev.callV (As := [.int a, .int b, .int c]) (rest := [.ref 396]) dvX7_shunts mkX7_127 rfl rfl dX7_shunt_9 (m_shunts (d := d - 1) (I := begM I) hX (by omega) hm20 ((congrFun (begM_ne (by decide)) 1).trans hm) hz8 ((congrFun (begM_ne (by decide)) 0).trans hz) (PLM_congr (begM_ne (by decide)) hPL) hok) ⟨by omega, by show 8 + 19 + 40 * _ ≤ 40 * _; omega⟩ ⟨Nat.zero_le _, Nat.zero_le _⟩ rfl (Nat.le_of_ble_eq_true rfl) (fun v9 h9 e9 => ?_) (fun E9 h9 e9 => nomatch e9)
  cases e9
  show Ev _ _ _ _ _ _ 12 [some (.ref 396), some (.int a), some (.int b), some (.int c)] [.int ((shuM (begM I) m z a b c).1), .ref 396] (N, SH v T, (shuM (begM I) m z a b c).2, L, Dd)
  refine Ev.callV (As := [.int ((shuM (begM I) m z a b c).1)]) (rest := []) dvX7_kept mkX7_88 rfl rfl dX7_shunt_12 (m_kept (d := d - 1) (I := (shuM (begM I) m z a b c).2) hX (by omega) (shu_ch.trans ((congrFun (begM_ne (by decide)) 3).trans hch)) hch8) ⟨by omega, by show 3 + 19 + 40 * _ ≤ 40 * _; omega⟩ ⟨Nat.zero_le _, Nat.zero_le _⟩ rfl (Nat.le_of_ble_eq_true rfl) (fun v9 h9 e9 => ?_) (fun E9 h9 e9 => nomatch e9)
  cases e9
  show Ev _ _ _ _ _ _ 15 [some (.ref 396), some (.int a), some (.int b), some (.int c)] [.int ((pubM (shuM (begM I) m z a b c) ch).1)] (N, SH v T, (pubM (shuM (begM I) m z a b c) ch).2, L, Dd)
  refine Ev.iret dX7_shunt_15 rfl ?_
  rfl
theorem m_repair (hX : JXok X) (hd : 5 ≤ d) (hm20 : m ≤ 20) (hm : I 397 1 = nI m) (hch : I 396 3 = nI ch) (hch8 : ch ≤ 8) : MT X d 0 0 jdX7_repair [.ref 396, .int c] (N, SH v T, I, L, Dd) (fun R => R = .inl (some (.int (pubM (repM (begM I) m c) ch).1), (N, SH v T, (pubM (repM (begM I) m c) ch).2, L, Dd))) := by
  refine MT.mk dvX7_repair.1 ?_
  refine Ev.sg hX (sX7_repair_0.sub 0 1) (pc' := 1) (ls' := [some (.ref 396), some (.int c)]) (st' := [.ref 396]) (h' := (N, SH v T, I, L, Dd)) rfl ?_
  refine Ev.callV (As := []) (rest := []) dvX7_begin mkX7_82 rfl rfl dX7_repair_1 (m_begin (d := d - 1) (I := I) hX (by omega)) ⟨by omega, by show 1 + 19 + 40 * _ ≤ 40 * _; omega⟩ ⟨Nat.zero_le _, Nat.zero_le _⟩ rfl (Nat.le_of_ble_eq_true rfl) (fun v9 h9 e9 => ?_) (fun E9 h9 e9 => nomatch e9)
  cases e9
  show Ev _ _ _ _ _ _ 4 [some (.ref 396), some (.int c)] [] (N, SH v T, begM I, L, Dd)
  refine Ev.sg hX (sX7_repair_4.sub 0 3) (pc' := 7) (ls' := [some (.ref 396), some (.int c)]) (st' := [.int c, .ref 396, .ref 396]) (h' := (N, SH v T, begM I, L, Dd)) rfl ?_
  refine Ev.callV (As := [.int c]) (rest := [.ref 396]) dvX7_repairs mkX7_133 rfl rfl dX7_repair_7 (m_repairs (d := d - 1) (I := begM I) hX (by omega) hm20 ((congrFun (begM_ne (by decide)) 1).trans hm)) ⟨by omega, by show 5 + 19 + 40 * _ ≤ 40 * _; omega⟩ ⟨Nat.zero_le _, Nat.zero_le _⟩ rfl (Nat.le_of_ble_eq_true rfl) (fun v9 h9 e9 => ?_) (fun E9 h9 e9 => nomatch e9)
  cases e9
  show Ev _ _ _ _ _ _ 10 [some (.ref 396), some (.int c)] [.int ((repM (begM I) m c).1), .ref 396] (N, SH v T, (repM (begM I) m c).2, L, Dd)
  refine Ev.callV (As := [.int ((repM (begM I) m c).1)]) (rest := []) dvX7_kept mkX7_88 rfl rfl dX7_repair_10 (m_kept (d := d - 1) (I := (repM (begM I) m c).2) hX (by omega) (rep_ch.trans ((congrFun (begM_ne (by decide)) 3).trans hch)) hch8) ⟨by omega, by show 3 + 19 + 40 * _ ≤ 40 * _; omega⟩ ⟨Nat.zero_le _, Nat.zero_le _⟩ rfl (Nat.le_of_ble_eq_true rfl) (fun v9 h9 e9 => ?_) (fun E9 h9 e9 => nomatch e9)
  cases e9
  show Ev _ _ _ _ _ _ 13 [some (.ref 396), some (.int c)] [.int ((pubM (repM (begM I) m c) ch).1)] (N, SH v T, (pubM (repM (begM I) m c) ch).2, L, Dd)
  refine Ev.iret dX7_repair_13 rfl ?_
  rfl
theorem m_depart (hX : JXok X) (hd : 7 ≤ d) (hm20 : m ≤ 20) (hm : I 397 1 = nI m) (hz8 : z ≤ 8) (hz : I 397 0 = nI z) (hPL : PLM I m) (hok : tkM (begM I) t → (0 ≤ dd ∧ dd ≤ 9) → ¬ ((begM I) 397 (31 + t.toNatClampNeg) = 0 ∨ ¬ (begM I) 397 (99 + (feM (begM I) m t.toNatClampNeg 0).toNatClampNeg) = dd) → fo (baS (begM I) m t.toNatClampNeg) (trN (begM I) m t.toNatClampNeg).toNatClampNeg 0 0 = 0 → okDp m t.toNatClampNeg (trN (begM I) m t.toNatClampNeg).toNatClampNeg 0 (begM I)) (hch : I 396 3 = nI ch) (hch8 : ch ≤ 8) : MT X d 0 0 jdX7_depart [.ref 396, .int t, .int dd] (N, SH v T, I, L, Dd) (fun R => R = .inl (some (.int (pubM (depM (begM I) m t dd) ch).1), (N, SH v T, (pubM (depM (begM I) m t dd) ch).2, L, Dd))) := by
  refine MT.mk dvX7_depart.1 ?_
  refine Ev.sg hX (sX7_depart_0.sub 0 1) (pc' := 1) (ls' := [some (.ref 396), some (.int t), some (.int dd)]) (st' := [.ref 396]) (h' := (N, SH v T, I, L, Dd)) rfl ?_
  refine Ev.callV (As := []) (rest := []) dvX7_begin mkX7_82 rfl rfl dX7_depart_1 (m_begin (d := d - 1) (I := I) hX (by omega)) ⟨by omega, by show 1 + 19 + 40 * _ ≤ 40 * _; omega⟩ ⟨Nat.zero_le _, Nat.zero_le _⟩ rfl (Nat.le_of_ble_eq_true rfl) (fun v9 h9 e9 => ?_) (fun E9 h9 e9 => nomatch e9)
  cases e9
  show Ev _ _ _ _ _ _ 4 [some (.ref 396), some (.int t), some (.int dd)] [] (N, SH v T, begM I, L, Dd)
  refine Ev.sg hX (sX7_depart_4.sub 0 4) (pc' := 8) (ls' := [some (.ref 396), some (.int t), some (.int dd)]) (st' := [.int dd, .int t, .ref 396, .ref 396]) (h' := (N, SH v T, begM I, L, Dd)) rfl ?_
  refine Ev.callV (As := [.int t, .int dd]) (rest := [.ref 396]) dvX7_departs mkX7_145 rfl rfl dX7_depart_8 (m_departs (d := d - 1) (I := begM I) hX (by omega) hm20 ((congrFun (begM_ne (by decide)) 1).trans hm) hz8 ((congrFun (begM_ne (by decide)) 0).trans hz) (PLM_congr (begM_ne (by decide)) hPL) hok) ⟨by omega, by show 5 + 19 + 40 * _ ≤ 40 * _; omega⟩ ⟨Nat.zero_le _, Nat.zero_le _⟩ rfl (Nat.le_of_ble_eq_true rfl) (fun v9 h9 e9 => ?_) (fun E9 h9 e9 => nomatch e9)
  cases e9
  show Ev _ _ _ _ _ _ 11 [some (.ref 396), some (.int t), some (.int dd)] [.int ((depM (begM I) m t dd).1), .ref 396] (N, SH v T, (depM (begM I) m t dd).2, L, Dd)
  refine Ev.callV (As := [.int ((depM (begM I) m t dd).1)]) (rest := []) dvX7_kept mkX7_88 rfl rfl dX7_depart_11 (m_kept (d := d - 1) (I := (depM (begM I) m t dd).2) hX (by omega) (dep_ch.trans ((congrFun (begM_ne (by decide)) 3).trans hch)) hch8) ⟨by omega, by show 3 + 19 + 40 * _ ≤ 40 * _; omega⟩ ⟨Nat.zero_le _, Nat.zero_le _⟩ rfl (Nat.le_of_ble_eq_true rfl) (fun v9 h9 e9 => ?_) (fun E9 h9 e9 => nomatch e9)
  cases e9
  show Ev _ _ _ _ _ _ 14 [some (.ref 396), some (.int t), some (.int dd)] [.int ((pubM (depM (begM I) m t dd) ch).1)] (N, SH v T, (pubM (depM (begM I) m t dd) ch).2, L, Dd)
  refine Ev.iret dX7_depart_14 rfl ?_
  rfl
theorem m_addCar (hX : JXok X) (hd : 5 ≤ d) (hm20 : m ≤ 20) (hm : I 397 1 = nI m) (hz8 : z ≤ 8) (hz : I 397 0 = nI z) (hch : I 396 3 = nI ch) (hch8 : ch ≤ 8) (hb : b = 0 ∨ b = 1) : MT X d 0 0 jdX7_addCar [.ref 396, .int t, .int le, .int we, .int de, .int b] (N, SH v T, I, L, Dd) (fun R => R = .inl (some (.int (pubM (accM (begM I) m t le we de b) ch).1), (N, SH v T, (pubM (accM (begM I) m t le we de b) ch).2, L, Dd))) := by
  refine MT.mk dvX7_addCar.1 ?_
  refine Ev.sg hX (sX7_addCar_0.sub 0 1) (pc' := 1) (ls' := [some (.ref 396), some (.int t), some (.int le), some (.int we), some (.int de), some (.int b)]) (st' := [.ref 396]) (h' := (N, SH v T, I, L, Dd)) rfl ?_
  refine Ev.callV (As := []) (rest := []) dvX7_begin mkX7_82 rfl rfl dX7_addCar_1 (m_begin (d := d - 1) (I := I) hX (by omega)) ⟨by omega, by show 1 + 19 + 40 * _ ≤ 40 * _; omega⟩ ⟨Nat.zero_le _, Nat.zero_le _⟩ rfl (Nat.le_of_ble_eq_true rfl) (fun v9 h9 e9 => ?_) (fun E9 h9 e9 => nomatch e9)
  cases e9
  show Ev _ _ _ _ _ _ 4 [some (.ref 396), some (.int t), some (.int le), some (.int we), some (.int de), some (.int b)] [] (N, SH v T, begM I, L, Dd)
  refine Ev.sg hX (sX7_addCar_4.sub 0 7) (pc' := 13) (ls' := [some (.ref 396), some (.int t), some (.int le), some (.int we), some (.int de), some (.int b)]) (st' := [.int b, .int de, .int we, .int le, .int t, .ref 396, .ref 396]) (h' := (N, SH v T, begM I, L, Dd)) rfl ?_
  refine Ev.if_eq (tgt := 20) dX7_addCar_13 (by decide) (fun b1 => ?_) (fun b1 => ?_)
  · refine Ev.sg hX (sX7_addCar_20.sub 0 1) (pc' := 21) (ls' := [some (.ref 396), some (.int t), some (.int le), some (.int we), some (.int de), some (.int b)]) (st' := [.int 0, .int de, .int we, .int le, .int t, .ref 396, .ref 396]) (h' := (N, SH v T, begM I, L, Dd)) rfl ?_
    refine Ev.callV (As := [.int t, .int le, .int we, .int de, .int 0]) (rest := [.ref 396]) dvX7_addsCar mkX7_110 rfl rfl dX7_addCar_21 (m_addsCar (d := d - 1) (I := begM I) hX (by omega) hm20 ((congrFun (begM_ne (by decide)) 1).trans hm) hz8 ((congrFun (begM_ne (by decide)) 0).trans hz)) ⟨by omega, by show 7 + 19 + 40 * _ ≤ 40 * _; omega⟩ ⟨Nat.zero_le _, Nat.zero_le _⟩ rfl (Nat.le_of_ble_eq_true rfl) (fun v9 h9 e9 => ?_) (fun E9 h9 e9 => nomatch e9)
    cases e9
    show Ev _ _ _ _ _ _ 24 [some (.ref 396), some (.int t), some (.int le), some (.int we), some (.int de), some (.int b)] [.int ((accM (begM I) m t le we de 0).1), .ref 396] (N, SH v T, (accM (begM I) m t le we de 0).2, L, Dd)
    refine Ev.callV (As := [.int ((accM (begM I) m t le we de 0).1)]) (rest := []) dvX7_kept mkX7_88 rfl rfl dX7_addCar_24 (m_kept (d := d - 1) (I := (accM (begM I) m t le we de 0).2) hX (by omega) (acc_ch.trans ((congrFun (begM_ne (by decide)) 3).trans hch)) hch8) ⟨by omega, by show 3 + 19 + 40 * _ ≤ 40 * _; omega⟩ ⟨Nat.zero_le _, Nat.zero_le _⟩ rfl (Nat.le_of_ble_eq_true rfl) (fun v9 h9 e9 => ?_) (fun E9 h9 e9 => nomatch e9)
    cases e9
    show Ev _ _ _ _ _ _ 27 [some (.ref 396), some (.int t), some (.int le), some (.int we), some (.int de), some (.int b)] [.int ((pubM (accM (begM I) m t le we de 0) ch).1)] (N, SH v T, (pubM (accM (begM I) m t le we de 0) ch).2, L, Dd)
    refine Ev.iret dX7_addCar_27 rfl ?_
    rw [show b = 0 from b1]
  · refine Ev.sg hX (sX7_addCar_16.sub 0 2) (pc' := 21) (ls' := [some (.ref 396), some (.int t), some (.int le), some (.int we), some (.int de), some (.int b)]) (st' := [.int 1, .int de, .int we, .int le, .int t, .ref 396, .ref 396]) (h' := (N, SH v T, begM I, L, Dd)) rfl ?_
    refine Ev.callV (As := [.int t, .int le, .int we, .int de, .int 1]) (rest := [.ref 396]) dvX7_addsCar mkX7_110 rfl rfl dX7_addCar_21 (m_addsCar (d := d - 1) (I := begM I) hX (by omega) hm20 ((congrFun (begM_ne (by decide)) 1).trans hm) hz8 ((congrFun (begM_ne (by decide)) 0).trans hz)) ⟨by omega, by show 7 + 19 + 40 * _ ≤ 40 * _; omega⟩ ⟨Nat.zero_le _, Nat.zero_le _⟩ rfl (Nat.le_of_ble_eq_true rfl) (fun v9 h9 e9 => ?_) (fun E9 h9 e9 => nomatch e9)
    cases e9
    show Ev _ _ _ _ _ _ 24 [some (.ref 396), some (.int t), some (.int le), some (.int we), some (.int de), some (.int b)] [.int ((accM (begM I) m t le we de 1).1), .ref 396] (N, SH v T, (accM (begM I) m t le we de 1).2, L, Dd)
    refine Ev.callV (As := [.int ((accM (begM I) m t le we de 1).1)]) (rest := []) dvX7_kept mkX7_88 rfl rfl dX7_addCar_24 (m_kept (d := d - 1) (I := (accM (begM I) m t le we de 1).2) hX (by omega) (acc_ch.trans ((congrFun (begM_ne (by decide)) 3).trans hch)) hch8) ⟨by omega, by show 3 + 19 + 40 * _ ≤ 40 * _; omega⟩ ⟨Nat.zero_le _, Nat.zero_le _⟩ rfl (Nat.le_of_ble_eq_true rfl) (fun v9 h9 e9 => ?_) (fun E9 h9 e9 => nomatch e9)
    cases e9
    show Ev _ _ _ _ _ _ 27 [some (.ref 396), some (.int t), some (.int le), some (.int we), some (.int de), some (.int b)] [.int ((pubM (accM (begM I) m t le we de 1) ch).1)] (N, SH v T, (pubM (accM (begM I) m t le we de 1) ch).2, L, Dd)
    refine Ev.iret dX7_addCar_27 rfl ?_
    rw [show b = 1 from hb.resolve_left b1]
end MOD7
