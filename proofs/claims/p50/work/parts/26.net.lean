/-! the network: its object 6, joints 8, steps 10, queue 12, matrix 14 -/
section NET0
variable {X : JX} {d N : Nat} {S : Nat → Option JS} {I J : Nat → Nat → Int32} {L : Nat → Nat → Int64} {Dd : Nat → Nat → UInt64} {r a n : Nat} {x : Int32}
def fillI (I : Nat → Nat → Int32) (a n : Nat) (x : Int32) : Nat → Nat → Int32 := fo (fun k J => up2 J a k x) n 0 I
theorem l_fill (hX : JXok X) (hr : S r = some (.inr (4, [.inl (.ref a)]))) (ha : S a = some (.inl (.int, n))) (hn : n < 2 ^ 31) : ∀ (m k : Nat) (J : Nat → Nat → Int32), m + k = n → Ev X (jm jdX4_fill) d 0 0 (fun R => R = .inl (none, (N, S, fo (fun k J => up2 J a k x) m k J, L, Dd))) 2 [some (.ref r), some (.int x), some (.int (nI k))] [] (N, S, J, L, Dd) := by
  intro m
  induction m with
  | zero =>
    intro k J hk
    refine Ev.sg hX sX4_fill_2 (pc' := 8) (ls' := [some (.ref r), some (.int x), some (.int (nI k))]) (st' := [.int (Int32.ofNat n), .int (nI k)]) (h' := (N, S, J, L, Dd)) (by first | rfl | simp [runS, stepI, ld, st1, entL, cat2, zS, hr, ha, fV, alen]) ?_
    refine Ev.icmp_ge (tgt := 24) dX4_fill_8 (by decide) (fun b1 => ?_) (fun b1 => ?_)
    · refine Ev.vret dX4_fill_24 rfl ?_
      rfl
    · exact absurd ((nI_leI (a := n) (b := k) hn (by omega)).mpr (by omega)) b1
  | succ m ih =>
    intro k J hk
    refine Ev.sg hX sX4_fill_2 (pc' := 8) (ls' := [some (.ref r), some (.int x), some (.int (nI k))]) (st' := [.int (Int32.ofNat n), .int (nI k)]) (h' := (N, S, J, L, Dd)) (by first | rfl | simp [runS, stepI, ld, st1, entL, cat2, zS, hr, ha, fV, alen]) ?_
    refine Ev.icmp_ge (tgt := 24) dX4_fill_8 (by decide) (fun b1 => ?_) (fun b1 => ?_)
    · exact absurd ((nI_leI (a := n) (b := k) hn (by omega)).mp b1) (by omega)
    · refine Ev.sg hX sX4_fill_11 (pc' := 17) (ls' := [some (.ref r), some (.int x), some (.int (nI k))]) (st' := [.int x, .int (nI k), .ref a]) (h' := (N, S, J, L, Dd)) (by first | rfl | simp [runS, stepI, ld, st1, entL, cat2, zS, hr, ha, fV, alen]) ?_
      have hk1 : (nI k).toInt = k := nI_toInt (by omega)
      have hk2 : (nI k).toNatClampNeg = k := nI_clamp (by omega)
      refine Ev.iast hX ha (vp_in_iff.mpr ⟨by omega, by omega⟩) dX4_fill_17 ?_
      rw [hk2]
      show Ev _ _ _ _ _ _ 18 [some (.ref r), some (.int x), some (.int (nI k))] [] (N, S, up2 J a k x, L, Dd)
      refine Ev.sg hX sX4_fill_18 (pc' := 2) (ls' := [some (.ref r), some (.int x), some (.int ((nI k) + 1))]) (st' := []) (h' := (N, S, up2 J a k x, L, Dd)) (by first | rfl | simp [runS, stepI, ld, st1, entL, cat2, zS, hr, ha, fV, alen]) ?_
      rw [nI_1, fo]
      exact ih (k + 1) _ (by omega)
theorem c_Row_fill (hX : JXok X) (hr : S r = some (.inr (4, [.inl (.ref a)]))) (ha : S a = some (.inl (.int, n))) (hn : n < 2 ^ 31) : MT X d 0 0 jdX4_fill [.ref r, .int x] (N, S, I, L, Dd) (fun R => R = .inl (none, (N, S, fillI I a n x, L, Dd))) := by
  refine MT.mk dvX4_fill.1 ?_
  refine Ev.sg hX sX4_fill_0 (pc' := 2) (ls' := [some (.ref r), some (.int x), some (.int 0)]) (st' := []) (h' := (N, S, I, L, Dd)) (by first | rfl | simp [runS, stepI, ld, st1, entL, cat2, zS, hr, ha, fV, alen]) ?_
  exact l_fill hX hr ha hn n 0 I rfl
end NET0
section NET
variable {X : JX} {d N v : Nat} {T : Nat → Option JS} {I : Nat → Nat → Int32} {L : Nat → Nat → Int64} {Dd : Nat → Nat → UInt64} {J : Nat → Nat → Int32} {i j : Int32} {Q : JR → Prop}
theorem c_cell (hX : JXok X) {h : MH} : MT X d 0 0 jdX2_cell [.int i, .int j] h (fun R => R = .inl (some (.int (i * 8 + j)), h)) := by
  refine MT.mk dsX2_cell.1 ?_
  refine Ev.sg hX sX2_cell_0 (pc' := 6) (ls' := [some (.int i), some (.int j)]) (st' := [.int ((i * 8) + j)]) (h' := h) rfl ?_
  refine Ev.iret dX2_cell_6 rfl ?_
  rfl
theorem c_areJoined (hX : JXok X) (hd : 1 ≤ d) : MT X d 0 0 jdX2_areJoined [.ref 6, .int i, .int j] (N, SH v T, I, L, Dd) (fun R => R = .inl (some (.int (bi (rg 64 (I 8) (i * 8 + j) = 1))), (N, SH v T, I, L, Dd))) := by
  refine MT.mk dvX2_areJoined.1 ?_
  refine Ev.sg hX sX2_areJoined_0 (pc' := 6) (ls' := [some (.ref 6), some (.int i), some (.int j)]) (st' := [.int j, .int i, .ref 7]) (h' := (N, SH v T, I, L, Dd)) rfl ?_
  refine Ev.callS (As := [.int i, .int j]) (rest := [.ref 7]) dsX2_cell mkX2_40 dX2_areJoined_6 (c_cell (d := d - 1) hX) ⟨by omega, by show 2 + 19 + 40 * _ ≤ 40 * _; omega⟩ (by decide) rfl (Nat.le_of_ble_eq_true rfl) (fun v9 h9 e9 => ?_) (fun E9 h9 e9 => nomatch e9)
  cases e9
  show Ev _ _ _ _ _ _ 9 [some (.ref 6), some (.int i), some (.int j)] [.int (i * 8 + j), .ref 7] (N, SH v T, I, L, Dd)
  refine Ev.callV (As := [.int (i * 8 + j)]) (rest := []) dvX4_get mkX2_44 rfl rfl dX2_areJoined_9 (c_Row_get (d := d - 1) (h := (N, SH v T, I, L, Dd)) (r := 7) (a := 8) (n := 64) hX rfl rfl (by decide)) ⟨by omega, by show 2 + 19 + 40 * _ ≤ 40 * _; omega⟩ (by decide) rfl (Nat.le_of_ble_eq_true rfl) (fun v9 h9 e9 => ?_) (fun E9 h9 e9 => nomatch e9)
  cases e9
  show Ev _ _ _ _ _ _ 12 [some (.ref 6), some (.int i), some (.int j)] [.int (rg 64 (I 8) (i * 8 + j))] (N, SH v T, I, L, Dd)
  refine Ev.sg hX sX2_areJoined_12 (pc' := 13) (ls' := [some (.ref 6), some (.int i), some (.int j)]) (st' := [.int 1, .int (rg 64 (I 8) (i * 8 + j))]) (h' := (N, SH v T, I, L, Dd)) rfl ?_
  refine Ev.icmp_ne (tgt := 20) dX2_areJoined_13 (by decide) (fun b1 => ?_) (fun b1 => ?_)
  · refine Ev.sg hX sX2_areJoined_20 (pc' := 21) (ls' := [some (.ref 6), some (.int i), some (.int j)]) (st' := [.int 0]) (h' := (N, SH v T, I, L, Dd)) rfl ?_
    refine Ev.zret dX2_areJoined_21 rfl ?_ ?_
    · rfl
    simp [bi, b1]
  · refine Ev.sg hX sX2_areJoined_16 (pc' := 21) (ls' := [some (.ref 6), some (.int i), some (.int j)]) (st' := [.int 1]) (h' := (N, SH v T, I, L, Dd)) rfl ?_
    refine Ev.zret dX2_areJoined_21 rfl ?_ ?_
    · rfl
    simp [bi, b1]
def joinI (I : Nat → Nat → Int32) (i j : Int32) : Nat → Nat → Int32 := up2 (upr (upr I 8 64 (i * 8 + j) 1) 8 64 (j * 8 + i) 1) 6 1 (I 6 1 + 1)
theorem c_join (hX : JXok X) (hd : 1 ≤ d) : MT X d 0 0 jdX2_join [.ref 6, .int i, .int j] (N, SH v T, I, L, Dd) (fun R => R = .inl (some (.int (I 6 1 + 1)), (N, SH v T, joinI I i j, L, Dd))) := by
  refine MT.mk dvX2_join.1 ?_
  refine Ev.sg hX sX2_join_0 (pc' := 6) (ls' := [some (.ref 6), some (.int i), some (.int j)]) (st' := [.int j, .int i, .ref 7]) (h' := (N, SH v T, I, L, Dd)) rfl ?_
  refine Ev.callS (As := [.int i, .int j]) (rest := [.ref 7]) dsX2_cell mkX2_40 dX2_join_6 (c_cell (d := d - 1) hX) ⟨by omega, by show 2 + 19 + 40 * _ ≤ 40 * _; omega⟩ (by decide) rfl (Nat.le_of_ble_eq_true rfl) (fun v9 h9 e9 => ?_) (fun E9 h9 e9 => nomatch e9)
  cases e9
  show Ev _ _ _ _ _ _ 9 [some (.ref 6), some (.int i), some (.int j)] [.int (i * 8 + j), .ref 7] (N, SH v T, I, L, Dd)
  refine Ev.sg hX sX2_join_9 (pc' := 10) (ls' := [some (.ref 6), some (.int i), some (.int j)]) (st' := [.int 1, .int (i * 8 + j), .ref 7]) (h' := (N, SH v T, I, L, Dd)) rfl ?_
  refine Ev.callV (As := [.int (i * 8 + j), .int 1]) (rest := []) dvX4_set mkX2_48 rfl rfl dX2_join_10 (c_Row_setX (d := d - 1) (r := 7) (a := 8) (n := 64) hX rfl rfl (by decide)) ⟨by omega, by show 3 + 19 + 40 * _ ≤ 40 * _; omega⟩ (by decide) rfl (Nat.le_of_ble_eq_true rfl) (fun v9 h9 e9 => ?_) (fun E9 h9 e9 => nomatch e9)
  cases e9
  show Ev _ _ _ _ _ _ 13 [some (.ref 6), some (.int i), some (.int j)] [] (N, SH v T, upr I 8 64 (i * 8 + j) 1, L, Dd)
  refine Ev.sg hX sX2_join_13 (pc' := 19) (ls' := [some (.ref 6), some (.int i), some (.int j)]) (st' := [.int i, .int j, .ref 7]) (h' := (N, SH v T, upr I 8 64 (i * 8 + j) 1, L, Dd)) rfl ?_
  refine Ev.callS (As := [.int j, .int i]) (rest := [.ref 7]) dsX2_cell mkX2_40 dX2_join_19 (c_cell (d := d - 1) hX) ⟨by omega, by show 2 + 19 + 40 * _ ≤ 40 * _; omega⟩ (by decide) rfl (Nat.le_of_ble_eq_true rfl) (fun v9 h9 e9 => ?_) (fun E9 h9 e9 => nomatch e9)
  cases e9
  show Ev _ _ _ _ _ _ 22 [some (.ref 6), some (.int i), some (.int j)] [.int (j * 8 + i), .ref 7] (N, SH v T, upr I 8 64 (i * 8 + j) 1, L, Dd)
  refine Ev.sg hX sX2_join_22 (pc' := 23) (ls' := [some (.ref 6), some (.int i), some (.int j)]) (st' := [.int 1, .int (j * 8 + i), .ref 7]) (h' := (N, SH v T, upr I 8 64 (i * 8 + j) 1, L, Dd)) rfl ?_
  refine Ev.callV (As := [.int (j * 8 + i), .int 1]) (rest := []) dvX4_set mkX2_48 rfl rfl dX2_join_23 (c_Row_setX (d := d - 1) (r := 7) (a := 8) (n := 64) hX rfl rfl (by decide)) ⟨by omega, by show 3 + 19 + 40 * _ ≤ 40 * _; omega⟩ (by decide) rfl (Nat.le_of_ble_eq_true rfl) (fun v9 h9 e9 => ?_) (fun E9 h9 e9 => nomatch e9)
  cases e9
  show Ev _ _ _ _ _ _ 26 [some (.ref 6), some (.int i), some (.int j)] [] (N, SH v T, upr (upr I 8 64 (i * 8 + j) 1) 8 64 (j * 8 + i) 1, L, Dd)
  refine Ev.sg hX sX2_join_26 (pc' := 40) (ls' := [some (.ref 6), some (.int i), some (.int j)]) (st' := [.int ((up2 (upr (upr I 8 64 (i * 8 + j) 1) 8 64 (j * 8 + i) 1) 6 1 (((upr (upr I 8 64 (i * 8 + j) 1) 8 64 (j * 8 + i) 1) 6 1) + 1)) 6 1)]) (h' := (N, SH v T, up2 (upr (upr I 8 64 (i * 8 + j) 1) 8 64 (j * 8 + i) 1) 6 1 (((upr (upr I 8 64 (i * 8 + j) 1) 8 64 (j * 8 + i) 1) 6 1) + 1), L, Dd)) rfl ?_
  refine Ev.iret dX2_join_40 rfl ?_
  simp [rd2, joinI, upr_ne (show 6 ≠ 8 by decide)]
def partI (I : Nat → Nat → Int32) (i j : Int32) : Nat → Nat → Int32 := up2 (upr (upr I 8 64 (i * 8 + j) 0) 8 64 (j * 8 + i) 0) 6 1 (I 6 1 - 1)
theorem c_part (hX : JXok X) (hd : 1 ≤ d) : MT X d 0 0 jdX2_part [.ref 6, .int i, .int j] (N, SH v T, I, L, Dd) (fun R => R = .inl (some (.int (I 6 1 - 1)), (N, SH v T, partI I i j, L, Dd))) := by
  refine MT.mk dvX2_part.1 ?_
  refine Ev.sg hX sX2_part_0 (pc' := 6) (ls' := [some (.ref 6), some (.int i), some (.int j)]) (st' := [.int j, .int i, .ref 7]) (h' := (N, SH v T, I, L, Dd)) rfl ?_
  refine Ev.callS (As := [.int i, .int j]) (rest := [.ref 7]) dsX2_cell mkX2_40 dX2_part_6 (c_cell (d := d - 1) hX) ⟨by omega, by show 2 + 19 + 40 * _ ≤ 40 * _; omega⟩ (by decide) rfl (Nat.le_of_ble_eq_true rfl) (fun v9 h9 e9 => ?_) (fun E9 h9 e9 => nomatch e9)
  cases e9
  show Ev _ _ _ _ _ _ 9 [some (.ref 6), some (.int i), some (.int j)] [.int (i * 8 + j), .ref 7] (N, SH v T, I, L, Dd)
  refine Ev.sg hX sX2_part_9 (pc' := 10) (ls' := [some (.ref 6), some (.int i), some (.int j)]) (st' := [.int 0, .int (i * 8 + j), .ref 7]) (h' := (N, SH v T, I, L, Dd)) rfl ?_
  refine Ev.callV (As := [.int (i * 8 + j), .int 0]) (rest := []) dvX4_set mkX2_48 rfl rfl dX2_part_10 (c_Row_setX (d := d - 1) (r := 7) (a := 8) (n := 64) hX rfl rfl (by decide)) ⟨by omega, by show 3 + 19 + 40 * _ ≤ 40 * _; omega⟩ (by decide) rfl (Nat.le_of_ble_eq_true rfl) (fun v9 h9 e9 => ?_) (fun E9 h9 e9 => nomatch e9)
  cases e9
  show Ev _ _ _ _ _ _ 13 [some (.ref 6), some (.int i), some (.int j)] [] (N, SH v T, upr I 8 64 (i * 8 + j) 0, L, Dd)
  refine Ev.sg hX sX2_part_13 (pc' := 19) (ls' := [some (.ref 6), some (.int i), some (.int j)]) (st' := [.int i, .int j, .ref 7]) (h' := (N, SH v T, upr I 8 64 (i * 8 + j) 0, L, Dd)) rfl ?_
  refine Ev.callS (As := [.int j, .int i]) (rest := [.ref 7]) dsX2_cell mkX2_40 dX2_part_19 (c_cell (d := d - 1) hX) ⟨by omega, by show 2 + 19 + 40 * _ ≤ 40 * _; omega⟩ (by decide) rfl (Nat.le_of_ble_eq_true rfl) (fun v9 h9 e9 => ?_) (fun E9 h9 e9 => nomatch e9)
  cases e9
  show Ev _ _ _ _ _ _ 22 [some (.ref 6), some (.int i), some (.int j)] [.int (j * 8 + i), .ref 7] (N, SH v T, upr I 8 64 (i * 8 + j) 0, L, Dd)
  refine Ev.sg hX sX2_part_22 (pc' := 23) (ls' := [some (.ref 6), some (.int i), some (.int j)]) (st' := [.int 0, .int (j * 8 + i), .ref 7]) (h' := (N, SH v T, upr I 8 64 (i * 8 + j) 0, L, Dd)) rfl ?_
  refine Ev.callV (As := [.int (j * 8 + i), .int 0]) (rest := []) dvX4_set mkX2_48 rfl rfl dX2_part_23 (c_Row_setX (d := d - 1) (r := 7) (a := 8) (n := 64) hX rfl rfl (by decide)) ⟨by omega, by show 3 + 19 + 40 * _ ≤ 40 * _; omega⟩ (by decide) rfl (Nat.le_of_ble_eq_true rfl) (fun v9 h9 e9 => ?_) (fun E9 h9 e9 => nomatch e9)
  cases e9
  show Ev _ _ _ _ _ _ 26 [some (.ref 6), some (.int i), some (.int j)] [] (N, SH v T, upr (upr I 8 64 (i * 8 + j) 0) 8 64 (j * 8 + i) 0, L, Dd)
  refine Ev.sg hX sX2_part_26 (pc' := 40) (ls' := [some (.ref 6), some (.int i), some (.int j)]) (st' := [.int ((up2 (upr (upr I 8 64 (i * 8 + j) 0) 8 64 (j * 8 + i) 0) 6 1 (((upr (upr I 8 64 (i * 8 + j) 0) 8 64 (j * 8 + i) 0) 6 1) - 1)) 6 1)]) (h' := (N, SH v T, up2 (upr (upr I 8 64 (i * 8 + j) 0) 8 64 (j * 8 + i) 0) 6 1 (((upr (upr I 8 64 (i * 8 + j) 0) 8 64 (j * 8 + i) 0) 6 1) - 1), L, Dd)) rfl ?_
  refine Ev.iret dX2_part_40 rfl ?_
  simp [rd2, partI, upr_ne (show 6 ≠ 8 by decide)]
theorem cix {i j : Nat} : nI i * 8 + nI j = nI (i * 8 + j) := by rw [show (8 : Int32) = nI 8 from rfl, pk_mul, nI_add]
theorem c_areJoinedN (hX : JXok X) (hd : 1 ≤ d) {i j : Nat} (hi : i < 8) (hj : j < 8) : MT X d 0 0 jdX2_areJoined [.ref 6, .int (nI i), .int (nI j)] (N, SH v T, I, L, Dd) (fun R => R = .inl (some (.int (bi (I 8 (i * 8 + j) = 1))), (N, SH v T, I, L, Dd))) := (c_areJoined hX hd).to (by rw [cix, rg_nI (by omega) (by decide)])
def stC (vi on : Nat) (tv : Int32) (k : Nat) (J : Nat → Nat → Int32) : Nat → Nat → Int32 := if tv + J 14 (vi * 8 + k) < J 14 (on * 8 + k) then up2 J 14 (on * 8 + k) (tv + J 14 (vi * 8 + k)) else J
theorem l_comb (hX : JXok X) (hd : 1 ≤ d) {vi on : Nat} (hv : vi < 8) (ho : on < 8) {tv : Int32} {sz : Nat} (hsz : sz ≤ 8) : ∀ (n k : Nat) (J : Nat → Nat → Int32), (n + k = sz ∧ J 6 0 = nI sz) → Ev X (jm jdX2_combineOver) d 0 0 (fun R => R = .inl (none, (N, SH v T, fo (stC vi on tv) n k J, L, Dd))) 16 [some (.ref 6), some (.int (nI vi)), some (.int (nI on)), some (.int tv), some (.int (nI k)), none] [] (N, SH v T, J, L, Dd) := by
  intro n
  induction n with
  | zero =>
    intro k J hk
    obtain ⟨hk, hJ⟩ := hk
    refine Ev.sg hX sX2_combineOver_16 (pc' := 22) (ls' := [some (.ref 6), some (.int (nI vi)), some (.int (nI on)), some (.int tv), some (.int (nI k)), none]) (st' := [.int (J 6 0), .int (nI k)]) (h' := (N, SH v T, J, L, Dd)) rfl ?_
    rw [hJ]
    refine Ev.icmp_ge (tgt := 81) dX2_combineOver_22 (by decide) (fun b1 => ?_) (fun b1 => ?_)
    · refine Ev.vret dX2_combineOver_81 rfl ?_
      rfl
    · exact absurd (((nI_leI (a := sz) (b := k) (by omega) (by omega)).mpr (by omega))) b1
  | succ n ih =>
    intro k J hk
    obtain ⟨hk, hJ⟩ := hk
    refine Ev.sg hX sX2_combineOver_16 (pc' := 22) (ls' := [some (.ref 6), some (.int (nI vi)), some (.int (nI on)), some (.int tv), some (.int (nI k)), none]) (st' := [.int (J 6 0), .int (nI k)]) (h' := (N, SH v T, J, L, Dd)) rfl ?_
    rw [hJ]
    refine Ev.icmp_ge (tgt := 81) dX2_combineOver_22 (by decide) (fun b1 => ?_) (fun b1 => ?_)
    · exact absurd (((nI_leI (a := sz) (b := k) (by omega) (by omega)).mp b1)) (by omega)
    · refine Ev.sg hX sX2_combineOver_25 (pc' := 33) (ls' := [some (.ref 6), some (.int (nI vi)), some (.int (nI on)), some (.int tv), some (.int (nI k)), none]) (st' := [.int (nI k), .int (nI vi), .ref 13, .int tv]) (h' := (N, SH v T, J, L, Dd)) rfl ?_
      refine Ev.callS (As := [.int (nI vi), .int (nI k)]) (rest := [.ref 13, .int tv]) dsX2_cell mkX2_40 dX2_combineOver_33 (c_cell (d := d - 1) hX) ⟨by omega, by show 2 + 19 + 40 * _ ≤ 40 * _; omega⟩ (by decide) rfl (Nat.le_of_ble_eq_true rfl) (fun v9 h9 e9 => ?_) (fun E9 h9 e9 => nomatch e9)
      cases e9
      show Ev _ _ _ _ _ _ 36 [some (.ref 6), some (.int (nI vi)), some (.int (nI on)), some (.int tv), some (.int (nI k)), none] [.int ((nI vi) * 8 + (nI k)), .ref 13, .int tv] (N, SH v T, J, L, Dd)
      refine Ev.callV (As := [.int ((nI vi) * 8 + (nI k))]) (rest := [.int tv]) dvX4_get mkX2_44 rfl rfl dX2_combineOver_36 (c_Row_getE (d := d - 1) (h := (N, SH v T, J, L, Dd)) (r := 13) (a := 14) (n := 64) hX rfl rfl (by decide) (by omega) cix) ⟨by omega, by show 2 + 19 + 40 * _ ≤ 40 * _; omega⟩ (by decide) rfl (Nat.le_of_ble_eq_true rfl) (fun v9 h9 e9 => ?_) (fun E9 h9 e9 => nomatch e9)
      cases e9
      show Ev _ _ _ _ _ _ 39 [some (.ref 6), some (.int (nI vi)), some (.int (nI on)), some (.int tv), some (.int (nI k)), none] [.int (J 14 (vi * 8 + k)), .int tv] (N, SH v T, J, L, Dd)
      refine Ev.sg hX sX2_combineOver_39 (pc' := 51) (ls' := [some (.ref 6), some (.int (nI vi)), some (.int (nI on)), some (.int tv), some (.int (nI k)), some (.int (tv + (J 14 (vi * 8 + k))))]) (st' := [.int (nI k), .int (nI on), .ref 13, .int (tv + (J 14 (vi * 8 + k)))]) (h' := (N, SH v T, J, L, Dd)) rfl ?_
      refine Ev.callS (As := [.int (nI on), .int (nI k)]) (rest := [.ref 13, .int (tv + (J 14 (vi * 8 + k)))]) dsX2_cell mkX2_40 dX2_combineOver_51 (c_cell (d := d - 1) hX) ⟨by omega, by show 2 + 19 + 40 * _ ≤ 40 * _; omega⟩ (by decide) rfl (Nat.le_of_ble_eq_true rfl) (fun v9 h9 e9 => ?_) (fun E9 h9 e9 => nomatch e9)
      cases e9
      show Ev _ _ _ _ _ _ 54 [some (.ref 6), some (.int (nI vi)), some (.int (nI on)), some (.int tv), some (.int (nI k)), some (.int (tv + (J 14 (vi * 8 + k))))] [.int ((nI on) * 8 + (nI k)), .ref 13, .int (tv + (J 14 (vi * 8 + k)))] (N, SH v T, J, L, Dd)
      refine Ev.callV (As := [.int ((nI on) * 8 + (nI k))]) (rest := [.int (tv + (J 14 (vi * 8 + k)))]) dvX4_get mkX2_44 rfl rfl dX2_combineOver_54 (c_Row_getE (d := d - 1) (h := (N, SH v T, J, L, Dd)) (r := 13) (a := 14) (n := 64) hX rfl rfl (by decide) (by omega) cix) ⟨by omega, by show 2 + 19 + 40 * _ ≤ 40 * _; omega⟩ (by decide) rfl (Nat.le_of_ble_eq_true rfl) (fun v9 h9 e9 => ?_) (fun E9 h9 e9 => nomatch e9)
      cases e9
      show Ev _ _ _ _ _ _ 57 [some (.ref 6), some (.int (nI vi)), some (.int (nI on)), some (.int tv), some (.int (nI k)), some (.int (tv + (J 14 (vi * 8 + k))))] [.int (J 14 (on * 8 + k)), .int (tv + (J 14 (vi * 8 + k)))] (N, SH v T, J, L, Dd)
      refine Ev.icmp_ge (tgt := 75) dX2_combineOver_57 (by decide) (fun b2 => ?_) (fun b2 => ?_)
      · refine Ev.sg hX sX2_combineOver_75 (pc' := 16) (ls' := [some (.ref 6), some (.int (nI vi)), some (.int (nI on)), some (.int tv), some (.int ((nI k) + 1)), some (.int (tv + (J 14 (vi * 8 + k))))]) (st' := []) (h' := (N, SH v T, J, L, Dd)) rfl ?_
        rw [nI_1, fo, show stC vi on tv k J = J from if_neg (Int32.not_lt.mpr b2)]
        exact Ev.drop 5 (ih (k + 1) _ ⟨by omega, hJ⟩)
      · refine Ev.sg hX sX2_combineOver_60 (pc' := 67) (ls' := [some (.ref 6), some (.int (nI vi)), some (.int (nI on)), some (.int tv), some (.int (nI k)), some (.int (tv + (J 14 (vi * 8 + k))))]) (st' := [.int (nI k), .int (nI on), .ref 13]) (h' := (N, SH v T, J, L, Dd)) rfl ?_
        refine Ev.callS (As := [.int (nI on), .int (nI k)]) (rest := [.ref 13]) dsX2_cell mkX2_40 dX2_combineOver_67 (c_cell (d := d - 1) hX) ⟨by omega, by show 2 + 19 + 40 * _ ≤ 40 * _; omega⟩ (by decide) rfl (Nat.le_of_ble_eq_true rfl) (fun v9 h9 e9 => ?_) (fun E9 h9 e9 => nomatch e9)
        cases e9
        show Ev _ _ _ _ _ _ 70 [some (.ref 6), some (.int (nI vi)), some (.int (nI on)), some (.int tv), some (.int (nI k)), some (.int (tv + (J 14 (vi * 8 + k))))] [.int ((nI on) * 8 + (nI k)), .ref 13] (N, SH v T, J, L, Dd)
        refine Ev.sg hX sX2_combineOver_70 (pc' := 72) (ls' := [some (.ref 6), some (.int (nI vi)), some (.int (nI on)), some (.int tv), some (.int (nI k)), some (.int (tv + (J 14 (vi * 8 + k))))]) (st' := [.int (tv + (J 14 (vi * 8 + k))), .int ((nI on) * 8 + (nI k)), .ref 13]) (h' := (N, SH v T, J, L, Dd)) rfl ?_
        refine Ev.callV (As := [.int ((nI on) * 8 + (nI k)), .int (tv + (J 14 (vi * 8 + k)))]) (rest := []) dvX4_set mkX2_48 rfl rfl dX2_combineOver_72 (c_Row_setE (d := d - 1) (h := (N, SH v T, J, L, Dd)) (r := 13) (a := 14) (n := 64) hX rfl rfl (by decide) (by omega) cix) ⟨by omega, by show 3 + 19 + 40 * _ ≤ 40 * _; omega⟩ (by decide) rfl (Nat.le_of_ble_eq_true rfl) (fun v9 h9 e9 => ?_) (fun E9 h9 e9 => nomatch e9)
        cases e9
        show Ev _ _ _ _ _ _ 75 [some (.ref 6), some (.int (nI vi)), some (.int (nI on)), some (.int tv), some (.int (nI k)), some (.int (tv + (J 14 (vi * 8 + k))))] [] (N, SH v T, up2 J 14 (on * 8 + k) (tv + (J 14 (vi * 8 + k))), L, Dd)
        refine Ev.sg hX sX2_combineOver_75 (pc' := 16) (ls' := [some (.ref 6), some (.int (nI vi)), some (.int (nI on)), some (.int tv), some (.int ((nI k) + 1)), some (.int (tv + (J 14 (vi * 8 + k))))]) (st' := []) (h' := (N, SH v T, up2 J 14 (on * 8 + k) (tv + (J 14 (vi * 8 + k))), L, Dd)) rfl ?_
        rw [nI_1, fo, show stC vi on tv k J = up2 J 14 (on * 8 + k) (tv + (J 14 (vi * 8 + k))) from if_pos (Int32.not_le.mp b2)]
        exact Ev.drop 5 (ih (k + 1) _ ⟨by omega, hJ⟩)
def combI (I : Nat → Nat → Int32) (sz vi on : Nat) : Nat → Nat → Int32 := fo (stC vi on (I 14 (on * 8 + vi))) sz 0 I
theorem c_comb (hX : JXok X) (hd : 1 ≤ d) {vi on : Nat} (hv : vi < 8) (ho : on < 8) {sz : Nat} (hsz : sz ≤ 8) (hJ : I 6 0 = nI sz) : MT X d 0 0 jdX2_combineOver [.ref 6, .int (nI vi), .int (nI on)] (N, SH v T, I, L, Dd) (fun R => R = .inl (none, (N, SH v T, combI I sz vi on, L, Dd))) := by
  refine MT.mk dvX2_combineOver.1 ?_
  refine Ev.sg hX sX2_combineOver_0 (pc' := 6) (ls' := [some (.ref 6), some (.int (nI vi)), some (.int (nI on)), none, none, none]) (st' := [.int (nI vi), .int (nI on), .ref 13]) (h' := (N, SH v T, I, L, Dd)) rfl ?_
  refine Ev.callS (As := [.int (nI on), .int (nI vi)]) (rest := [.ref 13]) dsX2_cell mkX2_40 dX2_combineOver_6 (c_cell (d := d - 1) hX) ⟨by omega, by show 2 + 19 + 40 * _ ≤ 40 * _; omega⟩ (by decide) rfl (Nat.le_of_ble_eq_true rfl) (fun v9 h9 e9 => ?_) (fun E9 h9 e9 => nomatch e9)
  cases e9
  show Ev _ _ _ _ _ _ 9 [some (.ref 6), some (.int (nI vi)), some (.int (nI on)), none, none, none] [.int ((nI on) * 8 + (nI vi)), .ref 13] (N, SH v T, I, L, Dd)
  refine Ev.callV (As := [.int ((nI on) * 8 + (nI vi))]) (rest := []) dvX4_get mkX2_44 rfl rfl dX2_combineOver_9 (c_Row_getE (d := d - 1) (h := (N, SH v T, I, L, Dd)) (r := 13) (a := 14) (n := 64) hX rfl rfl (by decide) (by omega) cix) ⟨by omega, by show 2 + 19 + 40 * _ ≤ 40 * _; omega⟩ (by decide) rfl (Nat.le_of_ble_eq_true rfl) (fun v9 h9 e9 => ?_) (fun E9 h9 e9 => nomatch e9)
  cases e9
  show Ev _ _ _ _ _ _ 12 [some (.ref 6), some (.int (nI vi)), some (.int (nI on)), none, none, none] [.int (I 14 (on * 8 + vi))] (N, SH v T, I, L, Dd)
  refine Ev.sg hX sX2_combineOver_12 (pc' := 16) (ls' := [some (.ref 6), some (.int (nI vi)), some (.int (nI on)), some (.int (I 14 (on * 8 + vi))), some (.int 0), none]) (st' := []) (h' := (N, SH v T, I, L, Dd)) rfl ?_
  exact l_comb hX hd hv ho hsz sz 0 I ⟨rfl, hJ⟩
def stF (p k : Nat) (J : Nat → Nat → Int32) : Nat → Nat → Int32 := up2 J 14 (p * 8 + k) (if nI p = nI k then 0 else if J 8 (p * 8 + k) = 1 then 1 else 1000)
theorem l_fm1 (hX : JXok X) (hd : 2 ≤ d) {p : Nat} (hp : p < 8) {sz : Nat} (hsz : sz ≤ 8) {fin : Nat → Nat → Int32} (kk : Ev X (jm jdX2_fillMatrix) d 0 0 Q 65 [some (.ref 6), some (.int (nI p)), some (.int (nI sz)), none] [] (N, SH v T, fin, L, Dd)) : ∀ (n k : Nat) (J : Nat → Nat → Int32), (n + k = sz ∧ J 6 0 = nI sz) → fo (stF p) n k J = fin → Ev X (jm jdX2_fillMatrix) d 0 0 Q 12 [some (.ref 6), some (.int (nI p)), some (.int (nI k)), none] [] (N, SH v T, J, L, Dd) := by
  intro n
  induction n with
  | zero =>
    intro k J hk hfin
    obtain ⟨hk, hJ⟩ := hk
    refine Ev.sg hX sX2_fillMatrix_12 (pc' := 17) (ls' := [some (.ref 6), some (.int (nI p)), some (.int (nI k)), none]) (st' := [.int (J 6 0), .int (nI k)]) (h' := (N, SH v T, J, L, Dd)) rfl ?_
    rw [hJ]
    refine Ev.icmp_ge (tgt := 65) dX2_fillMatrix_17 (by decide) (fun b1 => ?_) (fun b1 => ?_)
    · obtain rfl : k = sz := by omega
      exact (show J = fin from hfin) ▸ kk
    · exact absurd (((nI_leI (a := sz) (b := k) (by omega) (by omega)).mpr (by omega))) b1
  | succ n ih =>
    intro k J hk hfin
    obtain ⟨hk, hJ⟩ := hk
    refine Ev.sg hX sX2_fillMatrix_12 (pc' := 17) (ls' := [some (.ref 6), some (.int (nI p)), some (.int (nI k)), none]) (st' := [.int (J 6 0), .int (nI k)]) (h' := (N, SH v T, J, L, Dd)) rfl ?_
    rw [hJ]
    refine Ev.icmp_ge (tgt := 65) dX2_fillMatrix_17 (by decide) (fun b1 => ?_) (fun b1 => ?_)
    · exact absurd (((nI_leI (a := sz) (b := k) (by omega) (by omega)).mp b1)) (by omega)
    · refine Ev.sg hX sX2_fillMatrix_20 (pc' := 23) (ls' := [some (.ref 6), some (.int (nI p)), some (.int (nI k)), none]) (st' := [.int (nI k), .int (nI p), .ref 6]) (h' := (N, SH v T, J, L, Dd)) rfl ?_
      refine Ev.callV (As := [.int (nI p), .int (nI k)]) (rest := []) dvX2_areJoined mkX2_64 rfl rfl dX2_fillMatrix_23 (c_areJoinedN (d := d - 1) (I := J) hX (by omega) hp (by omega)) ⟨by omega, by show 3 + 19 + 40 * _ ≤ 40 * _; omega⟩ (by decide) rfl (Nat.le_of_ble_eq_true rfl) (fun v9 h9 e9 => ?_) (fun E9 h9 e9 => nomatch e9)
      cases e9
      show Ev _ _ _ _ _ _ 26 [some (.ref 6), some (.int (nI p)), some (.int (nI k)), none] [.int (bi (J 8 (p * 8 + k) = 1))] (N, SH v T, J, L, Dd)
      refine Ev.if_eq (tgt := 33) dX2_fillMatrix_26 (by decide) (fun b2 => ?_) (fun b2 => ?_)
      · refine Ev.sg hX sX2_fillMatrix_33 (pc' := 36) (ls' := [some (.ref 6), some (.int (nI p)), some (.int (nI k)), none]) (st' := [.int 1000]) (h' := (N, SH v T, J, L, Dd)) rfl ?_
        refine Ev.sg hX sX2_fillMatrix_36 (pc' := 43) (ls' := [some (.ref 6), some (.int (nI p)), some (.int (nI k)), some (.int 1000)]) (st' := [.int (nI k), .int (nI p), .ref 13]) (h' := (N, SH v T, J, L, Dd)) rfl ?_
        refine Ev.callS (As := [.int (nI p), .int (nI k)]) (rest := [.ref 13]) dsX2_cell mkX2_40 dX2_fillMatrix_43 (c_cell (d := d - 1) hX) ⟨by omega, by show 2 + 19 + 40 * _ ≤ 40 * _; omega⟩ (by decide) rfl (Nat.le_of_ble_eq_true rfl) (fun v9 h9 e9 => ?_) (fun E9 h9 e9 => nomatch e9)
        cases e9
        show Ev _ _ _ _ _ _ 46 [some (.ref 6), some (.int (nI p)), some (.int (nI k)), some (.int 1000)] [.int ((nI p) * 8 + (nI k)), .ref 13] (N, SH v T, J, L, Dd)
        refine Ev.sg hX sX2_fillMatrix_46 (pc' := 48) (ls' := [some (.ref 6), some (.int (nI p)), some (.int (nI k)), some (.int 1000)]) (st' := [.int (nI k), .int (nI p), .int ((nI p) * 8 + (nI k)), .ref 13]) (h' := (N, SH v T, J, L, Dd)) rfl ?_
        refine Ev.icmp_ne (tgt := 55) dX2_fillMatrix_48 (by decide) (fun b3 => ?_) (fun b3 => ?_)
        · refine Ev.sg hX sX2_fillMatrix_55 (pc' := 56) (ls' := [some (.ref 6), some (.int (nI p)), some (.int (nI k)), some (.int 1000)]) (st' := [.int 1000, .int ((nI p) * 8 + (nI k)), .ref 13]) (h' := (N, SH v T, J, L, Dd)) rfl ?_
          refine Ev.callV (As := [.int ((nI p) * 8 + (nI k)), .int 1000]) (rest := []) dvX4_set mkX2_48 rfl rfl dX2_fillMatrix_56 (c_Row_setE (d := d - 1) (h := (N, SH v T, J, L, Dd)) (r := 13) (a := 14) (n := 64) hX rfl rfl (by decide) (by omega) cix) ⟨by omega, by show 3 + 19 + 40 * _ ≤ 40 * _; omega⟩ (by decide) rfl (Nat.le_of_ble_eq_true rfl) (fun v9 h9 e9 => ?_) (fun E9 h9 e9 => nomatch e9)
          cases e9
          show Ev _ _ _ _ _ _ 59 [some (.ref 6), some (.int (nI p)), some (.int (nI k)), some (.int 1000)] [] (N, SH v T, up2 J 14 (p * 8 + k) 1000, L, Dd)
          refine Ev.sg hX sX2_fillMatrix_59 (pc' := 12) (ls' := [some (.ref 6), some (.int (nI p)), some (.int ((nI k) + 1)), some (.int 1000)]) (st' := []) (h' := (N, SH v T, up2 J 14 (p * 8 + k) 1000, L, Dd)) rfl ?_
          rw [nI_1]
          have e9 : stF p k J = up2 J 14 (p * 8 + k) 1000 := by simp [stF, b3, bi_0.mp b2]
          refine Ev.drop 3 (ih (k + 1) _ ⟨by omega, hJ⟩ ?_)
          rw [← hfin, fo, e9]
        · refine Ev.sg hX sX2_fillMatrix_51 (pc' := 56) (ls' := [some (.ref 6), some (.int (nI p)), some (.int (nI k)), some (.int 1000)]) (st' := [.int 0, .int ((nI p) * 8 + (nI k)), .ref 13]) (h' := (N, SH v T, J, L, Dd)) rfl ?_
          refine Ev.callV (As := [.int ((nI p) * 8 + (nI k)), .int 0]) (rest := []) dvX4_set mkX2_48 rfl rfl dX2_fillMatrix_56 (c_Row_setE (d := d - 1) (h := (N, SH v T, J, L, Dd)) (r := 13) (a := 14) (n := 64) hX rfl rfl (by decide) (by omega) cix) ⟨by omega, by show 3 + 19 + 40 * _ ≤ 40 * _; omega⟩ (by decide) rfl (Nat.le_of_ble_eq_true rfl) (fun v9 h9 e9 => ?_) (fun E9 h9 e9 => nomatch e9)
          cases e9
          show Ev _ _ _ _ _ _ 59 [some (.ref 6), some (.int (nI p)), some (.int (nI k)), some (.int 1000)] [] (N, SH v T, up2 J 14 (p * 8 + k) 0, L, Dd)
          refine Ev.sg hX sX2_fillMatrix_59 (pc' := 12) (ls' := [some (.ref 6), some (.int (nI p)), some (.int ((nI k) + 1)), some (.int 1000)]) (st' := []) (h' := (N, SH v T, up2 J 14 (p * 8 + k) 0, L, Dd)) rfl ?_
          rw [nI_1]
          have e9 : stF p k J = up2 J 14 (p * 8 + k) 0 := by simp [stF, b3]
          refine Ev.drop 3 (ih (k + 1) _ ⟨by omega, hJ⟩ ?_)
          rw [← hfin, fo, e9]
      · refine Ev.sg hX sX2_fillMatrix_29 (pc' := 36) (ls' := [some (.ref 6), some (.int (nI p)), some (.int (nI k)), none]) (st' := [.int 1]) (h' := (N, SH v T, J, L, Dd)) rfl ?_
        refine Ev.sg hX sX2_fillMatrix_36 (pc' := 43) (ls' := [some (.ref 6), some (.int (nI p)), some (.int (nI k)), some (.int 1)]) (st' := [.int (nI k), .int (nI p), .ref 13]) (h' := (N, SH v T, J, L, Dd)) rfl ?_
        refine Ev.callS (As := [.int (nI p), .int (nI k)]) (rest := [.ref 13]) dsX2_cell mkX2_40 dX2_fillMatrix_43 (c_cell (d := d - 1) hX) ⟨by omega, by show 2 + 19 + 40 * _ ≤ 40 * _; omega⟩ (by decide) rfl (Nat.le_of_ble_eq_true rfl) (fun v9 h9 e9 => ?_) (fun E9 h9 e9 => nomatch e9)
        cases e9
        show Ev _ _ _ _ _ _ 46 [some (.ref 6), some (.int (nI p)), some (.int (nI k)), some (.int 1)] [.int ((nI p) * 8 + (nI k)), .ref 13] (N, SH v T, J, L, Dd)
        refine Ev.sg hX sX2_fillMatrix_46 (pc' := 48) (ls' := [some (.ref 6), some (.int (nI p)), some (.int (nI k)), some (.int 1)]) (st' := [.int (nI k), .int (nI p), .int ((nI p) * 8 + (nI k)), .ref 13]) (h' := (N, SH v T, J, L, Dd)) rfl ?_
        refine Ev.icmp_ne (tgt := 55) dX2_fillMatrix_48 (by decide) (fun b4 => ?_) (fun b4 => ?_)
        · refine Ev.sg hX sX2_fillMatrix_55 (pc' := 56) (ls' := [some (.ref 6), some (.int (nI p)), some (.int (nI k)), some (.int 1)]) (st' := [.int 1, .int ((nI p) * 8 + (nI k)), .ref 13]) (h' := (N, SH v T, J, L, Dd)) rfl ?_
          refine Ev.callV (As := [.int ((nI p) * 8 + (nI k)), .int 1]) (rest := []) dvX4_set mkX2_48 rfl rfl dX2_fillMatrix_56 (c_Row_setE (d := d - 1) (h := (N, SH v T, J, L, Dd)) (r := 13) (a := 14) (n := 64) hX rfl rfl (by decide) (by omega) cix) ⟨by omega, by show 3 + 19 + 40 * _ ≤ 40 * _; omega⟩ (by decide) rfl (Nat.le_of_ble_eq_true rfl) (fun v9 h9 e9 => ?_) (fun E9 h9 e9 => nomatch e9)
          cases e9
          show Ev _ _ _ _ _ _ 59 [some (.ref 6), some (.int (nI p)), some (.int (nI k)), some (.int 1)] [] (N, SH v T, up2 J 14 (p * 8 + k) 1, L, Dd)
          refine Ev.sg hX sX2_fillMatrix_59 (pc' := 12) (ls' := [some (.ref 6), some (.int (nI p)), some (.int ((nI k) + 1)), some (.int 1)]) (st' := []) (h' := (N, SH v T, up2 J 14 (p * 8 + k) 1, L, Dd)) rfl ?_
          rw [nI_1]
          have e9 : stF p k J = up2 J 14 (p * 8 + k) 1 := by simp [stF, b4, bi_1.mp b2]
          refine Ev.drop 3 (ih (k + 1) _ ⟨by omega, hJ⟩ ?_)
          rw [← hfin, fo, e9]
        · refine Ev.sg hX sX2_fillMatrix_51 (pc' := 56) (ls' := [some (.ref 6), some (.int (nI p)), some (.int (nI k)), some (.int 1)]) (st' := [.int 0, .int ((nI p) * 8 + (nI k)), .ref 13]) (h' := (N, SH v T, J, L, Dd)) rfl ?_
          refine Ev.callV (As := [.int ((nI p) * 8 + (nI k)), .int 0]) (rest := []) dvX4_set mkX2_48 rfl rfl dX2_fillMatrix_56 (c_Row_setE (d := d - 1) (h := (N, SH v T, J, L, Dd)) (r := 13) (a := 14) (n := 64) hX rfl rfl (by decide) (by omega) cix) ⟨by omega, by show 3 + 19 + 40 * _ ≤ 40 * _; omega⟩ (by decide) rfl (Nat.le_of_ble_eq_true rfl) (fun v9 h9 e9 => ?_) (fun E9 h9 e9 => nomatch e9)
          cases e9
          show Ev _ _ _ _ _ _ 59 [some (.ref 6), some (.int (nI p)), some (.int (nI k)), some (.int 1)] [] (N, SH v T, up2 J 14 (p * 8 + k) 0, L, Dd)
          refine Ev.sg hX sX2_fillMatrix_59 (pc' := 12) (ls' := [some (.ref 6), some (.int (nI p)), some (.int ((nI k) + 1)), some (.int 1)]) (st' := []) (h' := (N, SH v T, up2 J 14 (p * 8 + k) 0, L, Dd)) rfl ?_
          rw [nI_1]
          have e9 : stF p k J = up2 J 14 (p * 8 + k) 0 := by simp [stF, b4]
          refine Ev.drop 3 (ih (k + 1) _ ⟨by omega, hJ⟩ ?_)
          rw [← hfin, fo, e9]
theorem comb_6 {I : Nat → Nat → Int32} {sz vi on : Nat} : combI I sz vi on 6 = I 6 := by
  refine fo_inv (P := fun (J : Nat → Nat → Int32) => J 6 = I 6) (fun k J hJ => ?_) _ _ _ rfl
  unfold stC
  split
  · rw [up2_ne (by decide)]
    exact hJ
  · exact hJ
theorem l_fm2 (hX : JXok X) (hd : 2 ≤ d) {p : Nat} (hp : p < 8) {sz : Nat} (hsz : sz ≤ 8) {fin : Nat → Nat → Int32} (kk : Ev X (jm jdX2_fillMatrix) d 0 0 Q 103 [some (.ref 6), some (.int (nI p)), some (.int (nI sz)), none] [] (N, SH v T, fin, L, Dd)) : ∀ (n k : Nat) (J : Nat → Nat → Int32), (n + k = sz ∧ J 6 0 = nI sz) → fo (fun k J => combI J sz p k) n k J = fin → Ev X (jm jdX2_fillMatrix) d 0 0 Q 83 [some (.ref 6), some (.int (nI p)), some (.int (nI k)), none] [] (N, SH v T, J, L, Dd) := by
  intro n
  induction n with
  | zero =>
    intro k J hk hfin
    obtain ⟨hk, hJ⟩ := hk
    refine Ev.sg hX sX2_fillMatrix_83 (pc' := 88) (ls' := [some (.ref 6), some (.int (nI p)), some (.int (nI k)), none]) (st' := [.int (J 6 0), .int (nI k)]) (h' := (N, SH v T, J, L, Dd)) rfl ?_
    rw [hJ]
    refine Ev.icmp_ge (tgt := 103) dX2_fillMatrix_88 (by decide) (fun b1 => ?_) (fun b1 => ?_)
    · obtain rfl : k = sz := by omega
      exact (show J = fin from hfin) ▸ kk
    · exact absurd (((nI_leI (a := sz) (b := k) (by omega) (by omega)).mpr (by omega))) b1
  | succ n ih =>
    intro k J hk hfin
    obtain ⟨hk, hJ⟩ := hk
    refine Ev.sg hX sX2_fillMatrix_83 (pc' := 88) (ls' := [some (.ref 6), some (.int (nI p)), some (.int (nI k)), none]) (st' := [.int (J 6 0), .int (nI k)]) (h' := (N, SH v T, J, L, Dd)) rfl ?_
    rw [hJ]
    refine Ev.icmp_ge (tgt := 103) dX2_fillMatrix_88 (by decide) (fun b1 => ?_) (fun b1 => ?_)
    · exact absurd (((nI_leI (a := sz) (b := k) (by omega) (by omega)).mp b1)) (by omega)
    · refine Ev.sg hX sX2_fillMatrix_91 (pc' := 94) (ls' := [some (.ref 6), some (.int (nI p)), some (.int (nI k)), none]) (st' := [.int (nI k), .int (nI p), .ref 6]) (h' := (N, SH v T, J, L, Dd)) rfl ?_
      refine Ev.callV (As := [.int (nI p), .int (nI k)]) (rest := []) dvX2_combineOver mkX2_68 rfl rfl dX2_fillMatrix_94 (c_comb (d := d - 1) (I := J) hX (by omega) hp (by omega) hsz hJ) ⟨by omega, by show 6 + 19 + 40 * _ ≤ 40 * _; omega⟩ (by decide) rfl (Nat.le_of_ble_eq_true rfl) (fun v9 h9 e9 => ?_) (fun E9 h9 e9 => nomatch e9)
      cases e9
      show Ev _ _ _ _ _ _ 97 [some (.ref 6), some (.int (nI p)), some (.int (nI k)), none] [] (N, SH v T, combI J sz p k, L, Dd)
      refine Ev.sg hX sX2_fillMatrix_97 (pc' := 83) (ls' := [some (.ref 6), some (.int (nI p)), some (.int ((nI k) + 1)), none]) (st' := []) (h' := (N, SH v T, combI J sz p k, L, Dd)) rfl ?_
      rw [nI_1]
      refine ih (k + 1) _ ⟨by omega, by rw [comb_6]; exact hJ⟩ ?_
      rw [← hfin, fo]
def fmA (sz p : Nat) (J : Nat → Nat → Int32) : Nat → Nat → Int32 := fo (stF p) sz 0 J
def fmB (sz p : Nat) (J : Nat → Nat → Int32) : Nat → Nat → Int32 := fo (fun k J => combI J sz p k) sz 0 J
theorem fmA_6 {sz p : Nat} {J : Nat → Nat → Int32} : fmA sz p J 6 = J 6 := fo_inv (P := fun (I : Nat → Nat → Int32) => I 6 = J 6) (fun k I hI => by unfold stF; rw [up2_ne (by decide)]; exact hI) _ _ _ rfl
theorem fmB_6 {sz p : Nat} {J : Nat → Nat → Int32} : fmB sz p J 6 = J 6 := fo_inv (P := fun (I : Nat → Nat → Int32) => I 6 = J 6) (fun k I hI => by rw [comb_6]; exact hI) _ _ _ rfl
theorem l_fm4 (hX : JXok X) (hd : 2 ≤ d) {sz : Nat} (hsz : sz ≤ 8) : ∀ (n k : Nat) (J : Nat → Nat → Int32), (n + k = sz ∧ J 6 0 = nI sz) → Ev X (jm jdX2_fillMatrix) d 0 0 (fun R => R = .inl (none, (N, SH v T, fo (fmB sz) n k J, L, Dd))) 73 [some (.ref 6), some (.int (nI k)), none, none] [] (N, SH v T, J, L, Dd) := by
  intro n
  induction n with
  | zero =>
    intro k J hk
    obtain ⟨hk, hJ⟩ := hk
    refine Ev.sg hX sX2_fillMatrix_73 (pc' := 78) (ls' := [some (.ref 6), some (.int (nI k)), none, none]) (st' := [.int (J 6 0), .int (nI k)]) (h' := (N, SH v T, J, L, Dd)) rfl ?_
    rw [hJ]
    refine Ev.icmp_ge (tgt := 109) dX2_fillMatrix_78 (by decide) (fun b1 => ?_) (fun b1 => ?_)
    · refine Ev.vret dX2_fillMatrix_109 rfl ?_
      rfl
    · exact absurd (((nI_leI (a := sz) (b := k) (by omega) (by omega)).mpr (by omega))) b1
  | succ n ih =>
    intro k J hk
    obtain ⟨hk, hJ⟩ := hk
    refine Ev.sg hX sX2_fillMatrix_73 (pc' := 78) (ls' := [some (.ref 6), some (.int (nI k)), none, none]) (st' := [.int (J 6 0), .int (nI k)]) (h' := (N, SH v T, J, L, Dd)) rfl ?_
    rw [hJ]
    refine Ev.icmp_ge (tgt := 109) dX2_fillMatrix_78 (by decide) (fun b1 => ?_) (fun b1 => ?_)
    · exact absurd (((nI_leI (a := sz) (b := k) (by omega) (by omega)).mp b1)) (by omega)
    · refine Ev.sg hX sX2_fillMatrix_81 (pc' := 83) (ls' := [some (.ref 6), some (.int (nI k)), some (.int 0), none]) (st' := []) (h' := (N, SH v T, J, L, Dd)) rfl ?_
      refine l_fm2 hX hd (by omega) hsz (fin := fmB sz k J) ?_ sz 0 J ⟨rfl, hJ⟩ rfl
      refine Ev.sg hX sX2_fillMatrix_103 (pc' := 73) (ls' := [some (.ref 6), some (.int ((nI k) + 1)), some (.int (nI sz)), none]) (st' := []) (h' := (N, SH v T, fmB sz k J, L, Dd)) rfl ?_
      rw [nI_1, fo]
      exact Ev.drop 2 (ih (k + 1) _ ⟨by omega, by rw [fmB_6]; exact hJ⟩)
def matI (I : Nat → Nat → Int32) (sz : Nat) : Nat → Nat → Int32 := fo (fmB sz) sz 0 (fo (fmA sz) sz 0 I)
theorem fmAs_6 {sz : Nat} {I : Nat → Nat → Int32} : fo (fmA sz) sz 0 I 6 = I 6 := fo_inv (P := fun (J : Nat → Nat → Int32) => J 6 = I 6) (fun k J hJ => by rw [fmA_6]; exact hJ) _ _ _ rfl
theorem matI_6 {sz : Nat} {I : Nat → Nat → Int32} : matI I sz 6 = I 6 := fo_inv (P := fun (J : Nat → Nat → Int32) => J 6 = I 6) (fun k J hJ => by rw [fmB_6]; exact hJ) _ _ _ fmAs_6
theorem l_fm3 (hX : JXok X) (hd : 2 ≤ d) {sz : Nat} (hsz : sz ≤ 8) {fin : Nat → Nat → Int32} (kk : Ev X (jm jdX2_fillMatrix) d 0 0 Q 71 [some (.ref 6), some (.int (nI sz)), none, none] [] (N, SH v T, fin, L, Dd)) : ∀ (n k : Nat) (J : Nat → Nat → Int32), (n + k = sz ∧ J 6 0 = nI sz) → fo (fmA sz) n k J = fin → Ev X (jm jdX2_fillMatrix) d 0 0 Q 2 [some (.ref 6), some (.int (nI k)), none, none] [] (N, SH v T, J, L, Dd) := by
  intro n
  induction n with
  | zero =>
    intro k J hk hfin
    obtain ⟨hk, hJ⟩ := hk
    refine Ev.sg hX sX2_fillMatrix_2 (pc' := 7) (ls' := [some (.ref 6), some (.int (nI k)), none, none]) (st' := [.int (J 6 0), .int (nI k)]) (h' := (N, SH v T, J, L, Dd)) rfl ?_
    rw [hJ]
    refine Ev.icmp_ge (tgt := 71) dX2_fillMatrix_7 (by decide) (fun b1 => ?_) (fun b1 => ?_)
    · obtain rfl : k = sz := by omega
      exact (show J = fin from hfin) ▸ kk
    · exact absurd (((nI_leI (a := sz) (b := k) (by omega) (by omega)).mpr (by omega))) b1
  | succ n ih =>
    intro k J hk hfin
    obtain ⟨hk, hJ⟩ := hk
    refine Ev.sg hX sX2_fillMatrix_2 (pc' := 7) (ls' := [some (.ref 6), some (.int (nI k)), none, none]) (st' := [.int (J 6 0), .int (nI k)]) (h' := (N, SH v T, J, L, Dd)) rfl ?_
    rw [hJ]
    refine Ev.icmp_ge (tgt := 71) dX2_fillMatrix_7 (by decide) (fun b1 => ?_) (fun b1 => ?_)
    · exact absurd (((nI_leI (a := sz) (b := k) (by omega) (by omega)).mp b1)) (by omega)
    · refine Ev.sg hX sX2_fillMatrix_10 (pc' := 12) (ls' := [some (.ref 6), some (.int (nI k)), some (.int 0), none]) (st' := []) (h' := (N, SH v T, J, L, Dd)) rfl ?_
      refine l_fm1 hX hd (by omega) hsz (fin := fmA sz k J) ?_ sz 0 J ⟨rfl, hJ⟩ rfl
      refine Ev.sg hX sX2_fillMatrix_65 (pc' := 2) (ls' := [some (.ref 6), some (.int ((nI k) + 1)), some (.int (nI sz)), none]) (st' := []) (h' := (N, SH v T, fmA sz k J, L, Dd)) rfl ?_
      rw [nI_1]
      refine Ev.drop 2 (ih (k + 1) _ ⟨by omega, by rw [fmA_6]; exact hJ⟩ ?_)
      rw [← hfin, fo]
theorem c_fillMatrix (hX : JXok X) (hd : 2 ≤ d) {sz : Nat} (hsz : sz ≤ 8) (hJ : I 6 0 = nI sz) : MT X d 0 0 jdX2_fillMatrix [.ref 6] (N, SH v T, I, L, Dd) (fun R => R = .inl (none, (N, SH v T, matI I sz, L, Dd))) := by
  refine MT.mk dvX2_fillMatrix.1 ?_
  refine Ev.sg hX sX2_fillMatrix_0 (pc' := 2) (ls' := [some (.ref 6), some (.int 0), none, none]) (st' := []) (h' := (N, SH v T, I, L, Dd)) rfl ?_
  refine l_fm3 hX hd hsz (fin := fo (fmA sz) sz 0 I) ?_ sz 0 I ⟨rfl, hJ⟩ rfl
  refine Ev.sg hX sX2_fillMatrix_71 (pc' := 73) (ls' := [some (.ref 6), some (.int 0), none, none]) (st' := []) (h' := (N, SH v T, fo (fmA sz) sz 0 I, L, Dd)) rfl ?_
  exact l_fm4 hX hd hsz sz 0 _ ⟨rfl, by rw [fmAs_6]; exact hJ⟩
theorem c_stepsByMatrix (hX : JXok X) (hd : 3 ≤ d) {i j : Nat} (hi : i < 8) (hj : j < 8) {sz : Nat} (hsz : sz ≤ 8) (hJ : I 6 0 = nI sz) : MT X d 0 0 jdX2_stepsByMatrix [.ref 6, .int (nI i), .int (nI j)] (N, SH v T, I, L, Dd) (fun R => R = .inl (some (.int (matI I sz 14 (i * 8 + j))), (N, SH v T, matI I sz, L, Dd))) := by
  refine MT.mk dvX2_stepsByMatrix.1 ?_
  refine Ev.sg hX sX2_stepsByMatrix_0 (pc' := 1) (ls' := [some (.ref 6), some (.int (nI i)), some (.int (nI j))]) (st' := [.ref 6]) (h' := (N, SH v T, I, L, Dd)) rfl ?_
  refine Ev.callV (As := []) (rest := []) dvX2_fillMatrix mkX2_55 rfl rfl dX2_stepsByMatrix_1 (c_fillMatrix (d := d - 1) (I := I) hX (by omega) hsz hJ) ⟨by omega, by show 4 + 19 + 40 * _ ≤ 40 * _; omega⟩ (by decide) rfl (Nat.le_of_ble_eq_true rfl) (fun v9 h9 e9 => ?_) (fun E9 h9 e9 => nomatch e9)
  cases e9
  show Ev _ _ _ _ _ _ 4 [some (.ref 6), some (.int (nI i)), some (.int (nI j))] [] (N, SH v T, matI I sz, L, Dd)
  refine Ev.sg hX sX2_stepsByMatrix_4 (pc' := 10) (ls' := [some (.ref 6), some (.int (nI i)), some (.int (nI j))]) (st' := [.int (nI j), .int (nI i), .ref 13]) (h' := (N, SH v T, matI I sz, L, Dd)) rfl ?_
  refine Ev.callS (As := [.int (nI i), .int (nI j)]) (rest := [.ref 13]) dsX2_cell mkX2_40 dX2_stepsByMatrix_10 (c_cell (d := d - 1) hX) ⟨by omega, by show 2 + 19 + 40 * _ ≤ 40 * _; omega⟩ (by decide) rfl (Nat.le_of_ble_eq_true rfl) (fun v9 h9 e9 => ?_) (fun E9 h9 e9 => nomatch e9)
  cases e9
  show Ev _ _ _ _ _ _ 13 [some (.ref 6), some (.int (nI i)), some (.int (nI j))] [.int ((nI i) * 8 + (nI j)), .ref 13] (N, SH v T, matI I sz, L, Dd)
  refine Ev.callV (As := [.int ((nI i) * 8 + (nI j))]) (rest := []) dvX4_get mkX2_44 rfl rfl dX2_stepsByMatrix_13 (c_Row_getE (d := d - 1) (h := (N, SH v T, matI I sz, L, Dd)) (r := 13) (a := 14) (n := 64) hX rfl rfl (by decide) (by omega) cix) ⟨by omega, by show 2 + 19 + 40 * _ ≤ 40 * _; omega⟩ (by decide) rfl (Nat.le_of_ble_eq_true rfl) (fun v9 h9 e9 => ?_) (fun E9 h9 e9 => nomatch e9)
  cases e9
  show Ev _ _ _ _ _ _ 16 [some (.ref 6), some (.int (nI i)), some (.int (nI j))] [.int ((matI I sz) 14 (i * 8 + j))] (N, SH v T, matI I sz, L, Dd)
  refine Ev.iret dX2_stepsByMatrix_16 rfl ?_
  rfl
end NET
