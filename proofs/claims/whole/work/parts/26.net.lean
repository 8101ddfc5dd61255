/-! the network: its object 6, joints 8, steps 10, queue 12, matrix 14 -/
section NET0
variable {X : JX} {d N : Nat} {S : Nat → Option JS} {I J : Nat → Nat → Int32} {L : Nat → Nat → Int64} {Dd : Nat → Nat → UInt64} {r a n : Nat} {x : Int32}
def fillI (I : Nat → Nat → Int32) (a n : Nat) (x : Int32) : Nat → Nat → Int32 := fo (fun k J => up2 J a k x) n 0 I
theorem l_fill (hX : JXok X) (hr : S r = some (.inr (4, [.inl (.ref a)]))) (ha : S a = some (.inl (.int, n))) (hn : n < 2 ^ 31) : ∀ (m k : Nat) (J : Nat → Nat → Int32), m + k = n → Ev X (jm jdX4_fill) d 0 0 (fun R => R = .inl (none, (N, S, fo (fun k J => up2 J a k x) m k J, L, Dd))) 2 [some (.ref r), some (.int x), some (.int (nI k))] [] (N, S, J, L, Dd) := by
  intro m
  induction m with
  | zero =>
    intro k J hk
    refine Ev.sg hX sX4_fill_2 (pc' := 8) (ls' := [some (.ref r), some (.int x), some (.int (nI k))]) (st' := [.int (Int32.ofNat n), .int (nI k)]) (h' := (N, S, J, L, Dd)) (by first | rfl | simp [runS, stepI, ld, st1, entL, cat2, zS, hr, ha, fV, alen]) ?_
    refine Ev.icmp_ge (tgt := 24) dX4_fill_8 (by decide) (fun b1 => ?_) (fun b1 => ?_)
    · refine Ev.vret dX4_fill_24 rfl ?_
      rfl
    · exact absurd ((nI_leI (a := n) (b := k) hn (by omega)).mpr (by omega)) b1
  | succ m ih =>
    intro k J hk
    refine Ev.sg hX sX4_fill_2 (pc' := 8) (ls' := [some (.ref r), some (.int x), some (.int (nI k))]) (st' := [.int (Int32.ofNat n), .int (nI k)]) (h' := (N, S, J, L, Dd)) (by first | rfl | simp [runS, stepI, ld, st1, entL, cat2, zS, hr, ha, fV, alen]) ?_
    refine Ev.icmp_ge (tgt := 24) dX4_fill_8 (by decide) (fun b1 => ?_) (fun b1 => ?_)
    · exact absurd ((nI_leI (a := n) (b := k) hn (by omega)).mp b1) (by omega)
    · refine Ev.sg hX sX4_fill_11 (pc' := 17) (ls' := [some (.ref r), some (.int x), some (.int (nI k))]) (st' := [.int x, .int (nI k), .ref a]) (h' := (N, S, J, L, Dd)) (by first | rfl | simp [runS, stepI, ld, st1, entL, cat2, zS, hr, ha, fV, alen]) ?_
      have hk1 : (nI k).toInt = k := nI_toInt (by omega)
      have hk2 : (nI k).toNatClampNeg = k := nI_clamp (by omega)
      refine Ev.iast hX ha (vp_in_iff.mpr ⟨by omega, by omega⟩) dX4_fill_17 ?_
      rw [hk2]
      show Ev _ _ _ _ _ _ 18 [some (.ref r), some (.int x), some (.int (nI k))] [] (N, S, up2 J a k x, L, Dd)
      refine Ev.sg hX sX4_fill_18 (pc' := 2) (ls' := [some (.ref r), some (.int x), some (.int ((nI k) + 1))]) (st' := []) (h' := (N, S, up2 J a k x, L, Dd)) (by first | rfl | simp [runS, stepI, ld, st1, entL, cat2, zS, hr, ha, fV, alen]) ?_
      rw [nI_1, fo]
      exact ih (k + 1) _ (by omega)
theorem c_Row_fill (hX : JXok X) (hr : S r = some (.inr (4, [.inl (.ref a)]))) (ha : S a = some (.inl (.int, n))) (hn : n < 2 ^ 31) : MT X d 0 0 jdX4_fill [.ref r, .int x] (N, S, I, L, Dd) (fun R => R = .inl (none, (N, S, fillI I a n x, L, Dd))) := by
  refine MT.mk dvX4_fill.1 ?_
  refine Ev.sg hX sX4_fill_0 (pc' := 2) (ls' := [some (.ref r), some (.int x), some (.int 0)]) (st' := []) (h' := (N, S, I, L, Dd)) (by first | rfl | simp [runS, stepI, ld, st1, entL, cat2, zS, hr, ha, fV, alen]) ?_
  exact l_fill hX hr ha hn n 0 I rfl
end NET0
section NET
variable {X : JX} {d N v : Nat} {T : Nat → Option JS} {I : Nat → Nat → Int32} {L : Nat → Nat → Int64} {Dd : Nat → Nat → UInt64} {J : Nat → Nat → Int32} {i j : Int32}
theorem c_cell (hX : JXok X) {h : MH} : MT X d 0 0 jdX2_cell [.int i, .int j] h (fun R => R = .inl (some (.int (i * 8 + j)), h)) := by
  refine MT.mk dsX2_cell.1 ?_
  refine Ev.sg hX sX2_cell_0 (pc' := 6) (ls' := [some (.int i), some (.int j)]) (st' := [.int ((i * 8) + j)]) (h' := h) rfl ?_
  refine Ev.iret dX2_cell_6 rfl ?_
  rfl
theorem c_areJoined (hX : JXok X) (hd : 1 ≤ d) : MT X d 0 0 jdX2_areJoined [.ref 6, .int i, .int j] (N, SH v T, I, L, Dd) (fun R => R = .inl (some (.int (bi (rg 64 (I 8) (i * 8 + j) = 1))), (N, SH v T, I, L, Dd))) := by
  refine MT.mk dvX2_areJoined.1 ?_
  refine Ev.sg hX sX2_areJoined_0 (pc' := 6) (ls' := [some (.ref 6), some (.int i), some (.int j)]) (st' := [.int j, .int i, .ref 7]) (h' := (N, SH v T, I, L, Dd)) rfl ?_
  refine Ev.callS (As := [.int i, .int j]) (rest := [.ref 7]) dsX2_cell mkX2_40 dX2_areJoined_6 (c_cell (d := d - 1) hX) ⟨by omega, by show 2 + 19 + 40 * _ ≤ 40 * _; omega⟩ (by decide) rfl (Nat.le_of_ble_eq_true rfl) (fun v9 h9 e9 => ?_) (fun E9 h9 e9 => nomatch e9)
  cases e9
  show Ev _ _ _ _ _ _ 9 [some (.ref 6), some (.int i), some (.int j)] [.int (i * 8 + j), .ref 7] (N, SH v T, I, L, Dd)
  refine Ev.callV (As := [.int (i * 8 + j)]) (rest := []) dvX4_get mkX2_44 rfl rfl dX2_areJoined_9 (c_Row_get (d := d - 1) (h := (N, SH v T, I, L, Dd)) (r := 7) (a := 8) (n := 64) hX rfl rfl (by decide)) ⟨by omega, by show 2 + 19 + 40 * _ ≤ 40 * _; omega⟩ (by decide) rfl (Nat.le_of_ble_eq_true rfl) (fun v9 h9 e9 => ?_) (fun E9 h9 e9 => nomatch e9)
  cases e9
  show Ev _ _ _ _ _ _ 12 [some (.ref 6), some (.int i), some (.int j)] [.int (rg 64 (I 8) (i * 8 + j))] (N, SH v T, I, L, Dd)
  refine Ev.sg hX sX2_areJoined_12 (pc' := 13) (ls' := [some (.ref 6), some (.int i), some (.int j)]) (st' := [.int 1, .int (rg 64 (I 8) (i * 8 + j))]) (h' := (N, SH v T, I, L, Dd)) rfl ?_
  refine Ev.icmp_ne (tgt := 20) dX2_areJoined_13 (by decide) (fun b1 => ?_) (fun b1 => ?_)
  · refine Ev.sg hX sX2_areJoined_20 (pc' := 21) (ls' := [some (.ref 6), some (.int i), some (.int j)]) (st' := [.int 0]) (h' := (N, SH v T, I, L, Dd)) rfl ?_
    refine Ev.zret dX2_areJoined_21 rfl ?_ ?_
    · rfl
    simp [bi, b1]
  · refine Ev.sg hX sX2_areJoined_16 (pc' := 21) (ls' := [some (.ref 6), some (.int i), some (.int j)]) (st' := [.int 1]) (h' := (N, SH v T, I, L, Dd)) rfl ?_
    refine Ev.zret dX2_areJoined_21 rfl ?_ ?_
    · rfl
    simp [bi, b1]
def joinI (I : Nat → Nat → Int32) (i j : Int32) : Nat → Nat → Int32 := up2 (upr (upr I 8 64 (i * 8 + j) 1) 8 64 (j * 8 + i) 1) 6 1 (I 6 1 + 1)
theorem c_join (hX : JXok X) (hd : 1 ≤ d) : MT X d 0 0 jdX2_join [.ref 6, .int i, .int j] (N, SH v T, I, L, Dd) (fun R => R = .inl (some (.int (I 6 1 + 1)), (N, SH v T, joinI I i j, L, Dd))) := by
  refine MT.mk dvX2_join.1 ?_
  refine Ev.sg hX sX2_join_0 (pc' := 6) (ls' := [some (.ref 6), some (.int i), some (.int j)]) (st' := [.int j, .int i, .ref 7]) (h' := (N, SH v T, I, L, Dd)) rfl ?_
  refine Ev.callS (As := [.int i, .int j]) (rest := [.ref 7]) dsX2_cell mkX2_40 dX2_join_6 (c_cell (d := d - 1) hX) ⟨by omega, by show 2 + 19 + 40 * _ ≤ 40 * _; omega⟩ (by decide) rfl (Nat.le_of_ble_eq_true rfl) (fun v9 h9 e9 => ?_) (fun E9 h9 e9 => nomatch e9)
  cases e9
  show Ev _ _ _ _ _ _ 9 [some (.ref 6), some (.int i), some (.int j)] [.int (i * 8 + j), .ref 7] (N, SH v T, I, L, Dd)
  refine Ev.sg hX sX2_join_9 (pc' := 10) (ls' := [some (.ref 6), some (.int i), some (.int j)]) (st' := [.int 1, .int (i * 8 + j), .ref 7]) (h' := (N, SH v T, I, L, Dd)) rfl ?_
  refine Ev.callV (As := [.int (i * 8 + j), .int 1]) (rest := []) dvX4_set mkX2_48 rfl rfl dX2_join_10 (c_Row_setX (d := d - 1) (r := 7) (a := 8) (n := 64) hX rfl rfl (by decide)) ⟨by omega, by show 3 + 19 + 40 * _ ≤ 40 * _; omega⟩ (by decide) rfl (Nat.le_of_ble_eq_true rfl) (fun v9 h9 e9 => ?_) (fun E9 h9 e9 => nomatch e9)
  cases e9
  show Ev _ _ _ _ _ _ 13 [some (.ref 6), some (.int i), some (.int j)] [] (N, SH v T, upr I 8 64 (i * 8 + j) 1, L, Dd)
  refine Ev.sg hX sX2_join_13 (pc' := 19) (ls' := [some (.ref 6), some (.int i), some (.int j)]) (st' := [.int i, .int j, .ref 7]) (h' := (N, SH v T, upr I 8 64 (i * 8 + j) 1, L, Dd)) rfl ?_
  refine Ev.callS (As := [.int j, .int i]) (rest := [.ref 7]) dsX2_cell mkX2_40 dX2_join_19 (c_cell (d := d - 1) hX) ⟨by omega, by show 2 + 19 + 40 * _ ≤ 40 * _; omega⟩ (by decide) rfl (Nat.le_of_ble_eq_true rfl) (fun v9 h9 e9 => ?_) (fun E9 h9 e9 => nomatch e9)
  cases e9
  show Ev _ _ _ _ _ _ 22 [some (.ref 6), some (.int i), some (.int j)] [.int (j * 8 + i), .ref 7] (N, SH v T, upr I 8 64 (i * 8 + j) 1, L, Dd)
  refine Ev.sg hX sX2_join_22 (pc' := 23) (ls' := [some (.ref 6), some (.int i), some (.int j)]) (st' := [.int 1, .int (j * 8 + i), .ref 7]) (h' := (N, SH v T, upr I 8 64 (i * 8 + j) 1, L, Dd)) rfl ?_
  refine Ev.callV (As := [.int (j * 8 + i), .int 1]) (rest := []) dvX4_set mkX2_48 rfl rfl dX2_join_23 (c_Row_setX (d := d - 1) (r := 7) (a := 8) (n := 64) hX rfl rfl (by decide)) ⟨by omega, by show 3 + 19 + 40 * _ ≤ 40 * _; omega⟩ (by decide) rfl (Nat.le_of_ble_eq_true rfl) (fun v9 h9 e9 => ?_) (fun E9 h9 e9 => nomatch e9)
  cases e9
  show Ev _ _ _ _ _ _ 26 [some (.ref 6), some (.int i), some (.int j)] [] (N, SH v T, upr (upr I 8 64 (i * 8 + j) 1) 8 64 (j * 8 + i) 1, L, Dd)
  refine Ev.sg hX sX2_join_26 (pc' := 40) (ls' := [some (.ref 6), some (.int i), some (.int j)]) (st' := [.int ((up2 (upr (upr I 8 64 (i * 8 + j) 1) 8 64 (j * 8 + i) 1) 6 1 (((upr (upr I 8 64 (i * 8 + j) 1) 8 64 (j * 8 + i) 1) 6 1) + 1)) 6 1)]) (h' := (N, SH v T, up2 (upr (upr I 8 64 (i * 8 + j) 1) 8 64 (j * 8 + i) 1) 6 1 (((upr (upr I 8 64 (i * 8 + j) 1) 8 64 (j * 8 + i) 1) 6 1) + 1), L, Dd)) rfl ?_
  refine Ev.iret dX2_join_40 rfl ?_
  simp [rd2, joinI, upr_ne (show 6 ≠ 8 by decide)]
def partI (I : Nat → Nat → Int32) (i j : Int32) : Nat → Nat → Int32 := up2 (upr (upr I 8 64 (i * 8 + j) 0) 8 64 (j * 8 + i) 0) 6 1 (I 6 1 - 1)
theorem c_part (hX : JXok X) (hd : 1 ≤ d) : MT X d 0 0 jdX2_part [.ref 6, .int i, .int j] (N, SH v T, I, L, Dd) (fun R => R = .inl (some (.int (I 6 1 - 1)), (N, SH v T, partI I i j, L, Dd))) := by
  refine MT.mk dvX2_part.1 ?_
  refine Ev.sg hX sX2_part_0 (pc' := 6) (ls' := [some (.ref 6), some (.int i), some (.int j)]) (st' := [.int j, .int i, .ref 7]) (h' := (N, SH v T, I, L, Dd)) rfl ?_
  refine Ev.callS (As := [.int i, .int j]) (rest := [.ref 7]) dsX2_cell mkX2_40 dX2_part_6 (c_cell (d := d - 1) hX) ⟨by omega, by show 2 + 19 + 40 * _ ≤ 40 * _; omega⟩ (by decide) rfl (Nat.le_of_ble_eq_true rfl) (fun v9 h9 e9 => ?_) (fun E9 h9 e9 => nomatch e9)
  cases e9
  show Ev _ _ _ _ _ _ 9 [some (.ref 6), some (.int i), some (.int j)] [.int (i * 8 + j), .ref 7] (N, SH v T, I, L, Dd)
  refine Ev.sg hX sX2_part_9 (pc' := 10) (ls' := [some (.ref 6), some (.int i), some (.int j)]) (st' := [.int 0, .int (i * 8 + j), .ref 7]) (h' := (N, SH v T, I, L, Dd)) rfl ?_
  refine Ev.callV (As := [.int (i * 8 + j), .int 0]) (rest := []) dvX4_set mkX2_48 rfl rfl dX2_part_10 (c_Row_setX (d := d - 1) (r := 7) (a := 8) (n := 64) hX rfl rfl (by decide)) ⟨by omega, by show 3 + 19 + 40 * _ ≤ 40 * _; omega⟩ (by decide) rfl (Nat.le_of_ble_eq_true rfl) (fun v9 h9 e9 => ?_) (fun E9 h9 e9 => nomatch e9)
  cases e9
  show Ev _ _ _ _ _ _ 13 [some (.ref 6), some (.int i), some (.int j)] [] (N, SH v T, upr I 8 64 (i * 8 + j) 0, L, Dd)
  refine Ev.sg hX sX2_part_13 (pc' := 19) (ls' := [some (.ref 6), some (.int i), some (.int j)]) (st' := [.int i, .int j, .ref 7]) (h' := (N, SH v T, upr I 8 64 (i * 8 + j) 0, L, Dd)) rfl ?_
  refine Ev.callS (As := [.int j, .int i]) (rest := [.ref 7]) dsX2_cell mkX2_40 dX2_part_19 (c_cell (d := d - 1) hX) ⟨by omega, by show 2 + 19 + 40 * _ ≤ 40 * _; omega⟩ (by decide) rfl (Nat.le_of_ble_eq_true rfl) (fun v9 h9 e9 => ?_) (fun E9 h9 e9 => nomatch e9)
  cases e9
  show Ev _ _ _ _ _ _ 22 [some (.ref 6), some (.int i), some (.int j)] [.int (j * 8 + i), .ref 7] (N, SH v T, upr I 8 64 (i * 8 + j) 0, L, Dd)
  refine Ev.sg hX sX2_part_22 (pc' := 23) (ls' := [some (.ref 6), some (.int i), some (.int j)]) (st' := [.int 0, .int (j * 8 + i), .ref 7]) (h' := (N, SH v T, upr I 8 64 (i * 8 + j) 0, L, Dd)) rfl ?_
  refine Ev.callV (As := [.int (j * 8 + i), .int 0]) (rest := []) dvX4_set mkX2_48 rfl rfl dX2_part_23 (c_Row_setX (d := d - 1) (r := 7) (a := 8) (n := 64) hX rfl rfl (by decide)) ⟨by omega, by show 3 + 19 + 40 * _ ≤ 40 * _; omega⟩ (by decide) rfl (Nat.le_of_ble_eq_true rfl) (fun v9 h9 e9 => ?_) (fun E9 h9 e9 => nomatch e9)
  cases e9
  show Ev _ _ _ _ _ _ 26 [some (.ref 6), some (.int i), some (.int j)] [] (N, SH v T, upr (upr I 8 64 (i * 8 + j) 0) 8 64 (j * 8 + i) 0, L, Dd)
  refine Ev.sg hX sX2_part_26 (pc' := 40) (ls' := [some (.ref 6), some (.int i), some (.int j)]) (st' := [.int ((up2 (upr (upr I 8 64 (i * 8 + j) 0) 8 64 (j * 8 + i) 0) 6 1 (((upr (upr I 8 64 (i * 8 + j) 0) 8 64 (j * 8 + i) 0) 6 1) - 1)) 6 1)]) (h' := (N, SH v T, up2 (upr (upr I 8 64 (i * 8 + j) 0) 8 64 (j * 8 + i) 0) 6 1 (((upr (upr I 8 64 (i * 8 + j) 0) 8 64 (j * 8 + i) 0) 6 1) - 1), L, Dd)) rfl ?_
  refine Ev.iret dX2_part_40 rfl ?_
  simp [rd2, partI, upr_ne (show 6 ≠ 8 by decide)]
def stC (via one tv : Int32) (k : Nat) (J : Nat → Nat → Int32) : Nat → Nat → Int32 := if tv + rg 64 (J 14) (via * 8 + nI k) < rg 64 (J 14) (one * 8 + nI k) then upr J 14 64 (one * 8 + nI k) (tv + rg 64 (J 14) (via * 8 + nI k)) else J
theorem l_comb (hX : JXok X) (hd : 1 ≤ d) {via one tv : Int32} {sz : Nat} (hsz : sz ≤ 8) : ∀ (n k : Nat) (J : Nat → Nat → Int32), (n + k = sz ∧ J 6 0 = nI sz) → Ev X (jm jdX2_combineOver) d 0 0 (fun R => R = .inl (none, (N, SH v T, fo (stC via one tv) n k J, L, Dd))) 16 [some (.ref 6), some (.int via), some (.int one), some (.int tv), some (.int (nI k)), none] [] (N, SH v T, J, L, Dd) := by
  intro n
  induction n with
  | zero =>
    intro k J hk
    obtain ⟨hk, hJ⟩ := hk
    refine Ev.sg hX sX2_combineOver_16 (pc' := 22) (ls' := [some (.ref 6), some (.int via), some (.int one), some (.int tv), some (.int (nI k)), none]) (st' := [.int (J 6 0), .int (nI k)]) (h' := (N, SH v T, J, L, Dd)) rfl ?_
    rw [hJ]
    refine Ev.icmp_ge (tgt := 81) dX2_combineOver_22 (by decide) (fun b1 => ?_) (fun b1 => ?_)
    · refine Ev.vret dX2_combineOver_81 rfl ?_
      rfl
    · exact absurd (((nI_leI (a := sz) (b := k) (by omega) (by omega)).mpr (by omega))) b1
  | succ n ih =>
    intro k J hk
    obtain ⟨hk, hJ⟩ := hk
    refine Ev.sg hX sX2_combineOver_16 (pc' := 22) (ls' := [some (.ref 6), some (.int via), some (.int one), some (.int tv), some (.int (nI k)), none]) (st' := [.int (J 6 0), .int (nI k)]) (h' := (N, SH v T, J, L, Dd)) rfl ?_
    rw [hJ]
    refine Ev.icmp_ge (tgt := 81) dX2_combineOver_22 (by decide) (fun b1 => ?_) (fun b1 => ?_)
    · exact absurd (((nI_leI (a := sz) (b := k) (by omega) (by omega)).mp b1)) (by omega)
    · refine Ev.sg hX sX2_combineOver_25 (pc' := 33) (ls' := [some (.ref 6), some (.int via), some (.int one), some (.int tv), some (.int (nI k)), none]) (st' := [.int (nI k), .int via, .ref 13, .int tv]) (h' := (N, SH v T, J, L, Dd)) rfl ?_
      refine Ev.callS (As := [.int via, .int (nI k)]) (rest := [.ref 13, .int tv]) dsX2_cell mkX2_40 dX2_combineOver_33 (c_cell (d := d - 1) hX) ⟨by omega, by show 2 + 19 + 40 * _ ≤ 40 * _; omega⟩ (by decide) rfl (Nat.le_of_ble_eq_true rfl) (fun v9 h9 e9 => ?_) (fun E9 h9 e9 => nomatch e9)
      cases e9
      show Ev _ _ _ _ _ _ 36 [some (.ref 6), some (.int via), some (.int one), some (.int tv), some (.int (nI k)), none] [.int (via * 8 + (nI k)), .ref 13, .int tv] (N, SH v T, J, L, Dd)
      refine Ev.callV (As := [.int (via * 8 + (nI k))]) (rest := [.int tv]) dvX4_get mkX2_44 rfl rfl dX2_combineOver_36 (c_Row_get (d := d - 1) (h := (N, SH v T, J, L, Dd)) (r := 13) (a := 14) (n := 64) hX rfl rfl (by decide)) ⟨by omega, by show 2 + 19 + 40 * _ ≤ 40 * _; omega⟩ (by decide) rfl (Nat.le_of_ble_eq_true rfl) (fun v9 h9 e9 => ?_) (fun E9 h9 e9 => nomatch e9)
      cases e9
      show Ev _ _ _ _ _ _ 39 [some (.ref 6), some (.int via), some (.int one), some (.int tv), some (.int (nI k)), none] [.int (rg 64 (J 14) (via * 8 + (nI k))), .int tv] (N, SH v T, J, L, Dd)
      refine Ev.sg hX sX2_combineOver_39 (pc' := 51) (ls' := [some (.ref 6), some (.int via), some (.int one), some (.int tv), some (.int (nI k)), some (.int (tv + (rg 64 (J 14) (via * 8 + (nI k)))))]) (st' := [.int (nI k), .int one, .ref 13, .int (tv + (rg 64 (J 14) (via * 8 + (nI k))))]) (h' := (N, SH v T, J, L, Dd)) rfl ?_
      refine Ev.callS (As := [.int one, .int (nI k)]) (rest := [.ref 13, .int (tv + (rg 64 (J 14) (via * 8 + (nI k))))]) dsX2_cell mkX2_40 dX2_combineOver_51 (c_cell (d := d - 1) hX) ⟨by omega, by show 2 + 19 + 40 * _ ≤ 40 * _; omega⟩ (by decide) rfl (Nat.le_of_ble_eq_true rfl) (fun v9 h9 e9 => ?_) (fun E9 h9 e9 => nomatch e9)
      cases e9
      show Ev _ _ _ _ _ _ 54 [some (.ref 6), some (.int via), some (.int one), some (.int tv), some (.int (nI k)), some (.int (tv + (rg 64 (J 14) (via * 8 + (nI k)))))] [.int (one * 8 + (nI k)), .ref 13, .int (tv + (rg 64 (J 14) (via * 8 + (nI k))))] (N, SH v T, J, L, Dd)
      refine Ev.callV (As := [.int (one * 8 + (nI k))]) (rest := [.int (tv + (rg 64 (J 14) (via * 8 + (nI k))))]) dvX4_get mkX2_44 rfl rfl dX2_combineOver_54 (c_Row_get (d := d - 1) (h := (N, SH v T, J, L, Dd)) (r := 13) (a := 14) (n := 64) hX rfl rfl (by decide)) ⟨by omega, by show 2 + 19 + 40 * _ ≤ 40 * _; omega⟩ (by decide) rfl (Nat.le_of_ble_eq_true rfl) (fun v9 h9 e9 => ?_) (fun E9 h9 e9 => nomatch e9)
      cases e9
      show Ev _ _ _ _ _ _ 57 [some (.ref 6), some (.int via), some (.int one), some (.int tv), some (.int (nI k)), some (.int (tv + (rg 64 (J 14) (via * 8 + (nI k)))))] [.int (rg 64 (J 14) (one * 8 + (nI k))), .int (tv + (rg 64 (J 14) (via * 8 + (nI k))))] (N, SH v T, J, L, Dd)
      refine Ev.icmp_ge (tgt := 75) dX2_combineOver_57 (by decide) (fun b2 => ?_) (fun b2 => ?_)
      · refine Ev.sg hX sX2_combineOver_75 (pc' := 16) (ls' := [some (.ref 6), some (.int via), some (.int one), some (.int tv), some (.int ((nI k) + 1)), some (.int (tv + (rg 64 (J 14) (via * 8 + (nI k)))))]) (st' := []) (h' := (N, SH v T, J, L, Dd)) rfl ?_
        rw [nI_1, fo, show stC via one tv k J = J from if_neg (Int32.not_lt.mpr b2)]
        exact Ev.drop 5 (ih (k + 1) _ ⟨by omega, by first | exact hJ | (rw [upr_ne (by decide)]; exact hJ)⟩)
      · refine Ev.sg hX sX2_combineOver_60 (pc' := 67) (ls' := [some (.ref 6), some (.int via), some (.int one), some (.int tv), some (.int (nI k)), some (.int (tv + (rg 64 (J 14) (via * 8 + (nI k)))))]) (st' := [.int (nI k), .int one, .ref 13]) (h' := (N, SH v T, J, L, Dd)) rfl ?_
        refine Ev.callS (As := [.int one, .int (nI k)]) (rest := [.ref 13]) dsX2_cell mkX2_40 dX2_combineOver_67 (c_cell (d := d - 1) hX) ⟨by omega, by show 2 + 19 + 40 * _ ≤ 40 * _; omega⟩ (by decide) rfl (Nat.le_of_ble_eq_true rfl) (fun v9 h9 e9 => ?_) (fun E9 h9 e9 => nomatch e9)
        cases e9
        show Ev _ _ _ _ _ _ 70 [some (.ref 6), some (.int via), some (.int one), some (.int tv), some (.int (nI k)), some (.int (tv + (rg 64 (J 14) (via * 8 + (nI k)))))] [.int (one * 8 + (nI k)), .ref 13] (N, SH v T, J, L, Dd)
        refine Ev.sg hX sX2_combineOver_70 (pc' := 72) (ls' := [some (.ref 6), some (.int via), some (.int one), some (.int tv), some (.int (nI k)), some (.int (tv + (rg 64 (J 14) (via * 8 + (nI k)))))]) (st' := [.int (tv + (rg 64 (J 14) (via * 8 + (nI k)))), .int (one * 8 + (nI k)), .ref 13]) (h' := (N, SH v T, J, L, Dd)) rfl ?_
        refine Ev.callV (As := [.int (one * 8 + (nI k)), .int (tv + (rg 64 (J 14) (via * 8 + (nI k))))]) (rest := []) dvX4_set mkX2_48 rfl rfl dX2_combineOver_72 (c_Row_setX (d := d - 1) (r := 13) (a := 14) (n := 64) hX rfl rfl (by decide)) ⟨by omega, by show 3 + 19 + 40 * _ ≤ 40 * _; omega⟩ (by decide) rfl (Nat.le_of_ble_eq_true rfl) (fun v9 h9 e9 => ?_) (fun E9 h9 e9 => nomatch e9)
        cases e9
        show Ev _ _ _ _ _ _ 75 [some (.ref 6), some (.int via), some (.int one), some (.int tv), some (.int (nI k)), some (.int (tv + (rg 64 (J 14) (via * 8 + (nI k)))))] [] (N, SH v T, upr J 14 64 (one * 8 + (nI k)) (tv + (rg 64 (J 14) (via * 8 + (nI k)))), L, Dd)
        refine Ev.sg hX sX2_combineOver_75 (pc' := 16) (ls' := [some (.ref 6), some (.int via), some (.int one), some (.int tv), some (.int ((nI k) + 1)), some (.int (tv + (rg 64 (J 14) (via * 8 + (nI k)))))]) (st' := []) (h' := (N, SH v T, upr J 14 64 (one * 8 + (nI k)) (tv + (rg 64 (J 14) (via * 8 + (nI k)))), L, Dd)) rfl ?_
        rw [nI_1, fo, show stC via one tv k J = upr J 14 64 (one * 8 + (nI k)) (tv + (rg 64 (J 14) (via * 8 + (nI k)))) from if_pos (Int32.not_le.mp b2)]
        exact Ev.drop 5 (ih (k + 1) _ ⟨by omega, by first | exact hJ | (rw [upr_ne (by decide)]; exact hJ)⟩)
def combI (I : Nat → Nat → Int32) (sz : Nat) (via one : Int32) : Nat → Nat → Int32 := fo (stC via one (rg 64 (I 14) (one * 8 + via))) sz 0 I
theorem c_comb (hX : JXok X) (hd : 1 ≤ d) {via one : Int32} {sz : Nat} (hsz : sz ≤ 8) (hJ : I 6 0 = nI sz) : MT X d 0 0 jdX2_combineOver [.ref 6, .int via, .int one] (N, SH v T, I, L, Dd) (fun R => R = .inl (none, (N, SH v T, combI I sz via one, L, Dd))) := by
  refine MT.mk dvX2_combineOver.1 ?_
  refine Ev.sg hX sX2_combineOver_0 (pc' := 6) (ls' := [some (.ref 6), some (.int via), some (.int one), none, none, none]) (st' := [.int via, .int one, .ref 13]) (h' := (N, SH v T, I, L, Dd)) rfl ?_
  refine Ev.callS (As := [.int one, .int via]) (rest := [.ref 13]) dsX2_cell mkX2_40 dX2_combineOver_6 (c_cell (d := d - 1) hX) ⟨by omega, by show 2 + 19 + 40 * _ ≤ 40 * _; omega⟩ (by decide) rfl (Nat.le_of_ble_eq_true rfl) (fun v9 h9 e9 => ?_) (fun E9 h9 e9 => nomatch e9)
  cases e9
  show Ev _ _ _ _ _ _ 9 [some (.ref 6), some (.int via), some (.int one), none, none, none] [.int (one * 8 + via), .ref 13] (N, SH v T, I, L, Dd)
  refine Ev.callV (As := [.int (one * 8 + via)]) (rest := []) dvX4_get mkX2_44 rfl rfl dX2_combineOver_9 (c_Row_get (d := d - 1) (h := (N, SH v T, I, L, Dd)) (r := 13) (a := 14) (n := 64) hX rfl rfl (by decide)) ⟨by omega, by show 2 + 19 + 40 * _ ≤ 40 * _; omega⟩ (by decide) rfl (Nat.le_of_ble_eq_true rfl) (fun v9 h9 e9 => ?_) (fun E9 h9 e9 => nomatch e9)
  cases e9
  show Ev _ _ _ _ _ _ 12 [some (.ref 6), some (.int via), some (.int one), none, none, none] [.int (rg 64 (I 14) (one * 8 + via))] (N, SH v T, I, L, Dd)
  refine Ev.sg hX sX2_combineOver_12 (pc' := 16) (ls' := [some (.ref 6), some (.int via), some (.int one), some (.int (rg 64 (I 14) (one * 8 + via))), some (.int 0), none]) (st' := []) (h' := (N, SH v T, I, L, Dd)) rfl ?_
  exact l_comb hX hd hsz sz 0 I ⟨rfl, hJ⟩
end NET
