/-! the network: the search and what stands on it -/
section NETS
variable {X : JX} {d N v : Nat} {T : Nat → Option JS} {I : Nat → Nat → Int32} {L : Nat → Nat → Int64} {Dd : Nat → Nat → UInt64} {J : Nat → Nat → Int32} {Q : JR → Prop}
def stN (tr : Int32) (k : Nat) (u : (Nat → Nat → Int32) × Int32) : (Nat → Nat → Int32) × Int32 := if rg 64 (u.1 8) (tr * 8 + nI k) = 1 ∧ u.1 10 k = 1000 then (upr (up2 u.1 10 k (rg 8 (u.1 10) tr + 1)) 12 8 u.2 (nI k), u.2 + 1) else u
def bfs (sz : Nat) : Nat → Nat → (Nat → Nat → Int32) × Int32 → (Nat → Nat → Int32) × Int32
  | 0, _, u => u
  | n + 1, h, u => if nI h < u.2 then bfs sz n (h + 1) (fo (stN (u.1 12 h)) sz 0 u) else u
theorem stN_6 {tr : Int32} {k : Nat} {u : (Nat → Nat → Int32) × Int32} : (stN tr k u).1 6 = u.1 6 := by
  unfold stN
  split
  · show upr _ _ _ _ _ 6 = _
    rw [upr_ne (by decide), up2_ne (by decide)]
  · rfl
theorem l_bfs_in (hX : JXok X) (hd : 1 ≤ d) {s hh : Nat} {tr : Int32} {sz : Nat} (hsz : sz ≤ 8) {fin : (Nat → Nat → Int32) × Int32} (kk : Ev X (jm jdX2_search) d 0 0 Q 137 [some (.ref 6), some (.int (nI s)), some (.int fin.2), some (.int (nI hh)), some (.int tr), some (.int (nI sz))] [] (N, SH v T, fin.1, L, Dd)) : ∀ (n k : Nat) (u : (Nat → Nat → Int32) × Int32), (n + k = sz ∧ u.1 6 0 = nI sz) → fo (stN tr) n k u = fin → Ev X (jm jdX2_search) d 0 0 Q 56 [some (.ref 6), some (.int (nI s)), some (.int u.2), some (.int (nI hh)), some (.int tr), some (.int (nI k))] [] (N, SH v T, u.1, L, Dd) := by
  intro n
  induction n with
  | zero =>
    intro k u hk hfin
    obtain ⟨hk, hJ⟩ := hk
    refine Ev.sg hX sX2_search_56 (pc' := 62) (ls' := [some (.ref 6), some (.int (nI s)), some (.int u.2), some (.int (nI hh)), some (.int tr), some (.int (nI k))]) (st' := [.int (u.1 6 0), .int (nI k)]) (h' := (N, SH v T, u.1, L, Dd)) rfl ?_
    rw [hJ]
    refine Ev.icmp_ge (tgt := 137) dX2_search_62 (by decide) (fun b1 => ?_) (fun b1 => ?_)
    · obtain rfl : k = sz := by omega
      exact (show u = fin from hfin) ▸ kk
    · exact absurd (((nI_leI (a := sz) (b := k) (by omega) (by omega)).mpr (by omega))) b1
  | succ n ih =>
    intro k u hk hfin
    obtain ⟨hk, hJ⟩ := hk
    refine Ev.sg hX sX2_search_56 (pc' := 62) (ls' := [some (.ref 6), some (.int (nI s)), some (.int u.2), some (.int (nI hh)), some (.int tr), some (.int (nI k))]) (st' := [.int (u.1 6 0), .int (nI k)]) (h' := (N, SH v T, u.1, L, Dd)) rfl ?_
    rw [hJ]
    refine Ev.icmp_ge (tgt := 137) dX2_search_62 (by decide) (fun b1 => ?_) (fun b1 => ?_)
    · exact absurd (((nI_leI (a := sz) (b := k) (by omega) (by omega)).mp b1)) (by omega)
    · refine Ev.sg hX sX2_search_65 (pc' := 73) (ls' := [some (.ref 6), some (.int (nI s)), some (.int u.2), some (.int (nI hh)), some (.int tr), some (.int (nI k))]) (st' := [.int (nI k), .int tr, .ref 7]) (h' := (N, SH v T, u.1, L, Dd)) rfl ?_
      refine Ev.callS (As := [.int tr, .int (nI k)]) (rest := [.ref 7]) dsX2_cell mkX2_40 dX2_search_73 (c_cell (d := d - 1) hX) ⟨by omega, by show 2 + 19 + 40 * _ ≤ 40 * _; omega⟩ (by decide) rfl (Nat.le_of_ble_eq_true rfl) (fun v9 h9 e9 => ?_) (fun E9 h9 e9 => nomatch e9)
      cases e9
      show Ev _ _ _ _ _ _ 76 [some (.ref 6), some (.int (nI s)), some (.int u.2), some (.int (nI hh)), some (.int tr), some (.int (nI k))] [.int (tr * 8 + (nI k)), .ref 7] (N, SH v T, u.1, L, Dd)
      refine Ev.callV (As := [.int (tr * 8 + (nI k))]) (rest := []) dvX4_get mkX2_44 rfl rfl dX2_search_76 (c_Row_get (d := d - 1) (h := (N, SH v T, u.1, L, Dd)) (r := 7) (a := 8) (n := 64) hX rfl rfl (by decide)) ⟨by omega, by show 2 + 19 + 40 * _ ≤ 40 * _; omega⟩ (by decide) rfl (Nat.le_of_ble_eq_true rfl) (fun v9 h9 e9 => ?_) (fun E9 h9 e9 => nomatch e9)
      cases e9
      show Ev _ _ _ _ _ _ 79 [some (.ref 6), some (.int (nI s)), some (.int u.2), some (.int (nI hh)), some (.int tr), some (.int (nI k))] [.int (rg 64 (u.1 8) (tr * 8 + (nI k)))] (N, SH v T, u.1, L, Dd)
      refine Ev.sg hX sX2_search_79 (pc' := 80) (ls' := [some (.ref 6), some (.int (nI s)), some (.int u.2), some (.int (nI hh)), some (.int tr), some (.int (nI k))]) (st' := [.int 1, .int (rg 64 (u.1 8) (tr * 8 + (nI k)))]) (h' := (N, SH v T, u.1, L, Dd)) rfl ?_
      refine Ev.icmp_ne (tgt := 131) dX2_search_80 (by decide) (fun b2 => ?_) (fun b2 => ?_)
      · refine Ev.sg hX sX2_search_131 (pc' := 56) (ls' := [some (.ref 6), some (.int (nI s)), some (.int u.2), some (.int (nI hh)), some (.int tr), some (.int ((nI k) + 1))]) (st' := []) (h' := (N, SH v T, u.1, L, Dd)) rfl ?_
        rw [nI_1]
        have e9 : stN tr k u = u := if_neg (fun z => b2 z.1)
        refine ih (k + 1) u ⟨by omega, by first | exact hJ | (rw [← e9, stN_6]; exact hJ)⟩ ?_
        rw [← hfin, fo, e9]
      · refine Ev.sg hX sX2_search_83 (pc' := 89) (ls' := [some (.ref 6), some (.int (nI s)), some (.int u.2), some (.int (nI hh)), some (.int tr), some (.int (nI k))]) (st' := [.int (nI k), .ref 9]) (h' := (N, SH v T, u.1, L, Dd)) rfl ?_
        refine Ev.callV (As := [.int (nI k)]) (rest := []) dvX4_get mkX2_44 rfl rfl dX2_search_89 (c_Row_getN (d := d - 1) (h := (N, SH v T, u.1, L, Dd)) (r := 9) (a := 10) (n := 8) hX rfl rfl (by decide) (by omega)) ⟨by omega, by show 2 + 19 + 40 * _ ≤ 40 * _; omega⟩ (by decide) rfl (Nat.le_of_ble_eq_true rfl) (fun v9 h9 e9 => ?_) (fun E9 h9 e9 => nomatch e9)
        cases e9
        show Ev _ _ _ _ _ _ 92 [some (.ref 6), some (.int (nI s)), some (.int u.2), some (.int (nI hh)), some (.int tr), some (.int (nI k))] [.int (u.1 10 k)] (N, SH v T, u.1, L, Dd)
        refine Ev.sg hX sX2_search_92 (pc' := 95) (ls' := [some (.ref 6), some (.int (nI s)), some (.int u.2), some (.int (nI hh)), some (.int tr), some (.int (nI k))]) (st' := [.int 1000, .int (u.1 10 k)]) (h' := (N, SH v T, u.1, L, Dd)) rfl ?_
        refine Ev.icmp_ne (tgt := 131) dX2_search_95 (by decide) (fun b3 => ?_) (fun b3 => ?_)
        · refine Ev.sg hX sX2_search_131 (pc' := 56) (ls' := [some (.ref 6), some (.int (nI s)), some (.int u.2), some (.int (nI hh)), some (.int tr), some (.int ((nI k) + 1))]) (st' := []) (h' := (N, SH v T, u.1, L, Dd)) rfl ?_
          rw [nI_1]
          have e9 : stN tr k u = u := if_neg (fun z => b3 z.2)
          refine ih (k + 1) u ⟨by omega, by first | exact hJ | (rw [← e9, stN_6]; exact hJ)⟩ ?_
          rw [← hfin, fo, e9]
        · refine Ev.sg hX sX2_search_98 (pc' := 110) (ls' := [some (.ref 6), some (.int (nI s)), some (.int u.2), some (.int (nI hh)), some (.int tr), some (.int (nI k))]) (st' := [.int tr, .ref 9, .int (nI k), .ref 9]) (h' := (N, SH v T, u.1, L, Dd)) rfl ?_
          refine Ev.callV (As := [.int tr]) (rest := [.int (nI k), .ref 9]) dvX4_get mkX2_44 rfl rfl dX2_search_110 (c_Row_get (d := d - 1) (h := (N, SH v T, u.1, L, Dd)) (r := 9) (a := 10) (n := 8) hX rfl rfl (by decide)) ⟨by omega, by show 2 + 19 + 40 * _ ≤ 40 * _; omega⟩ (by decide) rfl (Nat.le_of_ble_eq_true rfl) (fun v9 h9 e9 => ?_) (fun E9 h9 e9 => nomatch e9)
          cases e9
          show Ev _ _ _ _ _ _ 113 [some (.ref 6), some (.int (nI s)), some (.int u.2), some (.int (nI hh)), some (.int tr), some (.int (nI k))] [.int (rg 8 (u.1 10) tr), .int (nI k), .ref 9] (N, SH v T, u.1, L, Dd)
          refine Ev.sg hX sX2_search_113 (pc' := 115) (ls' := [some (.ref 6), some (.int (nI s)), some (.int u.2), some (.int (nI hh)), some (.int tr), some (.int (nI k))]) (st' := [.int ((rg 8 (u.1 10) tr) + 1), .int (nI k), .ref 9]) (h' := (N, SH v T, u.1, L, Dd)) rfl ?_
          refine Ev.callV (As := [.int (nI k), .int ((rg 8 (u.1 10) tr) + 1)]) (rest := []) dvX4_set mkX2_48 rfl rfl dX2_search_115 (c_Row_setN (d := d - 1) (h := (N, SH v T, u.1, L, Dd)) (r := 9) (a := 10) (n := 8) hX rfl rfl (by decide) (by omega)) ⟨by omega, by show 3 + 19 + 40 * _ ≤ 40 * _; omega⟩ (by decide) rfl (Nat.le_of_ble_eq_true rfl) (fun v9 h9 e9 => ?_) (fun E9 h9 e9 => nomatch e9)
          cases e9
          show Ev _ _ _ _ _ _ 118 [some (.ref 6), some (.int (nI s)), some (.int u.2), some (.int (nI hh)), some (.int tr), some (.int (nI k))] [] (N, SH v T, up2 u.1 10 k ((rg 8 (u.1 10) tr) + 1), L, Dd)
          refine Ev.sg hX sX2_search_118 (pc' := 125) (ls' := [some (.ref 6), some (.int (nI s)), some (.int u.2), some (.int (nI hh)), some (.int tr), some (.int (nI k))]) (st' := [.int (nI k), .int u.2, .ref 11]) (h' := (N, SH v T, up2 u.1 10 k ((rg 8 (u.1 10) tr) + 1), L, Dd)) rfl ?_
          refine Ev.callV (As := [.int u.2, .int (nI k)]) (rest := []) dvX4_set mkX2_48 rfl rfl dX2_search_125 (c_Row_setX (d := d - 1) (r := 11) (a := 12) (n := 8) hX rfl rfl (by decide)) ⟨by omega, by show 3 + 19 + 40 * _ ≤ 40 * _; omega⟩ (by decide) rfl (Nat.le_of_ble_eq_true rfl) (fun v9 h9 e9 => ?_) (fun E9 h9 e9 => nomatch e9)
          cases e9
          show Ev _ _ _ _ _ _ 128 [some (.ref 6), some (.int (nI s)), some (.int u.2), some (.int (nI hh)), some (.int tr), some (.int (nI k))] [] (N, SH v T, upr (up2 u.1 10 k ((rg 8 (u.1 10) tr) + 1)) 12 8 u.2 (nI k), L, Dd)
          refine Ev.sg hX sX2_search_128 (pc' := 131) (ls' := [some (.ref 6), some (.int (nI s)), some (.int (u.2 + 1)), some (.int (nI hh)), some (.int tr), some (.int (nI k))]) (st' := []) (h' := (N, SH v T, upr (up2 u.1 10 k ((rg 8 (u.1 10) tr) + 1)) 12 8 u.2 (nI k), L, Dd)) rfl ?_
          refine Ev.sg hX sX2_search_131 (pc' := 56) (ls' := [some (.ref 6), some (.int (nI s)), some (.int (u.2 + 1)), some (.int (nI hh)), some (.int tr), some (.int ((nI k) + 1))]) (st' := []) (h' := (N, SH v T, upr (up2 u.1 10 k ((rg 8 (u.1 10) tr) + 1)) 12 8 u.2 (nI k), L, Dd)) rfl ?_
          rw [nI_1]
          have e9 : stN tr k u = (upr (up2 u.1 10 k ((rg 8 (u.1 10) tr) + 1)) 12 8 u.2 (nI k), u.2 + 1) := if_pos ⟨b2, b3⟩
          refine ih (k + 1) (upr (up2 u.1 10 k ((rg 8 (u.1 10) tr) + 1)) 12 8 u.2 (nI k), u.2 + 1) ⟨by omega, by first | exact hJ | (rw [← e9, stN_6]; exact hJ)⟩ ?_
          rw [← hfin, fo, e9]
theorem fostN_6 {tr : Int32} {n k : Nat} {u : (Nat → Nat → Int32) × Int32} : (fo (stN tr) n k u).1 6 = u.1 6 := fo_inv (P := fun (w : (Nat → Nat → Int32) × Int32) => w.1 6 = u.1 6) (fun k w hw => by rw [stN_6]; exact hw) n k u rfl
theorem l_bfs (hX : JXok X) (hd : 1 ≤ d) {s : Nat} {sz : Nat} (hsz : sz ≤ 8) : ∀ (n hh : Nat) (u : (Nat → Nat → Int32) × Int32), n + hh = 8 → u.1 6 0 = nI sz → Ev X (jm jdX2_search) d 0 0 (fun R => R = .inl (none, (N, SH v T, (bfs sz n hh u).1, L, Dd))) 32 [some (.ref 6), some (.int (nI s)), some (.int u.2), some (.int (nI hh)), none, none] [] (N, SH v T, u.1, L, Dd) := by
  intro n
  induction n with
  | zero =>
    intro hh u hk hJ
    refine Ev.sg hX sX2_search_32 (pc' := 34) (ls' := [some (.ref 6), some (.int (nI s)), some (.int u.2), some (.int (nI hh)), none, none]) (st' := [.int u.2, .int (nI hh)]) (h' := (N, SH v T, u.1, L, Dd)) rfl ?_
    refine Ev.icmp_ge (tgt := 143) dX2_search_34 (by decide) (fun b1 => ?_) (fun b1 => ?_)
    · refine Ev.vret dX2_search_143 rfl ?_
      rfl
    · refine Ev.sg hX sX2_search_37 (pc' := 40) (ls' := [some (.ref 6), some (.int (nI s)), some (.int u.2), some (.int (nI hh)), none, none]) (st' := [.int 8, .int (nI hh)]) (h' := (N, SH v T, u.1, L, Dd)) rfl ?_
      refine Ev.icmp_ge (tgt := 143) dX2_search_40 (by decide) (fun b2 => ?_) (fun b2 => ?_)
      · refine Ev.vret dX2_search_143 rfl ?_
        rfl
      · exact absurd ((nI_leI (a := 8) (b := hh) (by decide) (by omega)).mpr (by omega)) b2
  | succ n ih =>
    intro hh u hk hJ
    refine Ev.sg hX sX2_search_32 (pc' := 34) (ls' := [some (.ref 6), some (.int (nI s)), some (.int u.2), some (.int (nI hh)), none, none]) (st' := [.int u.2, .int (nI hh)]) (h' := (N, SH v T, u.1, L, Dd)) rfl ?_
    refine Ev.icmp_ge (tgt := 143) dX2_search_34 (by decide) (fun b1 => ?_) (fun b1 => ?_)
    · refine Ev.vret dX2_search_143 rfl ?_
      rw [bfs, if_neg (Int32.not_lt.mpr b1)]
    · refine Ev.sg hX sX2_search_37 (pc' := 40) (ls' := [some (.ref 6), some (.int (nI s)), some (.int u.2), some (.int (nI hh)), none, none]) (st' := [.int 8, .int (nI hh)]) (h' := (N, SH v T, u.1, L, Dd)) rfl ?_
      refine Ev.icmp_ge (tgt := 143) dX2_search_40 (by decide) (fun b2 => ?_) (fun b2 => ?_)
      · exact absurd ((nI_leI (a := 8) (b := hh) (by decide) (by omega)).mp b2) (by omega)
      · refine Ev.sg hX sX2_search_43 (pc' := 48) (ls' := [some (.ref 6), some (.int (nI s)), some (.int u.2), some (.int (nI hh)), none, none]) (st' := [.int (nI hh), .ref 11]) (h' := (N, SH v T, u.1, L, Dd)) rfl ?_
        refine Ev.callV (As := [.int (nI hh)]) (rest := []) dvX4_get mkX2_44 rfl rfl dX2_search_48 (c_Row_getN (d := d - 1) (h := (N, SH v T, u.1, L, Dd)) (r := 11) (a := 12) (n := 8) hX rfl rfl (by decide) (by omega)) ⟨by omega, by show 2 + 19 + 40 * _ ≤ 40 * _; omega⟩ (by decide) rfl (Nat.le_of_ble_eq_true rfl) (fun v9 h9 e9 => ?_) (fun E9 h9 e9 => nomatch e9)
        cases e9
        show Ev _ _ _ _ _ _ 51 [some (.ref 6), some (.int (nI s)), some (.int u.2), some (.int (nI hh)), none, none] [.int (u.1 12 hh)] (N, SH v T, u.1, L, Dd)
        refine Ev.sg hX sX2_search_51 (pc' := 56) (ls' := [some (.ref 6), some (.int (nI s)), some (.int u.2), some (.int (nI hh)), some (.int (u.1 12 hh)), some (.int 0)]) (st' := []) (h' := (N, SH v T, u.1, L, Dd)) rfl ?_
        refine l_bfs_in hX hd hsz (fin := fo (stN (u.1 12 hh)) sz 0 u) ?_ sz 0 u ⟨rfl, hJ⟩ rfl
        refine Ev.sg hX sX2_search_137 (pc' := 32) (ls' := [some (.ref 6), some (.int (nI s)), some (.int ((fo (stN (u.1 12 hh)) sz 0 u).2)), some (.int ((nI hh) + 1)), some (.int (u.1 12 hh)), some (.int (nI sz))]) (st' := []) (h' := (N, SH v T, (fo (stN (u.1 12 hh)) sz 0 u).1, L, Dd)) rfl ?_
        rw [nI_1, bfs, if_pos (Int32.not_le.mp b1)]
        exact Ev.drop 4 (Ev.drop 5 (ih (hh + 1) _ (by omega) (by rw [fostN_6]; exact hJ)))
def bfsI (I : Nat → Nat → Int32) (sz s : Nat) : Nat → Nat → Int32 := (bfs sz 8 0 (up2 (up2 (fillI I 10 8 1000) 10 s 0) 12 0 (nI s), 1)).1
theorem bfs_6 {sz : Nat} : ∀ (n hh : Nat) (u : (Nat → Nat → Int32) × Int32), (bfs sz n hh u).1 6 = u.1 6
  | 0, _, _ => rfl
  | n + 1, hh, u => by
    rw [bfs]
    split
    · rw [bfs_6, fostN_6]
    · rfl
theorem fillI_ne {I : Nat → Nat → Int32} {a n b : Nat} {x : Int32} (h : b ≠ a) : fillI I a n x b = I b := fo_inv (P := fun (J : Nat → Nat → Int32) => J b = I b) (fun k J hJ => by rw [up2_ne h]; exact hJ) _ _ _ rfl
theorem bfsI_6 {I : Nat → Nat → Int32} {sz s : Nat} : bfsI I sz s 6 = I 6 := by
  unfold bfsI
  rw [bfs_6]
  simp only [up2_ne (show (6 : Nat) ≠ 12 by decide), up2_ne (show (6 : Nat) ≠ 10 by decide), fillI_ne (show (6 : Nat) ≠ 10 by decide)]
theorem c_search (hX : JXok X) (hd : 1 ≤ d) {s : Nat} (hs : s < 8) {sz : Nat} (hsz : sz ≤ 8) (hJ : I 6 0 = nI sz) : MT X d 0 0 jdX2_search [.ref 6, .int (nI s)] (N, SH v T, I, L, Dd) (fun R => R = .inl (none, (N, SH v T, bfsI I sz s, L, Dd))) := by
  refine MT.mk dvX2_search.1 ?_
  refine Ev.sg hX sX2_search_0 (pc' := 7) (ls' := [some (.ref 6), some (.int (nI s)), none, none, none, none]) (st' := [.int 1000, .ref 9]) (h' := (N, SH v T, I, L, Dd)) rfl ?_
  refine Ev.callV (As := [.int 1000]) (rest := []) dvX4_fill mkX2_61 rfl rfl dX2_search_7 (c_Row_fill (d := d - 1) (r := 9) (a := 10) (n := 8) hX rfl rfl (by decide)) ⟨by omega, by show 3 + 19 + 40 * _ ≤ 40 * _; omega⟩ (by decide) rfl (Nat.le_of_ble_eq_true rfl) (fun v9 h9 e9 => ?_) (fun E9 h9 e9 => nomatch e9)
  cases e9
  show Ev _ _ _ _ _ _ 10 [some (.ref 6), some (.int (nI s)), none, none, none, none] [] (N, SH v T, fillI I 10 8 1000, L, Dd)
  refine Ev.sg hX sX2_search_10 (pc' := 16) (ls' := [some (.ref 6), some (.int (nI s)), none, none, none, none]) (st' := [.int 0, .int (nI s), .ref 9]) (h' := (N, SH v T, fillI I 10 8 1000, L, Dd)) rfl ?_
  refine Ev.callV (As := [.int (nI s), .int 0]) (rest := []) dvX4_set mkX2_48 rfl rfl dX2_search_16 (c_Row_setN (d := d - 1) (h := (N, SH v T, fillI I 10 8 1000, L, Dd)) (r := 9) (a := 10) (n := 8) hX rfl rfl (by decide) hs) ⟨by omega, by show 3 + 19 + 40 * _ ≤ 40 * _; omega⟩ (by decide) rfl (Nat.le_of_ble_eq_true rfl) (fun v9 h9 e9 => ?_) (fun E9 h9 e9 => nomatch e9)
  cases e9
  show Ev _ _ _ _ _ _ 19 [some (.ref 6), some (.int (nI s)), none, none, none, none] [] (N, SH v T, up2 (fillI I 10 8 1000) 10 s 0, L, Dd)
  refine Ev.sg hX sX2_search_19 (pc' := 25) (ls' := [some (.ref 6), some (.int (nI s)), none, none, none, none]) (st' := [.int (nI s), .int 0, .ref 11]) (h' := (N, SH v T, up2 (fillI I 10 8 1000) 10 s 0, L, Dd)) rfl ?_
  refine Ev.callV (As := [.int 0, .int (nI s)]) (rest := []) dvX4_set mkX2_48 rfl rfl dX2_search_25 (c_Row_setE (d := d - 1) (h := (N, SH v T, up2 (fillI I 10 8 1000) 10 s 0, L, Dd)) (r := 11) (a := 12) (n := 8) hX rfl rfl (by decide) (by decide) rfl) ⟨by omega, by show 3 + 19 + 40 * _ ≤ 40 * _; omega⟩ (by decide) rfl (Nat.le_of_ble_eq_true rfl) (fun v9 h9 e9 => ?_) (fun E9 h9 e9 => nomatch e9)
  cases e9
  show Ev _ _ _ _ _ _ 28 [some (.ref 6), some (.int (nI s)), none, none, none, none] [] (N, SH v T, up2 (up2 (fillI I 10 8 1000) 10 s 0) 12 0 (nI s), L, Dd)
  refine Ev.sg hX sX2_search_28 (pc' := 32) (ls' := [some (.ref 6), some (.int (nI s)), some (.int 1), some (.int 0), none, none]) (st' := []) (h' := (N, SH v T, up2 (up2 (fillI I 10 8 1000) 10 s 0) 12 0 (nI s), L, Dd)) rfl ?_
  exact l_bfs hX hd hsz 8 0 (up2 (up2 (fillI I 10 8 1000) 10 s 0) 12 0 (nI s), 1) rfl (by simp only [up2_ne (show (6 : Nat) ≠ 12 by decide), up2_ne (show (6 : Nat) ≠ 10 by decide), fillI_ne (show (6 : Nat) ≠ 10 by decide)]; exact hJ)
def stepsF (I : Nat → Nat → Int32) (sz i j : Nat) : Int32 := bfsI I sz j 10 i
theorem c_steps (hX : JXok X) (hd : 2 ≤ d) {i j : Nat} (hi : i < 8) (hj : j < 8) {sz : Nat} (hsz : sz ≤ 8) (hJ : I 6 0 = nI sz) : MT X d 0 0 jdX2_stepsBySearch [.ref 6, .int (nI i), .int (nI j)] (N, SH v T, I, L, Dd) (fun R => R = .inl (some (.int (stepsF I sz i j)), (N, SH v T, bfsI I sz j, L, Dd))) := by
  refine MT.mk dvX2_stepsBySearch.1 ?_
  refine Ev.sg hX sX2_stepsBySearch_0 (pc' := 2) (ls' := [some (.ref 6), some (.int (nI i)), some (.int (nI j))]) (st' := [.int (nI j), .ref 6]) (h' := (N, SH v T, I, L, Dd)) rfl ?_
  refine Ev.callV (As := [.int (nI j)]) (rest := []) dvX2_search mkX2_52 rfl rfl dX2_stepsBySearch_2 (c_search (d := d - 1) (I := I) hX (by omega) hj hsz hJ) ⟨by omega, by show 6 + 19 + 40 * _ ≤ 40 * _; omega⟩ (by decide) rfl (Nat.le_of_ble_eq_true rfl) (fun v9 h9 e9 => ?_) (fun E9 h9 e9 => nomatch e9)
  cases e9
  show Ev _ _ _ _ _ _ 5 [some (.ref 6), some (.int (nI i)), some (.int (nI j))] [] (N, SH v T, bfsI I sz j, L, Dd)
  refine Ev.sg hX sX2_stepsBySearch_5 (pc' := 10) (ls' := [some (.ref 6), some (.int (nI i)), some (.int (nI j))]) (st' := [.int (nI i), .ref 9]) (h' := (N, SH v T, bfsI I sz j, L, Dd)) rfl ?_
  refine Ev.callV (As := [.int (nI i)]) (rest := []) dvX4_get mkX2_44 rfl rfl dX2_stepsBySearch_10 (c_Row_getN (d := d - 1) (h := (N, SH v T, bfsI I sz j, L, Dd)) (r := 9) (a := 10) (n := 8) hX rfl rfl (by decide) hi) ⟨by omega, by show 2 + 19 + 40 * _ ≤ 40 * _; omega⟩ (by decide) rfl (Nat.le_of_ble_eq_true rfl) (fun v9 h9 e9 => ?_) (fun E9 h9 e9 => nomatch e9)
  cases e9
  show Ev _ _ _ _ _ _ 13 [some (.ref 6), some (.int (nI i)), some (.int (nI j))] [.int ((bfsI I sz j) 10 i)] (N, SH v T, bfsI I sz j, L, Dd)
  refine Ev.iret dX2_stepsBySearch_13 rfl ?_
  rfl
/-- the first place from k on, among n, with p; e without one -/
def fnE (p : Nat → Prop) [DecidablePred p] (e : Nat) : Nat → Nat → Nat
  | 0, _ => e
  | n + 1, k => if p k then k else fnE p e n (k + 1)
theorem l_next (hX : JXok X) (hd : 2 ≤ d) {i : Nat} (hi : i < 8) {w : Int32} {sz : Nat} (hsz : sz ≤ 8) (hJ : I 6 0 = nI sz) : ∀ (n k : Nat), n + k = sz → Ev X (jm jdX2_nextTrack) d 0 0 (fun R => R = .inl (some (.int (nI (fnE (fun s => I 10 s = w ∧ I 8 (i * 8 + s) = 1) i n k))), (N, SH v T, I, L, Dd))) 13 [some (.ref 6), some (.int (nI i)), some (.int w), some (.int (nI k))] [] (N, SH v T, I, L, Dd) := by
  intro n
  induction n with
  | zero =>
    intro k hk
    refine Ev.sg hX sX2_nextTrack_13 (pc' := 18) (ls' := [some (.ref 6), some (.int (nI i)), some (.int w), some (.int (nI k))]) (st' := [.int (I 6 0), .int (nI k)]) (h' := (N, SH v T, I, L, Dd)) rfl ?_
    rw [hJ]
    refine Ev.icmp_ge (tgt := 50) dX2_nextTrack_18 (by decide) (fun b1 => ?_) (fun b1 => ?_)
    · refine Ev.sg hX sX2_nextTrack_50 (pc' := 51) (ls' := [some (.ref 6), some (.int (nI i)), some (.int w), some (.int (nI k))]) (st' := [.int (nI i)]) (h' := (N, SH v T, I, L, Dd)) rfl ?_
      refine Ev.iret dX2_nextTrack_51 rfl ?_
      rfl
    · exact absurd (((nI_leI (a := sz) (b := k) (by omega) (by omega)).mpr (by omega))) b1
  | succ n ih =>
    intro k hk
    refine Ev.sg hX sX2_nextTrack_13 (pc' := 18) (ls' := [some (.ref 6), some (.int (nI i)), some (.int w), some (.int (nI k))]) (st' := [.int (I 6 0), .int (nI k)]) (h' := (N, SH v T, I, L, Dd)) rfl ?_
    rw [hJ]
    refine Ev.icmp_ge (tgt := 50) dX2_nextTrack_18 (by decide) (fun b1 => ?_) (fun b1 => ?_)
    · exact absurd (((nI_leI (a := sz) (b := k) (by omega) (by omega)).mp b1)) (by omega)
    · refine Ev.sg hX sX2_nextTrack_21 (pc' := 26) (ls' := [some (.ref 6), some (.int (nI i)), some (.int w), some (.int (nI k))]) (st' := [.int (nI k), .ref 9]) (h' := (N, SH v T, I, L, Dd)) rfl ?_
      refine Ev.callV (As := [.int (nI k)]) (rest := []) dvX4_get mkX2_44 rfl rfl dX2_nextTrack_26 (c_Row_getN (d := d - 1) (h := (N, SH v T, I, L, Dd)) (r := 9) (a := 10) (n := 8) hX rfl rfl (by decide) (by omega)) ⟨by omega, by show 2 + 19 + 40 * _ ≤ 40 * _; omega⟩ (by decide) rfl (Nat.le_of_ble_eq_true rfl) (fun v9 h9 e9 => ?_) (fun E9 h9 e9 => nomatch e9)
      cases e9
      show Ev _ _ _ _ _ _ 29 [some (.ref 6), some (.int (nI i)), some (.int w), some (.int (nI k))] [.int (I 10 k)] (N, SH v T, I, L, Dd)
      refine Ev.sg hX sX2_nextTrack_29 (pc' := 30) (ls' := [some (.ref 6), some (.int (nI i)), some (.int w), some (.int (nI k))]) (st' := [.int w, .int (I 10 k)]) (h' := (N, SH v T, I, L, Dd)) rfl ?_
      refine Ev.icmp_ne (tgt := 44) dX2_nextTrack_30 (by decide) (fun b2 => ?_) (fun b2 => ?_)
      · refine Ev.sg hX sX2_nextTrack_44 (pc' := 13) (ls' := [some (.ref 6), some (.int (nI i)), some (.int w), some (.int ((nI k) + 1))]) (st' := []) (h' := (N, SH v T, I, L, Dd)) rfl ?_
        rw [nI_1, fnE, if_neg (fun z => b2 z.1)]
        exact ih (k + 1) (by omega)
      · refine Ev.sg hX sX2_nextTrack_33 (pc' := 36) (ls' := [some (.ref 6), some (.int (nI i)), some (.int w), some (.int (nI k))]) (st' := [.int (nI k), .int (nI i), .ref 6]) (h' := (N, SH v T, I, L, Dd)) rfl ?_
        refine Ev.callV (As := [.int (nI i), .int (nI k)]) (rest := []) dvX2_areJoined mkX2_64 rfl rfl dX2_nextTrack_36 (c_areJoinedN (d := d - 1) (I := I) hX (by omega) hi (by omega)) ⟨by omega, by show 3 + 19 + 40 * _ ≤ 40 * _; omega⟩ (by decide) rfl (Nat.le_of_ble_eq_true rfl) (fun v9 h9 e9 => ?_) (fun E9 h9 e9 => nomatch e9)
        cases e9
        show Ev _ _ _ _ _ _ 39 [some (.ref 6), some (.int (nI i)), some (.int w), some (.int (nI k))] [.int (bi (I 8 (i * 8 + k) = 1))] (N, SH v T, I, L, Dd)
        refine Ev.if_eq (tgt := 44) dX2_nextTrack_39 (by decide) (fun b3 => ?_) (fun b3 => ?_)
        · refine Ev.sg hX sX2_nextTrack_44 (pc' := 13) (ls' := [some (.ref 6), some (.int (nI i)), some (.int w), some (.int ((nI k) + 1))]) (st' := []) (h' := (N, SH v T, I, L, Dd)) rfl ?_
          rw [nI_1, fnE, if_neg (fun z => bi_0.mp b3 z.2)]
          exact ih (k + 1) (by omega)
        · refine Ev.sg hX sX2_nextTrack_42 (pc' := 43) (ls' := [some (.ref 6), some (.int (nI i)), some (.int w), some (.int (nI k))]) (st' := [.int (nI k)]) (h' := (N, SH v T, I, L, Dd)) rfl ?_
          refine Ev.iret dX2_nextTrack_43 rfl ?_
          rw [fnE, if_pos ⟨b2, bi_1.mp b3⟩]
def nextF (I : Nat → Nat → Int32) (sz i : Nat) : Nat := fnE (fun s => I 10 s = I 10 i - 1 ∧ I 8 (i * 8 + s) = 1) i sz 0
theorem c_next (hX : JXok X) (hd : 2 ≤ d) {i : Nat} (hi : i < 8) {sz : Nat} (hsz : sz ≤ 8) (hJ : I 6 0 = nI sz) : MT X d 0 0 jdX2_nextTrack [.ref 6, .int (nI i)] (N, SH v T, I, L, Dd) (fun R => R = .inl (some (.int (nI (nextF I sz i))), (N, SH v T, I, L, Dd))) := by
  refine MT.mk dvX2_nextTrack.1 ?_
  refine Ev.sg hX sX2_nextTrack_0 (pc' := 5) (ls' := [some (.ref 6), some (.int (nI i)), none, none]) (st' := [.int (nI i), .ref 9]) (h' := (N, SH v T, I, L, Dd)) rfl ?_
  refine Ev.callV (As := [.int (nI i)]) (rest := []) dvX4_get mkX2_44 rfl rfl dX2_nextTrack_5 (c_Row_getN (d := d - 1) (h := (N, SH v T, I, L, Dd)) (r := 9) (a := 10) (n := 8) hX rfl rfl (by decide) hi) ⟨by omega, by show 2 + 19 + 40 * _ ≤ 40 * _; omega⟩ (by decide) rfl (Nat.le_of_ble_eq_true rfl) (fun v9 h9 e9 => ?_) (fun E9 h9 e9 => nomatch e9)
  cases e9
  show Ev _ _ _ _ _ _ 8 [some (.ref 6), some (.int (nI i)), none, none] [.int (I 10 i)] (N, SH v T, I, L, Dd)
  refine Ev.sg hX sX2_nextTrack_8 (pc' := 13) (ls' := [some (.ref 6), some (.int (nI i)), some (.int ((I 10 i) - 1)), some (.int 0)]) (st' := []) (h' := (N, SH v T, I, L, Dd)) rfl ?_
  exact l_next hX hd hi hsz hJ sz 0 rfl
theorem fnE_lt {p : Nat → Prop} [DecidablePred p] {e m : Nat} (he : e < m) : ∀ n k, n + k ≤ m → fnE p e n k < m
  | 0, _, _ => he
  | n + 1, k, h => by
    rw [fnE]
    split
    · omega
    · exact fnE_lt he n (k + 1) (by omega)
theorem l_route (hX : JXok X) (hd : 3 ≤ d) {i j : Nat} (hi : i < 8) (hj : j < 8) {q : Nat} (hq : q < 100) {sz : Nat} (hsz : sz ≤ 8) (hJ : I 6 0 = nI sz) : ∀ (n k : Nat) (c : Nat), (n + k = q ∧ c < 8) → Ev X (jm jdX2_trackOnRoute) d 0 0 (fun R => R = .inl (some (.int (nI (fo (fun _ c => nextF I sz c) n k c))), (N, SH v T, I, L, Dd))) 11 [some (.ref 6), some (.int (nI i)), some (.int (nI j)), some (.int (nI q)), some (.int (nI c)), some (.int (nI k))] [] (N, SH v T, I, L, Dd) := by
  intro n
  induction n with
  | zero =>
    intro k c hk
    obtain ⟨hk, hc⟩ := hk
    refine Ev.sg hX sX2_trackOnRoute_11 (pc' := 14) (ls' := [some (.ref 6), some (.int (nI i)), some (.int (nI j)), some (.int (nI q)), some (.int (nI c)), some (.int (nI k))]) (st' := [.int (nI q), .int (nI k)]) (h' := (N, SH v T, I, L, Dd)) rfl ?_
    refine Ev.icmp_ge (tgt := 31) dX2_trackOnRoute_14 (by decide) (fun b1 => ?_) (fun b1 => ?_)
    · refine Ev.sg hX sX2_trackOnRoute_31 (pc' := 33) (ls' := [some (.ref 6), some (.int (nI i)), some (.int (nI j)), some (.int (nI q)), some (.int (nI c)), some (.int (nI k))]) (st' := [.int (nI c)]) (h' := (N, SH v T, I, L, Dd)) rfl ?_
      refine Ev.iret dX2_trackOnRoute_33 rfl ?_
      rfl
    · exact absurd (((nI_leI (a := q) (b := k) (by omega) (by omega)).mpr (by omega))) b1
  | succ n ih =>
    intro k c hk
    obtain ⟨hk, hc⟩ := hk
    refine Ev.sg hX sX2_trackOnRoute_11 (pc' := 14) (ls' := [some (.ref 6), some (.int (nI i)), some (.int (nI j)), some (.int (nI q)), some (.int (nI c)), some (.int (nI k))]) (st' := [.int (nI q), .int (nI k)]) (h' := (N, SH v T, I, L, Dd)) rfl ?_
    refine Ev.icmp_ge (tgt := 31) dX2_trackOnRoute_14 (by decide) (fun b1 => ?_) (fun b1 => ?_)
    · exact absurd (((nI_leI (a := q) (b := k) (by omega) (by omega)).mp b1)) (by omega)
    · refine Ev.sg hX sX2_trackOnRoute_17 (pc' := 20) (ls' := [some (.ref 6), some (.int (nI i)), some (.int (nI j)), some (.int (nI q)), some (.int (nI c)), some (.int (nI k))]) (st' := [.int (nI c), .ref 6]) (h' := (N, SH v T, I, L, Dd)) rfl ?_
      refine Ev.callV (As := [.int (nI c)]) (rest := []) dvX2_nextTrack mkX2_58 rfl rfl dX2_trackOnRoute_20 (c_next (d := d - 1) (I := I) hX (by omega) hc hsz hJ) ⟨by omega, by show 4 + 19 + 40 * _ ≤ 40 * _; omega⟩ (by decide) rfl (Nat.le_of_ble_eq_true rfl) (fun v9 h9 e9 => ?_) (fun E9 h9 e9 => nomatch e9)
      cases e9
      show Ev _ _ _ _ _ _ 23 [some (.ref 6), some (.int (nI i)), some (.int (nI j)), some (.int (nI q)), some (.int (nI c)), some (.int (nI k))] [.int (nI (nextF I sz c))] (N, SH v T, I, L, Dd)
      refine Ev.sg hX sX2_trackOnRoute_23 (pc' := 11) (ls' := [some (.ref 6), some (.int (nI i)), some (.int (nI j)), some (.int (nI q)), some (.int (nI (nextF I sz c))), some (.int ((nI k) + 1))]) (st' := []) (h' := (N, SH v T, I, L, Dd)) rfl ?_
      rw [nI_1, fo]
      exact ih (k + 1) _ ⟨by omega, fnE_lt hc _ _ (by omega)⟩
def routeF (I : Nat → Nat → Int32) (sz i j q : Nat) : Nat := fo (fun _ c => nextF (bfsI I sz j) sz c) q 0 i
theorem c_route (hX : JXok X) (hd : 3 ≤ d) {i j : Nat} (hi : i < 8) (hj : j < 8) {q : Nat} (hq : q < 100) {sz : Nat} (hsz : sz ≤ 8) (hJ : I 6 0 = nI sz) : MT X d 0 0 jdX2_trackOnRoute [.ref 6, .int (nI i), .int (nI j), .int (nI q)] (N, SH v T, I, L, Dd) (fun R => R = .inl (some (.int (nI (routeF I sz i j q))), (N, SH v T, bfsI I sz j, L, Dd))) := by
  refine MT.mk dvX2_trackOnRoute.1 ?_
  refine Ev.sg hX sX2_trackOnRoute_0 (pc' := 2) (ls' := [some (.ref 6), some (.int (nI i)), some (.int (nI j)), some (.int (nI q)), none, none]) (st' := [.int (nI j), .ref 6]) (h' := (N, SH v T, I, L, Dd)) rfl ?_
  refine Ev.callV (As := [.int (nI j)]) (rest := []) dvX2_search mkX2_52 rfl rfl dX2_trackOnRoute_2 (c_search (d := d - 1) (I := I) hX (by omega) hj hsz hJ) ⟨by omega, by show 6 + 19 + 40 * _ ≤ 40 * _; omega⟩ (by decide) rfl (Nat.le_of_ble_eq_true rfl) (fun v9 h9 e9 => ?_) (fun E9 h9 e9 => nomatch e9)
  cases e9
  show Ev _ _ _ _ _ _ 5 [some (.ref 6), some (.int (nI i)), some (.int (nI j)), some (.int (nI q)), none, none] [] (N, SH v T, bfsI I sz j, L, Dd)
  refine Ev.sg hX sX2_trackOnRoute_5 (pc' := 11) (ls' := [some (.ref 6), some (.int (nI i)), some (.int (nI j)), some (.int (nI q)), some (.int (nI i)), some (.int 0)]) (st' := []) (h' := (N, SH v T, bfsI I sz j, L, Dd)) rfl ?_
  exact l_route hX hd hi hj hq hsz (by rw [bfsI_6]; exact hJ) q 0 i ⟨rfl, hi⟩
theorem l_way_in (hX : JXok X) (hd : 2 ≤ d) {p : Nat} (hp : p < 8) {sz : Nat} (hsz : sz ≤ 8) (hJ : J 6 0 = nI sz) : ∀ (n k : Nat), n + k = sz → (alD (fun s => J 10 s = J 14 (p * 8 + s)) n k = 1 → Ev X (jm jdX2_waysAgree) d 0 0 Q 60 [some (.ref 6), some (.int (nI p)), some (.int (nI sz))] [] (N, SH v T, J, L, Dd)) → (alD (fun s => J 10 s = J 14 (p * 8 + s)) n k = 0 → Q (.inl (some (.int (0)), (N, SH v T, J, L, Dd)))) → Ev X (jm jdX2_waysAgree) d 0 0 Q 21 [some (.ref 6), some (.int (nI p)), some (.int (nI k))] [] (N, SH v T, J, L, Dd) := by
  intro n
  induction n with
  | zero =>
    intro k hk kk kz
    refine Ev.sg hX sX2_waysAgree_21 (pc' := 26) (ls' := [some (.ref 6), some (.int (nI p)), some (.int (nI k))]) (st' := [.int (J 6 0), .int (nI k)]) (h' := (N, SH v T, J, L, Dd)) rfl ?_
    rw [hJ]
    refine Ev.icmp_ge (tgt := 60) dX2_waysAgree_26 (by decide) (fun b1 => ?_) (fun b1 => ?_)
    · obtain rfl : k = sz := by omega
      exact kk rfl
    · exact absurd (((nI_leI (a := sz) (b := k) (by omega) (by omega)).mpr (by omega))) b1
  | succ n ih =>
    intro k hk kk kz
    refine Ev.sg hX sX2_waysAgree_21 (pc' := 26) (ls' := [some (.ref 6), some (.int (nI p)), some (.int (nI k))]) (st' := [.int (J 6 0), .int (nI k)]) (h' := (N, SH v T, J, L, Dd)) rfl ?_
    rw [hJ]
    refine Ev.icmp_ge (tgt := 60) dX2_waysAgree_26 (by decide) (fun b1 => ?_) (fun b1 => ?_)
    · exact absurd (((nI_leI (a := sz) (b := k) (by omega) (by omega)).mp b1)) (by omega)
    · refine Ev.sg hX sX2_waysAgree_29 (pc' := 34) (ls' := [some (.ref 6), some (.int (nI p)), some (.int (nI k))]) (st' := [.int (nI k), .ref 9]) (h' := (N, SH v T, J, L, Dd)) rfl ?_
      refine Ev.callV (As := [.int (nI k)]) (rest := []) dvX4_get mkX2_44 rfl rfl dX2_waysAgree_34 (c_Row_getN (d := d - 1) (h := (N, SH v T, J, L, Dd)) (r := 9) (a := 10) (n := 8) hX rfl rfl (by decide) (by omega)) ⟨by omega, by show 2 + 19 + 40 * _ ≤ 40 * _; omega⟩ (by decide) rfl (Nat.le_of_ble_eq_true rfl) (fun v9 h9 e9 => ?_) (fun E9 h9 e9 => nomatch e9)
      cases e9
      show Ev _ _ _ _ _ _ 37 [some (.ref 6), some (.int (nI p)), some (.int (nI k))] [.int (J 10 k)] (N, SH v T, J, L, Dd)
      refine Ev.sg hX sX2_waysAgree_37 (pc' := 43) (ls' := [some (.ref 6), some (.int (nI p)), some (.int (nI k))]) (st' := [.int (nI k), .int (nI p), .ref 13, .int (J 10 k)]) (h' := (N, SH v T, J, L, Dd)) rfl ?_
      refine Ev.callS (As := [.int (nI p), .int (nI k)]) (rest := [.ref 13, .int (J 10 k)]) dsX2_cell mkX2_40 dX2_waysAgree_43 (c_cell (d := d - 1) hX) ⟨by omega, by show 2 + 19 + 40 * _ ≤ 40 * _; omega⟩ (by decide) rfl (Nat.le_of_ble_eq_true rfl) (fun v9 h9 e9 => ?_) (fun E9 h9 e9 => nomatch e9)
      cases e9
      show Ev _ _ _ _ _ _ 46 [some (.ref 6), some (.int (nI p)), some (.int (nI k))] [.int ((nI p) * 8 + (nI k)), .ref 13, .int (J 10 k)] (N, SH v T, J, L, Dd)
      refine Ev.callV (As := [.int ((nI p) * 8 + (nI k))]) (rest := [.int (J 10 k)]) dvX4_get mkX2_44 rfl rfl dX2_waysAgree_46 (c_Row_getE (d := d - 1) (h := (N, SH v T, J, L, Dd)) (r := 13) (a := 14) (n := 64) hX rfl rfl (by decide) (by omega) cix) ⟨by omega, by show 2 + 19 + 40 * _ ≤ 40 * _; omega⟩ (by decide) rfl (Nat.le_of_ble_eq_true rfl) (fun v9 h9 e9 => ?_) (fun E9 h9 e9 => nomatch e9)
      cases e9
      show Ev _ _ _ _ _ _ 49 [some (.ref 6), some (.int (nI p)), some (.int (nI k))] [.int (J 14 (p * 8 + k)), .int (J 10 k)] (N, SH v T, J, L, Dd)
      refine Ev.icmp_eq (tgt := 54) dX2_waysAgree_49 (by decide) (fun b2 => ?_) (fun b2 => ?_)
      · refine Ev.sg hX sX2_waysAgree_54 (pc' := 21) (ls' := [some (.ref 6), some (.int (nI p)), some (.int ((nI k) + 1))]) (st' := []) (h' := (N, SH v T, J, L, Dd)) rfl ?_
        rw [nI_1]
        exact ih (k + 1) (by omega) (fun z => kk (by rw [alD, if_pos b2]; exact z)) (fun z => kz (by rw [alD, if_pos b2]; exact z))
      · refine Ev.sg hX sX2_waysAgree_52 (pc' := 53) (ls' := [some (.ref 6), some (.int (nI p)), some (.int (nI k))]) (st' := [.int 0]) (h' := (N, SH v T, J, L, Dd)) rfl ?_
        refine Ev.zret dX2_waysAgree_53 rfl ?_ ?_
        · rfl
        exact kz (by rw [alD, if_neg b2])
theorem alD_01 {p : Nat → Prop} [DecidablePred p] : ∀ n k, alD p n k = 1 ∨ alD p n k = 0
  | 0, _ => Or.inl rfl
  | n + 1, k => by
    rw [alD]
    split
    · exact alD_01 n (k + 1)
    · exact Or.inr rfl
def wayF (sz : Nat) : Nat → Nat → (Nat → Nat → Int32) → Int32 × (Nat → Nat → Int32)
  | 0, _, J => (1, J)
  | n + 1, f, J => if alD (fun s => bfsI J sz f 10 s = bfsI J sz f 14 (f * 8 + s)) sz 0 = 1 then wayF sz n (f + 1) (bfsI J sz f) else (0, bfsI J sz f)
theorem l_way (hX : JXok X) (hd : 3 ≤ d) {sz : Nat} (hsz : sz ≤ 8) : ∀ (n k : Nat) (J : Nat → Nat → Int32), (n + k = sz ∧ J 6 0 = nI sz) → Ev X (jm jdX2_waysAgree) d 0 0 (fun R => R = .inl (some (.int ((wayF sz n k J).1)), (N, SH v T, (wayF sz n k J).2, L, Dd))) 6 [some (.ref 6), some (.int (nI k)), none] [] (N, SH v T, J, L, Dd) := by
  intro n
  induction n with
  | zero =>
    intro k J hk
    obtain ⟨hk, hJ⟩ := hk
    refine Ev.sg hX sX2_waysAgree_6 (pc' := 11) (ls' := [some (.ref 6), some (.int (nI k)), none]) (st' := [.int (J 6 0), .int (nI k)]) (h' := (N, SH v T, J, L, Dd)) rfl ?_
    rw [hJ]
    refine Ev.icmp_ge (tgt := 66) dX2_waysAgree_11 (by decide) (fun b1 => ?_) (fun b1 => ?_)
    · refine Ev.sg hX sX2_waysAgree_66 (pc' := 67) (ls' := [some (.ref 6), some (.int (nI k)), none]) (st' := [.int 1]) (h' := (N, SH v T, J, L, Dd)) rfl ?_
      refine Ev.zret dX2_waysAgree_67 rfl ?_ ?_
      · rfl
      rfl
    · exact absurd (((nI_leI (a := sz) (b := k) (by omega) (by omega)).mpr (by omega))) b1
  | succ n ih =>
    intro k J hk
    obtain ⟨hk, hJ⟩ := hk
    refine Ev.sg hX sX2_waysAgree_6 (pc' := 11) (ls' := [some (.ref 6), some (.int (nI k)), none]) (st' := [.int (J 6 0), .int (nI k)]) (h' := (N, SH v T, J, L, Dd)) rfl ?_
    rw [hJ]
    refine Ev.icmp_ge (tgt := 66) dX2_waysAgree_11 (by decide) (fun b1 => ?_) (fun b1 => ?_)
    · exact absurd (((nI_leI (a := sz) (b := k) (by omega) (by omega)).mp b1)) (by omega)
    · refine Ev.sg hX sX2_waysAgree_14 (pc' := 16) (ls' := [some (.ref 6), some (.int (nI k)), none]) (st' := [.int (nI k), .ref 6]) (h' := (N, SH v T, J, L, Dd)) rfl ?_
      refine Ev.callV (As := [.int (nI k)]) (rest := []) dvX2_search mkX2_52 rfl rfl dX2_waysAgree_16 (c_search (d := d - 1) (I := J) hX (by omega) (by omega) hsz hJ) ⟨by omega, by show 6 + 19 + 40 * _ ≤ 40 * _; omega⟩ (by decide) rfl (Nat.le_of_ble_eq_true rfl) (fun v9 h9 e9 => ?_) (fun E9 h9 e9 => nomatch e9)
      cases e9
      show Ev _ _ _ _ _ _ 19 [some (.ref 6), some (.int (nI k)), none] [] (N, SH v T, bfsI J sz k, L, Dd)
      refine Ev.sg hX sX2_waysAgree_19 (pc' := 21) (ls' := [some (.ref 6), some (.int (nI k)), some (.int 0)]) (st' := []) (h' := (N, SH v T, bfsI J sz k, L, Dd)) rfl ?_
      refine l_way_in hX (by omega) (by omega) hsz (by rw [bfsI_6]; exact hJ) sz 0 rfl (fun z9 => ?_) (fun z9 => by rw [wayF, if_neg (by rw [z9]; decide)])
      refine Ev.sg hX sX2_waysAgree_60 (pc' := 6) (ls' := [some (.ref 6), some (.int ((nI k) + 1)), some (.int (nI sz))]) (st' := []) (h' := (N, SH v T, bfsI J sz k, L, Dd)) rfl ?_
      rw [nI_1, wayF, if_pos z9]
      exact Ev.drop 2 (ih (k + 1) _ ⟨by omega, by rw [bfsI_6]; exact hJ⟩)
theorem c_waysAgree (hX : JXok X) (hd : 3 ≤ d) {sz : Nat} (hsz : sz ≤ 8) (hJ : I 6 0 = nI sz) : MT X d 0 0 jdX2_waysAgree [.ref 6] (N, SH v T, I, L, Dd) (fun R => R = .inl (some (.int ((wayF sz sz 0 (matI I sz)).1)), (N, SH v T, (wayF sz sz 0 (matI I sz)).2, L, Dd))) := by
  refine MT.mk dvX2_waysAgree.1 ?_
  refine Ev.sg hX sX2_waysAgree_0 (pc' := 1) (ls' := [some (.ref 6), none, none]) (st' := [.ref 6]) (h' := (N, SH v T, I, L, Dd)) rfl ?_
  refine Ev.callV (As := []) (rest := []) dvX2_fillMatrix mkX2_55 rfl rfl dX2_waysAgree_1 (c_fillMatrix (d := d - 1) (I := I) hX (by omega) hsz hJ) ⟨by omega, by show 4 + 19 + 40 * _ ≤ 40 * _; omega⟩ (by decide) rfl (Nat.le_of_ble_eq_true rfl) (fun v9 h9 e9 => ?_) (fun E9 h9 e9 => nomatch e9)
  cases e9
  show Ev _ _ _ _ _ _ 4 [some (.ref 6), none, none] [] (N, SH v T, matI I sz, L, Dd)
  refine Ev.sg hX sX2_waysAgree_4 (pc' := 6) (ls' := [some (.ref 6), some (.int 0), none]) (st' := []) (h' := (N, SH v T, matI I sz, L, Dd)) rfl ?_
  exact l_way hX hd hsz sz 0 _ ⟨rfl, by rw [matI_6]; exact hJ⟩
end NETS
