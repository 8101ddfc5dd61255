/-! reading a program: the object 388 -/
abbrev PS : Type := Nat × Nat × (Nat → Int32) × Nat × (Nat → Int32)
def PI (I : Nat → Nat → Int32) (q : Nat) (s : PS) : Nat → Nat → Int32 := fun a j => if a = 388 then (if j = 5 then nI s.1 else if j = 6 then nI s.2.1 else if j = 2 then nI s.2.2.2.1 else if j = 1 then nI q else I 388 j) else if a = 393 then s.2.2.1 j else if a = 391 then s.2.2.2.2 j else I a j
def upV (V : Nat → Int32) (k : Nat) (x : Int32) : Nat → Int32 := fun j => if j = k then x else V j
section PIL
variable {I : Nat → Nat → Int32} {q p vt ct x9 : Nat} {V K : Nat → Int32} {x : Int32}
theorem PI_at : up2 (PI I q (p, vt, V, ct, K)) 388 5 (nI x9) = PI I q (x9, vt, V, ct, K) := by
  funext a j
  unfold up2 PI
  by_cases ha : a = 388
  · by_cases hj : j = 5 <;> simp [ha, hj]
  · simp [ha]
theorem PI_vt : up2 (PI I q (p, vt, V, ct, K)) 388 6 (nI x9) = PI I q (p, x9, V, ct, K) := by
  funext a j
  unfold up2 PI
  by_cases ha : a = 388
  · by_cases hj : j = 6
    · simp [ha, hj]
    · by_cases hj5 : j = 5 <;> simp [ha, hj, hj5]
  · simp [ha]
theorem PI_ct : up2 (PI I q (p, vt, V, ct, K)) 388 2 (nI x9) = PI I q (p, vt, V, x9, K) := by
  funext a j
  unfold up2 PI
  by_cases ha : a = 388
  · by_cases hj : j = 2
    · simp [ha, hj]
    · by_cases hj5 : j = 5
      · simp [ha, hj5]
      · by_cases hj6 : j = 6 <;> simp [ha, hj, hj5, hj6]
  · simp [ha]
theorem PI_V : up2 (PI I q (p, vt, V, ct, K)) 393 x9 x = PI I q (p, vt, upV V x9 x, ct, K) := by
  funext a j
  unfold up2 PI upV
  by_cases ha : a = 393
  · by_cases hj : j = x9 <;> simp [ha, hj]
  · simp [ha]
theorem PI_K : up2 (PI I q (p, vt, V, ct, K)) 391 x9 x = PI I q (p, vt, V, ct, upV K x9 x) := by
  funext a j
  unfold up2 PI upV
  by_cases ha : a = 391
  · by_cases hj : j = x9 <;> simp [ha, hj]
  · simp [ha]
end PIL
/-- the sign at a place -/
def chA (tx : Nat → Int32) (q p : Nat) : Int32 := if p < q then tx p else -1
def dgF (tx : Nat → Int32) (q : Nat) : Nat → Nat → Int32 → Nat × Int32
  | 0, p, a => (p, a)
  | n + 1, p, a => if 48 ≤ chA tx q p ∧ chA tx q p ≤ 57 then dgF tx q n (p + 1) (a * 10 + chA tx q p - 48) else (p, a)
abbrev RS : Type := Int32 × Nat × Nat × (Nat → Int32)
def numF (tx : Nat → Int32) (q ct n p vt : Nat) (V : Nat → Int32) : RS := (bi (p < (dgF tx q n p 0).1), (dgF tx q n p 0).1, vt + 1, upV V (ct * 5 + vt) (dgF tx q n p 0).2)
def partF (tx : Nat → Int32) (q ct : Nat) (c : Int32) (p vt : Nat) (V : Nat → Int32) : RS :=
  if c = 68 then numF tx q ct 1 p vt V else if c = 78 then numF tx q ct 2 p vt V else
  if c = 33 then (1, (if chA tx q p = 33 then p + 1 else p), vt + 1, upV V (ct * 5 + vt) (if chA tx q p = 33 then 1 else 0)) else
  if chA tx q p = c then (1, p + 1, vt, V) else (0, p, vt, V)
section PROG
variable {X : JX} {d N v : Nat} {T : Nat → Option JS} {I : Nat → Nat → Int32} {L : Nat → Nat → Int64} {Dd : Nat → Nat → UInt64} {q p vt ct : Nat} {V K : Nat → Int32} {c : Int32}
theorem c_signAt (hX : JXok X) (hd : 0 ≤ d) (hq : q ≤ 60) (hp : p ≤ 1000) : MT X d 0 0 jdX3_signAt [.ref 388, .int (nI p)] (N, SH v T, PI I q (p, vt, V, ct, K), L, Dd) (fun R => R = .inl (some (.int (chA (I 389) q p)), (N, SH v T, PI I q (p, vt, V, ct, K), L, Dd))) := by
  refine MT.mk dvX3_signAt.1 ?_
  refine Ev.sg hX sX3_signAt_0 (pc' := 1) (ls' := [some (.ref 388), some (.int (nI p))]) (st' := [.int (nI p)]) (h' := (N, SH v T, PI I q (p, vt, V, ct, K), L, Dd)) rfl ?_
  refine Ev.if_lt (tgt := 30) dX3_signAt_1 (by decide) (fun b1 => ?_) (fun b1 => ?_)
  · refine Ev.sg hX sX3_signAt_30 (pc' := 31) (ls' := [some (.ref 388), some (.int (nI p))]) (st' := [.int (-1)]) (h' := (N, SH v T, PI I q (p, vt, V, ct, K), L, Dd)) rfl ?_
    refine Ev.iret dX3_signAt_31 rfl ?_
    exact absurd b1 (nI_pos (by omega))
  · refine Ev.sg hX sX3_signAt_4 (pc' := 9) (ls' := [some (.ref 388), some (.int (nI p))]) (st' := [.int (nI q), .int (nI p)]) (h' := (N, SH v T, PI I q (p, vt, V, ct, K), L, Dd)) rfl ?_
    refine Ev.icmp_ge (tgt := 30) dX3_signAt_9 (by decide) (fun b2 => ?_) (fun b2 => ?_)
    · refine Ev.sg hX sX3_signAt_30 (pc' := 31) (ls' := [some (.ref 388), some (.int (nI p))]) (st' := [.int (-1)]) (h' := (N, SH v T, PI I q (p, vt, V, ct, K), L, Dd)) rfl ?_
      refine Ev.iret dX3_signAt_31 rfl ?_
      rw [chA, if_neg (by have := (nI_leI (a := q) (b := p) (by omega) (by omega)).mp b2; omega)]
    · refine Ev.sg hX sX3_signAt_12 (pc' := 18) (ls' := [some (.ref 388), some (.int (nI p))]) (st' := [.int 60, .int (nI p)]) (h' := (N, SH v T, PI I q (p, vt, V, ct, K), L, Dd)) rfl ?_
      refine Ev.icmp_ge (tgt := 30) dX3_signAt_18 (by decide) (fun b3 => ?_) (fun b3 => ?_)
      · refine Ev.sg hX sX3_signAt_30 (pc' := 31) (ls' := [some (.ref 388), some (.int (nI p))]) (st' := [.int (-1)]) (h' := (N, SH v T, PI I q (p, vt, V, ct, K), L, Dd)) rfl ?_
        refine Ev.iret dX3_signAt_31 rfl ?_
        exact absurd b3 (nI_geN (a := 60) (b := p) (by decide) (by have := mt (nI_leI (a := q) (b := p) (by omega) (by omega)).mpr b2; omega))
      · refine Ev.sg hX sX3_signAt_21 (pc' := 26) (ls' := [some (.ref 388), some (.int (nI p))]) (st' := [.int (nI p), .ref 389]) (h' := (N, SH v T, PI I q (p, vt, V, ct, K), L, Dd)) rfl ?_
        refine Ev.caldE (n := p) (N := 60) rfl rfl (by have := mt (nI_leI (a := q) (b := p) (by omega) (by omega)).mpr b2; omega) (by decide) dX3_signAt_26 ?_
        show Ev _ _ _ _ _ _ 27 [some (.ref 388), some (.int (nI p))] [.int (I 389 p)] (N, SH v T, PI I q (p, vt, V, ct, K), L, Dd)
        refine Ev.sg hX sX3_signAt_27 (pc' := 31) (ls' := [some (.ref 388), some (.int (nI p))]) (st' := [.int (I 389 p)]) (h' := (N, SH v T, PI I q (p, vt, V, ct, K), L, Dd)) rfl ?_
        refine Ev.iret dX3_signAt_31 rfl ?_
        rw [chA, if_pos (by have := mt (nI_leI (a := q) (b := p) (by omega) (by omega)).mpr b2; omega)]
theorem c_isDigit (hX : JXok X) {h : MH} : MT X d 0 0 jdX3_isDigit [.int c] h (fun R => R = .inl (some (.int (bi (48 ≤ c ∧ c ≤ 57))), h)) := by
  refine MT.mk dsX3_isDigit.1 ?_
  refine Ev.sg hX sX3_isDigit_0 (pc' := 3) (ls' := [some (.int c)]) (st' := [.int 48, .int c]) (h' := h) rfl ?_
  refine Ev.icmp_lt (tgt := 16) dX3_isDigit_3 (by decide) (fun b1 => ?_) (fun b1 => ?_)
  · refine Ev.sg hX sX3_isDigit_16 (pc' := 17) (ls' := [some (.int c)]) (st' := [.int 0]) (h' := h) rfl ?_
    refine Ev.zret dX3_isDigit_17 rfl ?_ ?_
    · rfl
    simp [bi, Int32.not_le.mpr b1]
  · refine Ev.sg hX sX3_isDigit_6 (pc' := 9) (ls' := [some (.int c)]) (st' := [.int 57, .int c]) (h' := h) rfl ?_
    refine Ev.icmp_gt (tgt := 16) dX3_isDigit_9 (by decide) (fun b2 => ?_) (fun b2 => ?_)
    · refine Ev.sg hX sX3_isDigit_16 (pc' := 17) (ls' := [some (.int c)]) (st' := [.int 0]) (h' := h) rfl ?_
      refine Ev.zret dX3_isDigit_17 rfl ?_ ?_
      · rfl
      simp [bi, Int32.not_lt.mp b1, Int32.not_le.mpr b2]
    · refine Ev.sg hX sX3_isDigit_12 (pc' := 17) (ls' := [some (.int c)]) (st' := [.int 1]) (h' := h) rfl ?_
      refine Ev.zret dX3_isDigit_17 rfl ?_ ?_
      · rfl
      simp [bi, Int32.not_lt.mp b1, Int32.not_lt.mp b2]
theorem c_readSign (hX : JXok X) (hd : 1 ≤ d) (hq : q ≤ 60) (hp : p ≤ 1000) : MT X d 0 0 jdX3_readSign [.ref 388, .int c] (N, SH v T, PI I q (p, vt, V, ct, K), L, Dd) (fun R => R = .inl (some (.int (if chA (I 389) q p = c then 1 else 0)), (N, SH v T, PI I q (if chA (I 389) q p = c then p + 1 else p, vt, V, ct, K), L, Dd))) := by
  refine MT.mk dvX3_readSign.1 ?_
  refine Ev.sg hX sX3_readSign_0 (pc' := 5) (ls' := [some (.ref 388), some (.int c)]) (st' := [.int (nI p), .ref 388]) (h' := (N, SH v T, PI I q (p, vt, V, ct, K), L, Dd)) rfl ?_
  refine Ev.callV (As := [.int (nI p)]) (rest := []) dvX3_signAt mkX3_45 rfl rfl dX3_readSign_5 (c_signAt (d := d - 1) (p := p) (vt := vt) (V := V) (ct := ct) (K := K) hX (Nat.zero_le _) hq (by omega)) ⟨by omega, by show 2 + 19 + 40 * _ ≤ 40 * _; omega⟩ (by decide) rfl (Nat.le_of_ble_eq_true rfl) (fun v9 h9 e9 => ?_) (fun E9 h9 e9 => nomatch e9)
  cases e9
  show Ev _ _ _ _ _ _ 8 [some (.ref 388), some (.int c)] [.int (chA (I 389) q p)] (N, SH v T, PI I q (p, vt, V, ct, K), L, Dd)
  refine Ev.sg hX sX3_readSign_8 (pc' := 9) (ls' := [some (.ref 388), some (.int c)]) (st' := [.int c, .int (chA (I 389) q p)]) (h' := (N, SH v T, PI I q (p, vt, V, ct, K), L, Dd)) rfl ?_
  refine Ev.icmp_eq (tgt := 14) dX3_readSign_9 (by decide) (fun b1 => ?_) (fun b1 => ?_)
  · refine Ev.sg hX sX3_readSign_14 (pc' := 25) (ls' := [some (.ref 388), some (.int c)]) (st' := [.int 1]) (h' := (N, SH v T, up2 (PI I q (p, vt, V, ct, K)) 388 5 ((nI p) + 1), L, Dd)) rfl ?_
    refine Ev.zret dX3_readSign_25 rfl ?_ ?_
    · rfl
    rw [nI_1, PI_at]; rw [if_pos b1, if_pos b1]
  · refine Ev.sg hX sX3_readSign_12 (pc' := 13) (ls' := [some (.ref 388), some (.int c)]) (st' := [.int 0]) (h' := (N, SH v T, PI I q (p, vt, V, ct, K), L, Dd)) rfl ?_
    refine Ev.zret dX3_readSign_13 rfl ?_ ?_
    · rfl
    rw [if_neg b1, if_neg b1]
theorem l_num (hX : JXok X) (hd : 2 ≤ d) {n : Nat} (hq : q ≤ 60) (hp : p ≤ 200) (hn9 : n ≤ 100) (hb : ct * 5 + vt < 40) : ∀ (r g : Nat) (a : Int32), g + r = n → Ev X (jm jdX3_readNumber) d 0 0 (fun R => R = .inl (some (.int (bi (p < (dgF (I 389) q r (p + g) a).1))), (N, SH v T, PI I q ((dgF (I 389) q r (p + g) a).1, ct * 5 + vt + 1, upV V (ct * 5 + vt) (dgF (I 389) q r (p + g) a).2, ct, K), L, Dd))) 4 [some (.ref 388), some (.int (nI n)), some (.int a), some (.int (nI g))] [] (N, SH v T, PI I q (p + g, ct * 5 + vt, V, ct, K), L, Dd) := by
  intro r
  induction r with
  | zero =>
    intro g a hg
    refine Ev.sg hX sX3_readNumber_4 (pc' := 6) (ls' := [some (.ref 388), some (.int (nI n)), some (.int a), some (.int (nI g))]) (st' := [.int (nI n), .int (nI g)]) (h' := (N, SH v T, PI I q (p + g, ct * 5 + vt, V, ct, K), L, Dd)) rfl ?_
    refine Ev.icmp_ge (tgt := 56) dX3_readNumber_6 (by decide) (fun b1 => ?_) (fun b1 => ?_)
    · refine Ev.sg hX sX3_readNumber_56 (pc' := 65) (ls' := [some (.ref 388), some (.int (nI n)), some (.int a), some (.int (nI g))]) (st' := [.int a, .int (nI (ct * 5 + vt)), .ref 392]) (h' := (N, SH v T, PI I q (p + g, ct * 5 + vt, V, ct, K), L, Dd)) rfl ?_
      refine Ev.callV (As := [.int (nI (ct * 5 + vt)), .int a]) (rest := []) dvX4_set mkX3_56 rfl rfl dX3_readNumber_65 (c_Row_setN (d := d - 1) (h := (N, SH v T, PI I q (p + g, ct * 5 + vt, V, ct, K), L, Dd)) (r := 392) (a := 393) (n := 40) (k := ct * 5 + vt) hX rfl rfl (by decide) hb) ⟨by omega, by show 3 + 19 + 40 * _ ≤ 40 * _; omega⟩ (by decide) rfl (Nat.le_of_ble_eq_true rfl) (fun v9 h9 e9 => ?_) (fun E9 h9 e9 => nomatch e9)
      cases e9
      show Ev _ _ _ _ _ _ 68 [some (.ref 388), some (.int (nI n)), some (.int a), some (.int (nI g))] [] (N, SH v T, up2 (PI I q (p + g, ct * 5 + vt, V, ct, K)) 393 (ct * 5 + vt) a, L, Dd)
      rw [PI_V]
      refine Ev.sg hX sX3_readNumber_68 (pc' := 79) (ls' := [some (.ref 388), some (.int (nI n)), some (.int a), some (.int (nI g))]) (st' := [.int (nI g)]) (h' := (N, SH v T, up2 (PI I q (p + g, ct * 5 + vt, upV V (ct * 5 + vt) a, ct, K)) 388 6 ((nI (ct * 5 + vt)) + 1), L, Dd)) rfl ?_
      rw [nI_1, PI_vt]
      refine Ev.if_le (tgt := 86) dX3_readNumber_79 (by decide) (fun b2 => ?_) (fun b2 => ?_)
      · refine Ev.sg hX sX3_readNumber_86 (pc' := 87) (ls' := [some (.ref 388), some (.int (nI n)), some (.int a), some (.int (nI g))]) (st' := [.int 0]) (h' := (N, SH v T, PI I q (p + g, ct * 5 + vt + 1, upV V (ct * 5 + vt) a, ct, K), L, Dd)) rfl ?_
        refine Ev.zret dX3_readNumber_87 rfl ?_ ?_
        · rfl
        (rw [dgF]; have hg0 : g = 0 := (by have := (nI_leI (a := g) (b := 0) (by omega) (by decide)).mp b2; omega); simp [bi, hg0])
      · refine Ev.sg hX sX3_readNumber_82 (pc' := 87) (ls' := [some (.ref 388), some (.int (nI n)), some (.int a), some (.int (nI g))]) (st' := [.int 1]) (h' := (N, SH v T, PI I q (p + g, ct * 5 + vt + 1, upV V (ct * 5 + vt) a, ct, K), L, Dd)) rfl ?_
        refine Ev.zret dX3_readNumber_87 rfl ?_ ?_
        · rfl
        (rw [dgF]; have hg0 : 0 < g := (by have := mt (nI_leI (a := g) (b := 0) (by omega) (by decide)).mpr b2; omega); simp [bi, hg0])
    · exact absurd ((nI_leI (a := n) (b := g) (by omega) (by omega)).mpr (by omega)) b1
  | succ r ih =>
    intro g a hg
    refine Ev.sg hX sX3_readNumber_4 (pc' := 6) (ls' := [some (.ref 388), some (.int (nI n)), some (.int a), some (.int (nI g))]) (st' := [.int (nI n), .int (nI g)]) (h' := (N, SH v T, PI I q (p + g, ct * 5 + vt, V, ct, K), L, Dd)) rfl ?_
    refine Ev.icmp_ge (tgt := 56) dX3_readNumber_6 (by decide) (fun b1 => ?_) (fun b1 => ?_)
    · exact absurd ((nI_leI (a := n) (b := g) (by omega) (by omega)).mp b1) (by omega)
    · refine Ev.sg hX sX3_readNumber_9 (pc' := 14) (ls' := [some (.ref 388), some (.int (nI n)), some (.int a), some (.int (nI g))]) (st' := [.int (nI (p + g)), .ref 388]) (h' := (N, SH v T, PI I q (p + g, ct * 5 + vt, V, ct, K), L, Dd)) rfl ?_
      refine Ev.callV (As := [.int (nI (p + g))]) (rest := []) dvX3_signAt mkX3_45 rfl rfl dX3_readNumber_14 (c_signAt (d := d - 1) (p := (p + g)) (vt := ct * 5 + vt) (V := V) (ct := ct) (K := K) hX (Nat.zero_le _) hq (by omega)) ⟨by omega, by show 2 + 19 + 40 * _ ≤ 40 * _; omega⟩ (by decide) rfl (Nat.le_of_ble_eq_true rfl) (fun v9 h9 e9 => ?_) (fun E9 h9 e9 => nomatch e9)
      cases e9
      show Ev _ _ _ _ _ _ 17 [some (.ref 388), some (.int (nI n)), some (.int a), some (.int (nI g))] [.int (chA (I 389) q (p + g))] (N, SH v T, PI I q (p + g, ct * 5 + vt, V, ct, K), L, Dd)
      refine Ev.callS (As := [.int (chA (I 389) q (p + g))]) (rest := []) dsX3_isDigit mkX3_103 dX3_readNumber_17 (c_isDigit (d := d - 1) hX) ⟨by omega, by show 1 + 19 + 40 * _ ≤ 40 * _; omega⟩ (by decide) rfl (Nat.le_of_ble_eq_true rfl) (fun v9 h9 e9 => ?_) (fun E9 h9 e9 => nomatch e9)
      cases e9
      show Ev _ _ _ _ _ _ 20 [some (.ref 388), some (.int (nI n)), some (.int a), some (.int (nI g))] [.int (bi (48 ≤ (chA (I 389) q (p + g)) ∧ (chA (I 389) q (p + g)) ≤ 57))] (N, SH v T, PI I q (p + g, ct * 5 + vt, V, ct, K), L, Dd)
      refine Ev.if_eq (tgt := 56) dX3_readNumber_20 (by decide) (fun b2 => ?_) (fun b2 => ?_)
      · refine Ev.sg hX sX3_readNumber_56 (pc' := 65) (ls' := [some (.ref 388), some (.int (nI n)), some (.int a), some (.int (nI g))]) (st' := [.int a, .int (nI (ct * 5 + vt)), .ref 392]) (h' := (N, SH v T, PI I q (p + g, ct * 5 + vt, V, ct, K), L, Dd)) rfl ?_
        refine Ev.callV (As := [.int (nI (ct * 5 + vt)), .int a]) (rest := []) dvX4_set mkX3_56 rfl rfl dX3_readNumber_65 (c_Row_setN (d := d - 1) (h := (N, SH v T, PI I q (p + g, ct * 5 + vt, V, ct, K), L, Dd)) (r := 392) (a := 393) (n := 40) (k := ct * 5 + vt) hX rfl rfl (by decide) hb) ⟨by omega, by show 3 + 19 + 40 * _ ≤ 40 * _; omega⟩ (by decide) rfl (Nat.le_of_ble_eq_true rfl) (fun v9 h9 e9 => ?_) (fun E9 h9 e9 => nomatch e9)
        cases e9
        show Ev _ _ _ _ _ _ 68 [some (.ref 388), some (.int (nI n)), some (.int a), some (.int (nI g))] [] (N, SH v T, up2 (PI I q (p + g, ct * 5 + vt, V, ct, K)) 393 (ct * 5 + vt) a, L, Dd)
        rw [PI_V]
        refine Ev.sg hX sX3_readNumber_68 (pc' := 79) (ls' := [some (.ref 388), some (.int (nI n)), some (.int a), some (.int (nI g))]) (st' := [.int (nI g)]) (h' := (N, SH v T, up2 (PI I q (p + g, ct * 5 + vt, upV V (ct * 5 + vt) a, ct, K)) 388 6 ((nI (ct * 5 + vt)) + 1), L, Dd)) rfl ?_
        rw [nI_1, PI_vt]
        refine Ev.if_le (tgt := 86) dX3_readNumber_79 (by decide) (fun b3 => ?_) (fun b3 => ?_)
        · refine Ev.sg hX sX3_readNumber_86 (pc' := 87) (ls' := [some (.ref 388), some (.int (nI n)), some (.int a), some (.int (nI g))]) (st' := [.int 0]) (h' := (N, SH v T, PI I q (p + g, ct * 5 + vt + 1, upV V (ct * 5 + vt) a, ct, K), L, Dd)) rfl ?_
          refine Ev.zret dX3_readNumber_87 rfl ?_ ?_
          · rfl
          (rw [dgF, if_neg (bi_0.mp b2)]; have hg0 : g = 0 := (by have := (nI_leI (a := g) (b := 0) (by omega) (by decide)).mp b3; omega); simp [bi, hg0])
        · refine Ev.sg hX sX3_readNumber_82 (pc' := 87) (ls' := [some (.ref 388), some (.int (nI n)), some (.int a), some (.int (nI g))]) (st' := [.int 1]) (h' := (N, SH v T, PI I q (p + g, ct * 5 + vt + 1, upV V (ct * 5 + vt) a, ct, K), L, Dd)) rfl ?_
          refine Ev.zret dX3_readNumber_87 rfl ?_ ?_
          · rfl
          (rw [dgF, if_neg (bi_0.mp b2)]; have hg0 : 0 < g := (by have := mt (nI_leI (a := g) (b := 0) (by omega) (by decide)).mpr b3; omega); simp [bi, hg0])
      · refine Ev.sg hX sX3_readNumber_23 (pc' := 32) (ls' := [some (.ref 388), some (.int (nI n)), some (.int a), some (.int (nI g))]) (st' := [.int (nI (p + g)), .ref 388, .int (a * 10)]) (h' := (N, SH v T, PI I q (p + g, ct * 5 + vt, V, ct, K), L, Dd)) rfl ?_
        refine Ev.callV (As := [.int (nI (p + g))]) (rest := [.int (a * 10)]) dvX3_signAt mkX3_45 rfl rfl dX3_readNumber_32 (c_signAt (d := d - 1) (p := (p + g)) (vt := ct * 5 + vt) (V := V) (ct := ct) (K := K) hX (Nat.zero_le _) hq (by omega)) ⟨by omega, by show 2 + 19 + 40 * _ ≤ 40 * _; omega⟩ (by decide) rfl (Nat.le_of_ble_eq_true rfl) (fun v9 h9 e9 => ?_) (fun E9 h9 e9 => nomatch e9)
        cases e9
        show Ev _ _ _ _ _ _ 35 [some (.ref 388), some (.int (nI n)), some (.int a), some (.int (nI g))] [.int (chA (I 389) q (p + g)), .int (a * 10)] (N, SH v T, PI I q (p + g, ct * 5 + vt, V, ct, K), L, Dd)
        refine Ev.sg hX sX3_readNumber_35 (pc' := 4) (ls' := [some (.ref 388), some (.int (nI n)), some (.int (((a * 10) + (chA (I 389) q (p + g))) - 48)), some (.int ((nI g) + 1))]) (st' := []) (h' := (N, SH v T, up2 (PI I q (p + g, ct * 5 + vt, V, ct, K)) 388 5 ((nI (p + g)) + 1), L, Dd)) rfl ?_
        rw [nI_1, nI_1, PI_at, dgF, if_pos (bi_1.mp b2)]
        have e8 := ih (g + 1) (a * 10 + chA (I 389) q (p + g) - 48) (by omega)
        rw [← Nat.add_assoc] at e8
        exact e8
theorem c_readNumber (hX : JXok X) (hd : 2 ≤ d) {n : Nat} (hq : q ≤ 60) (hp : p ≤ 200) (hn9 : n ≤ 100) (hb : ct * 5 + vt < 40) : MT X d 0 0 jdX3_readNumber [.ref 388, .int (nI n)] (N, SH v T, PI I q (p, ct * 5 + vt, V, ct, K), L, Dd) (fun R => R = .inl (some (.int ((numF (I 389) q ct n p vt V).1)), (N, SH v T, PI I q ((numF (I 389) q ct n p vt V).2.1, ct * 5 + (numF (I 389) q ct n p vt V).2.2.1, (numF (I 389) q ct n p vt V).2.2.2, ct, K), L, Dd))) := by
  refine MT.mk dvX3_readNumber.1 ?_
  refine Ev.sg hX sX3_readNumber_0 (pc' := 4) (ls' := [some (.ref 388), some (.int (nI n)), some (.int 0), some (.int 0)]) (st' := []) (h' := (N, SH v T, PI I q (p, ct * 5 + vt, V, ct, K), L, Dd)) rfl ?_
  exact l_num hX hd hq hp hn9 hb n 0 0 (Nat.zero_add n)
theorem c_readPart (hX : JXok X) (hd : 3 ≤ d) (hq : q ≤ 60) (hp : p ≤ 200) (hb : ct * 5 + vt < 40 ∨ ¬ (c = 68 ∨ c = 78 ∨ c = 33)) : MT X d 0 0 jdX3_readPart [.ref 388, .int c] (N, SH v T, PI I q (p, ct * 5 + vt, V, ct, K), L, Dd) (fun R => R = .inl (some (.int ((partF (I 389) q ct c p vt V).1)), (N, SH v T, PI I q ((partF (I 389) q ct c p vt V).2.1, ct * 5 + (partF (I 389) q ct c p vt V).2.2.1, (partF (I 389) q ct c p vt V).2.2.2, ct, K), L, Dd))) := by
  refine MT.mk dvX3_readPart.1 ?_
  refine Ev.sg hX sX3_readPart_0 (pc' := 3) (ls' := [some (.ref 388), some (.int c)]) (st' := [.int 68, .int c]) (h' := (N, SH v T, PI I q (p, ct * 5 + vt, V, ct, K), L, Dd)) rfl ?_
  refine Ev.icmp_ne (tgt := 12) dX3_readPart_3 (by decide) (fun b1 => ?_) (fun b1 => ?_)
  · refine Ev.sg hX sX3_readPart_12 (pc' := 15) (ls' := [some (.ref 388), some (.int c)]) (st' := [.int 78, .int c]) (h' := (N, SH v T, PI I q (p, ct * 5 + vt, V, ct, K), L, Dd)) rfl ?_
    refine Ev.icmp_ne (tgt := 24) dX3_readPart_15 (by decide) (fun b2 => ?_) (fun b2 => ?_)
    · refine Ev.sg hX sX3_readPart_24 (pc' := 27) (ls' := [some (.ref 388), some (.int c)]) (st' := [.int 33, .int c]) (h' := (N, SH v T, PI I q (p, ct * 5 + vt, V, ct, K), L, Dd)) rfl ?_
      refine Ev.icmp_ne (tgt := 67) dX3_readPart_27 (by decide) (fun b3 => ?_) (fun b3 => ?_)
      · refine Ev.sg hX sX3_readPart_67 (pc' := 69) (ls' := [some (.ref 388), some (.int c)]) (st' := [.int c, .ref 388]) (h' := (N, SH v T, PI I q (p, ct * 5 + vt, V, ct, K), L, Dd)) rfl ?_
        refine Ev.callV (As := [.int c]) (rest := []) dvX3_readSign mkX3_100 rfl rfl dX3_readPart_69 (c_readSign (d := d - 1) (p := p) (vt := ct * 5 + vt) (V := V) (ct := ct) (K := K) hX (by omega) hq (by omega)) ⟨by omega, by show 2 + 19 + 40 * _ ≤ 40 * _; omega⟩ (by decide) rfl (Nat.le_of_ble_eq_true rfl) (fun v9 h9 e9 => ?_) (fun E9 h9 e9 => nomatch e9)
        cases e9
        show Ev _ _ _ _ _ _ 72 [some (.ref 388), some (.int c)] [.int (if chA (I 389) q p = c then 1 else 0)] (N, SH v T, PI I q (if chA (I 389) q p = c then p + 1 else p, ct * 5 + vt, V, ct, K), L, Dd)
        refine Ev.zret dX3_readPart_72 rfl ?_ ?_
        · exact n01 (by split <;> simp)
        (by_cases e9 : chA (I 389) q p = c <;> simp [partF, b1, b2, b3, e9])
      · have hb : ct * 5 + vt < 40 := hb.resolve_right (fun z => z (Or.inr (Or.inr (b3))))
        refine Ev.sg hX sX3_readPart_30 (pc' := 41) (ls' := [some (.ref 388), some (.int c)]) (st' := [.int 33, .ref 388, .int (nI (ct * 5 + vt)), .ref 392]) (h' := (N, SH v T, PI I q (p, ct * 5 + vt, V, ct, K), L, Dd)) rfl ?_
        refine Ev.callV (As := [.int 33]) (rest := [.int (nI (ct * 5 + vt)), .ref 392]) dvX3_readSign mkX3_100 rfl rfl dX3_readPart_41 (c_readSign (d := d - 1) (p := p) (vt := ct * 5 + vt) (V := V) (ct := ct) (K := K) hX (by omega) hq (by omega)) ⟨by omega, by show 2 + 19 + 40 * _ ≤ 40 * _; omega⟩ (by decide) rfl (Nat.le_of_ble_eq_true rfl) (fun v9 h9 e9 => ?_) (fun E9 h9 e9 => nomatch e9)
        cases e9
        show Ev _ _ _ _ _ _ 44 [some (.ref 388), some (.int c)] [.int (if chA (I 389) q p = 33 then 1 else 0), .int (nI (ct * 5 + vt)), .ref 392] (N, SH v T, PI I q (if chA (I 389) q p = 33 then p + 1 else p, ct * 5 + vt, V, ct, K), L, Dd)
        refine Ev.if_eq (tgt := 51) dX3_readPart_44 (by decide) (fun b4 => ?_) (fun b4 => ?_)
        · refine Ev.sg hX sX3_readPart_51 (pc' := 52) (ls' := [some (.ref 388), some (.int c)]) (st' := [.int 0, .int (nI (ct * 5 + vt)), .ref 392]) (h' := (N, SH v T, PI I q (if chA (I 389) q p = 33 then p + 1 else p, ct * 5 + vt, V, ct, K), L, Dd)) rfl ?_
          refine Ev.callV (As := [.int (nI (ct * 5 + vt)), .int 0]) (rest := []) dvX4_set mkX3_56 rfl rfl dX3_readPart_52 (c_Row_setN (d := d - 1) (h := (N, SH v T, PI I q (if chA (I 389) q p = 33 then p + 1 else p, ct * 5 + vt, V, ct, K), L, Dd)) (r := 392) (a := 393) (n := 40) (k := ct * 5 + vt) hX rfl rfl (by decide) hb) ⟨by omega, by show 3 + 19 + 40 * _ ≤ 40 * _; omega⟩ (by decide) rfl (Nat.le_of_ble_eq_true rfl) (fun v9 h9 e9 => ?_) (fun E9 h9 e9 => nomatch e9)
          cases e9
          show Ev _ _ _ _ _ _ 55 [some (.ref 388), some (.int c)] [] (N, SH v T, up2 (PI I q (if chA (I 389) q p = 33 then p + 1 else p, ct * 5 + vt, V, ct, K)) 393 (ct * 5 + vt) 0, L, Dd)
          rw [PI_V]
          refine Ev.sg hX sX3_readPart_55 (pc' := 66) (ls' := [some (.ref 388), some (.int c)]) (st' := [.int 1]) (h' := (N, SH v T, up2 (PI I q (if chA (I 389) q p = 33 then p + 1 else p, ct * 5 + vt, upV V (ct * 5 + vt) 0, ct, K)) 388 6 ((nI (ct * 5 + vt)) + 1), L, Dd)) rfl ?_
          rw [nI_1, PI_vt, Nat.add_assoc (ct * 5) vt 1]
          refine Ev.zret dX3_readPart_66 rfl ?_ ?_
          · rfl
          (by_cases e9 : chA (I 389) q p = 33 <;> simp [e9] at b4 <;> simp [partF, b1, b2, b3, e9])
        · refine Ev.sg hX sX3_readPart_47 (pc' := 52) (ls' := [some (.ref 388), some (.int c)]) (st' := [.int 1, .int (nI (ct * 5 + vt)), .ref 392]) (h' := (N, SH v T, PI I q (if chA (I 389) q p = 33 then p + 1 else p, ct * 5 + vt, V, ct, K), L, Dd)) rfl ?_
          refine Ev.callV (As := [.int (nI (ct * 5 + vt)), .int 1]) (rest := []) dvX4_set mkX3_56 rfl rfl dX3_readPart_52 (c_Row_setN (d := d - 1) (h := (N, SH v T, PI I q (if chA (I 389) q p = 33 then p + 1 else p, ct * 5 + vt, V, ct, K), L, Dd)) (r := 392) (a := 393) (n := 40) (k := ct * 5 + vt) hX rfl rfl (by decide) hb) ⟨by omega, by show 3 + 19 + 40 * _ ≤ 40 * _; omega⟩ (by decide) rfl (Nat.le_of_ble_eq_true rfl) (fun v9 h9 e9 => ?_) (fun E9 h9 e9 => nomatch e9)
          cases e9
          show Ev _ _ _ _ _ _ 55 [some (.ref 388), some (.int c)] [] (N, SH v T, up2 (PI I q (if chA (I 389) q p = 33 then p + 1 else p, ct * 5 + vt, V, ct, K)) 393 (ct * 5 + vt) 1, L, Dd)
          rw [PI_V]
          refine Ev.sg hX sX3_readPart_55 (pc' := 66) (ls' := [some (.ref 388), some (.int c)]) (st' := [.int 1]) (h' := (N, SH v T, up2 (PI I q (if chA (I 389) q p = 33 then p + 1 else p, ct * 5 + vt, upV V (ct * 5 + vt) 1, ct, K)) 388 6 ((nI (ct * 5 + vt)) + 1), L, Dd)) rfl ?_
          rw [nI_1, PI_vt, Nat.add_assoc (ct * 5) vt 1]
          refine Ev.zret dX3_readPart_66 rfl ?_ ?_
          · rfl
          (by_cases e9 : chA (I 389) q p = 33 <;> simp [e9] at b4 <;> simp [partF, b1, b2, b3, e9])
    · have hb : ct * 5 + vt < 40 := hb.resolve_right (fun z => z (Or.inr (Or.inl (b2))))
      refine Ev.sg hX sX3_readPart_18 (pc' := 20) (ls' := [some (.ref 388), some (.int c)]) (st' := [.int 2, .ref 388]) (h' := (N, SH v T, PI I q (p, ct * 5 + vt, V, ct, K), L, Dd)) rfl ?_
      refine Ev.callV (As := [.int 2]) (rest := []) dvX3_readNumber mkX3_96 rfl rfl dX3_readPart_20 (c_readNumber (d := d - 1) (n := 2) (p := p) (vt := vt) (V := V) (ct := ct) (K := K) hX (by omega) hq (by omega) (by decide) hb) ⟨by omega, by show 4 + 19 + 40 * _ ≤ 40 * _; omega⟩ (by decide) rfl (Nat.le_of_ble_eq_true rfl) (fun v9 h9 e9 => ?_) (fun E9 h9 e9 => nomatch e9)
      cases e9
      show Ev _ _ _ _ _ _ 23 [some (.ref 388), some (.int c)] [.int ((numF (I 389) q ct 2 p vt V).1)] (N, SH v T, PI I q ((numF (I 389) q ct 2 p vt V).2.1, ct * 5 + (numF (I 389) q ct 2 p vt V).2.2.1, (numF (I 389) q ct 2 p vt V).2.2.2, ct, K), L, Dd)
      refine Ev.zret dX3_readPart_23 rfl ?_ ?_
      · exact bi_n _
      simp [partF, b1, b2]
  · have hb : ct * 5 + vt < 40 := hb.resolve_right (fun z => z (Or.inl (b1)))
    refine Ev.sg hX sX3_readPart_6 (pc' := 8) (ls' := [some (.ref 388), some (.int c)]) (st' := [.int 1, .ref 388]) (h' := (N, SH v T, PI I q (p, ct * 5 + vt, V, ct, K), L, Dd)) rfl ?_
    refine Ev.callV (As := [.int 1]) (rest := []) dvX3_readNumber mkX3_96 rfl rfl dX3_readPart_8 (c_readNumber (d := d - 1) (n := 1) (p := p) (vt := vt) (V := V) (ct := ct) (K := K) hX (by omega) hq (by omega) (by decide) hb) ⟨by omega, by show 4 + 19 + 40 * _ ≤ 40 * _; omega⟩ (by decide) rfl (Nat.le_of_ble_eq_true rfl) (fun v9 h9 e9 => ?_) (fun E9 h9 e9 => nomatch e9)
    cases e9
    show Ev _ _ _ _ _ _ 11 [some (.ref 388), some (.int c)] [.int ((numF (I 389) q ct 1 p vt V).1)] (N, SH v T, PI I q ((numF (I 389) q ct 1 p vt V).2.1, ct * 5 + (numF (I 389) q ct 1 p vt V).2.2.1, (numF (I 389) q ct 1 p vt V).2.2.2, ct, K), L, Dd)
    refine Ev.zret dX3_readPart_11 rfl ?_ ?_
    · exact bi_n _
    simp [partF, b1]
end PROG
