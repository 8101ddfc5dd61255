/-! the row of numbers -/
def rg (n : Nat) (f : Nat → Int32) (i : Int32) : Int32 := if 0 ≤ i.toInt ∧ i.toInt < (n : Int) then f i.toNatClampNeg else 0
theorem i0lt (x : Int32) : x < 0 ↔ x.toInt < 0 := by rw [Int32.lt_iff_toInt_lt]; rfl
theorem hN_of {n : Nat} (hn : n < 2 ^ 31) : (Int32.ofNat n).toInt = n := nI_toInt hn
section ROW
variable {X : JX} {d : Nat} {h : MH} {r a n : Nat} {i x : Int32}
theorem c_Row_get (hX : JXok X) (hr : zS h r = some (.inr (4, [.inl (.ref a)]))) (ha : zS h a = some (.inl (.int, n))) (hn : n < 2 ^ 31) : MT X d 0 0 jdX4_get [.ref r, .int i] h (fun R => R = .inl (some (.int (rg n (zI h a) i)), h)) := by
  refine MT.mk dvX4_get.1 ?_
  refine Ev.sg hX sX4_get_0 (pc' := 1) (ls' := [some (.ref r), some (.int i)]) (st' := [.int i]) (h' := h) (by first | rfl | simp [runS, stepI, ld, entL, hr, ha, fV, alen]) ?_
  refine Ev.if_lt (tgt := 22) dX4_get_1 (by decide) (fun b1 => ?_) (fun b1 => ?_)
  · refine Ev.sg hX sX4_get_22 (pc' := 23) (ls' := [some (.ref r), some (.int i)]) (st' := [.int 0]) (h' := h) (by first | rfl | simp [runS, stepI, ld, entL, hr, ha, fV, alen]) ?_
    refine Ev.iret dX4_get_23 rfl ?_
    (rw [i0lt] at b1; rw [rg, if_neg (by omega)])
  · refine Ev.sg hX sX4_get_4 (pc' := 10) (ls' := [some (.ref r), some (.int i)]) (st' := [.int (Int32.ofNat n), .int i]) (h' := h) (by first | rfl | simp [runS, stepI, ld, entL, hr, ha, fV, alen]) ?_
    refine Ev.icmp_ge (tgt := 22) dX4_get_10 (by decide) (fun b2 => ?_) (fun b2 => ?_)
    · refine Ev.sg hX sX4_get_22 (pc' := 23) (ls' := [some (.ref r), some (.int i)]) (st' := [.int 0]) (h' := h) (by first | rfl | simp [runS, stepI, ld, entL, hr, ha, fV, alen]) ?_
      refine Ev.iret dX4_get_23 rfl ?_
      (rw [i0lt] at b1; rw [Int32.le_iff_toInt_le, hN_of hn] at b2; rw [rg, if_neg (by omega)])
    · refine Ev.sg hX sX4_get_13 (pc' := 18) (ls' := [some (.ref r), some (.int i)]) (st' := [.int i, .ref a]) (h' := h) (by first | rfl | simp [runS, stepI, ld, entL, hr, ha, fV, alen]) ?_
      refine Ev.iald ha (vp_in_iff.mpr (by rw [i0lt] at b1; rw [Int32.le_iff_toInt_le, hN_of hn] at b2; omega)) dX4_get_18 ?_
      refine Ev.sg hX sX4_get_19 (pc' := 23) (ls' := [some (.ref r), some (.int i)]) (st' := [.int (zI h a i.toNatClampNeg)]) (h' := h) (by first | rfl | simp [runS, stepI, ld, entL, hr, ha, fV, alen]) ?_
      refine Ev.iret dX4_get_23 rfl ?_
      (rw [i0lt] at b1; rw [Int32.le_iff_toInt_le, hN_of hn] at b2; rw [rg, if_pos (by omega)])
theorem c_Row_set (hX : JXok X) (hr : zS h r = some (.inr (4, [.inl (.ref a)]))) (ha : zS h a = some (.inl (.int, n))) (hn : n < 2 ^ 31) : MT X d 0 0 jdX4_set [.ref r, .int i, .int x] h (fun R => R = .inl (none, if 0 ≤ i.toInt ∧ i.toInt < (n : Int) then setI h a i.toNatClampNeg x else h)) := by
  refine MT.mk dvX4_set.1 ?_
  refine Ev.sg hX sX4_set_0 (pc' := 1) (ls' := [some (.ref r), some (.int i), some (.int x)]) (st' := [.int i]) (h' := h) (by first | rfl | simp [runS, stepI, ld, entL, hr, ha, fV, alen]) ?_
  refine Ev.if_lt (tgt := 20) dX4_set_1 (by decide) (fun b1 => ?_) (fun b1 => ?_)
  · refine Ev.vret dX4_set_20 rfl ?_
    (rw [i0lt] at b1; rw [if_neg (by omega)])
  · refine Ev.sg hX sX4_set_4 (pc' := 10) (ls' := [some (.ref r), some (.int i), some (.int x)]) (st' := [.int (Int32.ofNat n), .int i]) (h' := h) (by first | rfl | simp [runS, stepI, ld, entL, hr, ha, fV, alen]) ?_
    refine Ev.icmp_ge (tgt := 20) dX4_set_10 (by decide) (fun b2 => ?_) (fun b2 => ?_)
    · refine Ev.vret dX4_set_20 rfl ?_
      (rw [i0lt] at b1; rw [Int32.le_iff_toInt_le, hN_of hn] at b2; rw [if_neg (by omega)])
    · refine Ev.sg hX sX4_set_13 (pc' := 19) (ls' := [some (.ref r), some (.int i), some (.int x)]) (st' := [.int x, .int i, .ref a]) (h' := h) (by first | rfl | simp [runS, stepI, ld, entL, hr, ha, fV, alen]) ?_
      refine Ev.iast hX ha (vp_in_iff.mpr (by rw [i0lt] at b1; rw [Int32.le_iff_toInt_le, hN_of hn] at b2; omega)) dX4_set_19 ?_
      refine Ev.vret dX4_set_20 rfl ?_
      (rw [i0lt] at b1; rw [Int32.le_iff_toInt_le, hN_of hn] at b2; rw [if_pos (by omega)])
theorem MT.to {X : JX} {d mc ms : Nat} {q : JD} {av : List Value} {h : MH} {r1 r2 : JR} (hm : MT X d mc ms q av h (fun R => R = r1)) (e : r1 = r2) : MT X d mc ms q av h (fun R => R = r2) := e ▸ hm
theorem c_Row_setI (hX : JXok X) (hr : zS h r = some (.inr (4, [.inl (.ref a)]))) (ha : zS h a = some (.inl (.int, n))) (hn : n < 2 ^ 31) (hi : 0 ≤ i.toInt ∧ i.toInt < (n : Int)) : MT X d 0 0 jdX4_set [.ref r, .int i, .int x] h (fun R => R = .inl (none, setI h a i.toNatClampNeg x)) := (c_Row_set hX hr ha hn).to (by rw [if_pos hi])
theorem rg_nI {n k : Nat} {f : Nat → Int32} (hk : k < n) (hn : n < 2 ^ 31) : rg n f (nI k) = f k := by
  have h1 : (nI k).toInt = k := nI_toInt (by omega)
  have h2 : (nI k).toNatClampNeg = k := nI_clamp (by omega)
  rw [rg, if_pos (by omega), h2]
theorem c_Row_getN (hX : JXok X) (hr : zS h r = some (.inr (4, [.inl (.ref a)]))) (ha : zS h a = some (.inl (.int, n))) (hn : n < 2 ^ 31) {k : Nat} (hk : k < n) : MT X d 0 0 jdX4_get [.ref r, .int (nI k)] h (fun R => R = .inl (some (.int (zI h a k)), h)) := (c_Row_get hX hr ha hn).to (by rw [rg_nI hk hn])
theorem c_Row_setN (hX : JXok X) (hr : zS h r = some (.inr (4, [.inl (.ref a)]))) (ha : zS h a = some (.inl (.int, n))) (hn : n < 2 ^ 31) {k : Nat} (hk : k < n) : MT X d 0 0 jdX4_set [.ref r, .int (nI k), .int x] h (fun R => R = .inl (none, setI h a k x)) := by
  have h1 : (nI k).toInt = k := nI_toInt (by omega)
  have h2 : (nI k).toNatClampNeg = k := nI_clamp (by omega)
  exact (c_Row_setI hX hr ha hn (by omega)).to (by rw [h2])
theorem c_Row_getE (hX : JXok X) (hr : zS h r = some (.inr (4, [.inl (.ref a)]))) (ha : zS h a = some (.inl (.int, n))) (hn : n < 2 ^ 31) {k : Nat} (hk : k < n) (hi : i = nI k) : MT X d 0 0 jdX4_get [.ref r, .int i] h (fun R => R = .inl (some (.int (zI h a k)), h)) := hi ▸ c_Row_getN hX hr ha hn hk
theorem c_Row_setE (hX : JXok X) (hr : zS h r = some (.inr (4, [.inl (.ref a)]))) (ha : zS h a = some (.inl (.int, n))) (hn : n < 2 ^ 31) {k : Nat} (hk : k < n) (hi : i = nI k) : MT X d 0 0 jdX4_set [.ref r, .int i, .int x] h (fun R => R = .inl (none, setI h a k x)) := hi ▸ c_Row_setN hX hr ha hn hk
/-- a row written where the index is in it -/
def upr (I : Nat → Nat → Int32) (a n : Nat) (i x : Int32) : Nat → Nat → Int32 := if 0 ≤ i.toInt ∧ i.toInt < (n : Int) then up2 I a i.toNatClampNeg x else I
theorem c_Row_setX {N : Nat} {S : Nat → Option JS} {I : Nat → Nat → Int32} {L : Nat → Nat → Int64} {Dd : Nat → Nat → UInt64} (hX : JXok X) (hr : S r = some (.inr (4, [.inl (.ref a)]))) (ha : S a = some (.inl (.int, n))) (hn : n < 2 ^ 31) : MT X d 0 0 jdX4_set [.ref r, .int i, .int x] (N, S, I, L, Dd) (fun R => R = .inl (none, (N, S, upr I a n i x, L, Dd))) := by
  refine (c_Row_set hX hr ha hn).to ?_
  unfold upr
  split <;> rfl
theorem c_Row_incN (hX : JXok X) (hr : zS h r = some (.inr (4, [.inl (.ref a)]))) (ha : zS h a = some (.inl (.int, n))) (hn : n < 2 ^ 31) {k : Nat} (hk : k < n) (hd : 1 ≤ d) : MT X d 0 0 jdX4_increase [.ref r, .int (nI k), .int x] h (fun R => R = .inl (none, setI h a k (zI h a k + x))) := by
  refine MT.mk dvX4_increase.1 ?_
  refine Ev.sg hX sX4_increase_0 (pc' := 4) (ls' := [some (.ref r), some (.int (nI k)), some (.int x)]) (st' := [.int (nI k), .ref r, .int (nI k), .ref r]) (h' := h) (by first | rfl | simp [runS, stepI, ld, entL, hr, ha, fV, alen]) ?_
  refine Ev.callV (As := [.int (nI k)]) (rest := [.int (nI k), .ref r]) dvX4_get mkX4_13 hr rfl dX4_increase_4 (c_Row_getN (d := d - 1) hX hr ha hn hk) ⟨by omega, by show 2 + 19 + 40 * _ ≤ 40 * _; omega⟩ (by decide) rfl (Nat.le_of_ble_eq_true rfl) (fun v9 h9 e9 => ?_) (fun E9 h9 e9 => nomatch e9)
  cases e9
  show Ev _ _ _ _ _ _ 7 [some (.ref r), some (.int (nI k)), some (.int x)] [.int (zI h a k), .int (nI k), .ref r] h
  refine Ev.sg hX sX4_increase_7 (pc' := 9) (ls' := [some (.ref r), some (.int (nI k)), some (.int x)]) (st' := [.int ((zI h a k) + x), .int (nI k), .ref r]) (h' := h) (by first | rfl | simp [runS, stepI, ld, entL, hr, ha, fV, alen]) ?_
  refine Ev.callV (As := [.int (nI k), .int ((zI h a k) + x)]) (rest := []) dvX4_set mkX4_17 hr rfl dX4_increase_9 (c_Row_setN (d := d - 1) hX hr ha hn hk) ⟨by omega, by show 3 + 19 + 40 * _ ≤ 40 * _; omega⟩ (by decide) rfl (Nat.le_of_ble_eq_true rfl) (fun v9 h9 e9 => ?_) (fun E9 h9 e9 => nomatch e9)
  cases e9
  show Ev _ _ _ _ _ _ 12 [some (.ref r), some (.int (nI k)), some (.int x)] [] (setI h a k (zI h a k + x))
  refine Ev.vret dX4_increase_12 rfl ?_
  rfl
theorem rd2 {α : Type} {f : Nat → Nat → α} {a k b j : Nat} {v : α} : up2 f a k v b j = if b = a then (if j = k then v else f b j) else f b j := rfl
end ROW
