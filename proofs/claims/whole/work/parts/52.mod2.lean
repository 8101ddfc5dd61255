/-! the model: cars, room, distances -/
def begM (I : HI) : HI := cpM I 397 0 398 0
def shM (I : HI) : HI := fo (fun k J => up2 J 399 k (J 399 (k + 179))) 1253 0 I
def kepM (I : HI) (c : Int32) (ch : Nat) : Int32 × HI := if I 396 12 = 0 then (c, if ch = 8 then up2 (cpM (up2 (shM I) 396 3 (nI 7)) 398 0 399 (7 * 179)) 396 3 (nI 8) else up2 (cpM I 398 0 399 (ch * 179)) 396 3 (nI (ch + 1))) else (0, cpM I 398 0 397 0)
theorem shM_ne {I : HI} {a : Nat} (h : a ≠ 399) : shM I a = I a := fo_inv (P := fun J => J a = I a) (fun k J e => (up2_ne h).trans e) 1253 0 I rfl
def slOM (I : HI) (m : Nat) (c : Int32) : Int32 := fnd (fun s => I 397 (39 + s) = c) m 0
def slAM (I : HI) (m : Nat) (t p : Int32) : Int32 := fnd (fun s => I 397 (139 + s) = t ∧ I 397 (159 + s) = p) m 0
def feM (I : HI) (m t : Nat) (k : Int32) : Int32 := slAM I m (nI t) (I 397 (31 + t) - 1 - k)
def smS (I : HI) (t : Int32) (a : Nat) : Nat → Int32 → Int32 := fun s acc => acc + (if I 397 (139 + s) = t then I 397 (a + s) else 0)
def smM (I : HI) (m : Nat) (t : Int32) (a : Nat) : Int32 := fo (smS I t a) m 0 0
def roM (I : HI) (m t : Nat) : Int32 := I 397 (7 + t) - smM I m (nI t) 59
def stE (i k : Nat) (J : HI) : HI := up2 J 403 i (if lkM J i k ∧ J 403 k + 1 < J 403 i then J 403 k + 1 else J 403 i)
def exI (u : Nat) : Nat → HI → HI := fun k J => up2 J 403 k (if nI k = nI u then 0 else 100)
def ex1 (z i : Nat) (J : HI) : HI := fo (stE i) z 0 J
def ex2 (z : Nat) (J : HI) : HI := fo (ex1 z) z 0 J
def exM (I : HI) (z u : Nat) : HI := fo (fun _ J => ex2 z J) 8 0 (fo (exI u) 8 0 I)
theorem exI_ne {I : HI} {u a n k : Nat} (h : a ≠ 403) : fo (exI u) n k I a = I a := fo_inv (P := fun J => J a = I a) (fun k J e => (up2_ne h).trans e) n k I rfl
theorem ex1_ne {I : HI} {z i a : Nat} (h : a ≠ 403) : ex1 z i I a = I a := fo_inv (P := fun J => J a = I a) (fun k J e => (up2_ne h).trans e) z 0 I rfl
theorem ex2_ne {I : HI} {z a : Nat} (h : a ≠ 403) : ex2 z I a = I a := fo_inv (P := fun J => J a = I a) (fun k J e => (ex1_ne h).trans e) z 0 I rfl
theorem exM_ne {I : HI} {z u a : Nat} (h : a ≠ 403) : exM I z u a = I a := fo_inv (P := fun (J : HI) => J a = I a) (fun k J e => (ex2_ne h).trans e) 8 0 _ (exI_ne h)
section MOD2
variable {X : JX} {d N v : Nat} {T : Nat → Option JS} {I : Nat → Nat → Int32} {L : Nat → Nat → Int64} {Dd : Nat → Nat → UInt64} {c e i0 : Int32} {m z : Nat}
theorem m_begin (hX : JXok X) (hd : 1 ≤ d) : MT X d 0 0 jdX7_begin [.ref 396] (N, SH v T, I, L, Dd) (fun R => R = .inl (none, (N, SH v T, begM I, L, Dd))) := by
  refine MT.mk dvX7_begin.1 ?_
  refine Ev.sg hX sX7_begin_0 (pc' := 10) (ls' := [some (.ref 396)]) (st' := [.int 0, .ref 398, .int 0, .ref 397]) (h' := (N, SH v T, I, L, Dd)) rfl ?_
  refine Ev.callS (As := [.ref 397, .int 0, .ref 398, .int 0]) (rest := []) dsX7_copy mkX7_45 dX7_begin_10 (m_copy (d := d - 1) (I := I) (a := 397) (x := 0) (b := 398) (y := 0) (na := 179) (nb := 179) hX (by omega) (by decide) rfl rfl (by decide) (by decide) (by omega) (by omega)) ⟨by omega, by show 5 + 19 + 40 * _ ≤ 40 * _; omega⟩ ⟨Nat.zero_le _, Nat.zero_le _⟩ rfl (Nat.le_of_ble_eq_true rfl) (fun v9 h9 e9 => ?_) (fun E9 h9 e9 => nomatch e9)
  cases e9
  show Ev _ _ _ _ _ _ 13 [some (.ref 396)] [] (N, SH v T, cpM I 397 0 398 0, L, Dd)
  refine Ev.vret dX7_begin_13 rfl ?_
  rfl
theorem l_shift {Q : JR → Prop} (hX : JXok X) (hd : 1 ≤ d) : ∀ (n k : Nat) (J : HI), k + n = 1253 → Ev X (jm jdX7_kept) d 0 0 Q 62 [some (.ref 396), some (.int c), some (.int (nI 1253))] [] (N, SH v T, fo (fun k J => up2 J 399 k (J 399 (k + 179))) n k J, L, Dd) → Ev X (jm jdX7_kept) d 0 0 Q 33 [some (.ref 396), some (.int c), some (.int (nI k))] [] (N, SH v T, J, L, Dd) := by
  intro n
  induction n with
  | zero =>
    intro k J hk hk2
    refine Ev.sg hX sX7_kept_33 (pc' := 37) (ls' := [some (.ref 396), some (.int c), some (.int (nI k))]) (st' := [.int 1253, .int (nI k)]) (h' := (N, SH v T, J, L, Dd)) rfl ?_
    refine Ev.icmp_ge (tgt := 62) dX7_kept_37 (by decide) (fun b1 => ?_) (fun b1 => ?_)
    · rw [show k = 1253 by omega]
      exact hk2
    · exact absurd ((nI_leI (a := 1253) (b := k) (by decide) (by omega)).mpr (by omega)) b1
  | succ n ih =>
    intro k J hk hk2
    refine Ev.sg hX sX7_kept_33 (pc' := 37) (ls' := [some (.ref 396), some (.int c), some (.int (nI k))]) (st' := [.int 1253, .int (nI k)]) (h' := (N, SH v T, J, L, Dd)) rfl ?_
    refine Ev.icmp_ge (tgt := 62) dX7_kept_37 (by decide) (fun b1 => ?_) (fun b1 => ?_)
    · exact absurd ((nI_leI (a := 1253) (b := k) (by decide) (by omega)).mp b1) (by omega)
    · refine Ev.sg hX sX7_kept_40 (pc' := 54) (ls' := [some (.ref 396), some (.int c), some (.int (nI k))]) (st' := [.int ((nI k) + 179), .ref 399, .int (nI k), .ref 399]) (h' := (N, SH v T, J, L, Dd)) rfl ?_
      refine Ev.ialdE (n := (k + 179)) (N := 1432) rfl (naI rfl rfl) (by omega) (by decide) dX7_kept_54 ?_
      show Ev _ _ _ _ _ _ 55 [some (.ref 396), some (.int c), some (.int (nI k))] [.int (J 399 (k + 179)), .int (nI k), .ref 399] (N, SH v T, J, L, Dd)
      refine Ev.iastE (n := k) (N := 1432) hX rfl rfl (by omega) (by decide) dX7_kept_55 ?_
      show Ev _ _ _ _ _ _ 56 [some (.ref 396), some (.int c), some (.int (nI k))] [] (N, SH v T, up2 J 399 k (J 399 (k + 179)), L, Dd)
      refine Ev.sg hX sX7_kept_56 (pc' := 33) (ls' := [some (.ref 396), some (.int c), some (.int ((nI k) + 1))]) (st' := []) (h' := (N, SH v T, up2 J 399 k (J 399 (k + 179)), L, Dd)) rfl ?_
      rw [nI_1]
      exact ih (k + 1) (up2 J 399 k (J 399 (k + 179))) (by omega) hk2
theorem m_kept (hX : JXok X) (hd : 1 ≤ d) {ch : Nat} (hch : I 396 3 = nI ch) (hch8 : ch ≤ 8) : MT X d 0 0 jdX7_kept [.ref 396, .int c] (N, SH v T, I, L, Dd) (fun R => R = .inl (some (.int (kepM I c ch).1), (N, SH v T, (kepM I c ch).2, L, Dd))) := by
  refine MT.mk dvX7_kept.1 ?_
  refine Ev.sg hX sX7_kept_0 (pc' := 4) (ls' := [some (.ref 396), some (.int c), none]) (st' := [.int (I 396 12)]) (h' := (N, SH v T, I, L, Dd)) rfl ?_
  refine Ev.if_eq (tgt := 22) dX7_kept_4 (by decide) (fun b1 => ?_) (fun b1 => ?_)
  · refine Ev.sg hX sX7_kept_22 (pc' := 28) (ls' := [some (.ref 396), some (.int c), none]) (st' := [.int 8, .int (I 396 3)]) (h' := (N, SH v T, I, L, Dd)) rfl ?_
    refine Ev.eqst (st' := [.int 8, .int (nI ch)]) (by rw [hch]) ?_
    refine Ev.icmp_ne (tgt := 72) dX7_kept_28 (by decide) (fun b2 => ?_) (fun b2 => ?_)
    · have hch7 : ch < 8 := by have : ¬ ch = 8 := fun z => b2 (by rw [z]; rfl); omega
      refine Ev.sg hX sX7_kept_72 (pc' := 89) (ls' := [some (.ref 396), some (.int c), none]) (st' := [.int ((I 396 3) * 179), .ref 399, .int 0, .ref 398]) (h' := (N, SH v T, I, L, Dd)) rfl ?_
      refine Ev.eqst (st' := [.int (nI (ch * 179)), .ref 399, .int 0, .ref 398]) (by rw [show (I 396 3) * 179 = nI (ch * 179) from (nmI hch rfl)]) ?_
      refine Ev.callS (As := [.ref 398, .int 0, .ref 399, .int (nI (ch * 179))]) (rest := []) dsX7_copy mkX7_45 dX7_kept_89 (m_copy (d := d - 1) (I := I) (a := 398) (x := 0) (b := 399) (y := (ch * 179)) (na := 179) (nb := 1432) hX (by omega) (by decide) rfl rfl (by decide) (by decide) (by omega) (by omega)) ⟨by omega, by show 5 + 19 + 40 * _ ≤ 40 * _; omega⟩ ⟨Nat.zero_le _, Nat.zero_le _⟩ rfl (Nat.le_of_ble_eq_true rfl) (fun v9 h9 e9 => ?_) (fun E9 h9 e9 => nomatch e9)
      cases e9
      show Ev _ _ _ _ _ _ 92 [some (.ref 396), some (.int c), none] [] (N, SH v T, cpM I 398 0 399 (ch * 179), L, Dd)
      refine Ev.sg hX sX7_kept_92 (pc' := 103) (ls' := [some (.ref 396), some (.int c), none]) (st' := [.int c]) (h' := (N, SH v T, up2 (cpM I 398 0 399 (ch * 179)) 396 3 (((cpM I 398 0 399 (ch * 179)) 396 3) + 1), L, Dd)) rfl ?_
      refine Ev.iret dX7_kept_103 rfl ?_
      rw [kepM, if_pos b1, if_neg (fun z => b2 (by rw [z]; rfl)), cpM_ne (by decide), hch, nI_1]
    · have ch8 : ch = 8 := (nI_eq (a := ch) (b := 8) (by omega) (by decide)).mp b2
      refine Ev.sg hX sX7_kept_31 (pc' := 33) (ls' := [some (.ref 396), some (.int c), some (.int 0)]) (st' := []) (h' := (N, SH v T, I, L, Dd)) rfl ?_
      refine l_shift hX hd 1253 0 I rfl ?_
      generalize hJ0 : fo (fun k J => up2 J 399 k (J 399 (k + 179))) 1253 0 I = J0
      have hJ1 : J0 396 3 = nI 8 := by rw [← hJ0]; exact (congrFun (shM_ne (by decide)) 3).trans (hch.trans (by rw [ch8]))
      show Ev _ _ _ _ _ _ 62 [some (.ref 396), some (.int c), some (.int (nI 1253))] [] (N, SH v T, J0, L, Dd)
      refine Ev.sg hX sX7_kept_62 (pc' := 72) (ls' := [some (.ref 396), some (.int c), some (.int (nI 1253))]) (st' := []) (h' := (N, SH v T, up2 J0 396 3 ((J0 396 3) - 1), L, Dd)) rfl ?_
      refine Ev.eqh (h' := (N, SH v T, up2 J0 396 3 (nI 7), L, Dd)) (congrArg (fun z => (N, SH v T, up2 J0 396 3 z, L, Dd)) (by rw [hJ1]; rfl)) ?_
      refine Ev.sg hX sX7_kept_72 (pc' := 89) (ls' := [some (.ref 396), some (.int c), some (.int (nI 1253))]) (st' := [.int (((up2 J0 396 3 (nI 7)) 396 3) * 179), .ref 399, .int 0, .ref 398]) (h' := (N, SH v T, up2 J0 396 3 (nI 7), L, Dd)) rfl ?_
      refine Ev.eqst (st' := [.int (nI (7 * 179)), .ref 399, .int 0, .ref 398]) (by rw [show ((up2 J0 396 3 (nI 7)) 396 3) * 179 = nI (7 * 179) from (nmI rfl rfl)]) ?_
      refine Ev.callS (As := [.ref 398, .int 0, .ref 399, .int (nI (7 * 179))]) (rest := []) dsX7_copy mkX7_45 dX7_kept_89 (m_copy (d := d - 1) (I := (up2 J0 396 3 (nI 7))) (a := 398) (x := 0) (b := 399) (y := (7 * 179)) (na := 179) (nb := 1432) hX (by omega) (by decide) rfl rfl (by decide) (by decide) (by omega) (by omega)) ⟨by omega, by show 5 + 19 + 40 * _ ≤ 40 * _; omega⟩ ⟨Nat.zero_le _, Nat.zero_le _⟩ rfl (Nat.le_of_ble_eq_true rfl) (fun v9 h9 e9 => ?_) (fun E9 h9 e9 => nomatch e9)
      cases e9
      show Ev _ _ _ _ _ _ 92 [some (.ref 396), some (.int c), some (.int (nI 1253))] [] (N, SH v T, cpM (up2 J0 396 3 (nI 7)) 398 0 399 (7 * 179), L, Dd)
      refine Ev.sg hX sX7_kept_92 (pc' := 103) (ls' := [some (.ref 396), some (.int c), some (.int (nI 1253))]) (st' := [.int c]) (h' := (N, SH v T, up2 (cpM (up2 J0 396 3 (nI 7)) 398 0 399 (7 * 179)) 396 3 (((cpM (up2 J0 396 3 (nI 7)) 398 0 399 (7 * 179)) 396 3) + 1), L, Dd)) rfl ?_
      refine Ev.iret dX7_kept_103 rfl ?_
      (rw [kepM, if_pos b1, if_pos ch8, show shM I = J0 from hJ0]; exact congrArg (fun z => Sum.inl (some (Value.int c), (N, SH v T, up2 (cpM (up2 J0 396 3 (nI 7)) 398 0 399 (7 * 179)) 396 3 z, L, Dd))) (by rw [cpM_ne (by decide)]; rfl))
  · refine Ev.sg hX sX7_kept_7 (pc' := 17) (ls' := [some (.ref 396), some (.int c), none]) (st' := [.int 0, .ref 397, .int 0, .ref 398]) (h' := (N, SH v T, I, L, Dd)) rfl ?_
    refine Ev.callS (As := [.ref 398, .int 0, .ref 397, .int 0]) (rest := []) dsX7_copy mkX7_45 dX7_kept_17 (m_copy (d := d - 1) (I := I) (a := 398) (x := 0) (b := 397) (y := 0) (na := 179) (nb := 179) hX (by omega) (by decide) rfl rfl (by decide) (by decide) (by omega) (by omega)) ⟨by omega, by show 5 + 19 + 40 * _ ≤ 40 * _; omega⟩ ⟨Nat.zero_le _, Nat.zero_le _⟩ rfl (Nat.le_of_ble_eq_true rfl) (fun v9 h9 e9 => ?_) (fun E9 h9 e9 => nomatch e9)
    cases e9
    show Ev _ _ _ _ _ _ 20 [some (.ref 396), some (.int c), none] [] (N, SH v T, cpM I 398 0 397 0, L, Dd)
    refine Ev.sg hX sX7_kept_20 (pc' := 21) (ls' := [some (.ref 396), some (.int c), none]) (st' := [.int 0]) (h' := (N, SH v T, cpM I 398 0 397 0, L, Dd)) rfl ?_
    refine Ev.iret dX7_kept_21 rfl ?_
    rw [kepM, if_neg b1]
theorem m_isTrack (hX : JXok X) (hd : 1 ≤ d) : MT X d 0 0 jdX7_isTrack [.ref 396, .int c] (N, SH v T, I, L, Dd) (fun R => R = .inl (some (.int (bi (tkM I c))), (N, SH v T, I, L, Dd))) := by
  refine MT.mk dvX7_isTrack.1 ?_
  refine Ev.sg hX sX7_isTrack_0 (pc' := 10) (ls' := [some (.ref 396), some (.int c)]) (st' := [.int ((I 397 0) - 1), .int 0, .int c]) (h' := (N, SH v T, I, L, Dd)) rfl ?_
  refine Ev.callS (As := [.int c, .int 0, .int ((I 397 0) - 1)]) (rest := []) dsX7_in mkX7_52 dX7_isTrack_10 (m_in (d := d - 1) hX (by omega)) ⟨by omega, by show 3 + 19 + 40 * _ ≤ 40 * _; omega⟩ ⟨Nat.zero_le _, Nat.zero_le _⟩ rfl (Nat.le_of_ble_eq_true rfl) (fun v9 h9 e9 => ?_) (fun E9 h9 e9 => nomatch e9)
  cases e9
  show Ev _ _ _ _ _ _ 13 [some (.ref 396), some (.int c)] [.int (bi (0 ≤ c ∧ c ≤ ((I 397 0) - 1)))] (N, SH v T, I, L, Dd)
  refine Ev.zret dX7_isTrack_13 rfl ?_ ?_
  · exact bi_n _
  rfl
theorem m_areTracks (hX : JXok X) (hd : 2 ≤ d) : MT X d 0 0 jdX7_areTracks [.ref 396, .int c, .int e] (N, SH v T, I, L, Dd) (fun R => R = .inl (some (.int (bi (tkM I c ∧ tkM I e))), (N, SH v T, I, L, Dd))) := by
  refine MT.mk dvX7_areTracks.1 ?_
  refine Ev.sg hX sX7_areTracks_0 (pc' := 2) (ls' := [some (.ref 396), some (.int c), some (.int e)]) (st' := [.int c, .ref 396]) (h' := (N, SH v T, I, L, Dd)) rfl ?_
  refine Ev.callV (As := [.int c]) (rest := []) dvX7_isTrack mkX7_56 rfl rfl dX7_areTracks_2 (m_isTrack (d := d - 1) (I := I) hX (by omega)) ⟨by omega, by show 2 + 19 + 40 * _ ≤ 40 * _; omega⟩ ⟨Nat.zero_le _, Nat.zero_le _⟩ rfl (Nat.le_of_ble_eq_true rfl) (fun v9 h9 e9 => ?_) (fun E9 h9 e9 => nomatch e9)
  cases e9
  show Ev _ _ _ _ _ _ 5 [some (.ref 396), some (.int c), some (.int e)] [.int (bi (tkM I c))] (N, SH v T, I, L, Dd)
  refine Ev.if_eq (tgt := 20) dX7_areTracks_5 (by decide) (fun b1 => ?_) (fun b1 => ?_)
  · refine Ev.sg hX sX7_areTracks_20 (pc' := 21) (ls' := [some (.ref 396), some (.int c), some (.int e)]) (st' := [.int 0]) (h' := (N, SH v T, I, L, Dd)) rfl ?_
    refine Ev.zret dX7_areTracks_21 rfl ?_ ?_
    · rfl
    exact congrArg (fun z => Sum.inl (some (Value.int z), (N, SH v T, I, L, Dd))) (if_neg (fun z => bi_0.mp b1 z.1)).symm
  · refine Ev.sg hX sX7_areTracks_8 (pc' := 10) (ls' := [some (.ref 396), some (.int c), some (.int e)]) (st' := [.int e, .ref 396]) (h' := (N, SH v T, I, L, Dd)) rfl ?_
    refine Ev.callV (As := [.int e]) (rest := []) dvX7_isTrack mkX7_56 rfl rfl dX7_areTracks_10 (m_isTrack (d := d - 1) (I := I) hX (by omega)) ⟨by omega, by show 2 + 19 + 40 * _ ≤ 40 * _; omega⟩ ⟨Nat.zero_le _, Nat.zero_le _⟩ rfl (Nat.le_of_ble_eq_true rfl) (fun v9 h9 e9 => ?_) (fun E9 h9 e9 => nomatch e9)
    cases e9
    show Ev _ _ _ _ _ _ 13 [some (.ref 396), some (.int c), some (.int e)] [.int (bi (tkM I e))] (N, SH v T, I, L, Dd)
    refine Ev.if_eq (tgt := 20) dX7_areTracks_13 (by decide) (fun b2 => ?_) (fun b2 => ?_)
    · refine Ev.sg hX sX7_areTracks_20 (pc' := 21) (ls' := [some (.ref 396), some (.int c), some (.int e)]) (st' := [.int 0]) (h' := (N, SH v T, I, L, Dd)) rfl ?_
      refine Ev.zret dX7_areTracks_21 rfl ?_ ?_
      · rfl
      exact congrArg (fun z => Sum.inl (some (Value.int z), (N, SH v T, I, L, Dd))) (if_neg (fun z => bi_0.mp b2 z.2)).symm
    · refine Ev.sg hX sX7_areTracks_16 (pc' := 21) (ls' := [some (.ref 396), some (.int c), some (.int e)]) (st' := [.int 1]) (h' := (N, SH v T, I, L, Dd)) rfl ?_
      refine Ev.zret dX7_areTracks_21 rfl ?_ ?_
      · rfl
      exact congrArg (fun z => Sum.inl (some (Value.int z), (N, SH v T, I, L, Dd))) (if_pos ⟨bi_1.mp b1, bi_1.mp b2⟩).symm
theorem m_isLinked (hX : JXok X) (hd : 1 ≤ d) {a b : Nat} (ha : a < 8) : MT X d 0 0 jdX7_isLinked [.ref 396, .int (nI a), .int (nI b)] (N, SH v T, I, L, Dd) (fun R => R = .inl (some (.int (bi (lkM I a b))), (N, SH v T, I, L, Dd))) := by
  refine MT.mk dvX7_isLinked.1 ?_
  refine Ev.sg hX sX7_isLinked_0 (pc' := 8) (ls' := [some (.ref 396), some (.int (nI a)), some (.int (nI b))]) (st' := [.int (23 + (nI a)), .ref 397]) (h' := (N, SH v T, I, L, Dd)) rfl ?_
  refine Ev.ialdE (n := (23 + a)) (N := 179) rfl (naI rfl rfl) (by omega) (by decide) dX7_isLinked_8 ?_
  show Ev _ _ _ _ _ _ 9 [some (.ref 396), some (.int (nI a)), some (.int (nI b))] [.int (I 397 (23 + a))] (N, SH v T, I, L, Dd)
  refine Ev.sg hX sX7_isLinked_9 (pc' := 14) (ls' := [some (.ref 396), some (.int (nI a)), some (.int (nI b))]) (st' := [.int 1, .int (((I 397 (23 + a)) >>> ((nI b) &&& 31)) &&& 1)]) (h' := (N, SH v T, I, L, Dd)) rfl ?_
  refine Ev.icmp_ne (tgt := 21) dX7_isLinked_14 (by decide) (fun b1 => ?_) (fun b1 => ?_)
  · refine Ev.sg hX sX7_isLinked_21 (pc' := 22) (ls' := [some (.ref 396), some (.int (nI a)), some (.int (nI b))]) (st' := [.int 0]) (h' := (N, SH v T, I, L, Dd)) rfl ?_
    refine Ev.zret dX7_isLinked_22 rfl ?_ ?_
    · rfl
    exact congrArg (fun z => Sum.inl (some (Value.int z), (N, SH v T, I, L, Dd))) (if_neg b1).symm
  · refine Ev.sg hX sX7_isLinked_17 (pc' := 22) (ls' := [some (.ref 396), some (.int (nI a)), some (.int (nI b))]) (st' := [.int 1]) (h' := (N, SH v T, I, L, Dd)) rfl ?_
    refine Ev.zret dX7_isLinked_22 rfl ?_ ?_
    · rfl
    exact congrArg (fun z => Sum.inl (some (Value.int z), (N, SH v T, I, L, Dd))) (if_pos b1).symm
theorem l_mslotOf (hX : JXok X) (hd : 1 ≤ d) (hm20 : m ≤ 20) (hm : I 397 1 = nI m) : ∀ (n k : Nat), (k + n = m) → Ev X (jm jdX7_slotOf) d 0 0 (fun R => R = .inl (some (.int (fnd (fun s => I 397 (39 + s) = c) n k)), (N, SH v T, I, L, Dd))) 2 [some (.ref 396), some (.int c), some (.int (nI k))] [] (N, SH v T, I, L, Dd) := by
  intro n
  induction n with
  | zero =>
    intro k hk
    refine Ev.sg hX sX7_slotOf_2 (pc' := 9) (ls' := [some (.ref 396), some (.int c), some (.int (nI k))]) (st' := [.int (I 397 1), .int (nI k)]) (h' := (N, SH v T, I, L, Dd)) rfl ?_
    refine Ev.eqst (st' := [.int (nI m), .int (nI k)]) (by rw [hm]) ?_
    refine Ev.icmp_ge (tgt := 33) dX7_slotOf_9 (by decide) (fun b1 => ?_) (fun b1 => ?_)
    · refine Ev.sg hX sX7_slotOf_33 (pc' := 34) (ls' := [some (.ref 396), some (.int c), some (.int (nI k))]) (st' := [.int (-1)]) (h' := (N, SH v T, I, L, Dd)) rfl ?_
      refine Ev.iret dX7_slotOf_34 rfl ?_
      rfl
    · exact absurd ((nI_leI (a := m) (b := k) (by omega) (by omega)).mpr (by omega)) b1
  | succ n ih =>
    intro k hk
    refine Ev.sg hX sX7_slotOf_2 (pc' := 9) (ls' := [some (.ref 396), some (.int c), some (.int (nI k))]) (st' := [.int (I 397 1), .int (nI k)]) (h' := (N, SH v T, I, L, Dd)) rfl ?_
    refine Ev.eqst (st' := [.int (nI m), .int (nI k)]) (by rw [hm]) ?_
    refine Ev.icmp_ge (tgt := 33) dX7_slotOf_9 (by decide) (fun b1 => ?_) (fun b1 => ?_)
    · exact absurd ((nI_leI (a := m) (b := k) (by omega) (by omega)).mp b1) (by omega)
    · refine Ev.sg hX sX7_slotOf_12 (pc' := 20) (ls' := [some (.ref 396), some (.int c), some (.int (nI k))]) (st' := [.int (39 + (nI k)), .ref 397]) (h' := (N, SH v T, I, L, Dd)) rfl ?_
      refine Ev.ialdE (n := (39 + k)) (N := 179) rfl (naI rfl rfl) (by omega) (by decide) dX7_slotOf_20 ?_
      show Ev _ _ _ _ _ _ 21 [some (.ref 396), some (.int c), some (.int (nI k))] [.int (I 397 (39 + k))] (N, SH v T, I, L, Dd)
      refine Ev.sg hX sX7_slotOf_21 (pc' := 22) (ls' := [some (.ref 396), some (.int c), some (.int (nI k))]) (st' := [.int c, .int (I 397 (39 + k))]) (h' := (N, SH v T, I, L, Dd)) rfl ?_
      refine Ev.icmp_ne (tgt := 27) dX7_slotOf_22 (by decide) (fun b2 => ?_) (fun b2 => ?_)
      · refine Ev.sg hX sX7_slotOf_27 (pc' := 2) (ls' := [some (.ref 396), some (.int c), some (.int ((nI k) + 1))]) (st' := []) (h' := (N, SH v T, I, L, Dd)) rfl ?_
        rw [nI_1, fnd, if_neg b2]
        exact ih (k + 1) (by omega)
      · refine Ev.sg hX sX7_slotOf_25 (pc' := 26) (ls' := [some (.ref 396), some (.int c), some (.int (nI k))]) (st' := [.int (nI k)]) (h' := (N, SH v T, I, L, Dd)) rfl ?_
        refine Ev.iret dX7_slotOf_26 rfl ?_
        rw [fnd, if_pos b2]
theorem m_slotOf (hX : JXok X) (hd : 1 ≤ d) (hm20 : m ≤ 20) (hm : I 397 1 = nI m) : MT X d 0 0 jdX7_slotOf [.ref 396, .int c] (N, SH v T, I, L, Dd) (fun R => R = .inl (some (.int (slOM I m c)), (N, SH v T, I, L, Dd))) := by
  refine MT.mk dvX7_slotOf.1 ?_
  refine Ev.sg hX sX7_slotOf_0 (pc' := 2) (ls' := [some (.ref 396), some (.int c), some (.int 0)]) (st' := []) (h' := (N, SH v T, I, L, Dd)) rfl ?_
  exact l_mslotOf hX hd hm20 hm m 0 (Nat.zero_add m)
theorem l_mslotAt (hX : JXok X) (hd : 1 ≤ d) (hm20 : m ≤ 20) (hm : I 397 1 = nI m) : ∀ (n k : Nat), (k + n = m) → Ev X (jm jdX7_slotAt) d 0 0 (fun R => R = .inl (some (.int (fnd (fun s => I 397 (139 + s) = c ∧ I 397 (159 + s) = e) n k)), (N, SH v T, I, L, Dd))) 2 [some (.ref 396), some (.int c), some (.int e), some (.int (nI k))] [] (N, SH v T, I, L, Dd) := by
  intro n
  induction n with
  | zero =>
    intro k hk
    refine Ev.sg hX sX7_slotAt_2 (pc' := 9) (ls' := [some (.ref 396), some (.int c), some (.int e), some (.int (nI k))]) (st' := [.int (I 397 1), .int (nI k)]) (h' := (N, SH v T, I, L, Dd)) rfl ?_
    refine Ev.eqst (st' := [.int (nI m), .int (nI k)]) (by rw [hm]) ?_
    refine Ev.icmp_ge (tgt := 48) dX7_slotAt_9 (by decide) (fun b1 => ?_) (fun b1 => ?_)
    · refine Ev.sg hX sX7_slotAt_48 (pc' := 49) (ls' := [some (.ref 396), some (.int c), some (.int e), some (.int (nI k))]) (st' := [.int (-1)]) (h' := (N, SH v T, I, L, Dd)) rfl ?_
      refine Ev.iret dX7_slotAt_49 rfl ?_
      rfl
    · exact absurd ((nI_leI (a := m) (b := k) (by omega) (by omega)).mpr (by omega)) b1
  | succ n ih =>
    intro k hk
    refine Ev.sg hX sX7_slotAt_2 (pc' := 9) (ls' := [some (.ref 396), some (.int c), some (.int e), some (.int (nI k))]) (st' := [.int (I 397 1), .int (nI k)]) (h' := (N, SH v T, I, L, Dd)) rfl ?_
    refine Ev.eqst (st' := [.int (nI m), .int (nI k)]) (by rw [hm]) ?_
    refine Ev.icmp_ge (tgt := 48) dX7_slotAt_9 (by decide) (fun b1 => ?_) (fun b1 => ?_)
    · exact absurd ((nI_leI (a := m) (b := k) (by omega) (by omega)).mp b1) (by omega)
    · refine Ev.sg hX sX7_slotAt_12 (pc' := 21) (ls' := [some (.ref 396), some (.int c), some (.int e), some (.int (nI k))]) (st' := [.int (139 + (nI k)), .ref 397]) (h' := (N, SH v T, I, L, Dd)) rfl ?_
      refine Ev.ialdE (n := (139 + k)) (N := 179) rfl (naI rfl rfl) (by omega) (by decide) dX7_slotAt_21 ?_
      show Ev _ _ _ _ _ _ 22 [some (.ref 396), some (.int c), some (.int e), some (.int (nI k))] [.int (I 397 (139 + k))] (N, SH v T, I, L, Dd)
      refine Ev.sg hX sX7_slotAt_22 (pc' := 23) (ls' := [some (.ref 396), some (.int c), some (.int e), some (.int (nI k))]) (st' := [.int c, .int (I 397 (139 + k))]) (h' := (N, SH v T, I, L, Dd)) rfl ?_
      refine Ev.icmp_ne (tgt := 42) dX7_slotAt_23 (by decide) (fun b2 => ?_) (fun b2 => ?_)
      · refine Ev.sg hX sX7_slotAt_42 (pc' := 2) (ls' := [some (.ref 396), some (.int c), some (.int e), some (.int ((nI k) + 1))]) (st' := []) (h' := (N, SH v T, I, L, Dd)) rfl ?_
        rw [nI_1, fnd, if_neg (fun q => b2 q.1)]
        exact ih (k + 1) (by omega)
      · refine Ev.sg hX sX7_slotAt_26 (pc' := 35) (ls' := [some (.ref 396), some (.int c), some (.int e), some (.int (nI k))]) (st' := [.int (159 + (nI k)), .ref 397]) (h' := (N, SH v T, I, L, Dd)) rfl ?_
        refine Ev.ialdE (n := (159 + k)) (N := 179) rfl (naI rfl rfl) (by omega) (by decide) dX7_slotAt_35 ?_
        show Ev _ _ _ _ _ _ 36 [some (.ref 396), some (.int c), some (.int e), some (.int (nI k))] [.int (I 397 (159 + k))] (N, SH v T, I, L, Dd)
        refine Ev.sg hX sX7_slotAt_36 (pc' := 37) (ls' := [some (.ref 396), some (.int c), some (.int e), some (.int (nI k))]) (st' := [.int e, .int (I 397 (159 + k))]) (h' := (N, SH v T, I, L, Dd)) rfl ?_
        refine Ev.icmp_ne (tgt := 42) dX7_slotAt_37 (by decide) (fun b3 => ?_) (fun b3 => ?_)
        · refine Ev.sg hX sX7_slotAt_42 (pc' := 2) (ls' := [some (.ref 396), some (.int c), some (.int e), some (.int ((nI k) + 1))]) (st' := []) (h' := (N, SH v T, I, L, Dd)) rfl ?_
          rw [nI_1, fnd, if_neg (fun q => b3 q.2)]
          exact ih (k + 1) (by omega)
        · refine Ev.sg hX sX7_slotAt_40 (pc' := 41) (ls' := [some (.ref 396), some (.int c), some (.int e), some (.int (nI k))]) (st' := [.int (nI k)]) (h' := (N, SH v T, I, L, Dd)) rfl ?_
          refine Ev.iret dX7_slotAt_41 rfl ?_
          rw [fnd, if_pos ⟨b2, b3⟩]
theorem m_slotAt (hX : JXok X) (hd : 1 ≤ d) (hm20 : m ≤ 20) (hm : I 397 1 = nI m) : MT X d 0 0 jdX7_slotAt [.ref 396, .int c, .int e] (N, SH v T, I, L, Dd) (fun R => R = .inl (some (.int (slAM I m c e)), (N, SH v T, I, L, Dd))) := by
  refine MT.mk dvX7_slotAt.1 ?_
  refine Ev.sg hX sX7_slotAt_0 (pc' := 2) (ls' := [some (.ref 396), some (.int c), some (.int e), some (.int 0)]) (st' := []) (h' := (N, SH v T, I, L, Dd)) rfl ?_
  exact l_mslotAt hX hd hm20 hm m 0 (Nat.zero_add m)
theorem m_fromEnd (hX : JXok X) (hd : 2 ≤ d) {t : Nat} (hm20 : m ≤ 20) (hm : I 397 1 = nI m) (ht : t < 8) : MT X d 0 0 jdX7_fromEnd [.ref 396, .int (nI t), .int c] (N, SH v T, I, L, Dd) (fun R => R = .inl (some (.int (feM I m t c)), (N, SH v T, I, L, Dd))) := by
  refine MT.mk dvX7_fromEnd.1 ?_
  refine Ev.sg hX sX7_fromEnd_0 (pc' := 10) (ls' := [some (.ref 396), some (.int (nI t)), some (.int c)]) (st' := [.int (31 + (nI t)), .ref 397, .int (nI t), .ref 396]) (h' := (N, SH v T, I, L, Dd)) rfl ?_
  refine Ev.ialdE (n := (31 + t)) (N := 179) rfl (naI rfl rfl) (by omega) (by decide) dX7_fromEnd_10 ?_
  show Ev _ _ _ _ _ _ 11 [some (.ref 396), some (.int (nI t)), some (.int c)] [.int (I 397 (31 + t)), .int (nI t), .ref 396] (N, SH v T, I, L, Dd)
  refine Ev.sg hX sX7_fromEnd_11 (pc' := 15) (ls' := [some (.ref 396), some (.int (nI t)), some (.int c)]) (st' := [.int (((I 397 (31 + t)) - 1) - c), .int (nI t), .ref 396]) (h' := (N, SH v T, I, L, Dd)) rfl ?_
  refine Ev.callV (As := [.int (nI t), .int (((I 397 (31 + t)) - 1) - c)]) (rest := []) dvX7_slotAt mkX7_60 rfl rfl dX7_fromEnd_15 (m_slotAt (d := d - 1) (I := I) hX (by omega) hm20 hm) ⟨by omega, by show 4 + 19 + 40 * _ ≤ 40 * _; omega⟩ ⟨Nat.zero_le _, Nat.zero_le _⟩ rfl (Nat.le_of_ble_eq_true rfl) (fun v9 h9 e9 => ?_) (fun E9 h9 e9 => nomatch e9)
  cases e9
  show Ev _ _ _ _ _ _ 18 [some (.ref 396), some (.int (nI t)), some (.int c)] [.int (slAM I m (nI t) (((I 397 (31 + t)) - 1) - c))] (N, SH v T, I, L, Dd)
  refine Ev.iret dX7_fromEnd_18 rfl ?_
  rfl
theorem l_msumOn (hX : JXok X) (hd : 1 ≤ d) {a : Nat} (hm20 : m ≤ 20) (hm : I 397 1 = nI m) (ha : a ≤ 159) : ∀ (n k : Nat) (acc : Int32), (k + n = m) → Ev X (jm jdX7_sumOn) d 0 0 (fun R => R = .inl (some (.int (fo (smS I c a) n k acc)), (N, SH v T, I, L, Dd))) 5 [some (.ref 396), some (.int c), some (.int (nI a)), some (.int acc), some (.int (nI k))] [] (N, SH v T, I, L, Dd) := by
  intro n
  induction n with
  | zero =>
    intro k acc hk
    refine Ev.sg hX sX7_sumOn_5 (pc' := 13) (ls' := [some (.ref 396), some (.int c), some (.int (nI a)), some (.int acc), some (.int (nI k))]) (st' := [.int (I 397 1), .int (nI k)]) (h' := (N, SH v T, I, L, Dd)) rfl ?_
    refine Ev.eqst (st' := [.int (nI m), .int (nI k)]) (by rw [hm]) ?_
    refine Ev.icmp_ge (tgt := 53) dX7_sumOn_13 (by decide) (fun b1 => ?_) (fun b1 => ?_)
    · refine Ev.sg hX sX7_sumOn_53 (pc' := 54) (ls' := [some (.ref 396), some (.int c), some (.int (nI a)), some (.int acc), some (.int (nI k))]) (st' := [.int acc]) (h' := (N, SH v T, I, L, Dd)) rfl ?_
      refine Ev.iret dX7_sumOn_54 rfl ?_
      rfl
    · exact absurd ((nI_leI (a := m) (b := k) (by omega) (by omega)).mpr (by omega)) b1
  | succ n ih =>
    intro k acc hk
    refine Ev.sg hX sX7_sumOn_5 (pc' := 13) (ls' := [some (.ref 396), some (.int c), some (.int (nI a)), some (.int acc), some (.int (nI k))]) (st' := [.int (I 397 1), .int (nI k)]) (h' := (N, SH v T, I, L, Dd)) rfl ?_
    refine Ev.eqst (st' := [.int (nI m), .int (nI k)]) (by rw [hm]) ?_
    refine Ev.icmp_ge (tgt := 53) dX7_sumOn_13 (by decide) (fun b1 => ?_) (fun b1 => ?_)
    · exact absurd ((nI_leI (a := m) (b := k) (by omega) (by omega)).mp b1) (by omega)
    · refine Ev.sg hX sX7_sumOn_16 (pc' := 27) (ls' := [some (.ref 396), some (.int c), some (.int (nI a)), some (.int acc), some (.int (nI k))]) (st' := [.int (139 + (nI k)), .ref 397, .int acc]) (h' := (N, SH v T, I, L, Dd)) rfl ?_
      refine Ev.ialdE (n := (139 + k)) (N := 179) rfl (naI rfl rfl) (by omega) (by decide) dX7_sumOn_27 ?_
      show Ev _ _ _ _ _ _ 28 [some (.ref 396), some (.int c), some (.int (nI a)), some (.int acc), some (.int (nI k))] [.int (I 397 (139 + k)), .int acc] (N, SH v T, I, L, Dd)
      refine Ev.sg hX sX7_sumOn_28 (pc' := 29) (ls' := [some (.ref 396), some (.int c), some (.int (nI a)), some (.int acc), some (.int (nI k))]) (st' := [.int c, .int (I 397 (139 + k)), .int acc]) (h' := (N, SH v T, I, L, Dd)) rfl ?_
      refine Ev.icmp_ne (tgt := 44) dX7_sumOn_29 (by decide) (fun b2 => ?_) (fun b2 => ?_)
      · refine Ev.sg hX sX7_sumOn_44 (pc' := 45) (ls' := [some (.ref 396), some (.int c), some (.int (nI a)), some (.int acc), some (.int (nI k))]) (st' := [.int 0, .int acc]) (h' := (N, SH v T, I, L, Dd)) rfl ?_
        refine Ev.sg hX sX7_sumOn_45 (pc' := 5) (ls' := [some (.ref 396), some (.int c), some (.int (nI a)), some (.int (acc + 0)), some (.int ((nI k) + 1))]) (st' := []) (h' := (N, SH v T, I, L, Dd)) rfl ?_
        rw [nI_1]
        have e1 : smS I c a k acc = acc + 0 := by rw [smS, if_neg b2]
        rw [fo, e1]
        exact ih (k + 1) _ (by omega)
      · refine Ev.sg hX sX7_sumOn_32 (pc' := 40) (ls' := [some (.ref 396), some (.int c), some (.int (nI a)), some (.int acc), some (.int (nI k))]) (st' := [.int ((nI a) + (nI k)), .ref 397, .int acc]) (h' := (N, SH v T, I, L, Dd)) rfl ?_
        refine Ev.ialdE (n := (a + k)) (N := 179) rfl (naI rfl rfl) (by omega) (by decide) dX7_sumOn_40 ?_
        show Ev _ _ _ _ _ _ 41 [some (.ref 396), some (.int c), some (.int (nI a)), some (.int acc), some (.int (nI k))] [.int (I 397 (a + k)), .int acc] (N, SH v T, I, L, Dd)
        refine Ev.sg hX sX7_sumOn_41 (pc' := 45) (ls' := [some (.ref 396), some (.int c), some (.int (nI a)), some (.int acc), some (.int (nI k))]) (st' := [.int (I 397 (a + k)), .int acc]) (h' := (N, SH v T, I, L, Dd)) rfl ?_
        refine Ev.sg hX sX7_sumOn_45 (pc' := 5) (ls' := [some (.ref 396), some (.int c), some (.int (nI a)), some (.int (acc + (I 397 (a + k)))), some (.int ((nI k) + 1))]) (st' := []) (h' := (N, SH v T, I, L, Dd)) rfl ?_
        rw [nI_1]
        have e1 : smS I c a k acc = acc + I 397 (a + k) := by rw [smS, if_pos b2]
        rw [fo, e1]
        exact ih (k + 1) _ (by omega)
theorem m_sumOn (hX : JXok X) (hd : 1 ≤ d) {a : Nat} (hm20 : m ≤ 20) (hm : I 397 1 = nI m) (ha : a ≤ 159) : MT X d 0 0 jdX7_sumOn [.ref 396, .int c, .int (nI a)] (N, SH v T, I, L, Dd) (fun R => R = .inl (some (.int (smM I m c a)), (N, SH v T, I, L, Dd))) := by
  refine MT.mk dvX7_sumOn.1 ?_
  refine Ev.sg hX sX7_sumOn_0 (pc' := 5) (ls' := [some (.ref 396), some (.int c), some (.int (nI a)), some (.int 0), some (.int 0)]) (st' := []) (h' := (N, SH v T, I, L, Dd)) rfl ?_
  exact l_msumOn hX hd hm20 hm ha m 0 0 (Nat.zero_add m)
theorem m_room (hX : JXok X) (hd : 2 ≤ d) {t : Nat} (hm20 : m ≤ 20) (hm : I 397 1 = nI m) (ht : t < 8) : MT X d 0 0 jdX7_room [.ref 396, .int (nI t)] (N, SH v T, I, L, Dd) (fun R => R = .inl (some (.int (roM I m t)), (N, SH v T, I, L, Dd))) := by
  refine MT.mk dvX7_room.1 ?_
  refine Ev.sg hX sX7_room_0 (pc' := 8) (ls' := [some (.ref 396), some (.int (nI t))]) (st' := [.int (7 + (nI t)), .ref 397]) (h' := (N, SH v T, I, L, Dd)) rfl ?_
  refine Ev.ialdE (n := (7 + t)) (N := 179) rfl (naI rfl rfl) (by omega) (by decide) dX7_room_8 ?_
  show Ev _ _ _ _ _ _ 9 [some (.ref 396), some (.int (nI t))] [.int (I 397 (7 + t))] (N, SH v T, I, L, Dd)
  refine Ev.sg hX sX7_room_9 (pc' := 13) (ls' := [some (.ref 396), some (.int (nI t))]) (st' := [.int 59, .int (nI t), .ref 396, .int (I 397 (7 + t))]) (h' := (N, SH v T, I, L, Dd)) rfl ?_
  refine Ev.callV (As := [.int (nI t), .int 59]) (rest := [.int (I 397 (7 + t))]) dvX7_sumOn mkX7_64 rfl rfl dX7_room_13 (m_sumOn (d := d - 1) (I := I) (a := 59) hX (by omega) hm20 hm (by omega)) ⟨by omega, by show 5 + 19 + 40 * _ ≤ 40 * _; omega⟩ ⟨Nat.zero_le _, Nat.zero_le _⟩ rfl (Nat.le_of_ble_eq_true rfl) (fun v9 h9 e9 => ?_) (fun E9 h9 e9 => nomatch e9)
  cases e9
  show Ev _ _ _ _ _ _ 16 [some (.ref 396), some (.int (nI t))] [.int (smM I m (nI t) 59), .int (I 397 (7 + t))] (N, SH v T, I, L, Dd)
  refine Ev.sg hX sX7_room_16 (pc' := 17) (ls' := [some (.ref 396), some (.int (nI t))]) (st' := [.int ((I 397 (7 + t)) - (smM I m (nI t) 59))]) (h' := (N, SH v T, I, L, Dd)) rfl ?_
  refine Ev.iret dX7_room_17 rfl ?_
  rfl
theorem l_ex1 (hX : JXok X) (hd : 2 ≤ d) {r i : Nat} {u : Nat} {G : Nat → Int32} {Q : JR → Prop} (hz8 : z ≤ 8) (hG : G 0 = nI z) (hi : i < 8) : ∀ (n k : Nat) (J : HI) (l3 l4 l5 : Option Value), k + n = z → J 397 = G → (∀ l5, Ev X (jm jdX7_explores) d 0 0 Q 135 [some (.ref 396), some (.int (nI u)), some (.int (nI r)), some (.int (nI i)), some (.int (nI z)), l5] [] (N, SH v T, fo (stE i) n k J, L, Dd)) → Ev X (jm jdX7_explores) d 0 0 Q 54 [some (.ref 396), some (.int (nI u)), some (.int (nI r)), some (.int (nI i)), some (.int (nI k)), l5] [] (N, SH v T, J, L, Dd) := by
  intro n
  induction n with
  | zero =>
    intro k J l3 l4 l5 hk hJ hQ
    have hJ0 : J 397 0 = nI z := by rw [hJ, hG]
    refine Ev.sg hX sX7_explores_54 (pc' := 62) (ls' := [some (.ref 396), some (.int (nI u)), some (.int (nI r)), some (.int (nI i)), some (.int (nI k)), l5]) (st' := [.int (J 397 0), .int (nI k)]) (h' := (N, SH v T, J, L, Dd)) rfl ?_
    refine Ev.eqst (st' := [.int (nI z), .int (nI k)]) (by rw [hJ0]) ?_
    refine Ev.icmp_ge (tgt := 135) dX7_explores_62 (by decide) (fun b1 => ?_) (fun b1 => ?_)
    · obtain rfl : k = z := by omega
      exact hQ l5
    · exact absurd ((nI_leI (a := z) (b := k) (by omega) (by omega)).mpr (by omega)) b1
  | succ n ih =>
    intro k J l3 l4 l5 hk hJ hQ
    have hJ0 : J 397 0 = nI z := by rw [hJ, hG]
    refine Ev.sg hX sX7_explores_54 (pc' := 62) (ls' := [some (.ref 396), some (.int (nI u)), some (.int (nI r)), some (.int (nI i)), some (.int (nI k)), l5]) (st' := [.int (J 397 0), .int (nI k)]) (h' := (N, SH v T, J, L, Dd)) rfl ?_
    refine Ev.eqst (st' := [.int (nI z), .int (nI k)]) (by rw [hJ0]) ?_
    refine Ev.icmp_ge (tgt := 135) dX7_explores_62 (by decide) (fun b1 => ?_) (fun b1 => ?_)
    · exact absurd ((nI_leI (a := z) (b := k) (by omega) (by omega)).mp b1) (by omega)
    · refine Ev.sg hX sX7_explores_65 (pc' := 69) (ls' := [some (.ref 396), some (.int (nI u)), some (.int (nI r)), some (.int (nI i)), some (.int (nI k)), l5]) (st' := [.int (nI k), .int (nI i), .ref 396]) (h' := (N, SH v T, J, L, Dd)) rfl ?_
      refine Ev.callV (As := [.int (nI i), .int (nI k)]) (rest := []) dvX7_isLinked mkX7_67 rfl rfl dX7_explores_69 (m_isLinked (d := d - 1) (I := J) (a := i) (b := k) hX (by omega) (by omega)) ⟨by omega, by show 3 + 19 + 40 * _ ≤ 40 * _; omega⟩ ⟨Nat.zero_le _, Nat.zero_le _⟩ rfl (Nat.le_of_ble_eq_true rfl) (fun v9 h9 e9 => ?_) (fun E9 h9 e9 => nomatch e9)
      cases e9
      show Ev _ _ _ _ _ _ 72 [some (.ref 396), some (.int (nI u)), some (.int (nI r)), some (.int (nI i)), some (.int (nI k)), l5] [.int (bi (lkM J i k))] (N, SH v T, J, L, Dd)
      refine Ev.if_eq (tgt := 97) dX7_explores_72 (by decide) (fun b2 => ?_) (fun b2 => ?_)
      · refine Ev.sg hX sX7_explores_97 (pc' := 98) (ls' := [some (.ref 396), some (.int (nI u)), some (.int (nI r)), some (.int (nI i)), some (.int (nI k)), l5]) (st' := [.int 0]) (h' := (N, SH v T, J, L, Dd)) rfl ?_
        refine Ev.sg hX sX7_explores_98 (pc' := 107) (ls' := [some (.ref 396), some (.int (nI u)), some (.int (nI r)), some (.int (nI i)), some (.int (nI k)), some (.int 0)]) (st' := [.int 0, .int (nI i), .ref 403]) (h' := (N, SH v T, J, L, Dd)) rfl ?_
        refine Ev.if_eq (tgt := 122) dX7_explores_107 (by decide) (fun b3 => ?_) (fun b3 => ?_)
        · refine Ev.sg hX sX7_explores_122 (pc' := 127) (ls' := [some (.ref 396), some (.int (nI u)), some (.int (nI r)), some (.int (nI i)), some (.int (nI k)), some (.int 0)]) (st' := [.int (nI i), .ref 403, .int (nI i), .ref 403]) (h' := (N, SH v T, J, L, Dd)) rfl ?_
          refine Ev.ialdE (n := i) (N := 8) rfl rfl (by omega) (by decide) dX7_explores_127 ?_
          show Ev _ _ _ _ _ _ 128 [some (.ref 396), some (.int (nI u)), some (.int (nI r)), some (.int (nI i)), some (.int (nI k)), some (.int 0)] [.int (J 403 i), .int (nI i), .ref 403] (N, SH v T, J, L, Dd)
          refine Ev.iastE (n := i) (N := 8) hX rfl rfl (by omega) (by decide) dX7_explores_128 ?_
          show Ev _ _ _ _ _ _ 129 [some (.ref 396), some (.int (nI u)), some (.int (nI r)), some (.int (nI i)), some (.int (nI k)), some (.int 0)] [] (N, SH v T, up2 J 403 i (J 403 i), L, Dd)
          refine Ev.sg hX sX7_explores_129 (pc' := 54) (ls' := [some (.ref 396), some (.int (nI u)), some (.int (nI r)), some (.int (nI i)), some (.int ((nI k) + 1)), some (.int 0)]) (st' := []) (h' := (N, SH v T, up2 J 403 i (J 403 i), L, Dd)) rfl ?_
          rw [nI_1]
          have e1 : stE i k J = up2 J 403 i (J 403 i) := by rw [stE, if_neg (fun q => absurd q.1 (bi_0.mp b2))]
          rw [← e1]
          exact ih (k + 1) (stE i k J) none none _ (by omega) ((up2_ne (by decide)).trans hJ) hQ
        · exact absurd rfl b3
      · refine Ev.sg hX sX7_explores_75 (pc' := 81) (ls' := [some (.ref 396), some (.int (nI u)), some (.int (nI r)), some (.int (nI i)), some (.int (nI k)), l5]) (st' := [.int (nI k), .ref 403]) (h' := (N, SH v T, J, L, Dd)) rfl ?_
        refine Ev.ialdE (n := k) (N := 8) rfl rfl (by omega) (by decide) dX7_explores_81 ?_
        show Ev _ _ _ _ _ _ 82 [some (.ref 396), some (.int (nI u)), some (.int (nI r)), some (.int (nI i)), some (.int (nI k)), l5] [.int (J 403 k)] (N, SH v T, J, L, Dd)
        refine Ev.sg hX sX7_explores_82 (pc' := 89) (ls' := [some (.ref 396), some (.int (nI u)), some (.int (nI r)), some (.int (nI i)), some (.int (nI k)), l5]) (st' := [.int (nI i), .ref 403, .int ((J 403 k) + 1)]) (h' := (N, SH v T, J, L, Dd)) rfl ?_
        refine Ev.ialdE (n := i) (N := 8) rfl rfl (by omega) (by decide) dX7_explores_89 ?_
        show Ev _ _ _ _ _ _ 90 [some (.ref 396), some (.int (nI u)), some (.int (nI r)), some (.int (nI i)), some (.int (nI k)), l5] [.int (J 403 i), .int ((J 403 k) + 1)] (N, SH v T, J, L, Dd)
        refine Ev.icmp_ge (tgt := 97) dX7_explores_90 (by decide) (fun b4 => ?_) (fun b4 => ?_)
        · refine Ev.sg hX sX7_explores_97 (pc' := 98) (ls' := [some (.ref 396), some (.int (nI u)), some (.int (nI r)), some (.int (nI i)), some (.int (nI k)), l5]) (st' := [.int 0]) (h' := (N, SH v T, J, L, Dd)) rfl ?_
          refine Ev.sg hX sX7_explores_98 (pc' := 107) (ls' := [some (.ref 396), some (.int (nI u)), some (.int (nI r)), some (.int (nI i)), some (.int (nI k)), some (.int 0)]) (st' := [.int 0, .int (nI i), .ref 403]) (h' := (N, SH v T, J, L, Dd)) rfl ?_
          refine Ev.if_eq (tgt := 122) dX7_explores_107 (by decide) (fun b5 => ?_) (fun b5 => ?_)
          · refine Ev.sg hX sX7_explores_122 (pc' := 127) (ls' := [some (.ref 396), some (.int (nI u)), some (.int (nI r)), some (.int (nI i)), some (.int (nI k)), some (.int 0)]) (st' := [.int (nI i), .ref 403, .int (nI i), .ref 403]) (h' := (N, SH v T, J, L, Dd)) rfl ?_
            refine Ev.ialdE (n := i) (N := 8) rfl rfl (by omega) (by decide) dX7_explores_127 ?_
            show Ev _ _ _ _ _ _ 128 [some (.ref 396), some (.int (nI u)), some (.int (nI r)), some (.int (nI i)), some (.int (nI k)), some (.int 0)] [.int (J 403 i), .int (nI i), .ref 403] (N, SH v T, J, L, Dd)
            refine Ev.iastE (n := i) (N := 8) hX rfl rfl (by omega) (by decide) dX7_explores_128 ?_
            show Ev _ _ _ _ _ _ 129 [some (.ref 396), some (.int (nI u)), some (.int (nI r)), some (.int (nI i)), some (.int (nI k)), some (.int 0)] [] (N, SH v T, up2 J 403 i (J 403 i), L, Dd)
            refine Ev.sg hX sX7_explores_129 (pc' := 54) (ls' := [some (.ref 396), some (.int (nI u)), some (.int (nI r)), some (.int (nI i)), some (.int ((nI k) + 1)), some (.int 0)]) (st' := []) (h' := (N, SH v T, up2 J 403 i (J 403 i), L, Dd)) rfl ?_
            rw [nI_1]
            have e1 : stE i k J = up2 J 403 i (J 403 i) := by rw [stE, if_neg (fun q => absurd q.2 (Int32.not_lt.mpr b4))]
            rw [← e1]
            exact ih (k + 1) (stE i k J) none none _ (by omega) ((up2_ne (by decide)).trans hJ) hQ
          · exact absurd rfl b5
        · refine Ev.sg hX sX7_explores_93 (pc' := 98) (ls' := [some (.ref 396), some (.int (nI u)), some (.int (nI r)), some (.int (nI i)), some (.int (nI k)), l5]) (st' := [.int 1]) (h' := (N, SH v T, J, L, Dd)) rfl ?_
          refine Ev.sg hX sX7_explores_98 (pc' := 107) (ls' := [some (.ref 396), some (.int (nI u)), some (.int (nI r)), some (.int (nI i)), some (.int (nI k)), some (.int 1)]) (st' := [.int 1, .int (nI i), .ref 403]) (h' := (N, SH v T, J, L, Dd)) rfl ?_
          refine Ev.if_eq (tgt := 122) dX7_explores_107 (by decide) (fun b6 => ?_) (fun b6 => ?_)
          · exact absurd b6 (by decide)
          · refine Ev.sg hX sX7_explores_110 (pc' := 116) (ls' := [some (.ref 396), some (.int (nI u)), some (.int (nI r)), some (.int (nI i)), some (.int (nI k)), some (.int 1)]) (st' := [.int (nI k), .ref 403, .int (nI i), .ref 403]) (h' := (N, SH v T, J, L, Dd)) rfl ?_
            refine Ev.ialdE (n := k) (N := 8) rfl rfl (by omega) (by decide) dX7_explores_116 ?_
            show Ev _ _ _ _ _ _ 117 [some (.ref 396), some (.int (nI u)), some (.int (nI r)), some (.int (nI i)), some (.int (nI k)), some (.int 1)] [.int (J 403 k), .int (nI i), .ref 403] (N, SH v T, J, L, Dd)
            refine Ev.sg hX sX7_explores_117 (pc' := 128) (ls' := [some (.ref 396), some (.int (nI u)), some (.int (nI r)), some (.int (nI i)), some (.int (nI k)), some (.int 1)]) (st' := [.int ((J 403 k) + 1), .int (nI i), .ref 403]) (h' := (N, SH v T, J, L, Dd)) rfl ?_
            refine Ev.iastE (n := i) (N := 8) hX rfl rfl (by omega) (by decide) dX7_explores_128 ?_
            show Ev _ _ _ _ _ _ 129 [some (.ref 396), some (.int (nI u)), some (.int (nI r)), some (.int (nI i)), some (.int (nI k)), some (.int 1)] [] (N, SH v T, up2 J 403 i ((J 403 k) + 1), L, Dd)
            refine Ev.sg hX sX7_explores_129 (pc' := 54) (ls' := [some (.ref 396), some (.int (nI u)), some (.int (nI r)), some (.int (nI i)), some (.int ((nI k) + 1)), some (.int 1)]) (st' := []) (h' := (N, SH v T, up2 J 403 i ((J 403 k) + 1), L, Dd)) rfl ?_
            rw [nI_1]
            have e1 : stE i k J = up2 J 403 i ((J 403 k) + 1) := by rw [stE, if_pos ⟨bi_1.mp b2, Int32.not_le.mp b4⟩]
            rw [← e1]
            exact ih (k + 1) (stE i k J) none none _ (by omega) ((up2_ne (by decide)).trans hJ) hQ
theorem l_ex2 (hX : JXok X) (hd : 2 ≤ d) {r : Nat} {u : Nat} {G : Nat → Int32} {Q : JR → Prop} (hz8 : z ≤ 8) (hG : G 0 = nI z) : ∀ (n k : Nat) (J : HI) (l3 l4 l5 : Option Value), k + n = z → J 397 = G → (∀ l4 l5, Ev X (jm jdX7_explores) d 0 0 Q 141 [some (.ref 396), some (.int (nI u)), some (.int (nI r)), some (.int (nI z)), l4, l5] [] (N, SH v T, fo (ex1 z) n k J, L, Dd)) → Ev X (jm jdX7_explores) d 0 0 Q 41 [some (.ref 396), some (.int (nI u)), some (.int (nI r)), some (.int (nI k)), l4, l5] [] (N, SH v T, J, L, Dd) := by
  intro n
  induction n with
  | zero =>
    intro k J l3 l4 l5 hk hJ hQ
    have hJ0 : J 397 0 = nI z := by rw [hJ, hG]
    refine Ev.sg hX sX7_explores_41 (pc' := 48) (ls' := [some (.ref 396), some (.int (nI u)), some (.int (nI r)), some (.int (nI k)), l4, l5]) (st' := [.int (J 397 0), .int (nI k)]) (h' := (N, SH v T, J, L, Dd)) rfl ?_
    refine Ev.eqst (st' := [.int (nI z), .int (nI k)]) (by rw [hJ0]) ?_
    refine Ev.icmp_ge (tgt := 141) dX7_explores_48 (by decide) (fun b1 => ?_) (fun b1 => ?_)
    · obtain rfl : k = z := by omega
      exact hQ l4 l5
    · exact absurd ((nI_leI (a := z) (b := k) (by omega) (by omega)).mpr (by omega)) b1
  | succ n ih =>
    intro k J l3 l4 l5 hk hJ hQ
    have hJ0 : J 397 0 = nI z := by rw [hJ, hG]
    refine Ev.sg hX sX7_explores_41 (pc' := 48) (ls' := [some (.ref 396), some (.int (nI u)), some (.int (nI r)), some (.int (nI k)), l4, l5]) (st' := [.int (J 397 0), .int (nI k)]) (h' := (N, SH v T, J, L, Dd)) rfl ?_
    refine Ev.eqst (st' := [.int (nI z), .int (nI k)]) (by rw [hJ0]) ?_
    refine Ev.icmp_ge (tgt := 141) dX7_explores_48 (by decide) (fun b1 => ?_) (fun b1 => ?_)
    · exact absurd ((nI_leI (a := z) (b := k) (by omega) (by omega)).mp b1) (by omega)
    · refine Ev.sg hX sX7_explores_51 (pc' := 54) (ls' := [some (.ref 396), some (.int (nI u)), some (.int (nI r)), some (.int (nI k)), some (.int 0), l5]) (st' := []) (h' := (N, SH v T, J, L, Dd)) rfl ?_
      refine l_ex1 hX hd hz8 hG (i := k) (by omega) z 0 J none none l5 (Nat.zero_add z) hJ (fun l5 => ?_)
      refine Ev.sg hX sX7_explores_135 (pc' := 41) (ls' := [some (.ref 396), some (.int (nI u)), some (.int (nI r)), some (.int (nI k + 1)), some (.int (nI z)), l5]) (st' := []) (h' := (N, SH v T, fo (stE k) z 0 J, L, Dd)) rfl ?_
      rw [nI_1]
      exact ih (k + 1) (ex1 z k J) none (some (.int (nI z))) l5 (by omega) ((ex1_ne (by decide)).trans hJ) hQ
theorem l_ex3 (hX : JXok X) (hd : 2 ≤ d) {u : Nat} {G : Nat → Int32} {Q : JR → Prop} (hz8 : z ≤ 8) (hG : G 0 = nI z) : ∀ (n k : Nat) (J : HI) (l3 l4 l5 : Option Value), k + n = 8 → J 397 = G → (Q (.inl (none, (N, SH v T, fo (fun _ J => ex2 z J) n k J, L, Dd)))) → Ev X (jm jdX7_explores) d 0 0 Q 33 [some (.ref 396), some (.int (nI u)), some (.int (nI k)), l3, l4, l5] [] (N, SH v T, J, L, Dd) := by
  intro n
  induction n with
  | zero =>
    intro k J l3 l4 l5 hk hJ hQ
    refine Ev.sg hX sX7_explores_33 (pc' := 36) (ls' := [some (.ref 396), some (.int (nI u)), some (.int (nI k)), l3, l4, l5]) (st' := [.int 8, .int (nI k)]) (h' := (N, SH v T, J, L, Dd)) rfl ?_
    refine Ev.icmp_ge (tgt := 147) dX7_explores_36 (by decide) (fun b1 => ?_) (fun b1 => ?_)
    · rw [show k = 8 by omega]
      exact Ev.vret dX7_explores_147 rfl hQ
    · exact absurd ((nI_leI (a := 8) (b := k) (by decide) (by omega)).mpr (by omega)) b1
  | succ n ih =>
    intro k J l3 l4 l5 hk hJ hQ
    refine Ev.sg hX sX7_explores_33 (pc' := 36) (ls' := [some (.ref 396), some (.int (nI u)), some (.int (nI k)), l3, l4, l5]) (st' := [.int 8, .int (nI k)]) (h' := (N, SH v T, J, L, Dd)) rfl ?_
    refine Ev.icmp_ge (tgt := 147) dX7_explores_36 (by decide) (fun b1 => ?_) (fun b1 => ?_)
    · exact absurd ((nI_leI (a := 8) (b := k) (by decide) (by omega)).mp b1) (by omega)
    · refine Ev.sg hX sX7_explores_39 (pc' := 41) (ls' := [some (.ref 396), some (.int (nI u)), some (.int (nI k)), some (.int 0), l4, l5]) (st' := []) (h' := (N, SH v T, J, L, Dd)) rfl ?_
      refine l_ex2 hX hd hz8 hG z 0 J none l4 l5 (Nat.zero_add z) hJ (fun l4 l5 => ?_)
      refine Ev.sg hX sX7_explores_141 (pc' := 33) (ls' := [some (.ref 396), some (.int (nI u)), some (.int (nI k + 1)), some (.int (nI z)), l4, l5]) (st' := []) (h' := (N, SH v T, fo (ex1 z) z 0 J, L, Dd)) rfl ?_
      rw [nI_1]
      exact ih (k + 1) (ex2 z J) (some (.int (nI z))) l4 l5 (by omega) ((ex2_ne (by decide)).trans hJ) hQ
theorem l_ex0 (hX : JXok X) (hd : 2 ≤ d) {u : Nat} {G : Nat → Int32} {Q : JR → Prop} (hz8 : z ≤ 8) (hG : G 0 = nI z) : ∀ (n k : Nat) (J : HI) (l3 l4 l5 : Option Value), k + n = 8 → J 397 = G → (Q (.inl (none, (N, SH v T, fo (fun _ J => ex2 z J) 8 0 (fo (exI u) n k J), L, Dd)))) → Ev X (jm jdX7_explores) d 0 0 Q 2 [some (.ref 396), some (.int (nI u)), some (.int (nI k)), none, none, none] [] (N, SH v T, J, L, Dd) := by
  intro n
  induction n with
  | zero =>
    intro k J l3 l4 l5 hk hJ hQ
    refine Ev.sg hX sX7_explores_2 (pc' := 5) (ls' := [some (.ref 396), some (.int (nI u)), some (.int (nI k)), none, none, none]) (st' := [.int 8, .int (nI k)]) (h' := (N, SH v T, J, L, Dd)) rfl ?_
    refine Ev.icmp_ge (tgt := 31) dX7_explores_5 (by decide) (fun b1 => ?_) (fun b1 => ?_)
    · rw [show k = 8 by omega]
      refine Ev.sg hX sX7_explores_31 (pc' := 33) (ls' := [some (.ref 396), some (.int (nI u)), some (.int (nI 0)), none, none, none]) (st' := []) (h' := (N, SH v T, J, L, Dd)) rfl ?_
      exact l_ex3 hX hd hz8 hG 8 0 J none none none rfl hJ hQ
    · exact absurd ((nI_leI (a := 8) (b := k) (by decide) (by omega)).mpr (by omega)) b1
  | succ n ih =>
    intro k J l3 l4 l5 hk hJ hQ
    refine Ev.sg hX sX7_explores_2 (pc' := 5) (ls' := [some (.ref 396), some (.int (nI u)), some (.int (nI k)), none, none, none]) (st' := [.int 8, .int (nI k)]) (h' := (N, SH v T, J, L, Dd)) rfl ?_
    refine Ev.icmp_ge (tgt := 31) dX7_explores_5 (by decide) (fun b1 => ?_) (fun b1 => ?_)
    · exact absurd ((nI_leI (a := 8) (b := k) (by decide) (by omega)).mp b1) (by omega)
    · refine Ev.sg hX sX7_explores_8 (pc' := 15) (ls' := [some (.ref 396), some (.int (nI u)), some (.int (nI k)), none, none, none]) (st' := [.int (nI u), .int (nI k), .int (nI k), .ref 403]) (h' := (N, SH v T, J, L, Dd)) rfl ?_
      refine Ev.icmp_ne (tgt := 22) dX7_explores_15 (by decide) (fun b2 => ?_) (fun b2 => ?_)
      · refine Ev.sg hX sX7_explores_22 (pc' := 24) (ls' := [some (.ref 396), some (.int (nI u)), some (.int (nI k)), none, none, none]) (st' := [.int 100, .int (nI k), .ref 403]) (h' := (N, SH v T, J, L, Dd)) rfl ?_
        refine Ev.iastE (n := k) (N := 8) hX rfl rfl (by omega) (by decide) dX7_explores_24 ?_
        show Ev _ _ _ _ _ _ 25 [some (.ref 396), some (.int (nI u)), some (.int (nI k)), none, none, none] [] (N, SH v T, up2 J 403 k 100, L, Dd)
        refine Ev.sg hX sX7_explores_25 (pc' := 2) (ls' := [some (.ref 396), some (.int (nI u)), some (.int ((nI k) + 1)), none, none, none]) (st' := []) (h' := (N, SH v T, up2 J 403 k 100, L, Dd)) rfl ?_
        rw [nI_1]
        have e1 : exI u k J = up2 J 403 k 100 := by rw [exI, if_neg b2]
        rw [← e1]
        exact ih (k + 1) (exI u k J) none none none (by omega) ((up2_ne (by decide)).trans hJ) hQ
      · refine Ev.sg hX sX7_explores_18 (pc' := 24) (ls' := [some (.ref 396), some (.int (nI u)), some (.int (nI k)), none, none, none]) (st' := [.int 0, .int (nI k), .ref 403]) (h' := (N, SH v T, J, L, Dd)) rfl ?_
        refine Ev.iastE (n := k) (N := 8) hX rfl rfl (by omega) (by decide) dX7_explores_24 ?_
        show Ev _ _ _ _ _ _ 25 [some (.ref 396), some (.int (nI u)), some (.int (nI k)), none, none, none] [] (N, SH v T, up2 J 403 k 0, L, Dd)
        refine Ev.sg hX sX7_explores_25 (pc' := 2) (ls' := [some (.ref 396), some (.int (nI u)), some (.int ((nI k) + 1)), none, none, none]) (st' := []) (h' := (N, SH v T, up2 J 403 k 0, L, Dd)) rfl ?_
        rw [nI_1]
        have e1 : exI u k J = up2 J 403 k 0 := by rw [exI, if_pos b2]
        rw [← e1]
        exact ih (k + 1) (exI u k J) none none none (by omega) ((up2_ne (by decide)).trans hJ) hQ
theorem m_explores {u : Nat} (hX : JXok X) (hd : 2 ≤ d) (hz8 : z ≤ 8) (hz : I 397 0 = nI z) : MT X d 0 0 jdX7_explores [.ref 396, .int (nI u)] (N, SH v T, I, L, Dd) (fun R => R = .inl (none, (N, SH v T, exM I z u, L, Dd))) := by
  refine MT.mk dvX7_explores.1 ?_
  refine Ev.sg hX sX7_explores_0 (pc' := 2) (ls' := [some (.ref 396), some (.int (nI u)), some (.int 0), none, none, none]) (st' := []) (h' := (N, SH v T, I, L, Dd)) rfl ?_
  exact l_ex0 hX hd hz8 hz 8 0 I none none none rfl rfl rfl
theorem m_lengthOf (hX : JXok X) (hd : 3 ≤ d) {a u : Nat} (hz8 : z ≤ 8) (hz : I 397 0 = nI z) (ha : a < 8) (hu : u < 8) : MT X d 0 0 jdX7_lengthOf [.ref 396, .int (nI a), .int (nI u)] (N, SH v T, I, L, Dd) (fun R => R = .inl (some (.int (exM I z u 403 a)), (N, SH v T, exM I z u, L, Dd))) := by
  refine MT.mk dvX7_lengthOf.1 ?_
  refine Ev.sg hX sX7_lengthOf_0 (pc' := 2) (ls' := [some (.ref 396), some (.int (nI a)), some (.int (nI u))]) (st' := [.int (nI u), .ref 396]) (h' := (N, SH v T, I, L, Dd)) rfl ?_
  refine Ev.callV (As := [.int (nI u)]) (rest := []) dvX7_explores mkX7_71 rfl rfl dX7_lengthOf_2 (m_explores (d := d - 1) (I := I) (u := u) hX (by omega) hz8 hz) ⟨by omega, by show 6 + 19 + 40 * _ ≤ 40 * _; omega⟩ ⟨Nat.zero_le _, Nat.zero_le _⟩ rfl (Nat.le_of_ble_eq_true rfl) (fun v9 h9 e9 => ?_) (fun E9 h9 e9 => nomatch e9)
  cases e9
  show Ev _ _ _ _ _ _ 5 [some (.ref 396), some (.int (nI a)), some (.int (nI u))] [] (N, SH v T, exM I z u, L, Dd)
  refine Ev.sg hX sX7_lengthOf_5 (pc' := 10) (ls' := [some (.ref 396), some (.int (nI a)), some (.int (nI u))]) (st' := [.int (nI a), .ref 403]) (h' := (N, SH v T, exM I z u, L, Dd)) rfl ?_
  refine Ev.ialdE (n := a) (N := 8) rfl rfl (by omega) (by decide) dX7_lengthOf_10 ?_
  show Ev _ _ _ _ _ _ 11 [some (.ref 396), some (.int (nI a)), some (.int (nI u))] [.int ((exM I z u) 403 a)] (N, SH v T, exM I z u, L, Dd)
  refine Ev.iret dX7_lengthOf_11 rfl ?_
  rfl
end MOD2
