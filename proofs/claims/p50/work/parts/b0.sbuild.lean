/-! the StringBuilder again: its methods over a heap of which nothing else is known -/
abbrev sbS (v : Nat) : JS := .inr (8, [.inl (.ref v), .inr false, .inr false, .inr false])
/-- a heap whose cell 394 is a builder with the bytes v, 395 its first bytes -/
def SB (v : Nat) (T : Nat → Option JS) : Nat → Option JS := fun k => if k = 394 then some (sbS v) else if k = 395 then some (.inl (.byte, 16)) else T k
theorem SB_hi {v k : Nat} {T : Nat → Option JS} (h1 : k ≠ 394) (h2 : k ≠ 395) : SB v T k = T k := by
  unfold SB
  rw [if_neg h1, if_neg h2]
theorem SB_put {v v' : Nat} {T : Nat → Option JS} : upS (SB v T) 394 (.inr (8, [.inl (.ref v'), .inr false, .inr false, .inr false])) = SB v' T := by
  funext k
  unfold upS SB
  by_cases hk : k = 394
  · rw [if_pos hk, if_pos hk]
  · rw [if_neg hk, if_neg hk, if_neg hk]
theorem newS_SB {N v : Nat} {T : Nat → Option JS} {I : Nat → Nat → Int32} {L : Nat → Nat → Int64} {Dd : Nat → Nat → UInt64} {sh : JS} (hN : 396 ≤ N) : newS (N, SB v T, I, L, Dd) sh = (N + 1, SB v (upS T N sh), I, L, Dd) := by
  have e : upS (SB v T) N sh = SB v (upS T N sh) := by
    funext k
    by_cases hk : k = N
    · subst hk
      rw [SB_hi (by omega) (by omega)]
      exact upS_eq.trans upS_eq.symm
    · rw [upS_ne hk]
      unfold SB
      rw [upS_ne hk]
  show (N + 1, upS (SB v T) N sh, I, L, Dd) = _
  rw [e]
/-- the line's builder bears the text w; its bytes have room for cap -/
def LnB (P : PF) (w : List Int32) (cap N v : Nat) (T : Nat → Option JS) (I : HI) (L : HL) (Dd : HD) : Prop :=
  SB v T v = some (.inl (.byte, cap)) ∧ (v = 395 ∨ P.1 ≤ v) ∧ (v < N ∧ 396 ≤ P.1 ∧ P.1 ≤ N) ∧ 396 ≤ N ∧ I 394 3 = nI w.length ∧ I 394 1 = 0 ∧ (w.length ≤ cap ∧ 16 ≤ cap ∧ cap ≤ 700) ∧
  (∀ i, i < w.length → I v i = w.getD i 0) ∧ (∀ j, j < cap → fits .byte (.int (I v j)) = true) ∧ ((∀ a, N ≤ a → ∀ j, I a j = 0 ∧ L a j = 0 ∧ Dd a j = 0) ∧ ∀ a, (a ≠ 394 ∧ a ≠ 395) → a < P.1 → T a = P.2.1 a ∧ I a = P.2.2 a)
theorem LnB.grow {P : PF} {w : List Int32} {cap N v : Nat} {T : Nat → Option JS} {I : HI} {L : HL} {Dd : HD} (h : LnB P w cap N v T I L Dd) (h2 : 2 * cap + 2 ≤ 700) : LnB P w (2 * cap + 2) (N + 1) N (upS T N (.inl (.byte, 2 * cap + 2))) (grI I v cap N) L Dd := by
  obtain ⟨h1, h3, h4, h5, h6, h7, h8, h9, h10, h11⟩ := h
  refine ⟨?_, Or.inr h4.2.2, by omega, by omega, ?_, ?_, ⟨by omega, by omega, h2⟩, fun i hi => ?_, fun j hj => ?_, fun a ha j => ?_, fun a ha1 ha2 => ⟨(upS_ne (by omega)).trans (h11.2 a ha1 ha2).1, Eq.trans (by funext j; rw [grI, if_neg (by omega)]) (h11.2 a ha1 ha2).2⟩⟩
  · rw [SB_hi (by omega) (by omega)]
    exact upS_eq
  · rw [grI, if_neg (by omega)]
    exact h6
  · rw [grI, if_neg (by omega)]
    exact h7
  · rw [grI, if_pos rfl, if_pos (by omega)]
    exact h9 i hi
  · rw [grI, if_pos rfl]
    split
    · rename_i hj2
      exact h10 j hj2
    · rw [(h11.1 N (Nat.le_refl _) j).1]
      decide
  · rw [grI, if_neg (by omega)]
    exact h11.1 a (by omega) j
theorem LnB.put {P : PF} {w : List Int32} {cap N v : Nat} {T : Nat → Option JS} {I J : HI} {L : HL} {Dd : HD} (h : LnB P w cap N v T I L Dd) {ds : List Int32} (hl : w.length + ds.length ≤ cap) (hJ1 : J 394 3 = nI (w.length + ds.length)) (hJ2 : J 394 1 = 0)
    (hv : ∀ j, J v j = if w.length ≤ j ∧ j < w.length + ds.length then ds.getD (j - w.length) 0 else I v j) (hf : ∀ x ∈ ds, fits .byte (.int x) = true) (ho : ∀ a, a ≠ 394 → a ≠ v → J a = I a) : LnB P (w ++ ds) cap N v T J L Dd := by
  obtain ⟨h1, h3, h4, h5, h6, h7, h8, h9, h10, h11⟩ := h
  refine ⟨h1, h3, h4, h5, by rw [List.length_append]; exact hJ1, hJ2, ⟨by rw [List.length_append]; exact hl, h8.2⟩, fun i hi => ?_, fun j hj => ?_, fun a ha j => ?_, fun a ha1 ha2 => ⟨(h11.2 a ha1 ha2).1, (ho a (by omega) (by omega)).trans (h11.2 a ha1 ha2).2⟩⟩
  · rw [List.length_append] at hi
    rw [hv, List.getD_eq_getElem?_getD, List.getD_eq_getElem?_getD]
    by_cases h : w.length ≤ i
    · rw [if_pos ⟨h, hi⟩, List.getElem?_append_right h]
    · rw [if_neg (fun z => h z.1), List.getElem?_append_left (by omega), h9 i (by omega), List.getD_eq_getElem?_getD]
  · rw [hv]
    split
    · rename_i hj2
      rw [List.getD_eq_getElem?_getD, List.getElem?_eq_getElem (by omega)]
      exact hf _ (List.getElem_mem _)
    · exact h10 j hj
  · rw [ho a (by omega) (by omega)]
    exact h11.1 a ha j
section SBM
variable {X : JX} {d N v cap n q : Nat} {T : Nat → Option JS} {I : HI} {L : HL} {Dd : HD} {c : Int32} {w : List Int32} {P : PF}
theorem c_isL1B (hX : JXok X) (hd : 0 ≤ d) (hc0 : I 394 1 = 0) : MT X d 0 0 jdJ5_isLatin1_aae02 [.ref 394] (N, SB v T, I, L, Dd) (fun R => R = .inl (some (.int (1)), (N, SB v T, I, L, Dd))) := by
  refine MT.mk dbJ5_isLatin1_aae02 ?_
  refine Ev.getsCS (by decide +kernel) dJ5_isLatin1_aae02_0 ?_
  refine Ev.if_eq (tgt := 17) dJ5_isLatin1_aae02_3 (by decide) (fun b1 => ?_) (fun b1 => ?_)
  · exact absurd b1 (by decide)
  · refine Ev.sg hX (sJ5_isLatin1_aae02_6.sub 0 1) (pc' := 7) (ls' := [some (.ref 394)]) (st' := [.ref 394]) (h' := (N, SB v T, I, L, Dd)) rfl ?_
    refine Ev.getf (sJ5_isLatin1_aae02_6.lk 1 (q := (7, .getfield 22, 8, 1)) rfl) rfl rfl (sJ5_isLatin1_aae02_6.dc 1 (q := (7, .getfield 22, 8, 1)) rfl) ?_
    show Ev _ _ _ _ _ _ 10 [some (.ref 394)] [.int (I 394 1)] (N, SB v T, I, L, Dd)
    rw [hc0]
    refine Ev.if_ne (tgt := 17) dJ5_isLatin1_aae02_10 (by decide) (fun b2 => ?_) (fun b2 => ?_)
    · exact absurd rfl b2
    · refine Ev.sg hX (sJ5_isLatin1_aae02_13.sub 0 2) (pc' := 18) (ls' := [some (.ref 394)]) (st' := [.int 1]) (h' := (N, SB v T, I, L, Dd)) rfl ?_
      refine Ev.zret dJ5_isLatin1_aae02_18 rfl ?_ ?_
      · rfl
      rfl
theorem c_newCapB (hX : JXok X) (hd : 2 ≤ d) (hv : SB v T v = some (.inl (.byte, cap))) (hc0 : I 394 1 = 0) (hq : cap < q) (hq2 : q ≤ 2 * cap + 2) (hcap : cap ≤ 700) : MT X d 0 0 jdJ5_newCapacity_0f7a4 [.ref 394, .int (nI q)] (N, SB v T, I, L, Dd) (fun R => R = .inl (some (.int (nI (2 * cap + 2))), (N, SB v T, I, L, Dd))) := by
  refine MT.mk dbJ5_newCapacity_0f7a4 ?_
  refine Ev.sg hX (sJ5_newCapacity_0f7a4_0.sub 0 1) (pc' := 1) (ls' := [some (.ref 394), some (.int (nI q)), none, none, none, none]) (st' := [.ref 394]) (h' := (N, SB v T, I, L, Dd)) rfl ?_
  refine Ev.getf (sJ5_newCapacity_0f7a4_0.lk 1 (q := (1, .getfield 15, 8, 0)) rfl) rfl rfl (sJ5_newCapacity_0f7a4_0.dc 1 (q := (1, .getfield 15, 8, 0)) rfl) ?_
  show Ev _ _ _ _ _ _ 4 [some (.ref 394), some (.int (nI q)), none, none, none, none] [.ref v] (N, SB v T, I, L, Dd)
  refine Ev.alenN hv rfl (sJ5_newCapacity_0f7a4_0.dc 2 (q := (4, .arraylength, 0, 0)) rfl) ?_
  show Ev _ _ _ _ _ _ 5 [some (.ref 394), some (.int (nI q)), none, none, none, none] [.int (Int32.ofNat cap)] (N, SB v T, I, L, Dd)
  refine Ev.sg hX (sJ5_newCapacity_0f7a4_0.sub 3 3) (pc' := 8) (ls' := [some (.ref 394), some (.int (nI q)), some (.int (Int32.ofNat cap)), none, none, none]) (st' := [.ref 394, .int (nI q)]) (h' := (N, SB v T, I, L, Dd)) rfl ?_
  refine Ev.getf (sJ5_newCapacity_0f7a4_0.lk 6 (q := (8, .getfield 22, 8, 1)) rfl) rfl rfl (sJ5_newCapacity_0f7a4_0.dc 6 (q := (8, .getfield 22, 8, 1)) rfl) ?_
  show Ev _ _ _ _ _ _ 11 [some (.ref 394), some (.int (nI q)), some (.int (Int32.ofNat cap)), none, none, none] [.int (I 394 1), .int (nI q)] (N, SB v T, I, L, Dd)
  rw [hc0]
  refine Ev.sg hX (sJ5_newCapacity_0f7a4_0.sub 7 1) (pc' := 12) (ls' := [some (.ref 394), some (.int (nI q)), some (.int (Int32.ofNat cap)), none, none, none]) (st' := [.int ((nI q) <<< (0 &&& 31))]) (h' := (N, SB v T, I, L, Dd)) rfl ?_
  rw [shl0]
  refine Ev.sg hX (sJ5_newCapacity_0f7a4_0.sub 8 10) (pc' := 24) (ls' := [some (.ref 394), some (.int (nI q)), some (.int (Int32.ofNat cap)), some (.int (nI q)), some (.int ((nI q) - (Int32.ofNat cap))), none]) (st' := [.ref 394, .int 2, .int (Int32.ofNat cap), .int ((nI q) - (Int32.ofNat cap)), .int (Int32.ofNat cap)]) (h' := (N, SB v T, I, L, Dd)) rfl ?_
  refine Ev.getf (sJ5_newCapacity_0f7a4_0.lk 18 (q := (24, .getfield 22, 8, 1)) rfl) rfl rfl (sJ5_newCapacity_0f7a4_0.dc 18 (q := (24, .getfield 22, 8, 1)) rfl) ?_
  show Ev _ _ _ _ _ _ 27 [some (.ref 394), some (.int (nI q)), some (.int (Int32.ofNat cap)), some (.int (nI q)), some (.int ((nI q) - (Int32.ofNat cap))), none] [.int (I 394 1), .int 2, .int (Int32.ofNat cap), .int ((nI q) - (Int32.ofNat cap)), .int (Int32.ofNat cap)] (N, SB v T, I, L, Dd)
  rw [hc0]
  refine Ev.sg hX (sJ5_newCapacity_0f7a4_0.sub 19 1) (pc' := 28) (ls' := [some (.ref 394), some (.int (nI q)), some (.int (Int32.ofNat cap)), some (.int (nI q)), some (.int ((nI q) - (Int32.ofNat cap))), none]) (st' := [.int ((2 : Int32) <<< (0 &&& 31)), .int (Int32.ofNat cap), .int ((nI q) - (Int32.ofNat cap)), .int (Int32.ofNat cap)]) (h' := (N, SB v T, I, L, Dd)) rfl ?_
  rw [shl0]
  refine Ev.sg hX (sJ5_newCapacity_0f7a4_0.sub 20 1) (pc' := 29) (ls' := [some (.ref 394), some (.int (nI q)), some (.int (Int32.ofNat cap)), some (.int (nI q)), some (.int ((nI q) - (Int32.ofNat cap))), none]) (st' := [.int ((Int32.ofNat cap) + 2), .int ((nI q) - (Int32.ofNat cap)), .int (Int32.ofNat cap)]) (h' := (N, SB v T, I, L, Dd)) rfl ?_
  rw [show (Int32.ofNat cap : Int32) = nI cap from rfl, nI_subN (by omega), show (nI cap) + (2 : Int32) = nI (cap + 2) from nI_add cap 2]
  show Ev _ _ _ _ _ _ 29 [some (.ref 394), some (.int (nI q)), some (.int (nI cap)), some (.int (nI q)), some (.int (nI (q - cap))), none] [.int (nI (cap + 2)), .int (nI (q - cap)), .int (nI cap)] (N, SB v T, I, L, Dd)
  refine Ev.callS (As := [.int (nI cap), .int (nI (q - cap)), .int (nI (cap + 2))]) (rest := []) dsJ8_newLength_cabcc mkJ5_114 dJ5_newCapacity_0f7a4_29 (c_newLength (d := d - 1) (a := cap) (b := q - cap) (e := cap + 2) hX (by omega) (by omega) (by omega)) ⟨by omega, by show 4 + 19 + 40 * _ ≤ 40 * _; omega⟩ ⟨Nat.zero_le _, Nat.zero_le _⟩ rfl (Nat.le_of_ble_eq_true rfl) (fun v9 h9 e9 => ?_) (fun E9 h9 e9 => nomatch e9)
  cases e9
  show Ev _ _ _ _ _ _ 32 [some (.ref 394), some (.int (nI q)), some (.int (nI cap)), some (.int (nI q)), some (.int (nI (q - cap))), none] [.int (nI (cap + max (q - cap) (cap + 2)))] (N, SB v T, I, L, Dd)
  rw [show cap + max (q - cap) (cap + 2) = 2 * cap + 2 by omega]
  refine Ev.sg hX (sJ5_newCapacity_0f7a4_32.sub 0 2) (pc' := 36) (ls' := [some (.ref 394), some (.int (nI q)), some (.int (nI cap)), some (.int (nI q)), some (.int (nI (q - cap))), some (.int (nI (2 * cap + 2)))]) (st' := [.int (nI (2 * cap + 2))]) (h' := (N, SB v T, I, L, Dd)) rfl ?_
  refine Ev.ldcI (x := 2147483647) (bw_of 1048 (by decide +kernel) (by decide +kernel)) dJ5_newCapacity_0f7a4_36 ?_
  refine Ev.icmp_ne (tgt := 51) dJ5_newCapacity_0f7a4_38 (by decide) (fun b1 => ?_) (fun b1 => ?_)
  · refine Ev.sg hX (sJ5_newCapacity_0f7a4_51.sub 0 2) (pc' := 54) (ls' := [some (.ref 394), some (.int (nI q)), some (.int (nI cap)), some (.int (nI q)), some (.int (nI (q - cap))), some (.int (nI (2 * cap + 2)))]) (st' := [.ref 394, .int (nI (2 * cap + 2))]) (h' := (N, SB v T, I, L, Dd)) rfl ?_
    refine Ev.getf (sJ5_newCapacity_0f7a4_51.lk 2 (q := (54, .getfield 22, 8, 1)) rfl) rfl rfl (sJ5_newCapacity_0f7a4_51.dc 2 (q := (54, .getfield 22, 8, 1)) rfl) ?_
    show Ev _ _ _ _ _ _ 57 [some (.ref 394), some (.int (nI q)), some (.int (nI cap)), some (.int (nI q)), some (.int (nI (q - cap))), some (.int (nI (2 * cap + 2)))] [.int (I 394 1), .int (nI (2 * cap + 2))] (N, SB v T, I, L, Dd)
    rw [hc0]
    refine Ev.sg hX (sJ5_newCapacity_0f7a4_51.sub 3 1) (pc' := 58) (ls' := [some (.ref 394), some (.int (nI q)), some (.int (nI cap)), some (.int (nI q)), some (.int (nI (q - cap))), some (.int (nI (2 * cap + 2)))]) (st' := [.int ((nI (2 * cap + 2)) >>> (0 &&& 31))]) (h' := (N, SB v T, I, L, Dd)) rfl ?_
    rw [shr0]
    refine Ev.iret dJ5_newCapacity_0f7a4_58 rfl ?_
    rfl
  · exact absurd b1 (fun z => absurd ((nI_eq (a := 2 * cap + 2) (b := 2147483647) (by omega) (by decide)).mp z) (by omega))
theorem c_copyOfB (hX : JXok X) (hd : 2 ≤ d) (hv : SB v T v = some (.inl (.byte, cap))) (hcap : cap ≤ 700) (hvN0 : v < N) (hN4 : 396 ≤ N) (hNB : N + 1 < BIG) (hz : ∀ j, I N j = 0 ∧ L N j = 0 ∧ Dd N j = 0) (hfit : ∀ j, j < cap → fits .byte (.int (I v j)) = true) : MT X d 1 (2 * cap + 2) jdJ7_copyOf_9075b [.ref v, .int (nI (2 * cap + 2))] (N, SB v T, I, L, Dd) (fun R => R = .inl (some (.ref N), (N + 1, SB v (upS T N (.inl (.byte, 2 * cap + 2))), grI I v cap N, L, Dd))) := by
  refine MT.mk dsJ7_copyOf_9075b.1 ?_
  refine Ev.sg hX (sJ7_copyOf_9075b_0.sub 0 2) (pc' := 2) (ls' := [some (.ref v), some (.int (nI (2 * cap + 2))), none]) (st' := [.ref v, .int (nI (2 * cap + 2))]) (h' := (N, SB v T, I, L, Dd)) rfl ?_
  refine Ev.alenN hv rfl (sJ7_copyOf_9075b_0.dc 2 (q := (2, .arraylength, 0, 0)) rfl) ?_
  show Ev _ _ _ _ _ _ 3 [some (.ref v), some (.int (nI (2 * cap + 2))), none] [.int (Int32.ofNat cap), .int (nI (2 * cap + 2))] (N, SB v T, I, L, Dd)
  refine Ev.icmp_ne (tgt := 14) dJ7_copyOf_9075b_3 (by decide) (fun b1 => ?_) (fun b1 => ?_)
  · refine Ev.sg hX (sJ7_copyOf_9075b_14.sub 0 1) (pc' := 15) (ls' := [some (.ref v), some (.int (nI (2 * cap + 2))), none]) (st' := [.int (nI (2 * cap + 2))]) (h' := (N, SB v T, I, L, Dd)) rfl ?_
    refine Ev.newB (n := 2 * cap + 2) hX rfl (by omega) ⟨fun j => (hz j).1, fun j => (hz j).2.1, fun j => (hz j).2.2⟩ ⟨Nat.le_refl _, Nat.le_refl _⟩ hNB dJ7_copyOf_9075b_15 (by decide +kernel) ?_
    rw [newS_SB hN4]
    show Ev _ _ _ _ _ _ 17 [some (.ref v), some (.int (nI (2 * cap + 2))), none] [.ref N] (N + 1, SB v (upS T N (.inl (.byte, 2 * cap + 2))), I, L, Dd)
    have hv2 : SB v (upS T N (.inl (.byte, 2 * cap + 2))) v = some (.inl (.byte, cap)) := by rw [← hv]; exact (congrArg (fun z => z.2.1 v) (newS_SB (v := v) (T := T) (I := I) (L := L) (Dd := Dd) (sh := .inl (.byte, 2 * cap + 2)) hN4)).symm.trans (upS_ne (show v ≠ N by omega))
    have hvN : SB v (upS T N (.inl (.byte, 2 * cap + 2))) N = some (.inl (.byte, 2 * cap + 2)) := (congrArg (fun z => z.2.1 N) (newS_SB (v := v) (T := T) (I := I) (L := L) (Dd := Dd) (sh := .inl (.byte, 2 * cap + 2)) hN4)).symm.trans upS_eq
    refine Ev.sg hX (sJ7_copyOf_9075b_17.sub 0 6) (pc' := 23) (ls' := [some (.ref v), some (.int (nI (2 * cap + 2))), some (.ref N)]) (st' := [.ref v, .int 0, .ref N, .int 0, .ref v]) (h' := (N + 1, SB v (upS T N (.inl (.byte, 2 * cap + 2))), I, L, Dd)) rfl ?_
    refine Ev.alenN hv2 rfl (sJ7_copyOf_9075b_17.dc 6 (q := (23, .arraylength, 0, 0)) rfl) ?_
    show Ev _ _ _ _ _ _ 24 [some (.ref v), some (.int (nI (2 * cap + 2))), some (.ref N)] [.int (Int32.ofNat cap), .int 0, .ref N, .int 0, .ref v] (N + 1, SB v (upS T N (.inl (.byte, 2 * cap + 2))), I, L, Dd)
    refine Ev.sg hX (sJ7_copyOf_9075b_17.sub 7 1) (pc' := 25) (ls' := [some (.ref v), some (.int (nI (2 * cap + 2))), some (.ref N)]) (st' := [.int (nI (2 * cap + 2)), .int (Int32.ofNat cap), .int 0, .ref N, .int 0, .ref v]) (h' := (N + 1, SB v (upS T N (.inl (.byte, 2 * cap + 2))), I, L, Dd)) rfl ?_
    refine Ev.mmin (by decide +kernel) (by omega) (Nat.le_of_ble_eq_true rfl) dJ7_copyOf_9075b_25 ?_
    refine Ev.copyA (ti := 2) (n := cap) (Or.inr ⟨rfl, rfl⟩) hX hv2 hvN (Nat.le_refl _) (by omega) (by omega) (fun j hj => hfit j hj) (by decide +kernel) (by decide) (by omega) (by show (if nI (2 * cap + 2) < nI cap then nI (2 * cap + 2) else nI cap) = nI cap; exact if_neg (nI_nlt (by omega) (by omega))) dJ7_copyOf_9075b_28 ?_
    show Ev _ _ _ _ _ _ 31 [some (.ref v), some (.int (nI (2 * cap + 2))), some (.ref N)] [] (N + 1, SB v (upS T N (.inl (.byte, 2 * cap + 2))), grI I v cap N, L, Dd)
    refine Ev.sg hX (sJ7_copyOf_9075b_31.sub 0 1) (pc' := 32) (ls' := [some (.ref v), some (.int (nI (2 * cap + 2))), some (.ref N)]) (st' := [.ref N]) (h' := (N + 1, SB v (upS T N (.inl (.byte, 2 * cap + 2))), grI I v cap N, L, Dd)) rfl ?_
    refine Ev.aret dJ7_copyOf_9075b_32 rfl (Or.inr ⟨_, rfl⟩) ?_
    rfl
  · exact absurd (show nI (2 * cap + 2) = nI cap from b1) (fun z => absurd ((nI_eq (by omega) (by omega)).mp z) (by omega))
theorem c_ens0B (hX : JXok X) (hd : 3 ≤ d) (hv : SB v T v = some (.inl (.byte, cap))) (hc0 : I 394 1 = 0) (hq : q ≤ cap) (hcap : cap ≤ 700) : MT X d 0 0 jdJ5_ensureCapacityInternal_d00df [.ref 394, .int (nI q)] (N, SB v T, I, L, Dd) (fun R => R = .inl (none, (N, SB v T, I, L, Dd))) := by
  refine MT.mk dbJ5_ensureCapacityInternal_d00df ?_
  refine Ev.sg hX (sJ5_ensureCapacityInternal_d00df_0.sub 0 1) (pc' := 1) (ls' := [some (.ref 394), some (.int (nI q)), none]) (st' := [.ref 394]) (h' := (N, SB v T, I, L, Dd)) rfl ?_
  refine Ev.getf (sJ5_ensureCapacityInternal_d00df_0.lk 1 (q := (1, .getfield 15, 8, 0)) rfl) rfl rfl (sJ5_ensureCapacityInternal_d00df_0.dc 1 (q := (1, .getfield 15, 8, 0)) rfl) ?_
  show Ev _ _ _ _ _ _ 4 [some (.ref 394), some (.int (nI q)), none] [.ref v] (N, SB v T, I, L, Dd)
  refine Ev.alenN hv rfl (sJ5_ensureCapacityInternal_d00df_0.dc 2 (q := (4, .arraylength, 0, 0)) rfl) ?_
  show Ev _ _ _ _ _ _ 5 [some (.ref 394), some (.int (nI q)), none] [.int (Int32.ofNat cap)] (N, SB v T, I, L, Dd)
  refine Ev.sg hX (sJ5_ensureCapacityInternal_d00df_0.sub 3 1) (pc' := 6) (ls' := [some (.ref 394), some (.int (nI q)), none]) (st' := [.ref 394, .int (Int32.ofNat cap)]) (h' := (N, SB v T, I, L, Dd)) rfl ?_
  refine Ev.getf (sJ5_ensureCapacityInternal_d00df_0.lk 4 (q := (6, .getfield 22, 8, 1)) rfl) rfl rfl (sJ5_ensureCapacityInternal_d00df_0.dc 4 (q := (6, .getfield 22, 8, 1)) rfl) ?_
  show Ev _ _ _ _ _ _ 9 [some (.ref 394), some (.int (nI q)), none] [.int (I 394 1), .int (Int32.ofNat cap)] (N, SB v T, I, L, Dd)
  rw [hc0]
  refine Ev.sg hX (sJ5_ensureCapacityInternal_d00df_0.sub 5 1) (pc' := 10) (ls' := [some (.ref 394), some (.int (nI q)), none]) (st' := [.int ((Int32.ofNat cap) >>> (0 &&& 31))]) (h' := (N, SB v T, I, L, Dd)) rfl ?_
  rw [shr0]
  refine Ev.sg hX (sJ5_ensureCapacityInternal_d00df_0.sub 6 4) (pc' := 14) (ls' := [some (.ref 394), some (.int (nI q)), some (.int (Int32.ofNat cap))]) (st' := [.int ((nI q) - (Int32.ofNat cap))]) (h' := (N, SB v T, I, L, Dd)) rfl ?_
  refine Ev.if_le (tgt := 38) dJ5_ensureCapacityInternal_d00df_14 (by decide) (fun b1 => ?_) (fun b1 => ?_)
  · refine Ev.vret dJ5_ensureCapacityInternal_d00df_38 rfl ?_
    rfl
  · exact absurd ((sub_le0 (by omega) (by omega)).mpr hq) b1
theorem c_ens1B (hX : JXok X) (hd : 4 ≤ d) (hv : SB v T v = some (.inl (.byte, cap))) (hc0 : I 394 1 = 0) (hq : cap < q) (hq2 : q ≤ 2 * cap + 2) (hcap : cap ≤ 700) (hvN0 : v < N) (hN4 : 396 ≤ N) (hNB : N + 1 < BIG) (hz : ∀ j, I N j = 0 ∧ L N j = 0 ∧ Dd N j = 0) (hfit : ∀ j, j < cap → fits .byte (.int (I v j)) = true) : MT X d 1 (2 * cap + 2) jdJ5_ensureCapacityInternal_d00df [.ref 394, .int (nI q)] (N, SB v T, I, L, Dd) (fun R => R = .inl (none, (N + 1, SB N (upS T N (.inl (.byte, 2 * cap + 2))), grI I v cap N, L, Dd))) := by
  refine MT.mk dbJ5_ensureCapacityInternal_d00df ?_
  refine Ev.sg hX (sJ5_ensureCapacityInternal_d00df_0.sub 0 1) (pc' := 1) (ls' := [some (.ref 394), some (.int (nI q)), none]) (st' := [.ref 394]) (h' := (N, SB v T, I, L, Dd)) rfl ?_
  refine Ev.getf (sJ5_ensureCapacityInternal_d00df_0.lk 1 (q := (1, .getfield 15, 8, 0)) rfl) rfl rfl (sJ5_ensureCapacityInternal_d00df_0.dc 1 (q := (1, .getfield 15, 8, 0)) rfl) ?_
  show Ev _ _ _ _ _ _ 4 [some (.ref 394), some (.int (nI q)), none] [.ref v] (N, SB v T, I, L, Dd)
  refine Ev.alenN hv rfl (sJ5_ensureCapacityInternal_d00df_0.dc 2 (q := (4, .arraylength, 0, 0)) rfl) ?_
  show Ev _ _ _ _ _ _ 5 [some (.ref 394), some (.int (nI q)), none] [.int (Int32.ofNat cap)] (N, SB v T, I, L, Dd)
  refine Ev.sg hX (sJ5_ensureCapacityInternal_d00df_0.sub 3 1) (pc' := 6) (ls' := [some (.ref 394), some (.int (nI q)), none]) (st' := [.ref 394, .int (Int32.ofNat cap)]) (h' := (N, SB v T, I, L, Dd)) rfl ?_
  refine Ev.getf (sJ5_ensureCapacityInternal_d00df_0.lk 4 (q := (6, .getfield 22, 8, 1)) rfl) rfl rfl (sJ5_ensureCapacityInternal_d00df_0.dc 4 (q := (6, .getfield 22, 8, 1)) rfl) ?_
  show Ev _ _ _ _ _ _ 9 [some (.ref 394), some (.int (nI q)), none] [.int (I 394 1), .int (Int32.ofNat cap)] (N, SB v T, I, L, Dd)
  rw [hc0]
  refine Ev.sg hX (sJ5_ensureCapacityInternal_d00df_0.sub 5 1) (pc' := 10) (ls' := [some (.ref 394), some (.int (nI q)), none]) (st' := [.int ((Int32.ofNat cap) >>> (0 &&& 31))]) (h' := (N, SB v T, I, L, Dd)) rfl ?_
  rw [shr0]
  refine Ev.sg hX (sJ5_ensureCapacityInternal_d00df_0.sub 6 4) (pc' := 14) (ls' := [some (.ref 394), some (.int (nI q)), some (.int (Int32.ofNat cap))]) (st' := [.int ((nI q) - (Int32.ofNat cap))]) (h' := (N, SB v T, I, L, Dd)) rfl ?_
  refine Ev.if_le (tgt := 38) dJ5_ensureCapacityInternal_d00df_14 (by decide) (fun b1 => ?_) (fun b1 => ?_)
  · exact absurd ((sub_le0 (by omega) (by omega)).mp b1) (by omega)
  · refine Ev.sg hX (sJ5_ensureCapacityInternal_d00df_17.sub 0 2) (pc' := 19) (ls' := [some (.ref 394), some (.int (nI q)), some (.int (Int32.ofNat cap))]) (st' := [.ref 394, .ref 394]) (h' := (N, SB v T, I, L, Dd)) rfl ?_
    refine Ev.getf (sJ5_ensureCapacityInternal_d00df_17.lk 2 (q := (19, .getfield 15, 8, 0)) rfl) rfl rfl (sJ5_ensureCapacityInternal_d00df_17.dc 2 (q := (19, .getfield 15, 8, 0)) rfl) ?_
    show Ev _ _ _ _ _ _ 22 [some (.ref 394), some (.int (nI q)), some (.int (Int32.ofNat cap))] [.ref v, .ref 394] (N, SB v T, I, L, Dd)
    refine Ev.sg hX (sJ5_ensureCapacityInternal_d00df_17.sub 3 2) (pc' := 24) (ls' := [some (.ref 394), some (.int (nI q)), some (.int (Int32.ofNat cap))]) (st' := [.int (nI q), .ref 394, .ref v, .ref 394]) (h' := (N, SB v T, I, L, Dd)) rfl ?_
    refine Ev.callVU (As := [.int (nI q)]) (rest := [.ref v, .ref 394]) dbJ5_newCapacity_0f7a4 dnJ5_newCapacity_0f7a4 dlJ5_newCapacity_0f7a4 mkJ5_104 rfl rfl dJ5_ensureCapacityInternal_d00df_24 (c_newCapB (d := d - 1) (I := I) hX (by omega) hv hc0 hq hq2 hcap) ⟨by omega, by show 6 + 19 + 40 * _ ≤ 40 * _; omega⟩ ⟨Nat.zero_le _, Nat.zero_le _⟩ rfl (Nat.le_of_ble_eq_true rfl) (fun v9 h9 e9 => ?_) (fun E9 h9 e9 => nomatch e9)
    cases e9
    show Ev _ _ _ _ _ _ 27 [some (.ref 394), some (.int (nI q)), some (.int (Int32.ofNat cap))] [.int (nI (2 * cap + 2)), .ref v, .ref 394] (N, SB v T, I, L, Dd)
    refine Ev.sg hX (sJ5_ensureCapacityInternal_d00df_27.sub 0 1) (pc' := 28) (ls' := [some (.ref 394), some (.int (nI q)), some (.int (Int32.ofNat cap))]) (st' := [.ref 394, .int (nI (2 * cap + 2)), .ref v, .ref 394]) (h' := (N, SB v T, I, L, Dd)) rfl ?_
    refine Ev.getf (sJ5_ensureCapacityInternal_d00df_27.lk 1 (q := (28, .getfield 22, 8, 1)) rfl) rfl rfl (sJ5_ensureCapacityInternal_d00df_27.dc 1 (q := (28, .getfield 22, 8, 1)) rfl) ?_
    show Ev _ _ _ _ _ _ 31 [some (.ref 394), some (.int (nI q)), some (.int (Int32.ofNat cap))] [.int (I 394 1), .int (nI (2 * cap + 2)), .ref v, .ref 394] (N, SB v T, I, L, Dd)
    rw [hc0]
    refine Ev.sg hX (sJ5_ensureCapacityInternal_d00df_27.sub 2 1) (pc' := 32) (ls' := [some (.ref 394), some (.int (nI q)), some (.int (Int32.ofNat cap))]) (st' := [.int ((nI (2 * cap + 2)) <<< (0 &&& 31)), .ref v, .ref 394]) (h' := (N, SB v T, I, L, Dd)) rfl ?_
    rw [shl0]
    refine Ev.callS (As := [.ref v, .int (nI (2 * cap + 2))]) (rest := [.ref 394]) dsJ7_copyOf_9075b mkJ5_108 dJ5_ensureCapacityInternal_d00df_32 (c_copyOfB (d := d - 1) (cap := cap) hX (by omega) hv hcap hvN0 hN4 hNB hz hfit) ⟨by omega, by show 3 + 19 + 40 * _ ≤ 40 * _; omega⟩ ⟨by omega, by omega⟩ rfl (Nat.le_of_ble_eq_true rfl) (fun v9 h9 e9 => ?_) (fun E9 h9 e9 => nomatch e9)
    cases e9
    show Ev _ _ _ _ _ _ 35 [some (.ref 394), some (.int (nI q)), some (.int (Int32.ofNat cap))] [.ref N, .ref 394] (N + 1, SB v (upS T N (.inl (.byte, 2 * cap + 2))), grI I v cap N, L, Dd)
    refine Ev.putR (j := 0) hX ci_J4 (by decide) (bw_of 258 (by decide +kernel) (by decide +kernel)) (Or.inl rfl) rfl rfl (fun _ => rfl) (fun _ => rfl) dJ5_ensureCapacityInternal_d00df_35 ?_
    show Ev _ _ _ _ _ _ 38 [some (.ref 394), some (.int (nI q)), some (.int (Int32.ofNat cap))] [] (N + 1, upS (SB v (upS T N (.inl (.byte, 2 * cap + 2)))) 394 (.inr (8, [.inl (.ref N), .inr false, .inr false, .inr false])), grI I v cap N, L, Dd)
    rw [SB_put]
    refine Ev.vret dJ5_ensureCapacityInternal_d00df_38 rfl ?_
    rfl
/-- room for q bytes -/
theorem c_ensB (hX : JXok X) (hd : 4 ≤ d) (h : LnB P w cap N v T I L Dd) (hq2 : q ≤ 2 * cap + 2) (h700 : q ≤ cap ∨ 2 * cap + 2 ≤ 700) (hNB : N + 1 < BIG) : MT X d (gc cap q) (gs cap q) jdJ5_ensureCapacityInternal_d00df [.ref 394, .int (nI q)] (N, SB v T, I, L, Dd) (fun R => ∃ N' v' T' I', R = .inl (none, (N', SB v' T', I', L, Dd)) ∧ LnB P w (gr cap q) N' v' T' I' L Dd ∧ Fr I I' ∧ N' = N + gc cap q) := by
  have h0 := h
  obtain ⟨h1, h3, h4, h5, h6, h7, h8, h9, h10, h11⟩ := h0
  by_cases hq : q ≤ cap
  · rw [gc, gs, gr, if_pos hq, if_pos hq, if_pos hq]
    exact MT.mono (c_ens0B hX (by omega) h1 h7 hq h8.2.2) (fun R e => ⟨N, v, T, I, e, h, Fr.rf I, rfl⟩)
  · rw [gc, gs, gr, if_neg hq, if_neg hq, if_neg hq]
    exact MT.mono (c_ens1B hX hd h1 h7 (by omega) hq2 h8.2.2 h4.1 h5 hNB (h11.1 N (Nat.le_refl _)) h10) (fun R e => ⟨N + 1, N, _, _, e, h.grow (by omega), Fr.grow h5, rfl⟩)
end SBM

section SBA
variable {X : JX} {d N v cap n q k : Nat} {T : Nat → Option JS} {I : HI} {L : HL} {Dd : HD} {c : Int32} {w : List Int32} {P : PF}
theorem l_app10B {mc ms : Nat} {Q : JR → Prop} (hX : JXok X) (hd : 1 ≤ d) (hv : SB v T v = some (.inl (.byte, cap))) (hc0 : I 394 1 = 0) (hn3 : I 394 3 = nI n) (hn : n < cap) (hcap : cap ≤ 700) (hc : chOK c) (hQ : Q (.inl (some (.ref 394), (N, SB v T, up2 (up2 I 394 3 (nI (n + 1))) v n c, L, Dd)))) : Ev X (jm jdJ5_append_3fe6f) d mc ms Q 10 [some (.ref 394), some (.int c)] [] (N, SB v T, I, L, Dd) := by
  refine Ev.sg hX (sJ5_append_3fe6f_10.sub 0 1) (pc' := 11) (ls' := [some (.ref 394), some (.int c)]) (st' := [.ref 394]) (h' := (N, SB v T, I, L, Dd)) rfl ?_
  refine Ev.callVU (As := []) (rest := []) dbJ5_isLatin1_aae02 dnJ5_isLatin1_aae02 dlJ5_isLatin1_aae02 mkJ5_83 rfl rfl dJ5_append_3fe6f_11 (c_isL1B (d := d - 1) (I := I) hX (by omega) hc0) ⟨by omega, by show 1 + 19 + 40 * _ ≤ 40 * _; omega⟩ ⟨Nat.zero_le _, Nat.zero_le _⟩ rfl (Nat.le_of_ble_eq_true rfl) (fun v9 h9 e9 => ?_) (fun E9 h9 e9 => nomatch e9)
  cases e9
  show Ev _ _ _ _ _ _ 14 [some (.ref 394), some (.int c)] [.int 1] (N, SB v T, I, L, Dd)
  refine Ev.if_eq (tgt := 45) dJ5_append_3fe6f_14 (by decide) (fun b1 => ?_) (fun b1 => ?_)
  · exact absurd b1 (by decide)
  · refine Ev.sg hX (sJ5_append_3fe6f_17.sub 0 1) (pc' := 18) (ls' := [some (.ref 394), some (.int c)]) (st' := [.int c]) (h' := (N, SB v T, I, L, Dd)) rfl ?_
    refine Ev.callS (As := [.int c]) (rest := []) dsJ1_canEncode_fc78d mkJ5_191 dJ5_append_3fe6f_18 (c_canEnc (d := d - 1) hX (by omega) hc.2.2.1) ⟨by omega, by show 1 + 19 + 40 * _ ≤ 40 * _; omega⟩ ⟨Nat.zero_le _, Nat.zero_le _⟩ rfl (Nat.le_of_ble_eq_true rfl) (fun v9 h9 e9 => ?_) (fun E9 h9 e9 => nomatch e9)
    cases e9
    show Ev _ _ _ _ _ _ 21 [some (.ref 394), some (.int c)] [.int 1] (N, SB v T, I, L, Dd)
    refine Ev.if_eq (tgt := 45) dJ5_append_3fe6f_21 (by decide) (fun b2 => ?_) (fun b2 => ?_)
    · exact absurd b2 (by decide)
    · refine Ev.sg hX (sJ5_append_3fe6f_24.sub 0 1) (pc' := 25) (ls' := [some (.ref 394), some (.int c)]) (st' := [.ref 394]) (h' := (N, SB v T, I, L, Dd)) rfl ?_
      refine Ev.getf (sJ5_append_3fe6f_24.lk 1 (q := (25, .getfield 15, 8, 0)) rfl) rfl rfl (sJ5_append_3fe6f_24.dc 1 (q := (25, .getfield 15, 8, 0)) rfl) ?_
      show Ev _ _ _ _ _ _ 28 [some (.ref 394), some (.int c)] [.ref v] (N, SB v T, I, L, Dd)
      refine Ev.sg hX (sJ5_append_3fe6f_24.sub 2 2) (pc' := 30) (ls' := [some (.ref 394), some (.int c)]) (st' := [.ref 394, .ref 394, .ref v]) (h' := (N, SB v T, I, L, Dd)) rfl ?_
      refine Ev.getf (sJ5_append_3fe6f_24.lk 4 (q := (30, .getfield 79, 8, 3)) rfl) rfl rfl (sJ5_append_3fe6f_24.dc 4 (q := (30, .getfield 79, 8, 3)) rfl) ?_
      show Ev _ _ _ _ _ _ 33 [some (.ref 394), some (.int c)] [.int (I 394 3), .ref 394, .ref v] (N, SB v T, I, L, Dd)
      rw [hn3]
      refine Ev.dupx1 rfl rfl dJ5_append_3fe6f_33 ?_
      refine Ev.sg hX (sJ5_append_3fe6f_34.sub 0 2) (pc' := 36) (ls' := [some (.ref 394), some (.int c)]) (st' := [.int ((nI n) + 1), .ref 394, .int (nI n), .ref v]) (h' := (N, SB v T, I, L, Dd)) rfl ?_
      refine Ev.putf hX (sJ5_append_3fe6f_34.lk 2 (q := (36, .putfield 79, 8, 3)) rfl) rfl rfl (sJ5_append_3fe6f_34.dc 2 (q := (36, .putfield 79, 8, 3)) rfl) ?_
      show Ev _ _ _ _ _ _ 39 [some (.ref 394), some (.int c)] [.int (nI n), .ref v] (N, SB v T, up2 I 394 3 ((nI n) + 1), L, Dd)
      refine Ev.sg hX (sJ5_append_3fe6f_34.sub 3 2) (pc' := 41) (ls' := [some (.ref 394), some (.int c)]) (st' := [.int c.toInt8.toInt32, .int (nI n), .ref v]) (h' := (N, SB v T, up2 I 394 3 ((nI n) + 1), L, Dd)) rfl ?_
      rw [hc.2.1, nI_1]
      refine Ev.bastE (n := n) (y := c) hc.2.2.2 hX hv rfl (by omega) (by omega) dJ5_append_3fe6f_41 ?_
      show Ev _ _ _ _ _ _ 42 [some (.ref 394), some (.int c)] [] (N, SB v T, up2 (up2 I 394 3 (nI (n + 1))) v n c, L, Dd)
      refine Ev.sg hX (sJ5_append_3fe6f_42.sub 0 1) (pc' := 75) (ls' := [some (.ref 394), some (.int c)]) (st' := []) (h' := (N, SB v T, up2 (up2 I 394 3 (nI (n + 1))) v n c, L, Dd)) rfl ?_
      refine Ev.sg hX (sJ5_append_3fe6f_75.sub 0 1) (pc' := 76) (ls' := [some (.ref 394), some (.int c)]) (st' := [.ref 394]) (h' := (N, SB v T, up2 (up2 I 394 3 (nI (n + 1))) v n c, L, Dd)) rfl ?_
      refine Ev.aret dJ5_append_3fe6f_76 rfl (Or.inl ⟨_, rfl⟩) ?_
      exact hQ
theorem LnB.v394 (h : LnB P w cap N v T I L Dd) : v ≠ 394 := by have := h.2.1; have := h.2.2.1; omega
theorem c_appC5B (hX : JXok X) (hd : 5 ≤ d) (h : LnB P w cap N v T I L Dd) (hq2 : w.length + 1 ≤ 2 * cap + 2) (h700 : w.length + 1 ≤ cap ∨ 2 * cap + 2 ≤ 700) (hNB : N + 1 < BIG) (hc : chOK c) : MT X d (gc cap (w.length + 1)) (gs cap (w.length + 1)) jdJ5_append_3fe6f [.ref 394, .int c] (N, SB v T, I, L, Dd) (fun R => ∃ N' v' T' I', R = .inl (some (.ref 394), (N', SB v' T', I', L, Dd)) ∧ LnB P (w ++ [c]) (gr cap (w.length + 1)) N' v' T' I' L Dd ∧ Fr I I' ∧ N' = N + gc cap (w.length + 1)) := by
  refine MT.mk dbJ5_append_3fe6f ?_
  obtain ⟨hv, h3, h4, h5, hn3, hc0, h8, h9, h10, h11⟩ := id h
  refine Ev.sg hX (sJ5_append_3fe6f_0.sub 0 2) (pc' := 2) (ls' := [some (.ref 394), some (.int c)]) (st' := [.ref 394, .ref 394]) (h' := (N, SB v T, I, L, Dd)) rfl ?_
  refine Ev.getf (sJ5_append_3fe6f_0.lk 2 (q := (2, .getfield 79, 8, 3)) rfl) rfl rfl (sJ5_append_3fe6f_0.dc 2 (q := (2, .getfield 79, 8, 3)) rfl) ?_
  show Ev _ _ _ _ _ _ 5 [some (.ref 394), some (.int c)] [.int (I 394 3), .ref 394] (N, SB v T, I, L, Dd)
  rw [hn3]
  refine Ev.sg hX (sJ5_append_3fe6f_0.sub 3 2) (pc' := 7) (ls' := [some (.ref 394), some (.int c)]) (st' := [.int ((nI w.length) + 1), .ref 394]) (h' := (N, SB v T, I, L, Dd)) rfl ?_
  rw [nI_1]
  refine Ev.callVU (As := [.int (nI (w.length + 1))]) (rest := []) dbJ5_ensureCapacityInternal_d00df dnJ5_ensureCapacityInternal_d00df dlJ5_ensureCapacityInternal_d00df mkJ5_100 rfl rfl dJ5_append_3fe6f_7 (c_ensB (d := d - 1) hX (by omega) h hq2 h700 hNB) ⟨by omega, by show 3 + 19 + 40 * _ ≤ 40 * _; omega⟩ ⟨Nat.le_refl _, Nat.le_refl _⟩ rfl (Nat.le_of_ble_eq_true rfl) (fun v9 h9 e9 => ?_) (fun E9 h9 e9 => nomatch e9)
  obtain ⟨N1, v1, T1, I1, e9, g0, gF, gN⟩ := e9
  cases e9
  have g := g0
  obtain ⟨hv1, g3, g4, g5, gn3, gc0, g8, g9, g10, g11⟩ := g0
  show Ev _ _ _ _ _ _ 10 [some (.ref 394), some (.int c)] [] (N1, SB v1 T1, I1, L, Dd)
  refine l_app10B hX (by omega) hv1 gc0 gn3 (by have := gr_le cap (w.length + 1) hq2; omega) (gr_700 _ _ h8.2.2 h700) hc ?_
  refine ⟨N1, v1, T1, _, rfl, g.put (ds := [c]) (gr_le _ _ hq2) ?_ ?_ (fun j => ?_) (fun x hx => ?_) (fun a h1 h2 => ?_), gF.tr (fun a ha => ?_), gN⟩
  · rw [up2_ne (Ne.symm g.v394), up2_at, if_pos rfl]; rfl
  · rw [up2_ne (Ne.symm g.v394), up2_at, if_neg (by decide)]; exact gc0
  · rw [up2_at, up2_ne g.v394]
    by_cases e : j = w.length
    · subst e; simp
    · rw [if_neg e, if_neg (by simp only [List.length_cons, List.length_nil]; omega)]
  · rw [List.mem_singleton.mp hx]; exact hc.1
  · rw [up2_ne h2, up2_ne h1]
  · rw [up2_ne (by omega), up2_ne (by omega)]
theorem c_appCB (hX : JXok X) (hd : 6 ≤ d) (h : LnB P w cap N v T I L Dd) (hq2 : w.length + 1 ≤ 2 * cap + 2) (h700 : w.length + 1 ≤ cap ∨ 2 * cap + 2 ≤ 700) (hNB : N + 1 < BIG) (hc : chOK c) : MT X d (gc cap (w.length + 1)) (gs cap (w.length + 1)) jdJ4_append_cf468 [.ref 394, .int c] (N, SB v T, I, L, Dd) (fun R => ∃ N' v' T' I', R = .inl (some (.ref 394), (N', SB v' T', I', L, Dd)) ∧ LnB P (w ++ [c]) (gr cap (w.length + 1)) N' v' T' I' L Dd ∧ Fr I I' ∧ N' = N + gc cap (w.length + 1)) := by
  refine MT.mk dvJ4_append_cf468.1 ?_
  refine Ev.sg hX sJ4_append_cf468_0 (pc' := 2) (ls' := [some (.ref 394), some (.int c)]) (st' := [.int c, .ref 394]) (h' := (N, SB v T, I, L, Dd)) rfl ?_
  refine Ev.callSU (As := [.int c]) (rest := []) dbJ5_append_3fe6f dnJ5_append_3fe6f dmJ5_append_3fe6f dJ45 (by decide) mkJ4_50 rfl rfl dJ4_append_cf468_2 (c_appC5B (d := d - 1) hX (by omega) h hq2 h700 hNB hc) ⟨by omega, by show 2 + 19 + 40 * _ ≤ 40 * _; omega⟩ ⟨Nat.le_refl _, Nat.le_refl _⟩ rfl (Nat.le_of_ble_eq_true rfl) (fun v9 h9 e9 => ?_) (fun E9 h9 e9 => nomatch e9)
  obtain ⟨N1, v1, T1, I1, e9, gr9⟩ := e9
  cases e9
  show Ev _ _ _ _ _ _ 5 [some (.ref 394), some (.int c)] [.ref 394] (N1, SB v1 T1, I1, L, Dd)
  refine Ev.sg hX sJ4_append_cf468_5 (pc' := 7) (ls' := [some (.ref 394), some (.int c)]) (st' := [.ref 394]) (h' := (N1, SB v1 T1, I1, L, Dd)) rfl ?_
  refine Ev.aret dJ4_append_cf468_7 rfl (Or.inl ⟨_, rfl⟩) ?_
  exact ⟨N1, v1, T1, I1, rfl, gr9⟩
end SBA

section SBN
variable {X : JX} {d N v cap n q k s mc ms : Nat} {T : Nat → Option JS} {I : HI} {L : HL} {Dd : HD} {c i0 : Int32} {w : List Int32} {l3 l4 : Option Value} {Q : JR → Prop} {P : PF}
theorem l_gc1B (hX : JXok X) (hv : SB v T v = some (.inl (.byte, cap))) (hk : k < 10) (hs : s + 1 ≤ cap) (hcap : cap ≤ 700) (hl4 : l4 = none ∨ ∃ x, l4 = some (.int x)) (hQ : Q (.inl (some (.int (nI s)), (N, SB v T, up2 I v s (nI (48 + k)), L, Dd)))) : Ev X (jm jdJ6_getChars_ba4f3) d mc ms Q 22 [some (.int (-(nI k))), some (.int i0), some (.ref v), l3, l4, some (.int (nI (s + 1))), some (.int 0)] [] (N, SB v T, I, L, Dd) := by
  rcases hl4 with rfl | ⟨x4, rfl⟩
  · refine Ev.sg hX sJ6_getChars_ba4f3_22 (pc' := 25) (ls' := [some (.int (-(nI k))), some (.int i0), some (.ref v), l3, none, some (.int (nI (s + 1))), some (.int 0)]) (st' := [.int (-100), .int (-(nI k))]) (h' := (N, SB v T, I, L, Dd)) rfl ?_
    refine Ev.icmp_gt (tgt := 72) dJ6_getChars_ba4f3_25 (by decide) (fun b1 => ?_) (fun b1 => ?_)
    · refine Ev.sg hX sJ6_getChars_ba4f3_72 (pc' := 78) (ls' := [some (.int (-(nI k))), some (.int i0), some (.ref v), l3, none, some (.int ((nI (s + 1)) + (-1))), some (.int 0)]) (st' := [.int ((nI (s + 1)) + (-1)), .ref v]) (h' := (N, SB v T, I, L, Dd)) rfl ?_
      rw [sb_m1 (p := s + 1) (by omega), show s + 1 - 1 = s by omega]
      refine Ev.getsDO (by decide +kernel) dJ6_getChars_ba4f3_78 ?_
      refine Ev.sg hX sJ6_getChars_ba4f3_81 (pc' := 83) (ls' := [some (.int (-(nI k))), some (.int i0), some (.ref v), l3, none, some (.int (nI s)), some (.int 0)]) (st' := [.int (-(-(nI k))), .ref (BIG + 200), .int (nI s), .ref v]) (h' := (N, SB v T, I, L, Dd)) rfl ?_
      rw [show -(-(nI k)) = nI k from Int32.neg_neg]
      refine Ev.baldDO (vp_in_nI (n := k) (by omega) (by decide)) dJ6_getChars_ba4f3_83 ?_
      rw [show (nI (k)).toNatClampNeg = k from nI_clamp (by omega), show k % 10 = k by omega]
      show Ev _ _ _ _ _ _ 84 [some (.int (-(nI k))), some (.int i0), some (.ref v), l3, none, some (.int (nI s)), some (.int 0)] [.int (nI (48 + k)), .int (nI s), .ref v] (N, SB v T, I, L, Dd)
      refine Ev.bastE (n := s) (y := nI (48 + k)) (dg_ok k (by omega)).2 hX hv rfl (by omega) (by omega) dJ6_getChars_ba4f3_84 ?_
      show Ev _ _ _ _ _ _ 85 [some (.int (-(nI k))), some (.int i0), some (.ref v), l3, none, some (.int (nI s)), some (.int 0)] [] (N, SB v T, up2 I v s (nI (48 + k)), L, Dd)
      refine Ev.sg hX sJ6_getChars_ba4f3_85 (pc' := 88) (ls' := [some (.int (-(nI k))), some (.int i0), some (.ref v), l3, none, some (.int (nI s)), some (.int 0)]) (st' := [.int (-9), .int (-(nI k))]) (h' := (N, SB v T, up2 I v s (nI (48 + k)), L, Dd)) rfl ?_
      refine Ev.icmp_ge (tgt := 104) dJ6_getChars_ba4f3_88 (by decide) (fun b2 => ?_) (fun b2 => ?_)
      · refine Ev.sg hX sJ6_getChars_ba4f3_104 (pc' := 106) (ls' := [some (.int (-(nI k))), some (.int i0), some (.ref v), l3, none, some (.int (nI s)), some (.int 0)]) (st' := [.int 0]) (h' := (N, SB v T, up2 I v s (nI (48 + k)), L, Dd)) rfl ?_
        refine Ev.if_eq (tgt := 118) dJ6_getChars_ba4f3_106 (by decide) (fun b3 => ?_) (fun b3 => ?_)
        · refine Ev.sg hX sJ6_getChars_ba4f3_118 (pc' := 120) (ls' := [some (.int (-(nI k))), some (.int i0), some (.ref v), l3, none, some (.int (nI s)), some (.int 0)]) (st' := [.int (nI s)]) (h' := (N, SB v T, up2 I v s (nI (48 + k)), L, Dd)) rfl ?_
          refine Ev.iret dJ6_getChars_ba4f3_120 rfl ?_
          exact hQ
        · exact absurd rfl b3
      · exact absurd (show -nI 9 ≤ -nI k from (sb_nle (by decide) (by omega)).mpr (by omega)) b2
    · exact absurd (show -nI 100 < -nI k from (sb_nlt (by decide) (by omega)).mpr (by omega)) b1
  · refine Ev.sg hX sJ6_getChars_ba4f3_22 (pc' := 25) (ls' := [some (.int (-(nI k))), some (.int i0), some (.ref v), l3, some (.int x4), some (.int (nI (s + 1))), some (.int 0)]) (st' := [.int (-100), .int (-(nI k))]) (h' := (N, SB v T, I, L, Dd)) rfl ?_
    refine Ev.icmp_gt (tgt := 72) dJ6_getChars_ba4f3_25 (by decide) (fun b1 => ?_) (fun b1 => ?_)
    · refine Ev.sg hX sJ6_getChars_ba4f3_72 (pc' := 78) (ls' := [some (.int (-(nI k))), some (.int i0), some (.ref v), l3, some (.int x4), some (.int ((nI (s + 1)) + (-1))), some (.int 0)]) (st' := [.int ((nI (s + 1)) + (-1)), .ref v]) (h' := (N, SB v T, I, L, Dd)) rfl ?_
      rw [sb_m1 (p := s + 1) (by omega), show s + 1 - 1 = s by omega]
      refine Ev.getsDO (by decide +kernel) dJ6_getChars_ba4f3_78 ?_
      refine Ev.sg hX sJ6_getChars_ba4f3_81 (pc' := 83) (ls' := [some (.int (-(nI k))), some (.int i0), some (.ref v), l3, some (.int x4), some (.int (nI s)), some (.int 0)]) (st' := [.int (-(-(nI k))), .ref (BIG + 200), .int (nI s), .ref v]) (h' := (N, SB v T, I, L, Dd)) rfl ?_
      rw [show -(-(nI k)) = nI k from Int32.neg_neg]
      refine Ev.baldDO (vp_in_nI (n := k) (by omega) (by decide)) dJ6_getChars_ba4f3_83 ?_
      rw [show (nI (k)).toNatClampNeg = k from nI_clamp (by omega), show k % 10 = k by omega]
      show Ev _ _ _ _ _ _ 84 [some (.int (-(nI k))), some (.int i0), some (.ref v), l3, some (.int x4), some (.int (nI s)), some (.int 0)] [.int (nI (48 + k)), .int (nI s), .ref v] (N, SB v T, I, L, Dd)
      refine Ev.bastE (n := s) (y := nI (48 + k)) (dg_ok k (by omega)).2 hX hv rfl (by omega) (by omega) dJ6_getChars_ba4f3_84 ?_
      show Ev _ _ _ _ _ _ 85 [some (.int (-(nI k))), some (.int i0), some (.ref v), l3, some (.int x4), some (.int (nI s)), some (.int 0)] [] (N, SB v T, up2 I v s (nI (48 + k)), L, Dd)
      refine Ev.sg hX sJ6_getChars_ba4f3_85 (pc' := 88) (ls' := [some (.int (-(nI k))), some (.int i0), some (.ref v), l3, some (.int x4), some (.int (nI s)), some (.int 0)]) (st' := [.int (-9), .int (-(nI k))]) (h' := (N, SB v T, up2 I v s (nI (48 + k)), L, Dd)) rfl ?_
      refine Ev.icmp_ge (tgt := 104) dJ6_getChars_ba4f3_88 (by decide) (fun b2 => ?_) (fun b2 => ?_)
      · refine Ev.sg hX sJ6_getChars_ba4f3_104 (pc' := 106) (ls' := [some (.int (-(nI k))), some (.int i0), some (.ref v), l3, some (.int x4), some (.int (nI s)), some (.int 0)]) (st' := [.int 0]) (h' := (N, SB v T, up2 I v s (nI (48 + k)), L, Dd)) rfl ?_
        refine Ev.if_eq (tgt := 118) dJ6_getChars_ba4f3_106 (by decide) (fun b3 => ?_) (fun b3 => ?_)
        · refine Ev.sg hX sJ6_getChars_ba4f3_118 (pc' := 120) (ls' := [some (.int (-(nI k))), some (.int i0), some (.ref v), l3, some (.int x4), some (.int (nI s)), some (.int 0)]) (st' := [.int (nI s)]) (h' := (N, SB v T, up2 I v s (nI (48 + k)), L, Dd)) rfl ?_
          refine Ev.iret dJ6_getChars_ba4f3_120 rfl ?_
          exact hQ
        · exact absurd rfl b3
      · exact absurd (show -nI 9 ≤ -nI k from (sb_nle (by decide) (by omega)).mpr (by omega)) b2
    · exact absurd (show -nI 100 < -nI k from (sb_nlt (by decide) (by omega)).mpr (by omega)) b1
theorem l_gc2B (hX : JXok X) (hv : SB v T v = some (.inl (.byte, cap))) (hk : 10 ≤ k ∧ k < 100) (hs : s + 2 ≤ cap) (hcap : cap ≤ 700) (hl4 : l4 = none ∨ ∃ x, l4 = some (.int x)) (hQ : Q (.inl (some (.int (nI s)), (N, SB v T, up2 (up2 I v (s + 1) (nI (48 + k % 10))) v s (nI (48 + k / 10)), L, Dd)))) : Ev X (jm jdJ6_getChars_ba4f3) d mc ms Q 22 [some (.int (-(nI k))), some (.int i0), some (.ref v), l3, l4, some (.int (nI (s + 2))), some (.int 0)] [] (N, SB v T, I, L, Dd) := by
  rcases hl4 with rfl | ⟨x4, rfl⟩
  · refine Ev.sg hX sJ6_getChars_ba4f3_22 (pc' := 25) (ls' := [some (.int (-(nI k))), some (.int i0), some (.ref v), l3, none, some (.int (nI (s + 2))), some (.int 0)]) (st' := [.int (-100), .int (-(nI k))]) (h' := (N, SB v T, I, L, Dd)) rfl ?_
    refine Ev.icmp_gt (tgt := 72) dJ6_getChars_ba4f3_25 (by decide) (fun b1 => ?_) (fun b1 => ?_)
    · refine Ev.sg hX sJ6_getChars_ba4f3_72 (pc' := 78) (ls' := [some (.int (-(nI k))), some (.int i0), some (.ref v), l3, none, some (.int ((nI (s + 2)) + (-1))), some (.int 0)]) (st' := [.int ((nI (s + 2)) + (-1)), .ref v]) (h' := (N, SB v T, I, L, Dd)) rfl ?_
      rw [sb_m1 (p := s + 2) (by omega), show s + 2 - 1 = s + 1 by omega]
      refine Ev.getsDO (by decide +kernel) dJ6_getChars_ba4f3_78 ?_
      refine Ev.sg hX sJ6_getChars_ba4f3_81 (pc' := 83) (ls' := [some (.int (-(nI k))), some (.int i0), some (.ref v), l3, none, some (.int (nI (s + 1))), some (.int 0)]) (st' := [.int (-(-(nI k))), .ref (BIG + 200), .int (nI (s + 1)), .ref v]) (h' := (N, SB v T, I, L, Dd)) rfl ?_
      rw [show -(-(nI k)) = nI k from Int32.neg_neg]
      refine Ev.baldDO (vp_in_nI (n := k) (by omega) (by decide)) dJ6_getChars_ba4f3_83 ?_
      rw [show (nI (k)).toNatClampNeg = k from nI_clamp (by omega)]
      show Ev _ _ _ _ _ _ 84 [some (.int (-(nI k))), some (.int i0), some (.ref v), l3, none, some (.int (nI (s + 1))), some (.int 0)] [.int (nI (48 + k % 10)), .int (nI (s + 1)), .ref v] (N, SB v T, I, L, Dd)
      refine Ev.bastE (n := s + 1) (y := nI (48 + k % 10)) (dg_ok (k % 10) (by omega)).2 hX hv rfl (by omega) (by omega) dJ6_getChars_ba4f3_84 ?_
      show Ev _ _ _ _ _ _ 85 [some (.int (-(nI k))), some (.int i0), some (.ref v), l3, none, some (.int (nI (s + 1))), some (.int 0)] [] (N, SB v T, up2 I v (s + 1) (nI (48 + k % 10)), L, Dd)
      refine Ev.sg hX sJ6_getChars_ba4f3_85 (pc' := 88) (ls' := [some (.int (-(nI k))), some (.int i0), some (.ref v), l3, none, some (.int (nI (s + 1))), some (.int 0)]) (st' := [.int (-9), .int (-(nI k))]) (h' := (N, SB v T, up2 I v (s + 1) (nI (48 + k % 10)), L, Dd)) rfl ?_
      refine Ev.icmp_ge (tgt := 104) dJ6_getChars_ba4f3_88 (by decide) (fun b2 => ?_) (fun b2 => ?_)
      · exact absurd ((sb_nle (by decide) (by omega)).mp (show -nI 9 ≤ -nI k from b2)) (by omega)
      · refine Ev.sg hX sJ6_getChars_ba4f3_91 (pc' := 97) (ls' := [some (.int (-(nI k))), some (.int i0), some (.ref v), l3, none, some (.int ((nI (s + 1)) + (-1))), some (.int 0)]) (st' := [.int ((nI (s + 1)) + (-1)), .ref v]) (h' := (N, SB v T, up2 I v (s + 1) (nI (48 + k % 10)), L, Dd)) rfl ?_
        rw [sb_m1 (p := s + 1) (by omega), show s + 1 - 1 = s by omega]
        refine Ev.getsDT (by decide +kernel) dJ6_getChars_ba4f3_97 ?_
        refine Ev.sg hX sJ6_getChars_ba4f3_100 (pc' := 102) (ls' := [some (.int (-(nI k))), some (.int i0), some (.ref v), l3, none, some (.int (nI s)), some (.int 0)]) (st' := [.int (-(-(nI k))), .ref (BIG + 201), .int (nI s), .ref v]) (h' := (N, SB v T, up2 I v (s + 1) (nI (48 + k % 10)), L, Dd)) rfl ?_
        rw [show -(-(nI k)) = nI k from Int32.neg_neg]
        refine Ev.baldDT (vp_in_nI (n := k) (by omega) (by decide)) dJ6_getChars_ba4f3_102 ?_
        rw [show (nI (k)).toNatClampNeg = k from nI_clamp (by omega)]
        show Ev _ _ _ _ _ _ 103 [some (.int (-(nI k))), some (.int i0), some (.ref v), l3, none, some (.int (nI s)), some (.int 0)] [.int (nI (48 + k / 10)), .int (nI s), .ref v] (N, SB v T, up2 I v (s + 1) (nI (48 + k % 10)), L, Dd)
        refine Ev.bastE (n := s) (y := nI (48 + k / 10)) (dg_ok (k / 10) (by omega)).2 hX hv rfl (by omega) (by omega) dJ6_getChars_ba4f3_103 ?_
        show Ev _ _ _ _ _ _ 104 [some (.int (-(nI k))), some (.int i0), some (.ref v), l3, none, some (.int (nI s)), some (.int 0)] [] (N, SB v T, up2 (up2 I v (s + 1) (nI (48 + k % 10))) v s (nI (48 + k / 10)), L, Dd)
        refine Ev.sg hX sJ6_getChars_ba4f3_104 (pc' := 106) (ls' := [some (.int (-(nI k))), some (.int i0), some (.ref v), l3, none, some (.int (nI s)), some (.int 0)]) (st' := [.int 0]) (h' := (N, SB v T, up2 (up2 I v (s + 1) (nI (48 + k % 10))) v s (nI (48 + k / 10)), L, Dd)) rfl ?_
        refine Ev.if_eq (tgt := 118) dJ6_getChars_ba4f3_106 (by decide) (fun b3 => ?_) (fun b3 => ?_)
        · refine Ev.sg hX sJ6_getChars_ba4f3_118 (pc' := 120) (ls' := [some (.int (-(nI k))), some (.int i0), some (.ref v), l3, none, some (.int (nI s)), some (.int 0)]) (st' := [.int (nI s)]) (h' := (N, SB v T, up2 (up2 I v (s + 1) (nI (48 + k % 10))) v s (nI (48 + k / 10)), L, Dd)) rfl ?_
          refine Ev.iret dJ6_getChars_ba4f3_120 rfl ?_
          exact hQ
        · exact absurd rfl b3
    · exact absurd (show -nI 100 < -nI k from (sb_nlt (by decide) (by omega)).mpr (by omega)) b1
  · refine Ev.sg hX sJ6_getChars_ba4f3_22 (pc' := 25) (ls' := [some (.int (-(nI k))), some (.int i0), some (.ref v), l3, some (.int x4), some (.int (nI (s + 2))), some (.int 0)]) (st' := [.int (-100), .int (-(nI k))]) (h' := (N, SB v T, I, L, Dd)) rfl ?_
    refine Ev.icmp_gt (tgt := 72) dJ6_getChars_ba4f3_25 (by decide) (fun b1 => ?_) (fun b1 => ?_)
    · refine Ev.sg hX sJ6_getChars_ba4f3_72 (pc' := 78) (ls' := [some (.int (-(nI k))), some (.int i0), some (.ref v), l3, some (.int x4), some (.int ((nI (s + 2)) + (-1))), some (.int 0)]) (st' := [.int ((nI (s + 2)) + (-1)), .ref v]) (h' := (N, SB v T, I, L, Dd)) rfl ?_
      rw [sb_m1 (p := s + 2) (by omega), show s + 2 - 1 = s + 1 by omega]
      refine Ev.getsDO (by decide +kernel) dJ6_getChars_ba4f3_78 ?_
      refine Ev.sg hX sJ6_getChars_ba4f3_81 (pc' := 83) (ls' := [some (.int (-(nI k))), some (.int i0), some (.ref v), l3, some (.int x4), some (.int (nI (s + 1))), some (.int 0)]) (st' := [.int (-(-(nI k))), .ref (BIG + 200), .int (nI (s + 1)), .ref v]) (h' := (N, SB v T, I, L, Dd)) rfl ?_
      rw [show -(-(nI k)) = nI k from Int32.neg_neg]
      refine Ev.baldDO (vp_in_nI (n := k) (by omega) (by decide)) dJ6_getChars_ba4f3_83 ?_
      rw [show (nI (k)).toNatClampNeg = k from nI_clamp (by omega)]
      show Ev _ _ _ _ _ _ 84 [some (.int (-(nI k))), some (.int i0), some (.ref v), l3, some (.int x4), some (.int (nI (s + 1))), some (.int 0)] [.int (nI (48 + k % 10)), .int (nI (s + 1)), .ref v] (N, SB v T, I, L, Dd)
      refine Ev.bastE (n := s + 1) (y := nI (48 + k % 10)) (dg_ok (k % 10) (by omega)).2 hX hv rfl (by omega) (by omega) dJ6_getChars_ba4f3_84 ?_
      show Ev _ _ _ _ _ _ 85 [some (.int (-(nI k))), some (.int i0), some (.ref v), l3, some (.int x4), some (.int (nI (s + 1))), some (.int 0)] [] (N, SB v T, up2 I v (s + 1) (nI (48 + k % 10)), L, Dd)
      refine Ev.sg hX sJ6_getChars_ba4f3_85 (pc' := 88) (ls' := [some (.int (-(nI k))), some (.int i0), some (.ref v), l3, some (.int x4), some (.int (nI (s + 1))), some (.int 0)]) (st' := [.int (-9), .int (-(nI k))]) (h' := (N, SB v T, up2 I v (s + 1) (nI (48 + k % 10)), L, Dd)) rfl ?_
      refine Ev.icmp_ge (tgt := 104) dJ6_getChars_ba4f3_88 (by decide) (fun b2 => ?_) (fun b2 => ?_)
      · exact absurd ((sb_nle (by decide) (by omega)).mp (show -nI 9 ≤ -nI k from b2)) (by omega)
      · refine Ev.sg hX sJ6_getChars_ba4f3_91 (pc' := 97) (ls' := [some (.int (-(nI k))), some (.int i0), some (.ref v), l3, some (.int x4), some (.int ((nI (s + 1)) + (-1))), some (.int 0)]) (st' := [.int ((nI (s + 1)) + (-1)), .ref v]) (h' := (N, SB v T, up2 I v (s + 1) (nI (48 + k % 10)), L, Dd)) rfl ?_
        rw [sb_m1 (p := s + 1) (by omega), show s + 1 - 1 = s by omega]
        refine Ev.getsDT (by decide +kernel) dJ6_getChars_ba4f3_97 ?_
        refine Ev.sg hX sJ6_getChars_ba4f3_100 (pc' := 102) (ls' := [some (.int (-(nI k))), some (.int i0), some (.ref v), l3, some (.int x4), some (.int (nI s)), some (.int 0)]) (st' := [.int (-(-(nI k))), .ref (BIG + 201), .int (nI s), .ref v]) (h' := (N, SB v T, up2 I v (s + 1) (nI (48 + k % 10)), L, Dd)) rfl ?_
        rw [show -(-(nI k)) = nI k from Int32.neg_neg]
        refine Ev.baldDT (vp_in_nI (n := k) (by omega) (by decide)) dJ6_getChars_ba4f3_102 ?_
        rw [show (nI (k)).toNatClampNeg = k from nI_clamp (by omega)]
        show Ev _ _ _ _ _ _ 103 [some (.int (-(nI k))), some (.int i0), some (.ref v), l3, some (.int x4), some (.int (nI s)), some (.int 0)] [.int (nI (48 + k / 10)), .int (nI s), .ref v] (N, SB v T, up2 I v (s + 1) (nI (48 + k % 10)), L, Dd)
        refine Ev.bastE (n := s) (y := nI (48 + k / 10)) (dg_ok (k / 10) (by omega)).2 hX hv rfl (by omega) (by omega) dJ6_getChars_ba4f3_103 ?_
        show Ev _ _ _ _ _ _ 104 [some (.int (-(nI k))), some (.int i0), some (.ref v), l3, some (.int x4), some (.int (nI s)), some (.int 0)] [] (N, SB v T, up2 (up2 I v (s + 1) (nI (48 + k % 10))) v s (nI (48 + k / 10)), L, Dd)
        refine Ev.sg hX sJ6_getChars_ba4f3_104 (pc' := 106) (ls' := [some (.int (-(nI k))), some (.int i0), some (.ref v), l3, some (.int x4), some (.int (nI s)), some (.int 0)]) (st' := [.int 0]) (h' := (N, SB v T, up2 (up2 I v (s + 1) (nI (48 + k % 10))) v s (nI (48 + k / 10)), L, Dd)) rfl ?_
        refine Ev.if_eq (tgt := 118) dJ6_getChars_ba4f3_106 (by decide) (fun b3 => ?_) (fun b3 => ?_)
        · refine Ev.sg hX sJ6_getChars_ba4f3_118 (pc' := 120) (ls' := [some (.int (-(nI k))), some (.int i0), some (.ref v), l3, some (.int x4), some (.int (nI s)), some (.int 0)]) (st' := [.int (nI s)]) (h' := (N, SB v T, up2 (up2 I v (s + 1) (nI (48 + k % 10))) v s (nI (48 + k / 10)), L, Dd)) rfl ?_
          refine Ev.iret dJ6_getChars_ba4f3_120 rfl ?_
          exact hQ
        · exact absurd rfl b3
    · exact absurd (show -nI 100 < -nI k from (sb_nlt (by decide) (by omega)).mpr (by omega)) b1
theorem l_gc3B (hX : JXok X) (hv : SB v T v = some (.inl (.byte, cap))) (hk : 100 ≤ k ∧ k < 1000) (hs : s + 3 ≤ cap) (hcap : cap ≤ 700) (hQ : Q (.inl (some (.int (nI s)), (N, SB v T, up2 (up2 (up2 I v (s + 2) (nI (48 + k % 10))) v (s + 1) (nI (48 + k % 100 / 10))) v s (nI (48 + k / 100)), L, Dd)))) : Ev X (jm jdJ6_getChars_ba4f3) d mc ms Q 22 [some (.int (-(nI k))), some (.int i0), some (.ref v), l3, l4, some (.int (nI (s + 3))), some (.int 0)] [] (N, SB v T, I, L, Dd) := by
  refine Ev.sg hX sJ6_getChars_ba4f3_22 (pc' := 25) (ls' := [some (.int (-(nI k))), some (.int i0), some (.ref v), l3, l4, some (.int (nI (s + 3))), some (.int 0)]) (st' := [.int (-100), .int (-(nI k))]) (h' := (N, SB v T, I, L, Dd)) rfl ?_
  refine Ev.icmp_gt (tgt := 72) dJ6_getChars_ba4f3_25 (by decide) (fun b1 => ?_) (fun b1 => ?_)
  · exact absurd ((sb_nlt (by decide) (by omega)).mp (show -nI 100 < -nI k from b1)) (by omega)
  · refine Ev.sg hX sJ6_getChars_ba4f3_28 (pc' := 31) (ls' := [some (.int (-(nI k))), some (.int i0), some (.ref v), l3, l4, some (.int (nI (s + 3))), some (.int 0)]) (st' := [.int 100, .int (-(nI k))]) (h' := (N, SB v T, I, L, Dd)) rfl ?_
    refine Ev.idiv dJ6_getChars_ba4f3_31 (by decide) ?_
    rw [sb_ndiv (by omega)]
    refine Ev.sg hX sJ6_getChars_ba4f3_32 (pc' := 49) (ls' := [some (.int (-(nI (k / 100)))), some (.int i0), some (.ref v), some (.int (-(nI (k / 100)))), some (.int (((-(nI (k / 100))) * 100) - (-(nI k)))), some (.int ((nI (s + 3)) + (-1))), some (.int 0)]) (st' := [.int ((nI (s + 3)) + (-1)), .ref v]) (h' := (N, SB v T, I, L, Dd)) rfl ?_
    rw [sb_m1 (p := s + 3) (by omega), show s + 3 - 1 = s + 2 by omega]
    rw [sb_nrem (by omega)]
    refine Ev.getsDO (by decide +kernel) dJ6_getChars_ba4f3_49 ?_
    refine Ev.sg hX sJ6_getChars_ba4f3_52 (pc' := 54) (ls' := [some (.int (-(nI (k / 100)))), some (.int i0), some (.ref v), some (.int (-(nI (k / 100)))), some (.int (nI (k % 100))), some (.int (nI (s + 2))), some (.int 0)]) (st' := [.int (nI (k % 100)), .ref (BIG + 200), .int (nI (s + 2)), .ref v]) (h' := (N, SB v T, I, L, Dd)) rfl ?_
    refine Ev.baldDO (vp_in_nI (n := k % 100) (by omega) (by decide)) dJ6_getChars_ba4f3_54 ?_
    rw [show (nI (k % 100)).toNatClampNeg = k % 100 from nI_clamp (by omega), show k % 100 % 10 = k % 10 by omega]
    show Ev _ _ _ _ _ _ 55 [some (.int (-(nI (k / 100)))), some (.int i0), some (.ref v), some (.int (-(nI (k / 100)))), some (.int (nI (k % 100))), some (.int (nI (s + 2))), some (.int 0)] [.int (nI (48 + k % 10)), .int (nI (s + 2)), .ref v] (N, SB v T, I, L, Dd)
    refine Ev.bastE (n := s + 2) (y := nI (48 + k % 10)) (dg_ok (k % 10) (by omega)).2 hX hv rfl (by omega) (by omega) dJ6_getChars_ba4f3_55 ?_
    show Ev _ _ _ _ _ _ 56 [some (.int (-(nI (k / 100)))), some (.int i0), some (.ref v), some (.int (-(nI (k / 100)))), some (.int (nI (k % 100))), some (.int (nI (s + 2))), some (.int 0)] [] (N, SB v T, up2 I v (s + 2) (nI (48 + k % 10)), L, Dd)
    refine Ev.sg hX sJ6_getChars_ba4f3_56 (pc' := 62) (ls' := [some (.int (-(nI (k / 100)))), some (.int i0), some (.ref v), some (.int (-(nI (k / 100)))), some (.int (nI (k % 100))), some (.int ((nI (s + 2)) + (-1))), some (.int 0)]) (st' := [.int ((nI (s + 2)) + (-1)), .ref v]) (h' := (N, SB v T, up2 I v (s + 2) (nI (48 + k % 10)), L, Dd)) rfl ?_
    rw [sb_m1 (p := s + 2) (by omega), show s + 2 - 1 = s + 1 by omega]
    refine Ev.getsDT (by decide +kernel) dJ6_getChars_ba4f3_62 ?_
    refine Ev.sg hX sJ6_getChars_ba4f3_65 (pc' := 67) (ls' := [some (.int (-(nI (k / 100)))), some (.int i0), some (.ref v), some (.int (-(nI (k / 100)))), some (.int (nI (k % 100))), some (.int (nI (s + 1))), some (.int 0)]) (st' := [.int (nI (k % 100)), .ref (BIG + 201), .int (nI (s + 1)), .ref v]) (h' := (N, SB v T, up2 I v (s + 2) (nI (48 + k % 10)), L, Dd)) rfl ?_
    refine Ev.baldDT (vp_in_nI (n := k % 100) (by omega) (by decide)) dJ6_getChars_ba4f3_67 ?_
    rw [show (nI (k % 100)).toNatClampNeg = k % 100 from nI_clamp (by omega)]
    show Ev _ _ _ _ _ _ 68 [some (.int (-(nI (k / 100)))), some (.int i0), some (.ref v), some (.int (-(nI (k / 100)))), some (.int (nI (k % 100))), some (.int (nI (s + 1))), some (.int 0)] [.int (nI (48 + k % 100 / 10)), .int (nI (s + 1)), .ref v] (N, SB v T, up2 I v (s + 2) (nI (48 + k % 10)), L, Dd)
    refine Ev.bastE (n := s + 1) (y := nI (48 + k % 100 / 10)) (dg_ok (k % 100 / 10) (by omega)).2 hX hv rfl (by omega) (by omega) dJ6_getChars_ba4f3_68 ?_
    show Ev _ _ _ _ _ _ 69 [some (.int (-(nI (k / 100)))), some (.int i0), some (.ref v), some (.int (-(nI (k / 100)))), some (.int (nI (k % 100))), some (.int (nI (s + 1))), some (.int 0)] [] (N, SB v T, up2 (up2 I v (s + 2) (nI (48 + k % 10))) v (s + 1) (nI (48 + k % 100 / 10)), L, Dd)
    refine Ev.sg hX sJ6_getChars_ba4f3_69 (pc' := 22) (ls' := [some (.int (-(nI (k / 100)))), some (.int i0), some (.ref v), some (.int (-(nI (k / 100)))), some (.int (nI (k % 100))), some (.int (nI (s + 1))), some (.int 0)]) (st' := []) (h' := (N, SB v T, up2 (up2 I v (s + 2) (nI (48 + k % 10))) v (s + 1) (nI (48 + k % 100 / 10)), L, Dd)) rfl ?_
    exact l_gc1B hX hv (k := k / 100) (by omega) (by omega) hcap (Or.inr ⟨_, rfl⟩) hQ
theorem l_gc4B (hX : JXok X) (hv : SB v T v = some (.inl (.byte, cap))) (hk : 1000 ≤ k ∧ k < 10000) (hs : s + 4 ≤ cap) (hcap : cap ≤ 700) (hQ : Q (.inl (some (.int (nI s)), (N, SB v T, up2 (up2 (up2 (up2 I v (s + 3) (nI (48 + k % 10))) v (s + 2) (nI (48 + k % 100 / 10))) v (s + 1) (nI (48 + k / 100 % 10))) v s (nI (48 + k / 100 / 10)), L, Dd)))) : Ev X (jm jdJ6_getChars_ba4f3) d mc ms Q 22 [some (.int (-(nI k))), some (.int i0), some (.ref v), l3, l4, some (.int (nI (s + 4))), some (.int 0)] [] (N, SB v T, I, L, Dd) := by
  refine Ev.sg hX sJ6_getChars_ba4f3_22 (pc' := 25) (ls' := [some (.int (-(nI k))), some (.int i0), some (.ref v), l3, l4, some (.int (nI (s + 4))), some (.int 0)]) (st' := [.int (-100), .int (-(nI k))]) (h' := (N, SB v T, I, L, Dd)) rfl ?_
  refine Ev.icmp_gt (tgt := 72) dJ6_getChars_ba4f3_25 (by decide) (fun b1 => ?_) (fun b1 => ?_)
  · exact absurd ((sb_nlt (by decide) (by omega)).mp (show -nI 100 < -nI k from b1)) (by omega)
  · refine Ev.sg hX sJ6_getChars_ba4f3_28 (pc' := 31) (ls' := [some (.int (-(nI k))), some (.int i0), some (.ref v), l3, l4, some (.int (nI (s + 4))), some (.int 0)]) (st' := [.int 100, .int (-(nI k))]) (h' := (N, SB v T, I, L, Dd)) rfl ?_
    refine Ev.idiv dJ6_getChars_ba4f3_31 (by decide) ?_
    rw [sb_ndiv (by omega)]
    refine Ev.sg hX sJ6_getChars_ba4f3_32 (pc' := 49) (ls' := [some (.int (-(nI (k / 100)))), some (.int i0), some (.ref v), some (.int (-(nI (k / 100)))), some (.int (((-(nI (k / 100))) * 100) - (-(nI k)))), some (.int ((nI (s + 4)) + (-1))), some (.int 0)]) (st' := [.int ((nI (s + 4)) + (-1)), .ref v]) (h' := (N, SB v T, I, L, Dd)) rfl ?_
    rw [sb_m1 (p := s + 4) (by omega), show s + 4 - 1 = s + 3 by omega]
    rw [sb_nrem (by omega)]
    refine Ev.getsDO (by decide +kernel) dJ6_getChars_ba4f3_49 ?_
    refine Ev.sg hX sJ6_getChars_ba4f3_52 (pc' := 54) (ls' := [some (.int (-(nI (k / 100)))), some (.int i0), some (.ref v), some (.int (-(nI (k / 100)))), some (.int (nI (k % 100))), some (.int (nI (s + 3))), some (.int 0)]) (st' := [.int (nI (k % 100)), .ref (BIG + 200), .int (nI (s + 3)), .ref v]) (h' := (N, SB v T, I, L, Dd)) rfl ?_
    refine Ev.baldDO (vp_in_nI (n := k % 100) (by omega) (by decide)) dJ6_getChars_ba4f3_54 ?_
    rw [show (nI (k % 100)).toNatClampNeg = k % 100 from nI_clamp (by omega), show k % 100 % 10 = k % 10 by omega]
    show Ev _ _ _ _ _ _ 55 [some (.int (-(nI (k / 100)))), some (.int i0), some (.ref v), some (.int (-(nI (k / 100)))), some (.int (nI (k % 100))), some (.int (nI (s + 3))), some (.int 0)] [.int (nI (48 + k % 10)), .int (nI (s + 3)), .ref v] (N, SB v T, I, L, Dd)
    refine Ev.bastE (n := s + 3) (y := nI (48 + k % 10)) (dg_ok (k % 10) (by omega)).2 hX hv rfl (by omega) (by omega) dJ6_getChars_ba4f3_55 ?_
    show Ev _ _ _ _ _ _ 56 [some (.int (-(nI (k / 100)))), some (.int i0), some (.ref v), some (.int (-(nI (k / 100)))), some (.int (nI (k % 100))), some (.int (nI (s + 3))), some (.int 0)] [] (N, SB v T, up2 I v (s + 3) (nI (48 + k % 10)), L, Dd)
    refine Ev.sg hX sJ6_getChars_ba4f3_56 (pc' := 62) (ls' := [some (.int (-(nI (k / 100)))), some (.int i0), some (.ref v), some (.int (-(nI (k / 100)))), some (.int (nI (k % 100))), some (.int ((nI (s + 3)) + (-1))), some (.int 0)]) (st' := [.int ((nI (s + 3)) + (-1)), .ref v]) (h' := (N, SB v T, up2 I v (s + 3) (nI (48 + k % 10)), L, Dd)) rfl ?_
    rw [sb_m1 (p := s + 3) (by omega), show s + 3 - 1 = s + 2 by omega]
    refine Ev.getsDT (by decide +kernel) dJ6_getChars_ba4f3_62 ?_
    refine Ev.sg hX sJ6_getChars_ba4f3_65 (pc' := 67) (ls' := [some (.int (-(nI (k / 100)))), some (.int i0), some (.ref v), some (.int (-(nI (k / 100)))), some (.int (nI (k % 100))), some (.int (nI (s + 2))), some (.int 0)]) (st' := [.int (nI (k % 100)), .ref (BIG + 201), .int (nI (s + 2)), .ref v]) (h' := (N, SB v T, up2 I v (s + 3) (nI (48 + k % 10)), L, Dd)) rfl ?_
    refine Ev.baldDT (vp_in_nI (n := k % 100) (by omega) (by decide)) dJ6_getChars_ba4f3_67 ?_
    rw [show (nI (k % 100)).toNatClampNeg = k % 100 from nI_clamp (by omega)]
    show Ev _ _ _ _ _ _ 68 [some (.int (-(nI (k / 100)))), some (.int i0), some (.ref v), some (.int (-(nI (k / 100)))), some (.int (nI (k % 100))), some (.int (nI (s + 2))), some (.int 0)] [.int (nI (48 + k % 100 / 10)), .int (nI (s + 2)), .ref v] (N, SB v T, up2 I v (s + 3) (nI (48 + k % 10)), L, Dd)
    refine Ev.bastE (n := s + 2) (y := nI (48 + k % 100 / 10)) (dg_ok (k % 100 / 10) (by omega)).2 hX hv rfl (by omega) (by omega) dJ6_getChars_ba4f3_68 ?_
    show Ev _ _ _ _ _ _ 69 [some (.int (-(nI (k / 100)))), some (.int i0), some (.ref v), some (.int (-(nI (k / 100)))), some (.int (nI (k % 100))), some (.int (nI (s + 2))), some (.int 0)] [] (N, SB v T, up2 (up2 I v (s + 3) (nI (48 + k % 10))) v (s + 2) (nI (48 + k % 100 / 10)), L, Dd)
    refine Ev.sg hX sJ6_getChars_ba4f3_69 (pc' := 22) (ls' := [some (.int (-(nI (k / 100)))), some (.int i0), some (.ref v), some (.int (-(nI (k / 100)))), some (.int (nI (k % 100))), some (.int (nI (s + 2))), some (.int 0)]) (st' := []) (h' := (N, SB v T, up2 (up2 I v (s + 3) (nI (48 + k % 10))) v (s + 2) (nI (48 + k % 100 / 10)), L, Dd)) rfl ?_
    exact l_gc2B hX hv (k := k / 100) (by omega) (by omega) hcap (Or.inr ⟨_, rfl⟩) hQ
theorem c_getChB (hX : JXok X) (hd : 0 ≤ d) (hv : SB v T v = some (.inl (.byte, cap))) (hk : k < 10000) (hs : s + sb_dg k ≤ cap) (hcap : cap ≤ 700) : MT X d 0 0 jdJ6_getChars_ba4f3 [.int (nI k), .int (nI (s + sb_dg k)), .ref v] (N, SB v T, I, L, Dd) (fun R => R = .inl (some (.int (nI s)), (N, SB v T, gcI I v s k, L, Dd))) := by
  refine MT.mk dsJ6_getChars_ba4f3.1 ?_
  refine Ev.sg hX sJ6_getChars_ba4f3_0 (pc' := 4) (ls' := [some (.int (nI k)), some (.int (nI (s + sb_dg k))), some (.ref v), none, none, some (.int (nI (s + sb_dg k))), none]) (st' := [.int (nI k)]) (h' := (N, SB v T, I, L, Dd)) rfl ?_
  refine Ev.if_ge (tgt := 11) dJ6_getChars_ba4f3_4 (by decide) (fun b1 => ?_) (fun b1 => ?_)
  · refine Ev.sg hX sJ6_getChars_ba4f3_11 (pc' := 12) (ls' := [some (.int (nI k)), some (.int (nI (s + sb_dg k))), some (.ref v), none, none, some (.int (nI (s + sb_dg k))), none]) (st' := [.int 0]) (h' := (N, SB v T, I, L, Dd)) rfl ?_
    refine Ev.sg hX sJ6_getChars_ba4f3_12 (pc' := 16) (ls' := [some (.int (nI k)), some (.int (nI (s + sb_dg k))), some (.ref v), none, none, some (.int (nI (s + sb_dg k))), some (.int 0)]) (st' := [.int 0]) (h' := (N, SB v T, I, L, Dd)) rfl ?_
    refine Ev.if_ne (tgt := 22) dJ6_getChars_ba4f3_16 (by decide) (fun b2 => ?_) (fun b2 => ?_)
    · exact absurd rfl b2
    · refine Ev.sg hX sJ6_getChars_ba4f3_19 (pc' := 22) (ls' := [some (.int (-(nI k))), some (.int (nI (s + sb_dg k))), some (.ref v), none, none, some (.int (nI (s + sb_dg k))), some (.int 0)]) (st' := []) (h' := (N, SB v T, I, L, Dd)) rfl ?_
      by_cases h1 : k < 10
      · have e : sb_dg k = 1 := if_pos h1
        rw [e, show gcI I v s k = up2 I v s (nI (48 + k)) from if_pos h1]
        exact l_gc1B hX hv h1 (by omega) hcap (Or.inl rfl) rfl
      · by_cases h2 : k < 100
        · have e : sb_dg k = 2 := by rw [sb_dg, if_neg h1, if_pos h2]
          rw [e, gcI, if_neg h1, if_pos h2]
          exact l_gc2B hX hv ⟨by omega, h2⟩ (by omega) hcap (Or.inl rfl) rfl
        · by_cases h3 : k < 1000
          · have e : sb_dg k = 3 := by rw [sb_dg, if_neg h1, if_neg h2, if_pos h3]
            rw [e, gcI, if_neg h1, if_neg h2, if_pos h3]
            exact l_gc3B hX hv ⟨by omega, h3⟩ (by omega) hcap rfl
          · have e : sb_dg k = 4 := by rw [sb_dg, if_neg h1, if_neg h2, if_neg h3, if_pos hk]
            rw [e, gcI, if_neg h1, if_neg h2, if_neg h3, show k / 1000 = k / 100 / 10 by omega]
            exact l_gc4B hX hv ⟨by omega, hk⟩ (by omega) hcap rfl
  · exact absurd (show (0 : Int32) ≤ nI k from (nI_leI (a := 0) (by decide) (by omega)).mpr (Nat.zero_le k)) b1
end SBN

theorem LnB.le {P : PF} {w : List Int32} {cap N v : Nat} {T : Nat → Option JS} {I : HI} {L : HL} {Dd : HD} (h : LnB P w cap N v T I L Dd) : w.length ≤ cap ∧ 16 ≤ cap ∧ cap ≤ 700 := h.2.2.2.2.2.2.1
theorem LnB.cut {P : PF} {w : List Int32} {cap N v : Nat} {T : Nat → Option JS} {I J : HI} {L : HL} {Dd : HD} (h : LnB P w cap N v T I L Dd) (e3 : J 394 3 = 0) (e1 : J 394 1 = 0) (ho : ∀ a, a ≠ 394 → J a = I a) : LnB P [] cap N v T J L Dd ∧ Fr I J := by
  have hn4 := h.v394
  obtain ⟨hv, h3, h4, h5, hn3, hc0, h8, h9, h10, h11⟩ := h
  refine ⟨⟨hv, h3, h4, h5, e3, e1, ⟨Nat.zero_le _, h8.2⟩, fun i hi => absurd hi (Nat.not_lt_zero i), fun j hj => ?_, fun a ha j => ?_, fun a ha1 ha2 => ⟨(h11.2 a ha1 ha2).1, (ho a (by omega)).trans (h11.2 a ha1 ha2).2⟩⟩, fun a ha => ho a (by omega)⟩
  · rw [ho v hn4]
    exact h10 j hj
  · rw [ho a (by omega)]
    exact h11.1 a ha j
section SBO
variable {X : JX} {d N v cap n q k s mc ms : Nat} {T : Nat → Option JS} {I : HI} {L : HL} {Dd : HD} {c i0 : Int32} {w : List Int32} {Q : JR → Prop} {P : PF}
theorem l_int17B (hX : JXok X) (hd : 1 ≤ d) (hv : SB v T v = some (.inl (.byte, cap))) (hc0 : I 394 1 = 0) (hn : n + sb_dg k ≤ cap) (hcap : cap ≤ 700) (hk : k < 10000) (hQ : Q (.inl (some (.ref 394), (N, SB v T, up2 (gcI I v n k) 394 3 (nI (n + sb_dg k)), L, Dd)))) : Ev X (jm jdJ5_append_c97b9) d mc ms Q 17 [some (.ref 394), some (.int (nI k)), some (.int (nI n)), some (.int (nI (n + sb_dg k)))] [] (N, SB v T, I, L, Dd) := by
  refine Ev.sg hX (sJ5_append_c97b9_17.sub 0 1) (pc' := 18) (ls' := [some (.ref 394), some (.int (nI k)), some (.int (nI n)), some (.int (nI (n + sb_dg k)))]) (st' := [.ref 394]) (h' := (N, SB v T, I, L, Dd)) rfl ?_
  refine Ev.callVU (As := []) (rest := []) dbJ5_isLatin1_aae02 dnJ5_isLatin1_aae02 dlJ5_isLatin1_aae02 mkJ5_83 rfl rfl dJ5_append_c97b9_18 (c_isL1B (d := d - 1) (I := I) hX (by omega) hc0) ⟨by omega, by show 1 + 19 + 40 * _ ≤ 40 * _; omega⟩ ⟨Nat.zero_le _, Nat.zero_le _⟩ rfl (Nat.le_of_ble_eq_true rfl) (fun v9 h9 e9 => ?_) (fun E9 h9 e9 => nomatch e9)
  cases e9
  show Ev _ _ _ _ _ _ 21 [some (.ref 394), some (.int (nI k)), some (.int (nI n)), some (.int (nI (n + sb_dg k)))] [.int 1] (N, SB v T, I, L, Dd)
  refine Ev.if_eq (tgt := 37) dJ5_append_c97b9_21 (by decide) (fun b1 => ?_) (fun b1 => ?_)
  · exact absurd b1 (by decide)
  · refine Ev.sg hX (sJ5_append_c97b9_24.sub 0 3) (pc' := 27) (ls' := [some (.ref 394), some (.int (nI k)), some (.int (nI n)), some (.int (nI (n + sb_dg k)))]) (st' := [.ref 394, .int (nI (n + sb_dg k)), .int (nI k)]) (h' := (N, SB v T, I, L, Dd)) rfl ?_
    refine Ev.getf (sJ5_append_c97b9_24.lk 3 (q := (27, .getfield 15, 8, 0)) rfl) rfl rfl (sJ5_append_c97b9_24.dc 3 (q := (27, .getfield 15, 8, 0)) rfl) ?_
    show Ev _ _ _ _ _ _ 30 [some (.ref 394), some (.int (nI k)), some (.int (nI n)), some (.int (nI (n + sb_dg k)))] [.ref v, .int (nI (n + sb_dg k)), .int (nI k)] (N, SB v T, I, L, Dd)
    refine Ev.callS (As := [.int (nI k), .int (nI (n + sb_dg k)), .ref v]) (rest := []) dsJ6_getChars_ba4f3 mkJ5_248 dJ5_append_c97b9_30 (c_getChB (d := d - 1) (s := n) (cap := cap) hX (by omega) hv hk (by omega) hcap) ⟨by omega, by show 7 + 19 + 40 * _ ≤ 40 * _; omega⟩ ⟨Nat.zero_le _, Nat.zero_le _⟩ rfl (Nat.le_of_ble_eq_true rfl) (fun v9 h9 e9 => ?_) (fun E9 h9 e9 => nomatch e9)
    cases e9
    show Ev _ _ _ _ _ _ 33 [some (.ref 394), some (.int (nI k)), some (.int (nI n)), some (.int (nI (n + sb_dg k)))] [.int (nI n)] (N, SB v T, gcI I v n k, L, Dd)
    refine Ev.sg hX (sJ5_append_c97b9_33.sub 0 2) (pc' := 48) (ls' := [some (.ref 394), some (.int (nI k)), some (.int (nI n)), some (.int (nI (n + sb_dg k)))]) (st' := []) (h' := (N, SB v T, gcI I v n k, L, Dd)) rfl ?_
    refine Ev.sg hX (sJ5_append_c97b9_48.sub 0 2) (pc' := 50) (ls' := [some (.ref 394), some (.int (nI k)), some (.int (nI n)), some (.int (nI (n + sb_dg k)))]) (st' := [.int (nI (n + sb_dg k)), .ref 394]) (h' := (N, SB v T, gcI I v n k, L, Dd)) rfl ?_
    refine Ev.putf hX (sJ5_append_c97b9_48.lk 2 (q := (50, .putfield 79, 8, 3)) rfl) rfl rfl (sJ5_append_c97b9_48.dc 2 (q := (50, .putfield 79, 8, 3)) rfl) ?_
    show Ev _ _ _ _ _ _ 53 [some (.ref 394), some (.int (nI k)), some (.int (nI n)), some (.int (nI (n + sb_dg k)))] [] (N, SB v T, up2 (gcI I v n k) 394 3 (nI (n + sb_dg k)), L, Dd)
    refine Ev.sg hX (sJ5_append_c97b9_48.sub 3 1) (pc' := 54) (ls' := [some (.ref 394), some (.int (nI k)), some (.int (nI n)), some (.int (nI (n + sb_dg k)))]) (st' := [.ref 394]) (h' := (N, SB v T, up2 (gcI I v n k) 394 3 (nI (n + sb_dg k)), L, Dd)) rfl ?_
    refine Ev.aret dJ5_append_c97b9_54 rfl (Or.inl ⟨_, rfl⟩) ?_
    exact hQ
theorem c_appI5B (hX : JXok X) (hd : 5 ≤ d) (h : LnB P w cap N v T I L Dd) (hq2 : (w.length + sb_dg k) ≤ 2 * cap + 2) (h700 : (w.length + sb_dg k) ≤ cap ∨ 2 * cap + 2 ≤ 700) (hNB : N + 1 < BIG) (hk : k < 10000) : MT X d (gc cap (w.length + sb_dg k)) (gs cap (w.length + sb_dg k)) jdJ5_append_c97b9 [.ref 394, .int (nI k)] (N, SB v T, I, L, Dd) (fun R => ∃ N' v' T' I', R = .inl (some (.ref 394), (N', SB v' T', I', L, Dd)) ∧ LnB P (w ++ dgL k) (gr cap (w.length + sb_dg k)) N' v' T' I' L Dd ∧ Fr I I' ∧ N' = N + gc cap (w.length + sb_dg k)) := by
  refine MT.mk dbJ5_append_c97b9 ?_
  obtain ⟨hv, h3, h4, h5, hn3, hc0, h8, h9, h10, h11⟩ := id h
  refine Ev.sg hX (sJ5_append_c97b9_0.sub 0 1) (pc' := 1) (ls' := [some (.ref 394), some (.int (nI k)), none, none]) (st' := [.ref 394]) (h' := (N, SB v T, I, L, Dd)) rfl ?_
  refine Ev.getf (sJ5_append_c97b9_0.lk 1 (q := (1, .getfield 79, 8, 3)) rfl) rfl rfl (sJ5_append_c97b9_0.dc 1 (q := (1, .getfield 79, 8, 3)) rfl) ?_
  show Ev _ _ _ _ _ _ 4 [some (.ref 394), some (.int (nI k)), none, none] [.int (I 394 3)] (N, SB v T, I, L, Dd)
  rw [hn3]
  refine Ev.sg hX (sJ5_append_c97b9_0.sub 2 3) (pc' := 7) (ls' := [some (.ref 394), some (.int (nI k)), some (.int (nI w.length)), none]) (st' := [.int (nI k), .int (nI w.length)]) (h' := (N, SB v T, I, L, Dd)) rfl ?_
  refine Ev.callS (As := [.int (nI k)]) (rest := [.int (nI w.length)]) dsJ6_stringSize_0f7a4 mkJ5_245 dJ5_append_c97b9_7 (c_strSize (d := d - 1) hX (by omega) hk) ⟨by omega, by show 4 + 19 + 40 * _ ≤ 40 * _; omega⟩ ⟨Nat.zero_le _, Nat.zero_le _⟩ rfl (Nat.le_of_ble_eq_true rfl) (fun v9 h9 e9 => ?_) (fun E9 h9 e9 => nomatch e9)
  cases e9
  show Ev _ _ _ _ _ _ 10 [some (.ref 394), some (.int (nI k)), some (.int (nI w.length)), none] [.int (nI (sb_dg k)), .int (nI w.length)] (N, SB v T, I, L, Dd)
  refine Ev.sg hX (sJ5_append_c97b9_10.sub 0 4) (pc' := 14) (ls' := [some (.ref 394), some (.int (nI k)), some (.int (nI w.length)), some (.int ((nI w.length) + (nI (sb_dg k))))]) (st' := [.int ((nI w.length) + (nI (sb_dg k))), .ref 394]) (h' := (N, SB v T, I, L, Dd)) rfl ?_
  rw [nI_add]
  refine Ev.callVU (As := [.int (nI (w.length + sb_dg k))]) (rest := []) dbJ5_ensureCapacityInternal_d00df dnJ5_ensureCapacityInternal_d00df dlJ5_ensureCapacityInternal_d00df mkJ5_100 rfl rfl dJ5_append_c97b9_14 (c_ensB (d := d - 1) hX (by omega) h hq2 h700 hNB) ⟨by omega, by show 3 + 19 + 40 * _ ≤ 40 * _; omega⟩ ⟨Nat.le_refl _, Nat.le_refl _⟩ rfl (Nat.le_of_ble_eq_true rfl) (fun v9 h9 e9 => ?_) (fun E9 h9 e9 => nomatch e9)
  obtain ⟨N1, v1, T1, I1, e9, g0, gF, gN⟩ := e9
  cases e9
  have g := g0
  obtain ⟨hv1, g3, g4, g5, gn3, gc0, g8, g9, g10, g11⟩ := g0
  show Ev _ _ _ _ _ _ 17 [some (.ref 394), some (.int (nI k)), some (.int (nI w.length)), some (.int (nI (w.length + sb_dg k)))] [] (N1, SB v1 T1, I1, L, Dd)
  refine l_int17B hX (by omega) hv1 gc0 (gr_le cap (w.length + sb_dg k) hq2) (gr_700 _ _ h8.2.2 h700) hk ?_
  refine ⟨N1, v1, T1, _, rfl, g.put (ds := dgL k) (by rw [dgL_len k hk]; exact gr_le _ _ hq2) ?_ ?_ (fun j => ?_) (dgL_fit k hk) (fun a h1 h2 => ?_), gF.tr (fun a ha => ?_), gN⟩
  · rw [up2_at, if_pos rfl, dgL_len k hk]
  · rw [up2_at, if_neg (by decide), gcI_ne (Ne.symm g.v394)]; exact gc0
  · rw [up2_ne g.v394, gcI_v hk]
  · rw [up2_ne h1, gcI_ne h2]
  · rw [up2_ne (by omega), gcI_ne (by omega)]
theorem c_appIB (hX : JXok X) (hd : 6 ≤ d) (h : LnB P w cap N v T I L Dd) (hq2 : (w.length + sb_dg k) ≤ 2 * cap + 2) (h700 : (w.length + sb_dg k) ≤ cap ∨ 2 * cap + 2 ≤ 700) (hNB : N + 1 < BIG) (hk : k < 10000) : MT X d (gc cap (w.length + sb_dg k)) (gs cap (w.length + sb_dg k)) jdJ4_append_bf812 [.ref 394, .int (nI k)] (N, SB v T, I, L, Dd) (fun R => ∃ N' v' T' I', R = .inl (some (.ref 394), (N', SB v' T', I', L, Dd)) ∧ LnB P (w ++ dgL k) (gr cap (w.length + sb_dg k)) N' v' T' I' L Dd ∧ Fr I I' ∧ N' = N + gc cap (w.length + sb_dg k)) := by
  refine MT.mk dvJ4_append_bf812.1 ?_
  refine Ev.sg hX sJ4_append_bf812_0 (pc' := 2) (ls' := [some (.ref 394), some (.int (nI k))]) (st' := [.int (nI k), .ref 394]) (h' := (N, SB v T, I, L, Dd)) rfl ?_
  refine Ev.callSU (As := [.int (nI k)]) (rest := []) dbJ5_append_c97b9 dnJ5_append_c97b9 dmJ5_append_c97b9 dJ45 (by decide) mkJ4_53 rfl rfl dJ4_append_bf812_2 (c_appI5B (d := d - 1) hX (by omega) h hq2 h700 hNB hk) ⟨by omega, by show 4 + 19 + 40 * _ ≤ 40 * _; omega⟩ ⟨Nat.le_refl _, Nat.le_refl _⟩ rfl (Nat.le_of_ble_eq_true rfl) (fun v9 h9 e9 => ?_) (fun E9 h9 e9 => nomatch e9)
  obtain ⟨N1, v1, T1, I1, e9, gr9⟩ := e9
  cases e9
  show Ev _ _ _ _ _ _ 5 [some (.ref 394), some (.int (nI k))] [.ref 394] (N1, SB v1 T1, I1, L, Dd)
  refine Ev.sg hX sJ4_append_bf812_5 (pc' := 7) (ls' := [some (.ref 394), some (.int (nI k))]) (st' := [.ref 394]) (h' := (N1, SB v1 T1, I1, L, Dd)) rfl ?_
  refine Ev.aret dJ4_append_bf812_7 rfl (Or.inl ⟨_, rfl⟩) ?_
  exact ⟨N1, v1, T1, I1, rfl, gr9⟩
theorem c_setL5B (hX : JXok X) (hd : 4 ≤ d) (h : LnB P w cap N v T I L Dd) : MT X d 0 0 jdJ5_setLength_d00df [.ref 394, .int 0] (N, SB v T, I, L, Dd) (fun R => ∃ I', R = .inl (none, (N, SB v T, I', L, Dd)) ∧ LnB P [] cap N v T I' L Dd ∧ Fr I I') := by
  refine MT.mk dbJ5_setLength_d00df ?_
  obtain ⟨hv, h3, h4, h5, hn3, hc0, h8, h9, h10, h11⟩ := id h
  have hn4 : v ≠ 394 := h.v394
  refine Ev.sg hX (sJ5_setLength_d00df_0.sub 0 1) (pc' := 1) (ls' := [some (.ref 394), some (.int 0)]) (st' := [.int 0]) (h' := (N, SB v T, I, L, Dd)) rfl ?_
  refine Ev.if_ge (tgt := 13) dJ5_setLength_d00df_1 (by decide) (fun b1 => ?_) (fun b1 => ?_)
  · refine Ev.sg hX (sJ5_setLength_d00df_13.sub 0 2) (pc' := 15) (ls' := [some (.ref 394), some (.int 0)]) (st' := [.int 0, .ref 394]) (h' := (N, SB v T, I, L, Dd)) rfl ?_
    refine Ev.callVU (As := [.int 0]) (rest := []) dbJ5_ensureCapacityInternal_d00df dnJ5_ensureCapacityInternal_d00df dlJ5_ensureCapacityInternal_d00df mkJ5_100 rfl rfl dJ5_setLength_d00df_15 (c_ens0B (d := d - 1) (q := 0) hX (by omega) hv hc0 (Nat.zero_le _) h8.2.2) ⟨by omega, by show 3 + 19 + 40 * _ ≤ 40 * _; omega⟩ ⟨Nat.zero_le _, Nat.zero_le _⟩ rfl (Nat.le_of_ble_eq_true rfl) (fun v9 h9 e9 => ?_) (fun E9 h9 e9 => nomatch e9)
    cases e9
    show Ev _ _ _ _ _ _ 18 [some (.ref 394), some (.int 0)] [] (N, SB v T, I, L, Dd)
    refine Ev.sg hX (sJ5_setLength_d00df_18.sub 0 1) (pc' := 19) (ls' := [some (.ref 394), some (.int 0)]) (st' := [.ref 394]) (h' := (N, SB v T, I, L, Dd)) rfl ?_
    refine Ev.getf (sJ5_setLength_d00df_18.lk 1 (q := (19, .getfield 79, 8, 3)) rfl) rfl rfl (sJ5_setLength_d00df_18.dc 1 (q := (19, .getfield 79, 8, 3)) rfl) ?_
    show Ev _ _ _ _ _ _ 22 [some (.ref 394), some (.int 0)] [.int (I 394 3)] (N, SB v T, I, L, Dd)
    rw [hn3]
    refine Ev.sg hX (sJ5_setLength_d00df_18.sub 2 1) (pc' := 23) (ls' := [some (.ref 394), some (.int 0)]) (st' := [.int 0, .int (nI w.length)]) (h' := (N, SB v T, I, L, Dd)) rfl ?_
    refine Ev.icmp_ge (tgt := 63) dJ5_setLength_d00df_23 (by decide) (fun b2 => ?_) (fun b2 => ?_)
    · refine Ev.sg hX (sJ5_setLength_d00df_63.sub 0 1) (pc' := 64) (ls' := [some (.ref 394), some (.int 0)]) (st' := [.ref 394]) (h' := (N, SB v T, I, L, Dd)) rfl ?_
      refine Ev.getf (sJ5_setLength_d00df_63.lk 1 (q := (64, .getfield 79, 8, 3)) rfl) rfl rfl (sJ5_setLength_d00df_63.dc 1 (q := (64, .getfield 79, 8, 3)) rfl) ?_
      show Ev _ _ _ _ _ _ 67 [some (.ref 394), some (.int 0)] [.int (I 394 3)] (N, SB v T, I, L, Dd)
      rw [hn3]
      refine Ev.sg hX (sJ5_setLength_d00df_63.sub 2 1) (pc' := 68) (ls' := [some (.ref 394), some (.int 0)]) (st' := [.int 0, .int (nI w.length)]) (h' := (N, SB v T, I, L, Dd)) rfl ?_
      refine Ev.icmp_le (tgt := 76) dJ5_setLength_d00df_68 (by decide) (fun b3 => ?_) (fun b3 => ?_)
      · refine Ev.sg hX (sJ5_setLength_d00df_76.sub 0 2) (pc' := 78) (ls' := [some (.ref 394), some (.int 0)]) (st' := [.int 0, .ref 394]) (h' := (N, SB v T, I, L, Dd)) rfl ?_
        refine Ev.putf hX (sJ5_setLength_d00df_76.lk 2 (q := (78, .putfield 79, 8, 3)) rfl) rfl rfl (sJ5_setLength_d00df_76.dc 2 (q := (78, .putfield 79, 8, 3)) rfl) ?_
        show Ev _ _ _ _ _ _ 81 [some (.ref 394), some (.int 0)] [] (N, SB v T, up2 I 394 3 0, L, Dd)
        refine Ev.vret dJ5_setLength_d00df_81 rfl ?_
        exact ⟨_, rfl, h.cut (by rw [up2_at, if_pos rfl]) (by rw [up2_at, if_neg (by decide)]; exact hc0) (fun a ha => by rw [up2_ne ha])⟩
      · refine Ev.sg hX (sJ5_setLength_d00df_71.sub 0 2) (pc' := 73) (ls' := [some (.ref 394), some (.int 0)]) (st' := [.int 1, .ref 394]) (h' := (N, SB v T, I, L, Dd)) rfl ?_
        refine Ev.putI (j := 2) hX ci_J4 (by decide) (bw_of 260 (by decide +kernel) (by decide +kernel)) (Or.inl rfl) rfl rfl rfl rfl dJ5_setLength_d00df_73 ?_
        show Ev _ _ _ _ _ _ 76 [some (.ref 394), some (.int 0)] [] (N, SB v T, up2 I 394 2 1, L, Dd)
        refine Ev.sg hX (sJ5_setLength_d00df_76.sub 0 2) (pc' := 78) (ls' := [some (.ref 394), some (.int 0)]) (st' := [.int 0, .ref 394]) (h' := (N, SB v T, up2 I 394 2 1, L, Dd)) rfl ?_
        refine Ev.putf hX (sJ5_setLength_d00df_76.lk 2 (q := (78, .putfield 79, 8, 3)) rfl) rfl rfl (sJ5_setLength_d00df_76.dc 2 (q := (78, .putfield 79, 8, 3)) rfl) ?_
        show Ev _ _ _ _ _ _ 81 [some (.ref 394), some (.int 0)] [] (N, SB v T, up2 (up2 I 394 2 1) 394 3 0, L, Dd)
        refine Ev.vret dJ5_setLength_d00df_81 rfl ?_
        exact ⟨_, rfl, h.cut (by rw [up2_at, if_pos rfl]) (by rw [up2_at, if_neg (by decide), up2_at, if_neg (by decide)]; exact hc0) (fun a ha => by rw [up2_ne ha, up2_ne ha])⟩
    · exact absurd (show (0 : Int32) ≤ nI w.length from (nI_leI (a := 0) (by decide) (by omega)).mpr (Nat.zero_le _)) b2
  · exact absurd (by decide) b1
theorem c_setLB (hX : JXok X) (hd : 5 ≤ d) (h : LnB P w cap N v T I L Dd) : MT X d 0 0 jdJ4_setLength_d00df [.ref 394, .int 0] (N, SB v T, I, L, Dd) (fun R => ∃ I', R = .inl (none, (N, SB v T, I', L, Dd)) ∧ LnB P [] cap N v T I' L Dd ∧ Fr I I') := by
  refine MT.mk dvJ4_setLength_d00df.1 ?_
  refine Ev.sg hX sJ4_setLength_d00df_0 (pc' := 2) (ls' := [some (.ref 394), some (.int 0)]) (st' := [.int 0, .ref 394]) (h' := (N, SB v T, I, L, Dd)) rfl ?_
  refine Ev.callSU (As := [.int 0]) (rest := []) dbJ5_setLength_d00df dnJ5_setLength_d00df dmJ5_setLength_d00df dJ45 (by decide) mkJ4_333 rfl rfl dJ4_setLength_d00df_2 (c_setL5B (d := d - 1) hX (by omega) h) ⟨by omega, by show 2 + 19 + 40 * _ ≤ 40 * _; omega⟩ ⟨Nat.zero_le _, Nat.zero_le _⟩ rfl (Nat.le_of_ble_eq_true rfl) (fun v9 h9 e9 => ?_) (fun E9 h9 e9 => nomatch e9)
  obtain ⟨I1, e9, gr9⟩ := e9
  cases e9
  show Ev _ _ _ _ _ _ 5 [some (.ref 394), some (.int 0)] [] (N, SB v T, I1, L, Dd)
  refine Ev.vret dJ4_setLength_d00df_5 rfl ?_
  exact ⟨I1, rfl, gr9⟩
theorem c_len5B (hX : JXok X) (hd : 0 ≤ d) (hn3 : I 394 3 = nI w.length) : MT X d 0 0 jdJ5_length_8abf5 [.ref 394] (N, SB v T, I, L, Dd) (fun R => R = .inl (some (.int (nI w.length)), (N, SB v T, I, L, Dd))) := by
  refine MT.mk dbJ5_length_8abf5 ?_
  refine Ev.sg hX (sJ5_length_8abf5_0.sub 0 1) (pc' := 1) (ls' := [some (.ref 394)]) (st' := [.ref 394]) (h' := (N, SB v T, I, L, Dd)) rfl ?_
  refine Ev.getf (sJ5_length_8abf5_0.lk 1 (q := (1, .getfield 79, 8, 3)) rfl) rfl rfl (sJ5_length_8abf5_0.dc 1 (q := (1, .getfield 79, 8, 3)) rfl) ?_
  show Ev _ _ _ _ _ _ 4 [some (.ref 394)] [.int (I 394 3)] (N, SB v T, I, L, Dd)
  rw [hn3]
  refine Ev.iret dJ5_length_8abf5_4 rfl ?_
  rfl
theorem c_lenB (hX : JXok X) (hd : 1 ≤ d) (hn3 : I 394 3 = nI w.length) : MT X d 0 0 jdJ4_length_8abf5 [.ref 394] (N, SB v T, I, L, Dd) (fun R => R = .inl (some (.int (nI w.length)), (N, SB v T, I, L, Dd))) := by
  refine MT.mk dvJ4_length_8abf5.1 ?_
  refine Ev.sg hX sJ4_length_8abf5_0 (pc' := 1) (ls' := [some (.ref 394)]) (st' := [.ref 394]) (h' := (N, SB v T, I, L, Dd)) rfl ?_
  refine Ev.callSU (As := []) (rest := []) dbJ5_length_8abf5 dnJ5_length_8abf5 dmJ5_length_8abf5 dJ45 (by decide) mkJ4_343 rfl rfl dJ4_length_8abf5_1 (c_len5B (d := d - 1) (w := w) hX (by omega) hn3) ⟨by omega, by show 1 + 19 + 40 * _ ≤ 40 * _; omega⟩ ⟨Nat.zero_le _, Nat.zero_le _⟩ rfl (Nat.le_of_ble_eq_true rfl) (fun v9 h9 e9 => ?_) (fun E9 h9 e9 => nomatch e9)
  cases e9
  show Ev _ _ _ _ _ _ 4 [some (.ref 394)] [.int (nI w.length)] (N, SB v T, I, L, Dd)
  refine Ev.iret dJ4_length_8abf5_4 rfl ?_
  rfl
theorem c_chAt5B (hX : JXok X) (hd : 2 ≤ d) (h : LnB P w cap N v T I L Dd) (hk : k < w.length) (hch : chW (w.getD k 0)) : MT X d 0 0 jdJ5_charAt_5068e [.ref 394, .int (nI k)] (N, SB v T, I, L, Dd) (fun R => R = .inl (some (.int (w.getD k 0)), (N, SB v T, I, L, Dd))) := by
  refine MT.mk dbJ5_charAt_5068e ?_
  obtain ⟨hv, h3, h4, h5, hn3, hc0, h8, h9, h10, h11⟩ := id h
  refine Ev.sg hX (sJ5_charAt_5068e_0.sub 0 1) (pc' := 1) (ls' := [some (.ref 394), some (.int (nI k)), none, none, none]) (st' := [.ref 394]) (h' := (N, SB v T, I, L, Dd)) rfl ?_
  refine Ev.getf (sJ5_charAt_5068e_0.lk 1 (q := (1, .getfield 22, 8, 1)) rfl) rfl rfl (sJ5_charAt_5068e_0.dc 1 (q := (1, .getfield 22, 8, 1)) rfl) ?_
  show Ev _ _ _ _ _ _ 4 [some (.ref 394), some (.int (nI k)), none, none, none] [.int (I 394 1)] (N, SB v T, I, L, Dd)
  rw [hc0]
  refine Ev.sg hX (sJ5_charAt_5068e_0.sub 2 2) (pc' := 6) (ls' := [some (.ref 394), some (.int (nI k)), some (.int 0), none, none]) (st' := [.ref 394]) (h' := (N, SB v T, I, L, Dd)) rfl ?_
  refine Ev.getf (sJ5_charAt_5068e_0.lk 4 (q := (6, .getfield 15, 8, 0)) rfl) rfl rfl (sJ5_charAt_5068e_0.dc 4 (q := (6, .getfield 15, 8, 0)) rfl) ?_
  show Ev _ _ _ _ _ _ 9 [some (.ref 394), some (.int (nI k)), some (.int 0), none, none] [.ref v] (N, SB v T, I, L, Dd)
  refine Ev.sg hX (sJ5_charAt_5068e_0.sub 5 2) (pc' := 11) (ls' := [some (.ref 394), some (.int (nI k)), some (.int 0), some (.ref v), none]) (st' := [.ref 394]) (h' := (N, SB v T, I, L, Dd)) rfl ?_
  refine Ev.getf (sJ5_charAt_5068e_0.lk 7 (q := (11, .getfield 79, 8, 3)) rfl) rfl rfl (sJ5_charAt_5068e_0.dc 7 (q := (11, .getfield 79, 8, 3)) rfl) ?_
  show Ev _ _ _ _ _ _ 14 [some (.ref 394), some (.int (nI k)), some (.int 0), some (.ref v), none] [.int (I 394 3)] (N, SB v T, I, L, Dd)
  rw [hn3]
  refine Ev.sg hX (sJ5_charAt_5068e_0.sub 8 1) (pc' := 15) (ls' := [some (.ref 394), some (.int (nI k)), some (.int 0), some (.ref v), none]) (st' := [.ref v, .int (nI w.length)]) (h' := (N, SB v T, I, L, Dd)) rfl ?_
  refine Ev.alenN hv rfl (sJ5_charAt_5068e_0.dc 9 (q := (15, .arraylength, 0, 0)) rfl) ?_
  show Ev _ _ _ _ _ _ 16 [some (.ref 394), some (.int (nI k)), some (.int 0), some (.ref v), none] [.int (Int32.ofNat cap), .int (nI w.length)] (N, SB v T, I, L, Dd)
  refine Ev.sg hX (sJ5_charAt_5068e_0.sub 10 1) (pc' := 17) (ls' := [some (.ref 394), some (.int (nI k)), some (.int 0), some (.ref v), none]) (st' := [.int 0, .int (Int32.ofNat cap), .int (nI w.length)]) (h' := (N, SB v T, I, L, Dd)) rfl ?_
  refine Ev.sg hX (sJ5_charAt_5068e_0.sub 11 1) (pc' := 18) (ls' := [some (.ref 394), some (.int (nI k)), some (.int 0), some (.ref v), none]) (st' := [.int ((Int32.ofNat cap) >>> (0 &&& 31)), .int (nI w.length)]) (h' := (N, SB v T, I, L, Dd)) rfl ?_
  rw [shr0]
  refine Ev.mmin (by decide +kernel) (by omega) (Nat.le_of_ble_eq_true rfl) dJ5_charAt_5068e_18 ?_
  rw [show (if (Int32.ofNat cap : Int32) < nI w.length then Int32.ofNat cap else nI w.length) = nI w.length from if_neg (nI_nlt (a := cap) (by omega) (by omega))]
  refine Ev.sg hX (sJ5_charAt_5068e_21.sub 0 3) (pc' := 26) (ls' := [some (.ref 394), some (.int (nI k)), some (.int 0), some (.ref v), some (.int (nI w.length))]) (st' := [.int (nI w.length), .int (nI k)]) (h' := (N, SB v T, I, L, Dd)) rfl ?_
  refine Ev.callS (As := [.int (nI k), .int (nI w.length)]) (rest := []) dsJ0_checkIndex_df160 mkJ5_144 dJ5_charAt_5068e_26 (c_scheck (d := d - 1) (k := k) (n := w.length) hX (by omega) hk (by omega)) ⟨by omega, by show 2 + 19 + 40 * _ ≤ 40 * _; omega⟩ ⟨Nat.zero_le _, Nat.zero_le _⟩ rfl (Nat.le_of_ble_eq_true rfl) (fun v9 h9 e9 => ?_) (fun E9 h9 e9 => nomatch e9)
  cases e9
  show Ev _ _ _ _ _ _ 29 [some (.ref 394), some (.int (nI k)), some (.int 0), some (.ref v), some (.int (nI w.length))] [] (N, SB v T, I, L, Dd)
  refine Ev.sg hX (sJ5_charAt_5068e_29.sub 0 1) (pc' := 30) (ls' := [some (.ref 394), some (.int (nI k)), some (.int 0), some (.ref v), some (.int (nI w.length))]) (st' := [.int 0]) (h' := (N, SB v T, I, L, Dd)) rfl ?_
  refine Ev.if_ne (tgt := 42) dJ5_charAt_5068e_30 (by decide) (fun b1 => ?_) (fun b1 => ?_)
  · exact absurd rfl b1
  · refine Ev.sg hX (sJ5_charAt_5068e_33.sub 0 2) (pc' := 35) (ls' := [some (.ref 394), some (.int (nI k)), some (.int 0), some (.ref v), some (.int (nI w.length))]) (st' := [.int (nI k), .ref v]) (h' := (N, SB v T, I, L, Dd)) rfl ?_
    refine Ev.baldE (n := k) hv rfl (by omega) (by omega) dJ5_charAt_5068e_35 ?_
    show Ev _ _ _ _ _ _ 36 [some (.ref 394), some (.int (nI k)), some (.int 0), some (.ref v), some (.int (nI w.length))] [.int (I v k)] (N, SB v T, I, L, Dd)
    rw [h9 k hk]
    refine Ev.sg hX (sJ5_charAt_5068e_36.sub 0 3) (pc' := 41) (ls' := [some (.ref 394), some (.int (nI k)), some (.int 0), some (.ref v), some (.int (nI w.length))]) (st' := [.int ((((w.getD k 0) &&& 255).toUInt32 % 65536).toInt32)]) (h' := (N, SB v T, I, L, Dd)) rfl ?_
    rw [hch.1]
    refine Ev.zret dJ5_charAt_5068e_41 rfl ?_ ?_
    · exact hch.2
    rfl
theorem c_chAtB (hX : JXok X) (hd : 3 ≤ d) (h : LnB P w cap N v T I L Dd) (hk : k < w.length) (hch : chW (w.getD k 0)) : MT X d 0 0 jdJ4_charAt_5068e [.ref 394, .int (nI k)] (N, SB v T, I, L, Dd) (fun R => R = .inl (some (.int (w.getD k 0)), (N, SB v T, I, L, Dd))) := by
  refine MT.mk dvJ4_charAt_5068e.1 ?_
  refine Ev.sg hX sJ4_charAt_5068e_0 (pc' := 2) (ls' := [some (.ref 394), some (.int (nI k))]) (st' := [.int (nI k), .ref 394]) (h' := (N, SB v T, I, L, Dd)) rfl ?_
  refine Ev.callSU (As := [.int (nI k)]) (rest := []) dbJ5_charAt_5068e dnJ5_charAt_5068e dmJ5_charAt_5068e dJ45 (by decide) mkJ4_329 rfl rfl dJ4_charAt_5068e_2 (c_chAt5B (d := d - 1) hX (by omega) h hk hch) ⟨by omega, by show 5 + 19 + 40 * _ ≤ 40 * _; omega⟩ ⟨Nat.zero_le _, Nat.zero_le _⟩ rfl (Nat.le_of_ble_eq_true rfl) (fun v9 h9 e9 => ?_) (fun E9 h9 e9 => nomatch e9)
  cases e9
  show Ev _ _ _ _ _ _ 5 [some (.ref 394), some (.int (nI k))] [.int (w.getD k 0)] (N, SB v T, I, L, Dd)
  refine Ev.zret dJ4_charAt_5068e_5 rfl ?_ ?_
  · exact hch.2
  rfl
end SBO

