/-! the law's start -/
section LST
variable {X : JX} {mc ms : Nat}
def st_S : Nat → Option JS := fun _ => none
def st_z : HI := fun _ _ => 0
def st_L : HL := fun _ _ => 0
def st_D : HD := fun _ _ => 0
def st_I : HI := up2 (up2 (up2 (klI st_z 0) 396 8 (-1)) 396 9 (-1)) 397 2 1
def st_g : Nat → Nat := fun k => if k = 2 then 1 else 0
theorem st_0 {k : Nat} (h : k ≠ 2) : st_g k = 0 := if_neg h
theorem kl_o {a : Nat} (h : a ≠ 0 ∧ a ≠ 23 ∧ a ≠ 58 ∧ a ≠ 394 ∧ a ≠ 95 ∧ a ≠ 130 ∧ a ≠ 165 ∧ a ≠ 200 ∧ a ≠ 235 ∧ a ≠ 270 ∧ a ≠ 305 ∧ a ≠ 340 ∧ a ≠ 375) : klI st_z 0 a = fun _ => 0 := by
  unfold klI hsI
  rw [up2_ne (by omega), up2_ne (by omega), up2_ne (by omega), fillI_ne (by omega), fillI_ne (by omega), fillI_ne (by omega), fillI_ne (by omega), fillI_ne (by omega), fillI_ne (by omega), fillI_ne (by omega), fillI_ne (by omega), fillI_ne (by omega), fillI_ne (by omega), fillI_ne (by omega)]
  rfl
theorem st_o {a : Nat} (h : a ≠ 0 ∧ a ≠ 23 ∧ a ≠ 58 ∧ a ≠ 394 ∧ a ≠ 95 ∧ a ≠ 130 ∧ a ≠ 165 ∧ a ≠ 200 ∧ a ≠ 235 ∧ a ≠ 270 ∧ a ≠ 305 ∧ a ≠ 340 ∧ a ≠ 375) (h2 : a ≠ 396 ∧ a ≠ 397) : st_I a = fun _ => 0 := by
  unfold st_I
  rw [up2_ne (by omega), up2_ne (by omega), up2_ne (by omega)]
  exact kl_o h
theorem kl_23 {u : Nat} (hu : u < 20) : klI st_z 0 23 u = -1 := by
  unfold klI hsI
  rw [up2_ne (by omega), up2_ne (by omega), up2_ne (by omega), fillI_ne (by omega), fillI_ne (by omega), fillI_ne (by omega), fillI_ne (by omega), fillI_ne (by omega), fillI_ne (by omega), fillI_ne (by omega), fillI_ne (by omega), fillI_ne (by omega), fillI_ne (by omega)]
  exact fillI_v (a := 0 + 1 + 22) hu
theorem kl_0 : klI st_z 0 0 5 = -1 ∧ klI st_z 0 0 6 = -1 := by
  unfold klI
  refine ⟨?_, ?_⟩
  · rw [up2_v, if_neg (by decide), up2_v, if_pos rfl]
  · rw [up2_v, if_pos rfl]
theorem kl_394 {j : Nat} : klI st_z 0 394 j = 0 := by
  unfold klI hsI
  rw [up2_ne (by omega), up2_ne (by omega)]
  show up2 _ (0 + 394) 1 0 (0 + 394) j = 0
  rw [up2_v]
  by_cases c : j = 1
  · rw [if_pos c]
  · rw [if_neg c, fillI_ne (by omega), fillI_ne (by omega), fillI_ne (by omega), fillI_ne (by omega), fillI_ne (by omega), fillI_ne (by omega), fillI_ne (by omega), fillI_ne (by omega), fillI_ne (by omega), fillI_ne (by omega), fillI_ne (by omega)]
    rfl
theorem st_lo {a : Nat} (h : a < 396) : st_I a = klI st_z 0 a := by
  unfold st_I
  rw [up2_ne (by omega), up2_ne (by omega), up2_ne (by omega)]
theorem st_396 {j : Nat} : st_I 396 j = if j = 9 then -1 else if j = 8 then -1 else 0 := by
  unfold st_I
  rw [up2_ne (by decide), up2_v, up2_v, kl_o (by omega)]
theorem st_397 : GV (st_I 397) st_g := fun k hk => by
  unfold st_I st_g
  rw [up2_v, up2_ne (by decide), up2_ne (by decide), kl_o (by omega)]
  by_cases c : k = 2
  · rw [if_pos c, if_pos c]
    rfl
  · rw [if_neg c, if_neg c]
    rfl
theorem st_us {t : Nat} : usN st_g t = 0 := by
  unfold usN
  rw [st_0 (by decide)]
  rfl
theorem st_WS : WS st_g := by
  have bit : ∀ i j, ¬ lkN st_g i j := fun i j h => by
    unfold lkN at h
    rw [st_0 (by omega), Nat.zero_testBit] at h
    cases h
  refine ⟨fun t ht => ?_, fun t ht => ?_, fun i hi => ?_, fun i j _ _ h => absurd h (bit i j), ?_, fun s hs => ?_, fun s s' _ h => ?_, fun t p ht hp => ?_⟩
  · rw [st_0 (by omega), st_0 (by omega)]
    omega
  · rw [st_0 (by omega)] at ht
    omega
  · rw [st_0 (by omega)]
    omega
  · rw [st_0 (k := 1) (by omega)]
    exact sN_zero (fun k hk => st_0 (by omega))
  · rw [st_0 (k := 1) (by omega)] at hs
    omega
  · rw [st_0 (k := 1) (by omega)] at h
    omega
  · rw [st_0 (by omega)] at hp
    omega
theorem st_YC : YC 0 st_I st_L st_g (fun s => s) := by
  have z1 : st_g 1 = 0 := st_0 (by decide)
  refine ⟨by omega, ⟨⟨by rw [st_0 (by decide)]; omega, by rw [z1]; omega, ⟨Nat.le_refl 1, Nat.le_refl 1⟩, by rw [st_0 (by decide)]; omega, by rw [st_0 (by decide)]; omega, by rw [st_0 (by decide)]; omega, by rw [st_0 (by decide)]; omega⟩, st_WS⟩, ?_, fun t ht => ?_, fun i j hi hj => ?_, fun s hs => ?_, fun s s' _ h => ?_, fun u hu _ => ?_⟩
  · have lk : lkc st_g = 0 := by
      unfold lkc
      rw [st_0 (k := 0) (by decide)]
      rfl
    unfold CRs
    rw [lk, st_o (a := 6) (by omega) (by omega), st_o (a := 15) (by omega) (by omega), st_o (a := 1) (by omega) (by omega), st_0 (k := 0) (by decide), z1, st_0 (k := 3) (by decide), st_0 (k := 4) (by decide), st_0 (k := 5) (by decide), st_0 (k := 6) (by decide)]
    exact ⟨rfl, rfl, rfl, rfl, rfl, rfl, rfl, rfl⟩
  · rw [st_o (a := 3) (by omega) (by omega), st_o (a := 5) (by omega) (by omega), st_o (a := 31) (by omega) (by omega), st_o (a := 33) (by omega) (by omega), st_us, st_0 (by omega), st_0 (by omega), st_0 (by omega)]
    exact ⟨rfl, rfl, rfl, rfl⟩
  · rw [st_o (a := 8) (by omega) (by omega), st_0 (by omega), Nat.zero_testBit]
    rfl
  · rw [z1] at hs
    omega
  · rw [z1] at h
    omega
  · rw [st_o (a := 17) (by omega) (by omega), st_lo (by omega), kl_23 hu]
    exact ⟨rfl, rfl⟩
theorem st_INV : INV 0 407 395 (fun _ => none) st_I st_L st_D := by
  refine ⟨st_g, fun _ => st_g, 0, none, 0, fun _ => 0, -1, -1, [], ⟨⟨_, st_YC⟩, ⟨0, by omega, ?_, ?_, by omega, fun j hj => absurd hj (by omega)⟩, Or.inl ⟨rfl, ?_⟩, ⟨by omega, ?_, st_o (by omega) (by omega), ?_, ?_⟩, 16, ⟨rfl, Or.inl rfl, by omega, by omega, ?_, ?_, ⟨by decide, by omega, by omega⟩, fun i hi => absurd hi (by show ¬ i < 0; omega), fun j hj => ?_, fun a ha j => ⟨?_, rfl, rfl⟩⟩, by omega⟩, ⟨st_397, ⟨?_, fun j hj => absurd hj (by omega)⟩, Or.inl ⟨rfl, ?_⟩, ⟨?_, st_o (by omega) (by omega), ?_, ?_⟩, ?_, by decide, fun j hj => absurd hj (by show ¬ j < 0; omega), fun x hx => by cases hx⟩⟩
  · rw [st_o (by omega) (by omega)]; rfl
  · rw [st_o (by omega) (by omega)]; rfl
  · rw [st_o (by omega) (by omega)]
  · rw [st_o (by omega) (by omega)]; rfl
  · rw [st_lo (by omega)]; exact kl_0.1
  · rw [st_lo (by omega)]; exact kl_0.2
  · rw [st_lo (by omega), kl_394]; rfl
  · rw [st_lo (by omega), kl_394]
  · rw [st_o (by omega) (by omega)]; show fits .byte (.int 0) = true; decide
  · rw [st_o (by omega) (by omega)]
  · rw [st_396, if_neg (by decide), if_neg (by decide)]; rfl
  · rw [st_396, if_neg (by decide), if_neg (by decide)]
  · rw [st_396, if_neg (by decide), if_neg (by decide)]; rfl
  · rw [st_396, if_neg (by decide), if_pos rfl]
  · rw [st_396, if_pos rfl]
  · rw [st_396, if_neg (by decide), if_neg (by decide)]; rfl
set_option maxRecDepth 100000 in
theorem klL_len : (klL 0).length = 396 := by decide +kernel
set_option maxRecDepth 100000 in
theorem klmd_len : (klL 0 ++ mdL 396).length = 405 := by decide +kernel
theorem st_Z0 : Z0 0 st_z st_L st_D := fun _ _ _ => ⟨rfl, rfl, rfl⟩
theorem kl_Z0 : Z0 396 (klI st_z 0) st_L st_D := fun a ha j => ⟨congrFun (kl_o (a := a) (by omega)) j, rfl, rfl⟩
theorem st_Z1 {N : Nat} (hN : 398 ≤ N) : Z0 N st_I st_L st_D := fun a ha j => ⟨congrFun (st_o (a := a) (by omega) (by omega)) j, rfl, rfl⟩
set_option maxRecDepth 100000 in
theorem law_go (hX : JXok X) (h3 : jSn X ≤ 3072) (hm : 603072 ≤ mc ∧ 7182442 ≤ ms) : Ev X (jm jdL_law) 20 mc ms lwR 0 [some (.ref (BIG + 300)), none, none, none, none, none, none, none, none] [] (0, st_S, st_z, st_L, st_D) := by
  refine Ev.eqh (h' := (0 + 0, ovl st_S 0 [], st_z, st_L, st_D)) (by rw [ovl_nil]) ?_
  refine Ev.newO (ci := 6) (fs := [.inl .null, .inl .null, .inl .null, .inl .null, .inl .null, .inr false, .inr false]) hX ci_X6 (bw_of 32 (by decide +kernel) (by decide +kernel)) st_Z0.z2 fs_X6 ⟨by omega, by omega⟩ (by decide) dL_law_0 ?_
  refine Ev.eqh (h' := (0 + 1, ovl st_S 0 [.inr (6, [.inl .null, .inl .null, .inl .null, .inl .null, .inl .null, .inr false, .inr false])], st_z, st_L, st_D)) (newS_ovl (b := 0) (k := 0) (l := []) rfl) ?_
  show Ev _ _ _ _ _ _ 3 [some (.ref (BIG + 300)), none, none, none, none, none, none, none, none] [.ref 0] (0 + 1, ovl st_S 0 [.inr (6, [.inl .null, .inl .null, .inl .null, .inl .null, .inl .null, .inr false, .inr false])], st_z, st_L, st_D)
  refine Ev.sg hX sL_law_3 (pc' := 4) (ls' := [some (.ref (BIG + 300)), none, none, none, none, none, none, none, none]) (st' := [.ref 0, .ref 0]) (h' := (0 + 1, ovl st_S 0 [.inr (6, [.inl .null, .inl .null, .inl .null, .inl .null, .inl .null, .inr false, .inr false])], st_z, st_L, st_D)) rfl ?_
  refine Ev.callI (As := []) (rest := [.ref 0]) diX6_init rfl mkL_146 dL_law_4 (c_ClassInit (d := 12) (b := 0) (S := st_S) (I := st_z) (L := st_L) (Dd := st_D) hX (by decide) st_Z0 (by decide)) ⟨by decide, by decide⟩ ⟨by omega, by omega⟩ rfl (Nat.le_of_ble_eq_true rfl) (fun v9 h9 e9 => ?_) (fun E9 h9 e9 => nomatch e9)
  cases e9
  show Ev _ _ _ _ _ _ 7 [some (.ref (BIG + 300)), none, none, none, none, none, none, none, none] [.ref 0] (0 + 396, ovl st_S 0 (klL 0), klI st_z 0, st_L, st_D)
  refine Ev.sg hX sL_law_7 (pc' := 8) (ls' := [some (.ref (BIG + 300)), some (.ref 0), none, none, none, none, none, none, none]) (st' := []) (h' := (0 + 396, ovl st_S 0 (klL 0), klI st_z 0, st_L, st_D)) rfl ?_
  refine Ev.newO (ci := 7) (fs := [.inl .null, .inl .null, .inl .null, .inr false, .inl .null, .inr false, .inl .null, .inr false, .inr false, .inr false, .inl .null, .inr false, .inr false, .inl .null, .inr false, .inr false, .inl .null]) hX ci_X7 (bw_of 1480 (by decide +kernel) (by decide +kernel)) kl_Z0.z2 fs_X7 ⟨by omega, by omega⟩ (by decide) dL_law_8 ?_
  refine Ev.eqh (h' := (0 + 397, ovl st_S 0 (klL 0 ++ [.inr (7, [.inl .null, .inl .null, .inl .null, .inr false, .inl .null, .inr false, .inl .null, .inr false, .inr false, .inr false, .inl .null, .inr false, .inr false, .inl .null, .inr false, .inr false, .inl .null])]), klI st_z 0, st_L, st_D)) (newS_ovl (b := 0) (k := 396) (l := klL 0) klL_len) ?_
  show Ev _ _ _ _ _ _ 11 [some (.ref (BIG + 300)), some (.ref 0), none, none, none, none, none, none, none] [.ref 396] (0 + 397, ovl st_S 0 (klL 0 ++ [.inr (7, [.inl .null, .inl .null, .inl .null, .inr false, .inl .null, .inr false, .inl .null, .inr false, .inr false, .inr false, .inl .null, .inr false, .inr false, .inl .null, .inr false, .inr false, .inl .null])]), klI st_z 0, st_L, st_D)
  refine Ev.sg hX sL_law_11 (pc' := 12) (ls' := [some (.ref (BIG + 300)), some (.ref 0), none, none, none, none, none, none, none]) (st' := [.ref 396, .ref 396]) (h' := (0 + 397, ovl st_S 0 (klL 0 ++ [.inr (7, [.inl .null, .inl .null, .inl .null, .inr false, .inl .null, .inr false, .inl .null, .inr false, .inr false, .inr false, .inl .null, .inr false, .inr false, .inl .null, .inr false, .inr false, .inl .null])]), klI st_z 0, st_L, st_D)) rfl ?_
  refine Ev.eqh (h' := (0 + 396 + 1, ovl (ovl st_S 0 (klL 0)) (0 + 396) [.inr (7, [.inl .null, .inl .null, .inl .null, .inr false, .inl .null, .inr false, .inl .null, .inr false, .inr false, .inr false, .inl .null, .inr false, .inr false, .inl .null, .inr false, .inr false, .inl .null])], klI st_z 0, st_L, st_D)) (ovl_in (b := 0) (k := 396) (j := 1) (l := klL 0) (l2 := [.inr (7, [.inl .null, .inl .null, .inl .null, .inr false, .inl .null, .inr false, .inl .null, .inr false, .inr false, .inr false, .inl .null, .inr false, .inr false, .inl .null, .inr false, .inr false, .inl .null])]) klL_len).symm ?_
  refine Ev.callI (As := []) (rest := [.ref 396]) diX7_init rfl mkL_149 dL_law_12 (c_ModInit (d := 12) (b := 0 + 396) (S := ovl st_S 0 (klL 0)) (I := klI st_z 0) (L := st_L) (Dd := st_D) hX (by decide) kl_Z0 (by decide)) ⟨by decide, by decide⟩ ⟨by omega, by omega⟩ rfl (Nat.le_of_ble_eq_true rfl) (fun v9 h9 e9 => ?_) (fun E9 h9 e9 => nomatch e9)
  cases e9
  refine Ev.eqh (h' := (0 + 405, ovl st_S 0 (klL 0 ++ mdL 396), st_I, st_L, st_D)) (ovl_in (b := 0) (k := 396) (j := 9) (l := klL 0) (l2 := mdL 396) klL_len) ?_
  show Ev _ _ _ _ _ _ 15 [some (.ref (BIG + 300)), some (.ref 0), none, none, none, none, none, none, none] [.ref 396] (0 + 405, ovl st_S 0 (klL 0 ++ mdL 396), st_I, st_L, st_D)
  refine Ev.sg hX sL_law_15 (pc' := 17) (ls' := [some (.ref (BIG + 300)), some (.ref 0), some (.ref 396), none, none, none, none, none, none]) (st' := [.int 1]) (h' := (0 + 405, ovl st_S 0 (klL 0 ++ mdL 396), st_I, st_L, st_D)) rfl ?_
  refine Ev.newJ (n := 1) hX rfl (by decide) (st_Z1 (by decide)).z2 ⟨by omega, by omega⟩ (by decide) dL_law_17 (by decide +kernel) ?_
  refine Ev.eqh (h' := (0 + 406, ovl st_S 0 ((klL 0 ++ mdL 396) ++ [.inl (.long, 1)]), st_I, st_L, st_D)) (newS_ovl (b := 0) (k := 405) (l := (klL 0 ++ mdL 396)) klmd_len) ?_
  show Ev _ _ _ _ _ _ 19 [some (.ref (BIG + 300)), some (.ref 0), some (.ref 396), none, none, none, none, none, none] [.ref 405] (0 + 406, ovl st_S 0 ((klL 0 ++ mdL 396) ++ [.inl (.long, 1)]), st_I, st_L, st_D)
  refine Ev.sg hX sL_law_19 (pc' := 21) (ls' := [some (.ref (BIG + 300)), some (.ref 0), some (.ref 396), some (.ref 405), none, none, none, none, none]) (st' := [.int 1]) (h' := (0 + 406, ovl st_S 0 ((klL 0 ++ mdL 396) ++ [.inl (.long, 1)]), st_I, st_L, st_D)) rfl ?_
  refine Ev.newD (n := 1) hX rfl (by decide) (st_Z1 (by decide)).z2 ⟨by omega, by omega⟩ (by decide) dL_law_21 (by decide +kernel) ?_
  refine Ev.eqh (h' := (0 + 407, ovl st_S 0 (((klL 0 ++ mdL 396) ++ [.inl (.long, 1)]) ++ [.inl (.double, 1)]), st_I, st_L, st_D)) (newS_ovl (b := 0) (k := 406) (l := ((klL 0 ++ mdL 396) ++ [.inl (.long, 1)])) (by rw [List.length_append, klmd_len]; rfl)) ?_
  show Ev _ _ _ _ _ _ 23 [some (.ref (BIG + 300)), some (.ref 0), some (.ref 396), some (.ref 405), none, none, none, none, none] [.ref 406] (0 + 407, ovl st_S 0 (((klL 0 ++ mdL 396) ++ [.inl (.long, 1)]) ++ [.inl (.double, 1)]), st_I, st_L, st_D)
  refine Ev.eqh (h' := (407, SH 395 (fun _ => none), st_I, st_L, st_D)) (by rw [List.append_assoc]; exact congrArg (fun z => ((407, z, st_I, st_L, st_D) : MH)) ovl_start) ?_
  refine Ev.sg hX sL_law_23 (pc' := 28) (ls' := lsW 0 none none none) (st' := []) (h' := (407, SH 395 (fun _ => none), st_I, st_L, st_D)) rfl ?_
  exact law_loop hX h3 512 0 0 407 395 (fun _ => none) st_I st_L st_D _ _ none none none (by omega) (by omega) (by omega) (by decide) (by omega) (by omega) (by omega) st_INV
end LST
