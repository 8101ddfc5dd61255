/-! a new object -/
section NEW
variable {X : JX} {K b v : Nat} {h : MH} {N : Nat} {T : Nat → Option JS} {I : HI} {L : HL} {Dd : HD}
def st_z : HI := fun _ _ => 0
def st_g : Nat → Nat := fun k => if k = 2 then 1 else 0
theorem st_0 {k : Nat} (h : k ≠ 2) : st_g k = 0 := if_neg h
theorem kl_o {a : Nat} (h : a ≠ 0 ∧ a ≠ 23 ∧ a ≠ 58 ∧ a ≠ 394 ∧ a ≠ 95 ∧ a ≠ 130 ∧ a ≠ 165 ∧ a ≠ 200 ∧ a ≠ 235 ∧ a ≠ 270 ∧ a ≠ 305 ∧ a ≠ 340 ∧ a ≠ 375) : klI st_z 0 a = fun _ => 0 := by
  unfold klI hsI
  rw [up2_ne (by omega), up2_ne (by omega), up2_ne (by omega), fillI_ne (by omega), fillI_ne (by omega), fillI_ne (by omega), fillI_ne (by omega), fillI_ne (by omega), fillI_ne (by omega), fillI_ne (by omega), fillI_ne (by omega), fillI_ne (by omega), fillI_ne (by omega), fillI_ne (by omega)]
  rfl
theorem kl_23 {u : Nat} (hu : u < 20) : klI st_z 0 23 u = -1 := by
  unfold klI hsI
  rw [up2_ne (by omega), up2_ne (by omega), up2_ne (by omega), fillI_ne (by omega), fillI_ne (by omega), fillI_ne (by omega), fillI_ne (by omega), fillI_ne (by omega), fillI_ne (by omega), fillI_ne (by omega), fillI_ne (by omega), fillI_ne (by omega), fillI_ne (by omega)]
  exact fillI_v (a := 0 + 1 + 22) hu
theorem kl_0 : klI st_z 0 0 5 = -1 ∧ klI st_z 0 0 6 = -1 := by
  unfold klI
  refine ⟨?_, ?_⟩
  · rw [up2_v, if_neg (by decide), up2_v, if_pos rfl]
  · rw [up2_v, if_pos rfl]
theorem kl_394 {j : Nat} : klI st_z 0 394 j = 0 := by
  unfold klI hsI
  rw [up2_ne (by omega), up2_ne (by omega)]
  show up2 _ (0 + 394) 1 0 (0 + 394) j = 0
  rw [up2_v]
  by_cases c : j = 1
  · rw [if_pos c]
  · rw [if_neg c, fillI_ne (by omega), fillI_ne (by omega), fillI_ne (by omega), fillI_ne (by omega), fillI_ne (by omega), fillI_ne (by omega), fillI_ne (by omega), fillI_ne (by omega), fillI_ne (by omega), fillI_ne (by omega), fillI_ne (by omega)]
    rfl
theorem st_us {t : Nat} : usN st_g t = 0 := by
  unfold usN
  rw [st_0 (by decide)]
  rfl
theorem st_WS : WS st_g := by
  have bit : ∀ i j, ¬ lkN st_g i j := fun i j h => by
    unfold lkN at h
    rw [st_0 (by omega), Nat.zero_testBit] at h
    cases h
  refine ⟨fun t ht => ?_, fun t ht => ?_, fun i hi => ?_, fun i j _ _ h => absurd h (bit i j), ?_, fun s hs => ?_, fun s s' _ h => ?_, fun t p ht hp => ?_⟩
  · rw [st_0 (by omega), st_0 (by omega)]
    omega
  · rw [st_0 (by omega)] at ht
    omega
  · rw [st_0 (by omega)]
    omega
  · rw [st_0 (k := 1) (by omega)]
    exact sN_zero (fun k hk => st_0 (by omega))
  · rw [st_0 (k := 1) (by omega)] at hs
    omega
  · rw [st_0 (k := 1) (by omega)] at h
    omega
  · rw [st_0 (by omega)] at hp
    omega
/-- what a new object tells -/
def st_s : GS := (st_g, fun _ => st_g, 0, none, 0, fun _ => 0, -1, -1, [])
theorem st_YC (hI : ∀ a, a < 396 → I a = klI st_z 0 a) (hL : ∀ a, a < 396 → L a = fun _ => 0) : YC 0 I L st_g (fun s => s) := by
  have z1 : st_g 1 = 0 := st_0 (by decide)
  have o : ∀ a, a < 396 → (a ≠ 0 ∧ a ≠ 23 ∧ a ≠ 58 ∧ a ≠ 394 ∧ a ≠ 95 ∧ a ≠ 130 ∧ a ≠ 165 ∧ a ≠ 200 ∧ a ≠ 235 ∧ a ≠ 270 ∧ a ≠ 305 ∧ a ≠ 340 ∧ a ≠ 375) → I a = fun _ => 0 := fun a ha h => (hI a ha).trans (kl_o h)
  refine ⟨by omega, ⟨⟨by rw [st_0 (by decide)]; omega, by rw [z1]; omega, ⟨Nat.le_refl 1, Nat.le_refl 1⟩, by rw [st_0 (by decide)]; omega, by rw [st_0 (by decide)]; omega, by rw [st_0 (by decide)]; omega, by rw [st_0 (by decide)]; omega⟩, st_WS⟩, ?_, fun t ht => ?_, fun i j hi hj => ?_, fun s hs => ?_, fun s s' _ h => ?_, fun u hu _ => ?_⟩
  · have lk : lkc st_g = 0 := by
      unfold lkc
      rw [st_0 (k := 0) (by decide)]
      rfl
    unfold CRs
    rw [lk, o 6 (by omega) (by omega), o 15 (by omega) (by omega), o 1 (by omega) (by omega), hL 1 (by omega), st_0 (k := 0) (by decide), z1, st_0 (k := 3) (by decide), st_0 (k := 4) (by decide), st_0 (k := 5) (by decide), st_0 (k := 6) (by decide)]
    exact ⟨rfl, rfl, rfl, rfl, rfl, rfl, rfl, rfl⟩
  · rw [o 3 (by omega) (by omega), o 5 (by omega) (by omega), o 31 (by omega) (by omega), o 33 (by omega) (by omega), st_us, st_0 (by omega), st_0 (by omega), st_0 (by omega)]
    exact ⟨rfl, rfl, rfl, rfl⟩
  · rw [o 8 (by omega) (by omega), st_0 (by omega), Nat.zero_testBit]
    rfl
  · rw [z1] at hs
    omega
  · rw [z1] at h
    omega
  · rw [o 17 (by omega) (by omega), hI 23 (by omega), kl_23 hu]
    exact ⟨rfl, rfl⟩
theorem st_CP (hN : 396 ≤ N) (hI : ∀ a, a < 396 → I a = klI st_z 0 a) (hL : ∀ a, a < 396 → L a = fun _ => 0) (hz : ∀ a, N ≤ a → ∀ j, I a j = 0 ∧ L a j = 0 ∧ Dd a j = 0) : CPs 0 N 395 T I L Dd st_s := by
  have o : ∀ a, a < 396 → (a ≠ 0 ∧ a ≠ 23 ∧ a ≠ 58 ∧ a ≠ 394 ∧ a ≠ 95 ∧ a ≠ 130 ∧ a ≠ 165 ∧ a ≠ 200 ∧ a ≠ 235 ∧ a ≠ 270 ∧ a ≠ 305 ∧ a ≠ 340 ∧ a ≠ 375) → I a = fun _ => 0 := fun a ha h => (hI a ha).trans (kl_o h)
  refine ⟨⟨_, st_YC hI hL⟩, ⟨0, by omega, ?_, ?_, Nat.zero_le _, fun j hj => absurd hj (by show ¬ j < 0; omega)⟩, Or.inl ⟨rfl, ?_⟩, ⟨Nat.zero_le _, ?_, o 389 (by omega) (by omega), ?_, ?_⟩, 16, ⟨rfl, Or.inl rfl, ⟨by omega, Nat.le_refl _, hN⟩, hN, ?_, ?_, ⟨Nat.zero_le _, by omega, by omega⟩, fun i hi => absurd hi (by show ¬ i < 0; omega), fun j hj => ?_, hz, fun a h1 h2 => absurd h2 (Nat.not_lt.mpr h1)⟩, by omega⟩
  · rw [o 71 (by omega) (by omega)]; rfl
  · rw [o 71 (by omega) (by omega)]; rfl
  · rw [o 71 (by omega) (by omega)]
  · rw [o 388 (by omega) (by omega)]; rfl
  · rw [hI 0 (by omega)]; exact kl_0.1
  · rw [hI 0 (by omega)]; exact kl_0.2
  · rw [hI 394 (by omega), kl_394]; rfl
  · rw [hI 394 (by omega), kl_394]
  · rw [o 395 (by omega) (by omega)]; show fits .byte (.int 0) = true; decide
/-- rows moved by b -/
theorem shI_up {J J' : HI} {a a' j : Nat} {x : Int32} (e : a = b + a') (h : ∀ k, J (b + k) = J' k) : ∀ k, up2 J a j x (b + k) = up2 J' a' j x k := fun k => by
  subst e
  funext i
  unfold up2
  by_cases c : k = a'
  · subst c
    rw [if_pos rfl, if_pos rfl, h]
  · rw [if_neg (by omega), if_neg c, h]
theorem shI_fo {a' : Nat} {x : Int32} : ∀ (n i : Nat) (J J' : HI), (∀ k, J (b + k) = J' k) → ∀ k, fo (fun k J => up2 J (b + a') k x) n i J (b + k) = fo (fun k J => up2 J a' k x) n i J' k
  | 0, _, _, _, h => h
  | n + 1, i, J, J', h => shI_fo n (i + 1) _ _ (shI_up rfl h)
theorem shI_fill {J J' : HI} {a a' n : Nat} {x : Int32} (e : a = b + a') (h : ∀ k, J (b + k) = J' k) : ∀ k, fillI J a n x (b + k) = fillI J' a' n x k := by
  subst e
  exact shI_fo n 0 J J' h
theorem shI_kl (h : ∀ k, I (b + k) = st_z k) : ∀ k, klI I b (b + k) = klI st_z 0 k := by
  unfold klI hsI
  exact shI_up (by omega) (shI_up (by omega) (shI_up (by omega) (shI_fill (by omega) (shI_fill (by omega) (shI_fill (by omega) (shI_fill (by omega) (shI_fill (by omega) (shI_fill (by omega) (shI_fill (by omega) (shI_fill (by omega) (shI_fill (by omega) (shI_fill (by omega) (shI_fill (by omega) h)))))))))))))
/-- shapes moved by b -/
def shF (b : Nat) : Value ⊕ Bool → Value ⊕ Bool
  | .inl (.ref k) => .inl (.ref (b + k))
  | f => f
def shS (b : Nat) : JS → JS
  | .inl a => .inl a
  | .inr (ci, fs) => .inr (ci, fs.map (shF b))
theorem sh_yL (c : Nat) : yL (b + c) = (yL c).map (shS b) := by
  simp only [yL, List.map_cons, List.map_nil, shS, shF, Nat.add_assoc]
theorem sh_kl : klL b = (klL 0).map (shS b) := by
  have e1 := sh_yL (b := b) 1
  have e2 := sh_yL (b := b) 36
  simp only [klL, hsL, List.map_append, List.map_cons, List.map_nil, shS, shF, Nat.add_assoc, Nat.zero_add, sh_yL]
def refsB (l : List JS) : Bool := l.all fun s => match s with
  | .inl _ => true
  | .inr (_, fs) => fs.all fun f => match f with
    | .inl (.ref k) => decide (k < 396)
    | .inl .null => true
    | .inl _ => false
    | .inr _ => true
set_option maxRecDepth 100000 in
theorem kl_refs : refsB (klL 0) = true := by decide +kernel
set_option maxRecDepth 100000 in
theorem klL_len : (klL 0).length = 396 := by decide +kernel
set_option maxRecDepth 100000 in
theorem kl_at : (List.range 396).map (fun k => (klL 0)[k]?) = (List.range 396).map (SH 395 (fun _ => none)) := by decide +kernel
theorem kl_SH {k : Nat} (hk : k < 396) : (klL 0)[k]? = SH 395 T k := by
  have e := congrArg (fun (l : List (Option JS)) => l[k]?) kl_at
  simp only [List.getElem?_map, List.getElem?_range hk, Option.map_some] at e
  exact (Option.some.inj e).trans (SH_lo hk)
theorem ps_sh {s : JS} (hb : b = 0 ∨ 396 ≤ b) (hs : refsB [s] = true) : piS (swp b) (shS b s) = s := by
  rcases s with a | ⟨ci, fs⟩
  · rfl
  · show Sum.inr (ci, (fs.map (shF b)).map (piF (swp b))) = _
    rw [List.map_map]
    congr 2
    refine (List.map_congr_left fun f hf => ?_).trans (List.map_id fs)
    have h1 : (fs.all fun f => match f with
      | .inl (.ref k) => decide (k < 396)
      | .inl .null => true
      | .inl _ => false
      | .inr _ => true) = true := by
      unfold refsB at hs
      simpa using hs
    have h2 := List.all_eq_true.mp h1 f hf
    rcases f with w | c
    · cases w <;> first | rfl | (cases h2; done) | skip
      rename_i k
      have hk : @LT.lt Nat _ k 396 := by simpa using h2
      show Sum.inl (Value.ref (swp b (b + k))) = _
      have e : swp b (b + k) = k := by
        unfold swp
        (repeat' split) <;> omega
      rw [e]
      rfl
    · rfl
theorem OB.new {S : Nat → Option JS} (hb : b = 0 ∨ 396 ≤ b) (hz : ∀ a, b ≤ a → ∀ j, I a j = 0 ∧ L a j = 0 ∧ Dd a j = 0) : OB 0 b 395 st_s (b + 396, ovl S b (klL b), klI I b, L, Dd) := by
  have hp := swp_p hb
  have lo : ∀ k, k < 396 → swp b k = b + k := fun k hk => if_pos hk
  have zI0 : ∀ k, I (b + k) = st_z k := fun k => funext fun j => (hz (b + k) (Nat.le_add_right _ _) j).1
  have kI := shI_kl (b := b) zI0
  refine ⟨Nat.le_refl _, fun k => (ovl S b (klL b) (swp b k)).map (piS (swp b)), ?_, ?_⟩
  · funext k
    by_cases hk : k < 396
    · show (ovl S b (klL b) (swp b k)).map (piS (swp b)) = _
      rw [lo k hk, ← kl_SH hk]
      have hl : (klL b).length = 396 := by rw [sh_kl, List.length_map, klL_len]
      unfold ovl
      rw [if_pos ⟨Nat.le_add_right _ _, by rw [hl]; omega⟩, Nat.add_sub_cancel_left, sh_kl, List.getElem?_map, Option.map_map]
      cases hs : (klL 0)[k]? with
      | none => rfl
      | some s =>
        have hm : s ∈ klL 0 := List.mem_of_getElem? hs
        have hr : refsB [s] = true := by
          have := List.all_eq_true.mp kl_refs s hm
          unfold refsB
          rw [List.all_cons, List.all_nil, Bool.and_true]
          exact this
        show some (piS (swp b) (shS b s)) = some s
        rw [ps_sh hb hr]
    · rw [SH_hi (by omega)]
      rfl
  · refine st_CP (Nat.le_add_left _ _) (fun a ha => ?_) (fun a ha => ?_) (fun a ha j => ?_)
    · show klI I b (swp b a) = _
      rw [lo a ha, kI]
    · show L (swp b a) = _
      rw [lo a ha]
      exact funext fun j => (hz (b + a) (Nat.le_add_right _ _) j).2.1
    · have ha : b + 396 ≤ a := ha
      have e : swp b a = a := hp.2 a ha
      show klI I b (swp b a) j = 0 ∧ L (swp b a) j = 0 ∧ Dd (swp b a) j = 0
      rw [e]
      have q := hz a (by omega) j
      refine ⟨?_, q.2⟩
      have e2 : a = b + (a - b) := by omega
      rw [e2, kI, kl_o (by omega)]
end NEW
