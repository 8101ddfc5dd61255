/-! the state between calls: class and model -/
section YST
variable {K K' : Nat} {I J I' : HI} {L L' : HL} {g g' σ : Nat → Nat} {gs : Nat → Nat → Nat} {d nx q : Nat} {sv : Option (Nat → Nat)} {tx : Nat → Int32} {er fl : Int32} {w : List Int32}
/-- the place in the ring of the j-th kept state -/
def slot (nx d j : Nat) : Nat := 108 + 35 * ((nx + 8 - d + j) % 8)
/-- the class's history -/
def HC (K : Nat) (I : HI) (L : HL) (gs : Nat → Nat → Nat) (d nx : Nat) : Prop := nx < 8 ∧ I 71 1 = nI nx ∧ I 71 2 = nI d ∧ d ≤ 8 ∧ ∀ j, j < d → ∃ σ, YC K (yv I (slot nx d j)) (yl L (slot nx d j)) (gs j) σ
/-- the class's saved state -/
def SC (K : Nat) (I : HI) (L : HL) (sv : Option (Nat → Nat)) : Prop := (sv = none ∧ I 71 4 = 0) ∨ ∃ g', sv = some g' ∧ I 71 4 = 1 ∧ ∃ σ, YC K (yv I 73) (yl L 73) g' σ
/-- the class's text and numbers -/
def TC (I : HI) (q : Nat) (tx : Nat → Int32) (er fl : Int32) : Prop := q ≤ 60 ∧ I 388 1 = nI q ∧ I 389 = tx ∧ I 0 5 = er ∧ I 0 6 = fl
/-- the model's history -/
def HM (J : HI) (gs : Nat → Nat → Nat) (d : Nat) : Prop := J 396 3 = nI d ∧ ∀ j, j < d → GV (fun k => J 399 (j * 179 + k)) (gs j)
def SM (J : HI) (sv : Option (Nat → Nat)) : Prop := (sv = none ∧ J 396 5 = 0) ∨ ∃ g', sv = some g' ∧ J 396 5 = 1 ∧ GV (J 400) g'
def TM (J : HI) (q : Nat) (tx : Nat → Int32) (er fl : Int32) : Prop := J 396 7 = nI q ∧ J 401 = tx ∧ J 396 8 = er ∧ J 396 9 = fl
def WM (J : HI) (w : List Int32) : Prop := J 396 11 = nI w.length ∧ w.length ≤ 300 ∧ (∀ j, j < w.length → J 402 j = w.getD j 0) ∧ ∀ x, x ∈ w → chW x
theorem slot_r (nx d j : Nat) : 108 ≤ slot nx d j ∧ slot nx d j + 35 ≤ 388 := by
  unfold slot
  have := Nat.mod_lt (nx + 8 - d + j) (by decide : 0 < 8)
  omega
theorem HC.mono (h : HC K I L gs d nx) (hK : K ≤ K') (h5 : K' ≤ 5000) : HC K' I L gs d nx := ⟨h.1, h.2.1, h.2.2.1, h.2.2.2.1, fun j hj => by
  obtain ⟨σ, y⟩ := h.2.2.2.2 j hj
  exact ⟨σ, y.mono hK h5⟩⟩
theorem SC.mono (h : SC K I L sv) (hK : K ≤ K') (h5 : K' ≤ 5000) : SC K' I L sv := by
  rcases h with h | ⟨g', h1, h2, σ, y⟩
  · exact Or.inl h
  · exact Or.inr ⟨g', h1, h2, σ, y.mono hK h5⟩
/-- rows that a call does not write -/
theorem HC.fr (h : HC K I L gs d nx) (hI : ∀ a, 71 ≤ a → a < 388 → I' a = I a) (hL : ∀ a, 71 ≤ a → L' a = L a) : HC K I' L' gs d nx := by
  refine ⟨h.1, by rw [hI 71 (by decide) (by decide)]; exact h.2.1, by rw [hI 71 (by decide) (by decide)]; exact h.2.2.1, h.2.2.2.1, fun j hj => ?_⟩
  obtain ⟨σ, y⟩ := h.2.2.2.2 j hj
  have r := slot_r nx d j
  exact ⟨σ, y.fr (fun a h1 h2 => hI a (by omega) (by omega)) (by omega) (hL _ (by omega))⟩
theorem SC.fr (h : SC K I L sv) (hI : ∀ a, 71 ≤ a → a < 388 → I' a = I a) (hL : ∀ a, 71 ≤ a → L' a = L a) : SC K I' L' sv := by
  rcases h with ⟨h1, h2⟩ | ⟨g', h1, h2, σ, y⟩
  · exact Or.inl ⟨h1, by rw [hI 71 (by decide) (by decide)]; exact h2⟩
  · exact Or.inr ⟨g', h1, by rw [hI 71 (by decide) (by decide)]; exact h2, σ, y.fr (fun a h1 h2 => hI a (by omega) (by omega)) (by omega) (hL _ (by omega))⟩
theorem TC.fr (h : TC I q tx er fl) (h0 : I' 0 = I 0) (h1 : I' 388 1 = I 388 1) (h2 : I' 389 = I 389) : TC I' q tx er fl := by
  unfold TC
  rw [h0, h1, h2]
  exact h
theorem HM.fr (h : HM J gs d) (h3 : I' 396 3 = J 396 3) (h9 : I' 399 = J 399) : HM I' gs d := by
  unfold HM
  rw [h3, h9]
  exact h
theorem SM.fr (h : SM J sv) (h3 : I' 396 5 = J 396 5) (h9 : I' 400 = J 400) : SM I' sv := by
  unfold SM
  rw [h3, h9]
  exact h
theorem TM.fr (h : TM J q tx er fl) (h7 : I' 396 7 = J 396 7) (h8 : I' 396 8 = J 396 8) (h9 : I' 396 9 = J 396 9) (h1 : I' 401 = J 401) : TM I' q tx er fl := by
  unfold TM
  rw [h7, h8, h9, h1]
  exact h
theorem WM.fr (h : WM J w) (h7 : I' 396 11 = J 396 11) (h1 : I' 402 = J 402) : WM I' w := by
  unfold WM
  rw [h7, h1]
  exact h
/-- the kept states after one more -/
def pushG (gs : Nat → Nat → Nat) (d : Nat) (g : Nat → Nat) : Nat → Nat → Nat := if d < 8 then (fun j => if j = d then g else gs j) else fun j => if j = 7 then g else gs (j + 1)
theorem ringNext_m {k : Nat} (hk : k < 8) : ringNext k = (k + 1) % 8 := by
  unfold ringNext
  split <;> omega
theorem ringPrev_m {k : Nat} (hk : k < 8) : ringPrev k = (k + 7) % 8 := by
  unfold ringPrev
  split <;> omega
theorem dj108 {m : Nat} (hm : m < 8) {b2 : Nat} (hb2 : b2 + 35 ≤ 108) : ∀ x y, x < 35 → y < 35 → b2 + x ≠ 108 + 35 * m + y := fun x y hx hy => by omega
/-- the class remembers a yard -/
theorem HC.rem {b2 : Nat} (h : HC K I L gs d nx) (hb21 : 1 ≤ b2) (hb2 : b2 + 35 ≤ 71) (Y : YC K (yv I b2) (yl L b2) g σ) : HC K (remI I nx d b2) (yardCpL L (108 + 35 * nx) b2) (pushG gs d g) (min 8 (d + 1)) (ringNext nx) := by
  obtain ⟨h1, h2, h3, h4, h5⟩ := h
  have dj := dj108 (m := nx) h1 (b2 := b2) (by omega)
  have rn := ringNext_m h1
  have rw71 : ∀ a, a ≠ 71 → remI I nx d b2 a = yardCpI I (108 + 35 * nx) b2 a := fun a ha => by
    unfold remI
    rw [up2_ne ha, up2_ne ha]
  refine ⟨by rw [rn]; exact Nat.mod_lt _ (by decide), ?_, ?_, by omega, fun j hj => ?_⟩
  · unfold remI
    rw [up2_v, if_neg (by decide), up2_v, if_pos rfl]
  · unfold remI
    rw [up2_v, if_pos rfl]
  · have key : slot (ringNext nx) (min 8 (d + 1)) j = (if d < 8 then slot nx d j else slot nx d (j + 1)) := by
      unfold slot
      rw [rn]
      by_cases c : d < 8
      · rw [if_pos c]
        congr 2
        omega
      · rw [if_neg c]
        congr 2
        omega
    have fin : ∀ j', (∃ σ, YC K (yv I (slot nx d j')) (yl L (slot nx d j')) (pushG gs d g j) σ) → slot nx d j' ≠ 108 + 35 * nx → ∃ σ, YC K (yv (remI I nx d b2) (slot nx d j')) (yl (yardCpL L (108 + 35 * nx) b2) (slot nx d j')) (pushG gs d g j) σ := fun j' ⟨σ, y⟩ hn => by
      have r := slot_r nx d j'
      have ds : slot nx d j' + 35 ≤ 108 + 35 * nx ∨ 108 + 35 * nx + 35 ≤ slot nx d j' := by
        unfold slot at hn ⊢
        omega
      have y2 := y.cpo (b2 := b2) (by omega) dj ds
      exact ⟨σ, y2.fr (fun a ha1 ha2 => rw71 a (by omega)) (by omega) rfl⟩
    have own : slot nx d d = 108 + 35 * nx := by
      unfold slot
      have : (nx + 8 - d + d) % 8 = nx := by omega
      rw [this]
    have new : ∃ σ, YC K (yv (remI I nx d b2) (108 + 35 * nx)) (yl (yardCpL L (108 + 35 * nx) b2) (108 + 35 * nx)) g σ := by
      have y2 := Y.cp (b := 108 + 35 * nx) (by omega) hb21 dj
      exact ⟨σ, y2.fr (fun a ha1 ha2 => rw71 a (by omega)) (by omega) rfl⟩
    rw [key]
    by_cases c : d < 8
    · rw [if_pos c]
      by_cases e : j = d
      · have pg : pushG gs d g j = g := by
          unfold pushG
          rw [if_pos c, if_pos e]
        rw [pg, e, own]
        exact new
      · have pg : pushG gs d g j = gs j := by
          unfold pushG
          rw [if_pos c, if_neg e]
        refine fin j (by rw [pg]; exact h5 j (by omega)) ?_
        unfold slot
        omega
    · rw [if_neg c]
      by_cases e : j = 7
      · have pg : pushG gs d g j = g := by
          unfold pushG
          rw [if_neg c, if_pos e]
        have own2 : slot nx d (j + 1) = 108 + 35 * nx := by
          rw [← own]
          congr 1
          omega
        rw [pg, own2]
        exact new
      · have pg : pushG gs d g j = gs (j + 1) := by
          unfold pushG
          rw [if_neg c, if_neg e]
        refine fin (j + 1) (by rw [pg]; exact h5 (j + 1) (by omega)) ?_
        unfold slot
        omega
/-- what remembering leaves as it was -/
theorem rem_o {b2 a : Nat} (hn : nx < 8) (hb2 : b2 + 35 ≤ 108) (ha : a < 108 ∨ 388 ≤ a) (h71 : a ≠ 71) : remI I nx d b2 a = I a := by
  unfold remI
  rw [up2_ne h71, up2_ne h71]
  exact yardCpI_o (dj108 hn hb2) (by omega)
theorem rem_71 {b2 j : Nat} (hn : nx < 8) (hb2 : b2 + 35 ≤ 108) (h1 : j ≠ 1) (h2 : j ≠ 2) : remI I nx d b2 71 j = I 71 j := by
  unfold remI
  rw [up2_v, if_neg h2, up2_v, if_neg h1]
  exact congrFun (yardCpI_o (dj108 hn hb2) (by omega)) j
theorem rem_Y {b2 : Nat} (hn : nx < 8) (hb2 : b2 + 35 ≤ 108) : eqY (remI I nx d b2) I := fun a ha _ _ _ _ => rem_o hn hb2 (by omega) (by omega)
theorem SC.rem {b2 : Nat} (h : SC K I L sv) (hn : nx < 8) (hb2 : b2 + 35 ≤ 108) : SC K (remI I nx d b2) (yardCpL L (108 + 35 * nx) b2) sv := by
  rcases h with ⟨h1, h2⟩ | ⟨g', h1, h2, σ, y⟩
  · exact Or.inl ⟨h1, by rw [rem_71 hn hb2 (by decide) (by decide)]; exact h2⟩
  · exact Or.inr ⟨g', h1, by rw [rem_71 hn hb2 (by decide) (by decide)]; exact h2, σ, y.fr (fun a h1 h2 => rem_o hn hb2 (by omega) (by omega)) (by omega) (yardCpL_o (by omega))⟩
theorem TC.rem {b2 : Nat} (h : TC I q tx er fl) (hn : nx < 8) (hb2 : b2 + 35 ≤ 108) : TC (remI I nx d b2) q tx er fl :=
  h.fr (rem_o hn hb2 (by omega) (by omega)) (by rw [rem_o hn hb2 (by omega) (by omega)]) (rem_o hn hb2 (by omega) (by omega))
/-- the model keeps a state: its history -/
theorem shM_v : ∀ j, j < 1253 → shM I 399 j = I 399 (j + 179) := by
  have H : ∀ e, e = 1253 → (fo (fun k J => up2 J 399 k (J 399 (k + 179))) e 0 I) 399 = fun j => if j < e then I 399 (j + 179) else I 399 j := by
    intro e he
    refine fo_at (e := e) (P := fun k (J : HI) => J 399 = fun j => if j < k then I 399 (j + 179) else I 399 j) (f := fun k J => up2 J 399 k (J 399 (k + 179))) (fun k J hk hJ => ?_) e 0 I (by omega) (by funext j; rw [if_neg (by omega)])
    show up2 J 399 k (J 399 (k + 179)) 399 = fun j => if j < k + 1 then I 399 (j + 179) else I 399 j
    rw [up2_eq, hJ]
    funext j
    show (if j = k then (if k + 179 < k then I 399 (k + 179 + 179) else I 399 (k + 179)) else (if j < k then I 399 (j + 179) else I 399 j)) = _
    by_cases c : j = k
    · rw [if_pos c, if_neg (by omega), if_pos (by omega), c]
    · rw [if_neg c]
      by_cases e2 : j < k
      · rw [if_pos e2, if_pos (by omega)]
      · rw [if_neg e2, if_neg (by omega)]
  intro j hj
  unfold shM
  rw [H 1253 rfl]
  show (if j < 1253 then I 399 (j + 179) else I 399 j) = _
  rw [if_pos hj]
theorem cpM_v {a x b y j : Nat} : cpM I a x b y b j = if y ≤ j ∧ j < y + 179 then I a (x + (j - y)) else I b j := by
  unfold cpM
  rw [if_pos rfl]
theorem HM.push (h : HM J gs d) (hd : d ≤ 8) (V : GV (J 398) g) (c : Int32) (h12 : J 396 12 = 0) : (kepM J c d).1 = c ∧ HM (kepM J c d).2 (pushG gs d g) (min 8 (d + 1)) := by
  unfold kepM
  rw [if_pos h12]
  refine ⟨rfl, ?_⟩
  by_cases c8 : d = 8
  · rw [if_pos c8]
    refine ⟨?_, fun j hj k hk => ?_⟩
    · show up2 (cpM (up2 (shM J) 396 3 (nI 7)) 398 0 399 (7 * 179)) 396 3 (nI 8) 396 3 = _
      rw [up2_v, if_pos rfl]
      congr 1
      omega
    · show up2 (cpM (up2 (shM J) 396 3 (nI 7)) 398 0 399 (7 * 179)) 396 3 (nI 8) 399 (j * 179 + k) = nI (pushG gs d g j k)
      rw [up2_ne (by decide), cpM_v]
      unfold pushG
      rw [if_neg (show ¬ d < 8 by omega)]
      by_cases e : j = 7
      · rw [if_pos (by omega), if_pos e, up2_ne (by decide), shM_ne (by decide)]
        have := V k hk
        rw [show 0 + (j * 179 + k - 7 * 179) = k by omega]
        exact this
      · rw [if_neg (by omega), if_neg e, up2_ne (by decide), shM_v _ (by omega)]
        have := h.2 (j + 1) (by omega) k hk
        rw [show j * 179 + k + 179 = (j + 1) * 179 + k by omega]
        exact this
  · rw [if_neg c8]
    refine ⟨?_, fun j hj k hk => ?_⟩
    · show up2 (cpM J 398 0 399 (d * 179)) 396 3 (nI (d + 1)) 396 3 = _
      rw [up2_v, if_pos rfl]
      congr 1
      omega
    · show up2 (cpM J 398 0 399 (d * 179)) 396 3 (nI (d + 1)) 399 (j * 179 + k) = nI (pushG gs d g j k)
      rw [up2_ne (by decide), cpM_v]
      unfold pushG
      rw [if_pos (show d < 8 by omega)]
      by_cases e : j = d
      · rw [if_pos (by rw [e]; omega), if_pos e]
        have := V k hk
        rw [e, show 0 + (d * 179 + k - d * 179) = k by omega]
        exact this
      · rw [if_neg (by omega), if_neg e]
        exact h.2 j (by omega) k hk
theorem kepM_o {c : Int32} {ch r : Nat} (h1 : r ≠ 399) (h2 : r ≠ 396) (h3 : r ≠ 397) : (kepM J c ch).2 r = J r := by
  unfold kepM
  split
  · show (if ch = 8 then up2 (cpM (up2 (shM J) 396 3 (nI 7)) 398 0 399 (7 * 179)) 396 3 (nI 8) else up2 (cpM J 398 0 399 (ch * 179)) 396 3 (nI (ch + 1))) r = J r
    split
    · rw [up2_ne h2, cpM_ne h1, up2_ne h2, shM_ne h1]
    · rw [up2_ne h2, cpM_ne h1]
  · show cpM J 398 0 397 0 r = J r
    rw [cpM_ne h3]
theorem kepM_396 {c : Int32} {ch j : Nat} (hj : j ≠ 3) : (kepM J c ch).2 396 j = J 396 j := by
  unfold kepM
  split
  · show (if ch = 8 then up2 (cpM (up2 (shM J) 396 3 (nI 7)) 398 0 399 (7 * 179)) 396 3 (nI 8) else up2 (cpM J 398 0 399 (ch * 179)) 396 3 (nI (ch + 1))) 396 j = J 396 j
    split
    · rw [up2_v, if_neg hj, cpM_ne (by decide), up2_v, if_neg hj, shM_ne (by decide)]
    · rw [up2_v, if_neg hj, cpM_ne (by decide)]
  · show cpM J 398 0 397 0 396 j = J 396 j
    rw [cpM_ne (by decide)]
theorem kepM_397 {c : Int32} {ch : Nat} (h : J 396 12 = 0) : (kepM J c ch).2 397 = J 397 := by
  unfold kepM
  rw [if_pos h]
  show (if ch = 8 then up2 (cpM (up2 (shM J) 396 3 (nI 7)) 398 0 399 (7 * 179)) 396 3 (nI 8) else up2 (cpM J 398 0 399 (ch * 179)) 396 3 (nI (ch + 1))) 397 = J 397
  split
  · rw [up2_ne (by decide), cpM_ne (by decide), up2_ne (by decide), shM_ne (by decide)]
  · rw [up2_ne (by decide), cpM_ne (by decide)]
/-- a call that was refused: the model takes the state before -/
theorem kepM_no {c : Int32} {ch : Nat} (h : ¬ J 396 12 = 0) (V : GV (J 398) g) : (kepM J c ch).2 396 = J 396 ∧ (kepM J c ch).2 399 = J 399 ∧ GV ((kepM J c ch).2 397) g := by
  unfold kepM
  rw [if_neg h]
  refine ⟨cpM_ne (I := J) (a := 398) (x := 0) (b := 397) (y := 0) (c := 396) (by decide), cpM_ne (I := J) (a := 398) (x := 0) (b := 397) (y := 0) (c := 399) (by decide), fun k hk => ?_⟩
  show cpM J 398 0 397 0 397 k = nI (g k)
  rw [cpM_v, if_pos (by omega), show 0 + (k - 0) = k by omega]
  exact V k hk
theorem begM_v (V : GV (J 397) g) : GV (begM J 398) g := fun k hk => by
  show cpM J 397 0 398 0 398 k = nI (g k)
  rw [cpM_v, if_pos (by omega), show 0 + (k - 0) = k by omega]
  exact V k hk
end YST
