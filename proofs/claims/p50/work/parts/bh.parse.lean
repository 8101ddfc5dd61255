/-! what is read of a text depends on its signs alone -/
section PCG
variable {tx ty : Nat → Int32} {q : Nat}
theorem dgF_tx (h : chA tx q = chA ty q) : dgF tx q = dgF ty q := by
  funext n
  induction n with
  | zero => funext p a; rfl
  | succ n ih =>
    funext p a
    unfold dgF
    rw [h, ih]
theorem nd_tx (h : chA tx q = chA ty q) : nd tx q = nd ty q := by
  funext c s
  unfold nd
  rw [h]
theorem dd9_tx (h : chA tx q = chA ty q) : dd9 tx q = dd9 ty q := by
  funext c n s
  unfold dd9
  rw [h, nd_tx h, dgF_tx h]
theorem dv_tx (h : chA tx q = chA ty q) : dv tx q = dv ty q := by
  funext c n s
  unfold dv
  rw [h, nd_tx h, dgF_tx h]
theorem dw_tx (h : chA tx q = chA ty q) : dw tx q = dw ty q := by
  funext c n i s
  unfold dw
  rw [dd9_tx h, dv_tx h]
theorem pP_tx (h : chA tx q = chA ty q) : pP tx q = pP ty q := by
  funext k s
  unfold pP
  rw [dw_tx h]
theorem pT_tx (h : chA tx q = chA ty q) : pT tx q = pT ty q := by
  funext k s
  unfold pT
  rw [h, dw_tx h, nd_tx h]
theorem pS_tx (h : chA tx q = chA ty q) : pS tx q = pS ty q := by
  funext k s
  unfold pS
  rw [h, dw_tx h, nd_tx h, pP_tx h]
theorem pC5_tx (h : chA tx q = chA ty q) : pC5 tx q = pC5 ty q := by
  funext k s
  unfold pC5
  rw [dw_tx h, nd_tx h]
theorem pC_tx (h : chA tx q = chA ty q) : pC tx q = pC ty q := by
  funext k s
  unfold pC
  rw [h, pC5_tx h, nd_tx h, pP_tx h]
theorem pX_tx (h : chA tx q = chA ty q) : pX tx q = pX ty q := by
  funext k s
  unfold pX
  rw [h, pC_tx h, pS_tx h, pT_tx h, dw_tx h, nd_tx h]
theorem rdM_tx (h : chA tx q = chA ty q) : rdM tx q = rdM ty q := by
  funext n
  induction n with
  | zero => funext p a; rfl
  | succ n ih =>
    funext p a
    unfold rdM
    rw [ih, pX_tx h, h]
theorem rdG_tx (h : ∀ j, j < q → tx j = ty j) : rdG tx q = rdG ty q := by
  have e : chA tx q = chA ty q := by
    funext p
    unfold chA
    by_cases c : p < q
    · rw [if_pos c, if_pos c, h p c]
    · rw [if_neg c, if_neg c]
  unfold rdG
  rw [rdM_tx e]
/-- a text taken in, from an empty buffer -/
theorem put_qq : ∀ (cs : List Int32) (s : GS), (cs.foldl appS s).2.2.2.2.1 = s.2.2.2.2.1 + cs.length
  | [], _ => rfl
  | c :: cs, s => (put_qq cs (appS s c)).trans (by show s.2.2.2.2.1 + 1 + cs.length = s.2.2.2.2.1 + (cs.length + 1); omega)
theorem put_rest : ∀ (cs : List Int32) (s : GS), (cs.foldl appS s).1 = s.1 ∧ (cs.foldl appS s).2.1 = s.2.1 ∧ (cs.foldl appS s).2.2.1 = s.2.2.1 ∧ (cs.foldl appS s).2.2.2.1 = s.2.2.2.1 ∧ (cs.foldl appS s).2.2.2.2.2.2 = s.2.2.2.2.2.2
  | [], _ => ⟨rfl, rfl, rfl, rfl, rfl⟩
  | c :: cs, s => put_rest cs (appS s c)
theorem put_tx : ∀ (cs : List Int32) (s : GS) (j : Nat), (cs.foldl appS s).2.2.2.2.2.1 j = if s.2.2.2.2.1 ≤ j ∧ j < s.2.2.2.2.1 + cs.length then cs.getD (j - s.2.2.2.2.1) 0 else s.2.2.2.2.2.1 j
  | [], s, j => by rw [if_neg (by rw [List.length_nil]; omega)]; rfl
  | c :: cs, s, j => by
    rw [List.foldl_cons, put_tx cs (appS s c) j]
    show (if s.2.2.2.2.1 + 1 ≤ j ∧ j < s.2.2.2.2.1 + 1 + cs.length then cs.getD (j - (s.2.2.2.2.1 + 1)) 0 else if j = s.2.2.2.2.1 then c else s.2.2.2.2.2.1 j) = _
    rw [List.length_cons]
    by_cases h1 : j = s.2.2.2.2.1
    · rw [if_neg (by omega), if_pos h1, if_pos (by omega), h1, Nat.sub_self]
      rfl
    · by_cases h2 : s.2.2.2.2.1 + 1 ≤ j ∧ j < s.2.2.2.2.1 + 1 + cs.length
      · rw [if_pos h2, if_pos (by omega), show j - s.2.2.2.2.1 = (j - (s.2.2.2.2.1 + 1)) + 1 by omega]
        rfl
      · rw [if_neg h2, if_neg h1, if_neg (by omega)]
/-- what the text is read as -/
def rdT (cs : List Int32) : Nat × MS := rdG (fun j => cs.getD j 0) cs.length
theorem put_rd {cs : List Int32} {s : GS} (h0 : s.2.2.2.2.1 = 0) : rdG (cs.foldl appS s).2.2.2.2.2.1 (cs.foldl appS s).2.2.2.2.1 = rdT cs := by
  rw [put_qq, h0, Nat.zero_add]
  unfold rdT
  refine rdG_tx fun j hj => ?_
  rw [put_tx, h0, if_pos ⟨Nat.zero_le _, by omega⟩, Nat.sub_zero]
/-- a text that is no program: the run is refused, with that error's place -/
theorem rn_bad {cs : List Int32} {s : GS} (h0 : s.2.2.2.2.1 = 0) (hb : ¬ (rdT cs).2.2.1 = 0 ∨ (rdT cs).2.1 < cs.length) : rnG (cs.foldl appS s) = (0, 1, (s.1, s.2.1, s.2.2.1, s.2.2.2.1, 0, (cs.foldl appS s).2.2.2.2.2.1, nI (rdT cs).2.1, s.2.2.2.2.2.2.2.1, s.2.2.2.2.2.2.2.2)) := by
  obtain ⟨r1, r2, r3, r4, r5⟩ := put_rest cs s
  have e := put_rd (cs := cs) h0
  have q := put_qq cs s
  rw [h0, Nat.zero_add] at q
  unfold rnG rnS
  rw [e, q, r1, r2, r3, r4, if_pos hb]
  rw [show (cs.foldl appS s).2.2.2.2.2.2.2.1 = s.2.2.2.2.2.2.2.1 from congrArg (fun z => z.2.1) r5, show (cs.foldl appS s).2.2.2.2.2.2.2.2 = s.2.2.2.2.2.2.2.2 from congrArg (fun z => z.2.2) r5]
/-- the object behind a text that is a program -/
def rnT (cs : List Int32) (s : GS) : Int32 × Int32 × GS := match (mrL (rdT cs).1 0 (GR s.1 s.2.2.1 (rdT cs).2.2.2)).1 with
  | some p => (0, 2, (s.1, s.2.1, s.2.2.1, s.2.2.2.1, 0, (cs.foldl appS s).2.2.2.2.2.1, s.2.2.2.2.2.2.1, nI p.1, s.2.2.2.2.2.2.2.2))
  | none => (nI (rdT cs).1, 0, (canonG ((mrL (rdT cs).1 0 (GR s.1 s.2.2.1 (rdT cs).2.2.2)).2 397), pushG s.2.1 s.2.2.1 s.1, min 8 (s.2.2.1 + 1), s.2.2.2.1, 0, (cs.foldl appS s).2.2.2.2.2.1, s.2.2.2.2.2.2.1, s.2.2.2.2.2.2.2.1, s.2.2.2.2.2.2.2.2))
theorem rn_good {cs : List Int32} {s : GS} (h0 : s.2.2.2.2.1 = 0) (hb : (rdT cs).2.2.1 = 0 ∧ ¬ (rdT cs).2.1 < cs.length) : rnG (cs.foldl appS s) = rnT cs s := by
  obtain ⟨r1, r2, r3, r4, r5⟩ := put_rest cs s
  have e := put_rd (cs := cs) h0
  have q := put_qq cs s
  rw [h0, Nat.zero_add] at q
  unfold rnG rnS
  rw [e, q, r1, r2, r3, r4, if_neg (fun z => z.elim (fun z => z hb.1) hb.2)]
  rw [show (cs.foldl appS s).2.2.2.2.2.2.1 = s.2.2.2.2.2.2.1 from congrArg (fun z => z.1) r5, show (cs.foldl appS s).2.2.2.2.2.2.2.1 = s.2.2.2.2.2.2.2.1 from congrArg (fun z => z.2.1) r5, show (cs.foldl appS s).2.2.2.2.2.2.2.2 = s.2.2.2.2.2.2.2.2 from congrArg (fun z => z.2.2) r5]
  unfold rnT
  cases (mrL (rdT cs).1 0 (GR s.1 s.2.2.1 (rdT cs).2.2.2)).1 <;> rfl
end PCG
/-- the texts that are no programs, and where -/
theorem bad_all : ∀ p ∈ ([(11, 3), (12, 1), (13, 1), (14, 11), (15, 8), (16, 9), (17, 0), (18, 8), (19, 14), (20, 9), (21, 0)] : List (Nat × Nat)), (¬ (rdT (jshb.getD p.1 [])).2.2.1 = 0 ∨ (rdT (jshb.getD p.1 [])).2.1 < (jshb.getD p.1 []).length) ∧ (rdT (jshb.getD p.1 [])).2.1 = p.2 := by decide +kernel
