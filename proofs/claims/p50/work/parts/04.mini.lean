/-! THE MINI MACHINE: a heap whose cells bear numbers 0, 1, 2 .. in the order of their making (the k-th lies at the address jN X + k); a state is a pc, locals, a stack of values whose references are those numbers. -/
abbrev JX : Type := Launch × va_G × (FieldType → ClassId) × Nat × (Nat → Nat) × Nat × (Nat → Int32) × Nat
abbrev jD (X : JX) : va_G := X.2.1
abbrev jC (X : JX) : FieldType → ClassId := X.2.2.1
abbrev jN (X : JX) : Nat := X.2.2.2.1
abbrev jA (X : JX) : Nat → Nat := X.2.2.2.2.1
abbrev jSn (X : JX) : Nat := X.2.2.2.2.2.1
abbrev jSf (X : JX) : Nat → Int32 := X.2.2.2.2.2.2.1
/-- from this number on the cells lie in the order of their making; below it a permutation of them may be meant -/
abbrev jM (X : JX) : Nat := X.2.2.2.2.2.2.2
def jF (X : JX) : Nat → Prop := fun q => jN X ≤ q
abbrev BIG : Nat := 10000000
def JXok (X : JX) : Prop := ((∀ a b, a < BIG → b < BIG → jA X a = jA X b → a = b) ∧ (∀ k, k < BIG → jN X ≤ jA X k) ∧ ∀ k, jM X ≤ k → k < BIG → jA X k = jN X + k) ∧ X.1.stackTraces = false
/-- the shape of a cell: an array (its component, its length), or an object (its class's place in jcl, its fields: a reference that is known, an int (false) or a long (true) that the contents tell); 999: an array of references -/
abbrev JS : Type := (FieldType × Nat) ⊕ (Nat × List (Value ⊕ Bool))
abbrev MH : Type := Nat × (Nat → Option JS) × (Nat → Nat → Int32) × (Nat → Nat → Int64) × (Nat → Nat → UInt64)
abbrev zN (h : MH) : Nat := h.1
abbrev zS (h : MH) : Nat → Option JS := h.2.1
abbrev zI (h : MH) : Nat → Nat → Int32 := h.2.2.1
abbrev zL (h : MH) : Nat → Nat → Int64 := h.2.2.2.1
abbrev zD (h : MH) : Nat → Nat → UInt64 := h.2.2.2.2
def up2 {α : Type} (f : Nat → Nat → α) (a k : Nat) (v : α) : Nat → Nat → α := fun b j => if b = a then (if j = k then v else f b j) else f b j
def upS (f : Nat → Option JS) (a : Nat) (v : JS) : Nat → Option JS := fun b => if b = a then some v else f b
abbrev yT : FieldType := .object "ClassificationYard$Yard"
def trV (X : JX) : Value → Value
  | .ref k => .ref (jA X k)
  | v => v
def fE (X : JX) (h : MH) (a : Nat) (j : Nat) (f : Value ⊕ Bool) : Value := match f with
  | .inl v => trV X v
  | .inr false => .int (zI h a j)
  | .inr true => .long (zL h a j)
/-- a field's value, in the mini machine's own numbers -/
def fV (h : MH) (a : Nat) (j : Nat) (f : Value ⊕ Bool) : Value := match f with
  | .inl v => v
  | .inr false => .int (zI h a j)
  | .inr true => .long (zL h a j)
def cA (h : MH) (a : Nat) (ty : FieldType) (n : Nat) : vp_A := match ty with
  | .long => (n, .inr (.inl (zL h a)))
  | .double => (n, .inr (.inr (.inr (.inl (zD h a)))))
  | _ => (n, .inl (zI h a))
def rA (X : JX) (fs : List (Value ⊕ Bool)) : Nat → Option Nat := fun j => match fs[j]? with
  | some (.inl (.ref k)) => some (jA X k)
  | _ => none
def cE (X : JX) (h : MH) (a : Nat) : va_E := match zS h a with
  | some (.inl (ty, n)) => .inl (jC X ty, cA h a ty n)
  | some (.inr (ci, fs)) => if ci = 999 then .inl (jC X yT, fs.length, .inr (.inr (.inr (.inr (rA X fs))))) else .inr (ci, fs.mapIdx (fE X h a))
  | none => .inr (0, [])
def wsOf (X : JX) (h : MH) : va_W := (List.range (zN h)).map fun k => (jA X k, cE X h k)
def Hd (X : JX) (h : MH) (H : Heap) : Prop := H.size = jN X + zN h ∧ (zN h < BIG ∧ jM X ≤ zN h) ∧ (∀ k, (zS h k).isSome = true ↔ k < zN h) ∧ va_P (jD X) jcl (wsOf X h) H
theorem fE_tr (X : JX) (h : MH) (a j : Nat) (f : Value ⊕ Bool) : fE X h a j f = trV X (fV h a j f) := by
  rcases f with v | b
  · rfl
  · cases b <;> rfl
section J1
variable {X : JX} {h h' : MH} {H : Heap}
theorem ws_at {k : Nat} (hk : k < zN h) : (wsOf X h)[k]? = some (jA X k, cE X h k) := by simp [wsOf, hk]
theorem ws_get {k : Nat} {q : Nat × va_E} (e : (wsOf X h)[k]? = some q) : k < zN h ∧ q = (jA X k, cE X h k) := by
  have hk : k < zN h := by
    have := (List.getElem?_eq_some_iff.mp e).1
    simpa [wsOf] using this
  refine ⟨hk, ?_⟩
  rw [ws_at hk] at e
  exact (Option.some.inj e).symm
theorem ws_set {k : Nat} (hN : zN h' = zN h) (ho : ∀ j, j ≠ k → cE X h' j = cE X h j) : (wsOf X h).set k (jA X k, cE X h' k) = wsOf X h' := by
  apply List.ext_getElem?
  intro j
  by_cases hj : j < zN h
  · rw [ws_at (h := h') (by rw [hN]; exact hj)]
    by_cases e : k = j
    · subst e
      rw [List.getElem?_set_self (by simpa [wsOf] using hj)]
    · rw [List.getElem?_set_ne e, ws_at hj, ho j (fun q => e q.symm)]
  · have h1 : (wsOf X h').length ≤ j := by simp [wsOf]; omega
    have h2 : ((wsOf X h).set k (jA X k, cE X h' k)).length ≤ j := by simp [wsOf]; omega
    rw [List.getElem?_eq_none h1, List.getElem?_eq_none h2]
theorem Hd.D (hX : JXok X) (hd : Hd X h H) : va_D (jF X) (wsOf X h) := by
  obtain ⟨-, hB, -, -⟩ := hd
  refine ⟨fun i j p q hi hj e => ?_, fun k q hk => ?_⟩
  · obtain ⟨h1, rfl⟩ := ws_get hi
    obtain ⟨h2, rfl⟩ := ws_get hj
    exact hX.1.1 i j (by omega) (by omega) e
  · obtain ⟨h1, rfl⟩ := ws_get hk
    exact hX.1.2.1 k (by omega)
theorem Hd.lt (hd : Hd X h H) {a : Nat} {s : JS} (e : zS h a = some s) : a < zN h := (hd.2.2.1 a).mp (by rw [e]; rfl)
theorem Hd.A (hX : JXok X) (hd : Hd X h H) {a : Nat} (ha : a < zN h) : jF X (jA X a) := by
  exact hX.1.2.1 a (by have := hd.2.1; omega)
theorem Hd.upd (hX : JXok X) (hd : Hd X h H) {k : Nat} (hk : k < zN h) (hN : zN h' = zN h) (hs : ∀ j, (zS h' j).isSome = (zS h j).isSome) (ho : ∀ j, j ≠ k → cE X h' j = cE X h j) {H1 : Heap} (he : va_at (jD X) jcl (jA X k, cE X h' k) H1) (z : H1.size = H.size) (oq : ∀ q : Nat, q ≠ jA X k → H1[q]? = H[q]?) : Hd X h' H1 := by
  refine ⟨z.trans (hd.1.trans (by rw [hN])), hN ▸ hd.2.1, fun j => by rw [hs j, hN]; exact hd.2.2.1 j, ?_⟩
  have := hd.2.2.2.set (hd.D hX) (ws_at hk) he oq
  rwa [ws_set hN ho] at this
theorem Hd.at (hd : Hd X h H) {k : Nat} (hk : k < zN h) : va_at (jD X) jcl (jA X k, cE X h k) H := hd.2.2.2 k _ (ws_at hk)
end J1
/-- the arrays that the heap may hold -/
abbrev jty (X : JX) : List (ClassId × FieldType) := [(jC X .int, .int), (jC X .char, .char), (jC X .byte, .byte), (jC X yT, yT)]
/-! locals -/
def ld (ls : List (Option Value)) (i : Nat) : Option Value := match ls[i]? with
  | some (some v) => some v
  | _ => none
def LH (X : JX) (lsA : Array Slot) (mL : Nat) (ls : List (Option Value)) : Prop := lsA.size = mL ∧ ls.length = mL ∧ lv_wf lsA ∧ ∀ (i : Nat) (v : Value), ls[i]? = some (some v) → lsA[i]? = some (.val (trV X v))
def cat2 (o : Option (Option Value)) : Bool := match o with
  | some (some (.long _)) => true
  | some (some (.double _)) => true
  | _ => false
def st1 (ls : List (Option Value)) (i : Nat) (v : Value) : Option (List (Option Value)) := match i with
  | 0 => if 0 < ls.length then some (ls.set 0 (some v)) else none
  | j + 1 => if j + 1 < ls.length then (if cat2 ls[j]? then none else some (ls.set (j + 1) (some v))) else none
def st2 (ls : List (Option Value)) (i : Nat) (v : Value) : Option (List (Option Value)) := match i with
  | 0 => if 1 < ls.length then some ((ls.set 0 (some v)).set 1 none) else none
  | j + 1 => if j + 2 < ls.length then (if cat2 ls[j]? then none else some ((ls.set (j + 1) (some v)).set (j + 2) none)) else none
theorem trV_cat (X : JX) (v : Value) : (trV X v).category = v.category := by cases v <;> rfl
/-- the held locals, listed -/
def lsL (X : JX) (ls : List (Option Value)) : List (Nat × Value) := (List.range ls.length).filterMap fun i => match ls[i]? with
  | some (some v) => some (i, trV X v)
  | _ => none
theorem lsL_mem {X : JX} {ls : List (Option Value)} {i : Nat} {w : Value} : (i, w) ∈ lsL X ls ↔ ∃ v, ls[i]? = some (some v) ∧ w = trV X v := by
  unfold lsL
  rw [List.mem_filterMap]
  constructor
  · rintro ⟨j, hj, e⟩
    cases h : ls[j]? with
    | none => rw [h] at e; cases e
    | some o =>
      cases o with
      | none => rw [h] at e; cases e
      | some v =>
        rw [h] at e
        cases e
        exact ⟨v, h, rfl⟩
  · rintro ⟨v, h, rfl⟩
    refine ⟨i, ?_, by rw [h]⟩
    rw [List.mem_range]
    exact (List.getElem?_eq_some_iff.mp h).1
theorem LH.has {X : JX} {lsA : Array Slot} {mL : Nat} {ls : List (Option Value)} (h : LH X lsA mL ls) : lv_has lsA mL (lsL X ls) := by
  refine ⟨h.1, h.2.2.1, fun q hq => ?_⟩
  obtain ⟨i, w⟩ := q
  obtain ⟨v, h1, rfl⟩ := lsL_mem.mp hq
  exact h.2.2.2 i v h1
theorem ld_at {X : JX} {lsA : Array Slot} {mL : Nat} {ls : List (Option Value)} (h : LH X lsA mL ls) {i : Nat} {v : Value} (e : ld ls i = some v) : lsA[i]? = some (.val (trV X v)) := by
  unfold ld at e
  split at e
  · rename_i w hw
    cases e
    exact h.2.2.2 i _ hw
  · cases e
theorem cat2_of {X : JX} {ls : List (Option Value)} {j : Nat} {v : Value} (h : ls[j]? = some (some v)) (hc : (trV X v).category = 2) : cat2 ls[j]? = true := by
  rw [h]
  rw [trV_cat] at hc
  cases v <;> first | rfl | (simp [Value.category] at hc)
theorem lh_st1 {X : JX} {lsA : Array Slot} {mL : Nat} {ls ls' : List (Option Value)} (h : LH X lsA mL ls) {i : Nat} {v : Value} (e : st1 ls i v = some ls') :
    i < mL ∧ ∀ lsB : Array Slot, lv_has lsB mL ((i, trV X v) :: (lsL X ls).filter (fun q => !(q.1 == i) && !(q.1 + 1 == i && q.2.category == 2))) → LH X lsB mL ls' := by
  have key : i < ls.length ∧ ls' = ls.set i (some v) ∧ (∀ j, j + 1 = i → cat2 ls[j]? = false) := by
    unfold st1 at e
    cases i with
    | zero =>
      by_cases hl : 0 < ls.length
      · simp only [hl, if_true] at e
        cases e
        exact ⟨hl, rfl, fun j hj => by omega⟩
      · simp only [hl, if_false] at e
        cases e
    | succ i =>
      by_cases hl : i + 1 < ls.length
      · simp only [hl, if_true] at e
        by_cases hc : cat2 ls[i]? = true
        · simp only [hc, if_true] at e
          cases e
        · simp only [hc] at e
          cases e
          exact ⟨hl, rfl, fun j hj => by obtain rfl : j = i := by omega
                                         simpa using hc⟩
      · simp only [hl, if_false] at e
        cases e
  obtain ⟨h1, rfl, h3⟩ := key
  refine ⟨by rw [← h.2.1]; exact h1, fun lsB hB => ⟨hB.1, by rw [List.length_set]; exact h.2.1, hB.2.1, fun j w hj => ?_⟩⟩
  by_cases hji : j = i
  · subst hji
    rw [List.getElem?_set_self h1] at hj
    obtain rfl : v = w := by simpa using hj
    exact hB.2.2 (j, trV X v) List.mem_cons_self
  · rw [List.getElem?_set_ne (fun q => hji q.symm)] at hj
    refine hB.2.2 (j, trV X w) (List.mem_cons_of_mem _ (List.mem_filter.mpr ⟨lsL_mem.mpr ⟨w, hj, rfl⟩, ?_⟩))
    simp only [Bool.and_eq_true, Bool.not_eq_true', beq_eq_false_iff_ne, ne_eq, hji, not_false_eq_true, true_and, Bool.and_eq_false_iff]
    by_cases hq : j + 1 = i
    · right
      intro hc
      have := h3 j hq
      rw [cat2_of hj hc] at this
      cases this
    · exact Or.inl hq
theorem lh_st2 {X : JX} {lsA : Array Slot} {mL : Nat} {ls ls' : List (Option Value)} (h : LH X lsA mL ls) {i : Nat} {v : Value} (e : st2 ls i v = some ls') :
    i + 1 < mL ∧ ∀ lsB : Array Slot, lv_has lsB mL ((i, trV X v) :: (lsL X ls).filter (fun q => !(q.1 == i) && (!(q.1 == i + 1) && !(q.1 + 1 == i && q.2.category == 2)))) → LH X lsB mL ls' := by
  have key : i + 1 < ls.length ∧ ls' = (ls.set i (some v)).set (i + 1) none ∧ (∀ j, j + 1 = i → cat2 ls[j]? = false) := by
    unfold st2 at e
    cases i with
    | zero =>
      by_cases hl : 1 < ls.length
      · simp only [hl, if_true] at e
        cases e
        exact ⟨hl, rfl, fun j hj => by omega⟩
      · simp only [hl, if_false] at e
        cases e
    | succ i =>
      by_cases hl : i + 2 < ls.length
      · simp only [hl, if_true] at e
        by_cases hc : cat2 ls[i]? = true
        · simp only [hc, if_true] at e
          cases e
        · simp only [hc] at e
          cases e
          exact ⟨hl, rfl, fun j hj => by obtain rfl : j = i := by omega
                                         simpa using hc⟩
      · simp only [hl, if_false] at e
        cases e
  obtain ⟨h1, rfl, h3⟩ := key
  refine ⟨by rw [← h.2.1]; exact h1, fun lsB hB => ⟨hB.1, by rw [List.length_set, List.length_set]; exact h.2.1, hB.2.1, fun j w hj => ?_⟩⟩
  by_cases hj1 : j = i + 1
  · subst hj1
    rw [List.getElem?_set_self (by rw [List.length_set]; exact h1)] at hj
    cases hj
  · rw [List.getElem?_set_ne (fun q => hj1 q.symm)] at hj
    by_cases hji : j = i
    · subst hji
      rw [List.getElem?_set_self (by omega)] at hj
      obtain rfl : v = w := by simpa using hj
      exact hB.2.2 (j, trV X v) List.mem_cons_self
    · rw [List.getElem?_set_ne (fun q => hji q.symm)] at hj
      refine hB.2.2 (j, trV X w) (List.mem_cons_of_mem _ (List.mem_filter.mpr ⟨lsL_mem.mpr ⟨w, hj, rfl⟩, ?_⟩))
      simp only [Bool.and_eq_true, Bool.not_eq_true', beq_eq_false_iff_ne, ne_eq, hji, hj1, not_false_eq_true, true_and, Bool.and_eq_false_iff]
      by_cases hq : j + 1 = i
      · right
        intro hc
        have := h3 j hq
        rw [cat2_of hj hc] at this
        cases this
      · exact Or.inl hq
