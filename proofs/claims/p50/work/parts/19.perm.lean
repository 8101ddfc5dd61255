/-! another numbering of the same cells: a permutation that fixes all from m on and is its own inverse -/
def piV (π : Nat → Nat) : Value → Value
  | .ref k => .ref (π k)
  | v => v
def piF (π : Nat → Nat) : Value ⊕ Bool → Value ⊕ Bool
  | .inl v => .inl (piV π v)
  | .inr b => .inr b
def piS (π : Nat → Nat) : JS → JS
  | .inl a => .inl a
  | .inr (ci, fs) => .inr (ci, fs.map (piF π))
def piH (π : Nat → Nat) (h : MH) : MH := (zN h, fun k => (zS h (π k)).map (piS π), fun k => zI h (π k), fun k => zL h (π k), fun k => zD h (π k))
def piX (π : Nat → Nat) (X : JX) (m : Nat) : JX := (X.1, jD X, jC X, jN X, fun k => jA X (π k), jSn X, jSf X, m)
def piR (π : Nat → Nat) : JR → JR
  | .inl (v, h) => .inl (v.map (piV π), piH π h)
  | .inr (E, h) => .inr (E, piH π h)
def IsP (π : Nat → Nat) (m : Nat) : Prop := (∀ k, π (π k) = k) ∧ ∀ k, m ≤ k → π k = k
section PERM
variable {X : JX} {π : Nat → Nat} {m : Nat} {h : MH} {H : Heap}
theorem IsP.lt (hp : IsP π m) {k : Nat} (hk : k < m) : π k < m := by
  by_cases c : π k < m
  · exact c
  · have e := hp.2 (π k) (by omega)
    rw [hp.1 k] at e
    omega
theorem IsP.inj (hp : IsP π m) {a b : Nat} (e : π a = π b) : a = b := by
  have := congrArg π e
  rwa [hp.1, hp.1] at this
theorem IsP.ltN (hp : IsP π m) {n : Nat} (hn : m ≤ n) (k : Nat) : π k < n ↔ k < n := by
  by_cases c : k < m
  · have := hp.lt c
    omega
  · rw [hp.2 k (by omega)]
theorem IsP.ltB (hp : IsP π m) {n : Nat} (hn : m ≤ n) {k : Nat} (hk : k < n) : π k < n := (hp.ltN hn k).mpr hk
theorem piV_piV (hp : IsP π m) (v : Value) : piV π (piV π v) = v := by
  cases v <;> first | rfl | (show Value.ref (π (π _)) = _; rw [hp.1])
theorem piF_piF (hp : IsP π m) (f : Value ⊕ Bool) : piF π (piF π f) = f := by
  rcases f with v | b
  · show Sum.inl (piV π (piV π v)) = _
    rw [piV_piV hp]
  · rfl
theorem piS_piS (hp : IsP π m) (s : JS) : piS π (piS π s) = s := by
  rcases s with a | ⟨ci, fs⟩
  · rfl
  · show Sum.inr (ci, (fs.map (piF π)).map (piF π)) = _
    rw [List.map_map, show (piF π ∘ piF π) = id from funext fun f => piF_piF hp f, List.map_id]
theorem piH_piH (hp : IsP π m) (h : MH) : piH π (piH π h) = h := by
  obtain ⟨N, S, I, L, D⟩ := h
  have e : (fun k => (((S (π (π k))).map (piS π)).map (piS π))) = S := funext fun k => by
    rw [hp.1, Option.map_map, show (piS π ∘ piS π) = id from funext fun s => piS_piS hp s, Option.map_id, id]
  show (N, (fun k => (((S (π (π k))).map (piS π)).map (piS π))), (fun k => I (π (π k))), (fun k => L (π (π k))), (fun k => D (π (π k)))) = _
  rw [e, show (fun k => I (π (π k))) = I from funext fun k => by rw [hp.1], show (fun k => L (π (π k))) = L from funext fun k => by rw [hp.1], show (fun k => D (π (π k))) = D from funext fun k => by rw [hp.1]]
theorem trV_piX (v : Value) : trV (piX π X m) v = trV X (piV π v) := by cases v <;> rfl
theorem trV_p (hp : IsP π m) (v : Value) : trV (piX π X m) (piV π v) = trV X v := by rw [trV_piX, piV_piV hp]
theorem fE_p (hp : IsP π m) (k j : Nat) (f : Value ⊕ Bool) : fE (piX π X m) (piH π h) k j (piF π f) = fE X h (π k) j f := by
  rcases f with v | b
  · exact trV_p hp v
  · cases b <;> rfl
theorem rA_p (hp : IsP π m) (fs : List (Value ⊕ Bool)) : rA (piX π X m) (fs.map (piF π)) = rA X fs := by
  funext j
  unfold rA
  rw [List.getElem?_map]
  cases hj : fs[j]? with
  | none => rfl
  | some f =>
    rcases f with v | b
    · cases v <;> first | rfl | (show some (jA X (π (π _))) = _; rw [hp.1])
    · rfl
theorem cE_p (hp : IsP π m) (k : Nat) : cE (piX π X m) (piH π h) k = cE X h (π k) := by
  unfold cE
  show (match (zS h (π k)).map (piS π) with
    | some (.inl (ty, n)) => (.inl (jC X ty, cA (piH π h) k ty n) : va_E)
    | some (.inr (ci, fs)) => if ci = 999 then .inl (jC X yT, fs.length, .inr (.inr (.inr (.inr (rA (piX π X m) fs))))) else .inr (ci, fs.mapIdx (fE (piX π X m) (piH π h) k))
    | none => .inr (0, [])) = _
  cases hs : zS h (π k) with
  | none => rfl
  | some s =>
    rcases s with ⟨ty, n⟩ | ⟨ci, fs⟩
    · show Sum.inl (jC X ty, cA (piH π h) k ty n) = Sum.inl (jC X ty, cA h (π k) ty n)
      cases ty <;> rfl
    · show (if ci = 999 then Sum.inl (jC X yT, (fs.map (piF π)).length, _) else Sum.inr (ci, (fs.map (piF π)).mapIdx _)) = (if ci = 999 then _ else _)
      have e : (fs.map (piF π)).mapIdx (fE (piX π X m) (piH π h) k) = fs.mapIdx (fE X h (π k)) := by
        apply List.ext_getElem?
        intro i
        rw [List.getElem?_mapIdx, List.getElem?_mapIdx, List.getElem?_map]
        cases fs[i]? with
        | none => rfl
        | some f => exact congrArg some (fE_p hp k i f)
      rw [rA_p hp, List.length_map, e]
theorem Hd.p (hp : IsP π m) (hm : m ≤ zN h) (hd : Hd X h H) : Hd (piX π X m) (piH π h) H := by
  refine ⟨hd.1, ⟨hd.2.1.1, hm⟩, fun k => ?_, fun k q hk => ?_⟩
  · show ((zS h (π k)).map (piS π)).isSome = true ↔ k < zN h
    rw [Option.isSome_map, hd.2.2.1, hp.ltN hm]
  · obtain ⟨h1, rfl⟩ := ws_get hk
    have h2 : π k < zN h := hp.ltB hm h1
    have e : (jA (piX π X m) k, cE (piX π X m) (piH π h) k) = (jA X (π k), cE X h (π k)) := by rw [cE_p hp]; rfl
    rw [e]
    exact hd.at h2
theorem Hd.q (hp : IsP π m) (hm : jM X ≤ m) (hd : Hd (piX π X m) h H) : Hd X (piH π h) H := by
  have hN : m ≤ zN h := hd.2.1.2
  have e := Hd.p (m := m) hp hN hd
  refine ⟨e.1, ⟨e.2.1.1, Nat.le_trans hm hN⟩, e.2.2.1, ?_⟩
  have e4 := e.2.2.2
  have ew : wsOf (piX π (piX π X m) m) (piH π h) = wsOf X (piH π h) := by
    unfold wsOf
    refine List.map_congr_left fun k _ => ?_
    have e1 : jA (piX π (piX π X m) m) k = jA X k := by show jA X (π (π k)) = _; rw [hp.1]
    have e2 : cE (piX π (piX π X m) m) (piH π h) k = cE X (piH π h) k := by
      have e3 : ∀ v, trV (piX π (piX π X m) m) v = trV X v := fun v => by cases v <;> first | rfl | (show Value.ref (jA X (π (π _))) = _; rw [hp.1]; rfl)
      have e5 : fE (piX π (piX π X m) m) (piH π h) k = fE X (piH π h) k := by
        funext j f
        rcases f with v | b
        · exact e3 v
        · cases b <;> rfl
      have e6 : rA (piX π (piX π X m) m) = rA X := by
        funext fs j
        unfold rA
        have e7 : ∀ k, jA (piX π (piX π X m) m) k = jA X k := fun k => by show jA X (π (π k)) = _; rw [hp.1]
        simp only [e7]
      unfold cE
      rw [e5, e6]
      rfl
    rw [e1, e2]
  rw [ew] at e4
  exact e4
theorem JXok.p (hp : IsP π m) (hm : jM X ≤ m) (hB : m ≤ BIG) (hX : JXok X) : JXok (piX π X m) := by
  refine ⟨⟨fun a b ha hb e => ?_, fun k hk => hX.1.2.1 (π k) (hp.ltB hB hk), fun k h1 h2 => ?_⟩, hX.2⟩
  · exact hp.inj (hX.1.1 (π a) (π b) (hp.ltB hB ha) (hp.ltB hB hb) e)
  · have h1 : m ≤ k := h1
    show jA X (π k) = jN X + k
    rw [hp.2 k h1]
    exact hX.1.2.2 k (by omega) h2
theorem pA (hp : IsP π m) (hB : m ≤ BIG) {k : Nat} (hk : BIG ≤ k) : jA (piX π X m) k = jA X k := by
  show jA X (π k) = _
  rw [hp.2 k (Nat.le_trans hB hk)]
theorem KS.p (hp : IsP π m) (hB : m ≤ BIG) {U : State} : KS (piX π X m) U H ↔ KS X U H := by
  have e1 : ∀ i, jA (piX π X m) (BIG + i) = jA X (BIG + i) := fun i => pA hp hB (Nat.le_add_right _ _)
  have e2 : (fun i => jA (piX π X m) (jsh0 + i)) = fun i => jA X (jsh0 + i) := funext fun i => pA hp hB (by show BIG ≤ BIG + 36 + i; omega)
  have e3 : (fun i => jA (piX π X m) (BIG + 100 + i)) = fun i => jA X (BIG + 100 + i) := funext fun i => pA hp hB (by omega)
  unfold KS
  rw [e2, e3]
  simp only [e1]
  exact Iff.rfl
theorem KK.p (hp : IsP π m) (hB : m ≤ BIG) {U : State} : KK (piX π X m) U ↔ KK X U := by
  unfold KK
  rw [KS.p hp hB]
  exact Iff.rfl
/-- a method's contract in the other numbering is one in this -/
theorem MT.p {d mc ms : Nat} {q : JD} {av : List Value} {Q : JR → Prop} (hp : IsP π m) (hm : jM X ≤ m) (hB : m ≤ BIG) (hN : m ≤ zN h) (hM : MT (piX π X m) d mc ms q (av.map (piV π)) (piH π h) (fun R => Q (piR π R))) : MT X d mc ms q av h Q := by
  intro p e h1 h2 h3 s m0 args below h4 h5 h6 h7
  have ea : (av.map (piV π)).map (trV (piX π X m)) = av.map (trV X) := by
    rw [List.map_map]
    exact List.map_congr_left fun v _ => trV_p hp v
  obtain ⟨n, o, a1, a2, a3, a4⟩ := hM p e h1 h2 h3 s m0 args below h4 h5 ⟨h6.1.trans (by rw [ea]), h6.2.1.p hp hN, (KK.p hp hB).mpr h6.2.2⟩ h7
  refine ⟨n, o, a1, a2, a3, ?_⟩
  rcases a4 with ⟨⟨⟨v, h', e1, e2, e3⟩, e4⟩, e5⟩ | ⟨z, e1, E, ce, L, ⟨⟨h', e2, e3⟩, e4⟩, e5⟩
  · refine Or.inl ⟨⟨⟨v.map (piV π), piH π h', ?_, e2, e3.q hp hm⟩, e4⟩, e5⟩
    rw [e1]
    cases v with
    | none => rfl
    | some v => exact congrArg (fun z => Outcome.returned (some z)) (trV_piX v)
  · exact Or.inr ⟨z, e1, E, ce, L, ⟨⟨piH π h', e2, e3.q hp hm⟩, e4⟩, e5⟩
end PERM
