/-! a builder anywhere in the heap: its cells are 394 and 395 in another numbering -/
def swq (n : Nat) : Nat → Nat := fun k => if k = 394 then n else if k = 395 then n + 1 else if k = n then 394 else if k = n + 1 then 395 else k
section BLW
variable {X : JX} {d n v cap i k : Nat} {h h0 : MH} {w : List Int32}
theorem swq_p (hn : 396 ≤ n) : IsP (swq n) (n + 2) := by
  refine ⟨fun k => ?_, fun k hk => ?_⟩
  · unfold swq
    (repeat' split) <;> omega
  · unfold swq
    (repeat' split) <;> omega
theorem swq_n (hn : 396 ≤ n) : swq n n = 394 := by
  unfold swq
  (repeat' split) <;> omega
/-- where the builder began -/
def pfB (n : Nat) (h0 : MH) : PF := (n + 2, fun k => (zS h0 (swq n k)).map (piS (swq n)), fun k => zI h0 (swq n k))
/-- the builder n bears the text w; all else is as in h0 -/
def BL (h0 : MH) (w : List Int32) (cap n v : Nat) (h : MH) : Prop := ∃ T, zS (piH (swq n) h) = SB v T ∧ (zL h = zL h0 ∧ zD h = zD h0) ∧ LnB (pfB n h0) w cap (zN h) v T (zI (piH (swq n) h)) (zL (piH (swq n) h)) (zD (piH (swq n) h))
theorem BL.call {mc ms : Nat} {q : JD} {a : Value} {P' : JR → Prop} (hX : JXok X) (hM : jM X ≤ n + 2) (hn : 396 ≤ n) (hB : zN h < BIG) (hl : BL h0 w cap n v h) (ha : nref a ∨ ∃ k, a = .ref (jsh0 + k))
    (hc : ∀ X' T I L D, JXok X' → LnB (pfB n h0) w cap (zN h) v T I L D → MT X' d mc ms q [.ref 394, a] (zN h, SB v T, I, L, D) (fun R => ∃ N' v' T' I' w' cap', R = .inl (some (.ref 394), (N', SB v' T', I', L, D)) ∧ LnB (pfB n h0) w' cap' N' v' T' I' L D ∧ zN h ≤ N' ∧ (∀ h', N' = zN h' → BL h0 w' cap' n v' h' → P' (.inl (some (.ref n), h'))))) : MT X d mc ms q [.ref n, a] h P' := by
  have hp := swq_p hn
  obtain ⟨T, e, eL, ln⟩ := hl
  have hN : n + 2 ≤ zN h := ln.2.2.1.2.2
  refine MT.p hp hM (by omega) hN ?_
  have ea : ([.ref n, a] : List Value).map (piV (swq n)) = [.ref 394, a] := by
    show [Value.ref (swq n n), piV (swq n) a] = _
    rw [swq_n hn]
    rcases ha with ha | ⟨k, rfl⟩
    · rw [ha]
    · show [_, Value.ref (swq n (jsh0 + k))] = _
      rw [hp.2 _ (by show n + 2 ≤ BIG + 36 + k; omega)]
  have eh : piH (swq n) h = (zN h, SB v T, zI (piH (swq n) h), zL (piH (swq n) h), zD (piH (swq n) h)) := by
    rw [← e]
    rfl
  rw [ea, eh]
  refine (hc (piX (swq n) X (n + 2)) T _ _ _ (hX.p hp hM (by omega)) ln).mono fun R hR => ?_
  obtain ⟨N', v', T', I', w', cap', e9, ln', hN', g⟩ := hR
  rw [e9]
  show P' (.inl (some (.ref (swq n 394)), _))
  rw [show swq n 394 = n from if_pos rfl]
  refine g _ rfl ⟨T', ?_, ⟨?_, ?_⟩, ?_⟩
  · rw [piH_piH hp]
  · rw [← eL.1]
    funext k
    show zL h (swq n (swq n k)) = _
    rw [hp.1]
  · rw [← eL.2]
    funext k
    show zD h (swq n (swq n k)) = _
    rw [hp.1]
  · rw [piH_piH hp]
    exact ln'
/-- a new builder -/
theorem BL.start {S : Nat → Option JS} {I : HI} {L : HL} {D : HD} (hn : 396 ≤ n) (hz : Z0 n I L D) : BL (n + 2, ovl S n [.inr (8, [.inl (.ref (n + 1)), .inr false, .inr false, .inr false]), .inl (.byte, 16)], up2 I n 1 0, L, D) [] 16 n 395 (n + 2, ovl S n [.inr (8, [.inl (.ref (n + 1)), .inr false, .inr false, .inr false]), .inl (.byte, 16)], up2 I n 1 0, L, D) := by
  have hp := swq_p hn
  obtain ⟨h1, eh1⟩ : ∃ h1 : MH, h1 = (n + 2, ovl S n [.inr (8, [.inl (.ref (n + 1)), .inr false, .inr false, .inr false]), .inl (.byte, 16)], up2 I n 1 0, L, D) := ⟨_, rfl⟩
  have z1 : ∀ a, n ≤ a → ∀ j, zI h1 a j = 0 ∧ zL h1 a j = 0 ∧ zD h1 a j = 0 := fun a ha j => by
    rw [eh1]
    refine ⟨?_, (hz a ha j).2⟩
    show up2 I n 1 0 a j = 0
    unfold up2
    split
    · split
      · rfl
      · exact (hz a ha j).1
    · exact (hz a ha j).1
  have sn : zS h1 n = some (.inr (8, [.inl (.ref (n + 1)), .inr false, .inr false, .inr false])) := by rw [eh1]; exact ovl_b
  have sn1 : zS h1 (n + 1) = some (.inl (.byte, 16)) := by rw [eh1]; exact ovl_at 1 rfl
  have e4 : swq n 394 = n := if_pos rfl
  have e5 : swq n 395 = n + 1 := by
    unfold swq
    rw [if_neg (by decide), if_pos rfl]
  have p5 : swq n (n + 1) = 395 := by rw [← e5, hp.1]
  have n1 : zN h1 = n + 2 := by rw [eh1]
  rw [← eh1]
  refine ⟨fun k => (zS h1 (swq n k)).map (piS (swq n)), ?_, ⟨rfl, rfl⟩, ?_, Or.inl rfl, ⟨by rw [n1]; omega, by show 396 ≤ n + 2; omega, by rw [n1]; exact Nat.le_refl _⟩, by rw [n1]; omega, ?_, ?_, ⟨Nat.zero_le _, by omega, by omega⟩, fun i hi => absurd hi (by show ¬ i < 0; omega), fun j hj => ?_, fun a ha j => ?_, fun a h1 h2 => ⟨rfl, rfl⟩⟩
  · funext k
    show (zS h1 (swq n k)).map (piS (swq n)) = SB 395 _ k
    unfold SB
    by_cases c1 : k = 394
    · subst c1
      rw [if_pos rfl, e4, sn]
      show some (.inr (8, [.inl (.ref (swq n (n + 1))), .inr false, .inr false, .inr false])) = some (sbS 395)
      rw [p5]
    · rw [if_neg c1]
      by_cases c2 : k = 395
      · subst c2
        rw [if_pos rfl, e5, sn1]
        rfl
      · rw [if_neg c2]
  · show SB 395 _ 395 = _
    unfold SB
    rw [if_neg (by decide), if_pos rfl]
  · show zI h1 (swq n 394) 3 = nI 0
    rw [e4, (z1 n (Nat.le_refl _) 3).1]
    rfl
  · show zI h1 (swq n 394) 1 = 0
    rw [e4]
    exact (z1 n (Nat.le_refl _) 1).1
  · show fits .byte (.int (zI h1 (swq n 395) j)) = true
    rw [e5, (z1 (n + 1) (by omega) j).1]
    decide
  · have ha : zN h1 ≤ a := ha
    show zI h1 (swq n a) j = 0 ∧ zL h1 (swq n a) j = 0 ∧ zD h1 (swq n a) j = 0
    rw [hp.2 a (by omega)]
    exact z1 a (by omega) j
/-- at the end: the cells before the builder are as they were -/
theorem BL.old (hn : 396 ≤ n) (hl : BL h0 w cap n v h) {a : Nat} (ha : a < n) : zS h a = zS h0 a ∧ zI h a = zI h0 a ∧ zL h a = zL h0 a ∧ zD h a = zD h0 a := by
  have hp := swq_p hn
  obtain ⟨T, e, eL, ln⟩ := hl
  have hk : (swq n a ≠ 394 ∧ swq n a ≠ 395) ∧ swq n a < n + 2 := by
    unfold swq
    (repeat' split) <;> omega
  have q := ln.2.2.2.2.2.2.2.2.2.2 (swq n a) hk.1 hk.2
  have qS : T (swq n a) = (zS h0 (swq n (swq n a))).map (piS (swq n)) := q.1
  have qI : zI h (swq n (swq n a)) = zI h0 (swq n (swq n a)) := q.2
  rw [hp.1] at qS qI
  have e1 : (zS h (swq n (swq n a))).map (piS (swq n)) = SB v T (swq n a) := congrFun e (swq n a)
  rw [hp.1, SB_hi hk.1.1 hk.1.2, qS] at e1
  have inj : ∀ o : Option JS, (o.map (piS (swq n))).map (piS (swq n)) = o := fun o => by
    rw [Option.map_map, show (piS (swq n) ∘ piS (swq n)) = id from funext fun s => piS_piS hp s, Option.map_id, id]
  have e2 := congrArg (fun o : Option JS => o.map (piS (swq n))) e1
  rw [inj, inj] at e2
  exact ⟨e2, qI, by rw [eL.1], by rw [eL.2]⟩
/-- the builder, seen from the heap -/
theorem BL.bu (hn : 396 ≤ n) (hl : BL h0 w cap n v h) : BU n (swq n v) cap w h ∧ Z0 (zN h) (zI h) (zL h) (zD h) ∧ n + 2 ≤ zN h := by
  have hp := swq_p hn
  obtain ⟨T, e, eL, ln⟩ := hl
  obtain ⟨l1, l2, l3, l4, l5, l6, l7, l8, l9, l10, l11⟩ := ln
  have hN : n + 2 ≤ zN h := l3.2.2
  have e4 : swq n 394 = n := if_pos rfl
  have e1 : (zS h (swq n 394)).map (piS (swq n)) = SB v T 394 := congrFun e 394
  have e2 : (zS h (swq n v)).map (piS (swq n)) = SB v T v := congrFun e v
  rw [e4] at e1
  rw [l1] at e2
  have inj : ∀ o : Option JS, (o.map (piS (swq n))).map (piS (swq n)) = o := fun o => by
    rw [Option.map_map, show (piS (swq n) ∘ piS (swq n)) = id from funext fun s => piS_piS hp s, Option.map_id, id]
  have s1 : zS h n = some (.inr (8, [.inl (.ref (swq n v)), .inr false, .inr false, .inr false])) := by
    rw [← inj (zS h n), e1]
    rfl
  have s2 : zS h (swq n v) = some (.inl (.byte, cap)) := by
    rw [← inj (zS h (swq n v)), e2]
    rfl
  have i3 : zI h (swq n 394) 3 = nI w.length := l5
  have i1 : zI h (swq n 394) 1 = 0 := l6
  rw [e4] at i3 i1
  refine ⟨⟨s1, s2, i3, i1, ⟨l7.1, l7.2.2⟩, l8, l9, by omega, hp.ltB hN l3.1⟩, fun a ha j => ?_, hN⟩
  have q : zI h (swq n a) j = 0 ∧ zL h (swq n a) j = 0 ∧ zD h (swq n a) j = 0 := l10 a ha j
  rw [hp.2 a (by omega)] at q
  exact q
end BLW
