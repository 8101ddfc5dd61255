/-! the numbers of a yard, read back out of a row: a yard's canonical numbers -/
section YCN
variable {K : Nat} {I : HI} {L : HL} {g σ : Nat → Nat} {G : Nat → Int32}
def canonG (G : Nat → Int32) : Nat → Nat := fun k => if k < 179 then (G k).toNatClampNeg else 0
theorem canon_k (V : GV G g) {k : Nat} (hk : k < 179) (hb : g k < 2 ^ 31) : canonG G k = g k := by
  unfold canonG
  rw [if_pos hk, V k hk, nI_clamp hb]
theorem YR.canon (H : YR K I L G g σ) : YC K I L (canonG G) σ := by
  obtain ⟨hK, V, ⟨⟨b0, b1, b2, b3, b4, b5, b6⟩, w1, w2, w3, w4, w5, w6, w7, w8⟩, cs, ct, cj, cc1, cc2, cc3⟩ := H
  have W : WG K g := ⟨⟨b0, b1, b2, b3, b4, b5, b6⟩, w1, w2, w3, w4, w5, w6, w7, w8⟩
  obtain ⟨g0, hg0⟩ : ∃ g0, g0 = canonG G := ⟨_, rfl⟩
  rw [← hg0]
  have key : ∀ k, k < 179 → g k < 2 ^ 31 → g0 k = g k := fun k hk hb => by rw [hg0]; exact canon_k V hk hb
  have e0 : g0 0 = g 0 := key 0 (by decide) (by omega)
  have e1 : g0 1 = g 1 := key 1 (by decide) (by omega)
  have e2 : g0 2 = g 2 := key 2 (by decide) (by omega)
  have e3 : g0 3 = g 3 := key 3 (by decide) (by omega)
  have e4 : g0 4 = g 4 := key 4 (by decide) (by omega)
  have e5 : g0 5 = g 5 := key 5 (by decide) (by omega)
  have e6 : g0 6 = g 6 := key 6 (by decide) (by omega)
  have t7 : ∀ t, t < 8 → g0 (7 + t) = g (7 + t) := fun t ht => key _ (by omega) (by have := w1 t ht; omega)
  have t15 : ∀ t, t < 8 → g0 (15 + t) = g (15 + t) := fun t ht => key _ (by omega) (by have := w1 t ht; omega)
  have t23 : ∀ t, t < 8 → g0 (23 + t) = g (23 + t) := fun t ht => key _ (by omega) (by have := w3 t ht; omega)
  have t31 : ∀ t, t < 8 → g0 (31 + t) = g (31 + t) := fun t ht => key _ (by omega) (by have := W.h20 ht; omega)
  have s39 : ∀ s, s < g 1 → g0 (39 + s) = g (39 + s) := fun s hs => key _ (by omega) (by have := w6 s hs; omega)
  have s59 : ∀ s, s < g 1 → g0 (59 + s) = g (59 + s) := fun s hs => key _ (by omega) (by have := w6 s hs; omega)
  have s79 : ∀ s, s < g 1 → g0 (79 + s) = g (79 + s) := fun s hs => key _ (by omega) (by have := w6 s hs; omega)
  have s99 : ∀ s, s < g 1 → g0 (99 + s) = g (99 + s) := fun s hs => key _ (by omega) (by have := w6 s hs; omega)
  have s119 : ∀ s, s < g 1 → g0 (119 + s) = g (119 + s) := fun s hs => key _ (by omega) (by have := w6 s hs; omega)
  have s139 : ∀ s, s < g 1 → g0 (139 + s) = g (139 + s) := fun s hs => key _ (by omega) (by have := w6 s hs; omega)
  have tr : ∀ s, s < g 1 → g (139 + s) < 8 := fun s hs => by have := w6 s hs; omega
  have s159 : ∀ s, s < g 1 → g0 (159 + s) = g (159 + s) := fun s hs => key _ (by omega) (by have := w6 s hs; have := W.h20 (tr s hs); omega)
  have us : ∀ t, usN g0 t = usN g t := fun t => by
    unfold usN
    rw [e1]
    exact sN_congr fun s hs => by rw [s139 s hs, s59 s hs]
  have lk : ∀ i j, i < 8 → (lkN g0 i j ↔ lkN g i j) := fun i j hi => by unfold lkN; rw [t23 i hi]
  have lc : lkc g0 = lkc g := by
    unfold lkc
    rw [e0]
    refine sN_congr fun i hi => sN_congr fun j hj => ?_
    rw [t23 i (by omega)]
  refine ⟨hK, ⟨⟨by rw [e0]; exact b0, by rw [e1]; exact b1, by rw [e2]; exact b2, by rw [e3]; exact b3, by rw [e4]; exact b4, by rw [e5]; exact b5, by rw [e6]; exact b6⟩, ?_, ?_, ?_, ?_, ?_, ?_, ?_, ?_⟩, ?_, ?_, ?_, ?_, ?_, ?_⟩
  · intro t ht
    rw [t7 t ht, t15 t ht]
    exact w1 t ht
  · intro t ht
    rw [e0] at ht
    rw [t7 t (by omega), us]
    exact w2 t ht
  · intro i hi
    rw [t23 i hi]
    exact w3 i hi
  · intro i j hi hj h
    rw [e0, lk j i hj]
    exact w4 i j hi hj ((lk i j hi).mp h)
  · rw [e1, ← w5]
    exact sN_congr fun t ht => t31 t ht
  · intro s hs
    rw [e1] at hs
    rw [s39 s hs, s59 s hs, s79 s hs, s99 s hs, s119 s hs, s139 s hs, s159 s hs, e2, e0, t31 _ (tr s hs)]
    exact w6 s hs
  · intro s s' h1 h2
    rw [e1] at h2
    rw [s39 s (by omega), s39 s' h2, s139 s (by omega), s139 s' h2, s159 s (by omega), s159 s' h2]
    exact w7 s s' h1 h2
  · intro t p ht hp
    rw [t31 t ht] at hp
    obtain ⟨s, h1, h2, h3⟩ := w8 t p ht hp
    exact ⟨s, by rw [e1]; exact h1, by rw [s139 s h1]; exact h2, by rw [s159 s h1]; exact h3⟩
  · obtain ⟨c0, c1, c2, c3, c4, c5, c6, c7⟩ := cs
    exact ⟨by rw [e0]; exact c0, by rw [e1]; exact c1, by rw [e2]; exact c2, by rw [e3]; exact c3, by rw [e4]; exact c4, by rw [e5]; exact c5, by rw [e6]; exact c6, by rw [lc]; exact c7⟩
  · intro t ht
    rw [t7 t ht, t15 t ht, t31 t ht, us]
    exact ct t ht
  · intro i j hi hj
    rw [t23 i hi]
    exact cj i j hi hj
  · intro s hs
    rw [e1] at hs
    rw [s39 s hs, s59 s hs, s79 s hs, s99 s hs, s119 s hs, s139 s hs, s159 s hs]
    exact cc1 s hs
  · intro s s' h1 h2
    rw [e1] at h2
    exact cc2 s s' h1 h2
  · intro u hu hs
    rw [e1] at hs
    exact cc3 u hu hs
end YCN
