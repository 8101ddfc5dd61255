/-! links, distances, the last cars of a track: class and model -/
section YWA
variable {K : Nat} {I J : HI} {L : HL} {G : Nat → Int32} {g σ : Nat → Nat}
theorem lk_dec : ∀ v, v < 256 → ∀ b, b < 8 → ((nI v >>> (nI b &&& 31)) &&& 1 = 1 ↔ v.testBit b = true) := by decide +kernel
theorem lkM_g (W : WG K g) (H : GV (I 397) g) {a b : Nat} (ha : a < 8) (hb : b < 8) : lkM I a b ↔ lkN g a b := by
  rw [lkM, H _ (by omega)]
  exact lk_dec _ (W.2.2.2.1 a ha) b hb
def adN (g : Nat → Nat) (i j : Nat) : Prop := i < 8 ∧ j < 8 ∧ lkN g i j
theorem adN_z (W : WG K g) : ∀ i j, adN g i j → i < g 0 ∧ j < g 0 := fun i j ⟨a, b, c⟩ => (W.2.2.2.2.1 i j a b c).1
theorem adN_s (W : WG K g) : ∀ i j, adN g i j → adN g j i := fun i j ⟨a, b, c⟩ => ⟨b, a, (W.2.2.2.2.1 i j a b c).2.2⟩
theorem adN_i (W : WG K g) : ∀ i, ¬ adN g i i := fun i ⟨a, b, c⟩ => (W.2.2.2.2.1 i i a b c).2.1 rfl
/-- the number of connections of a shortest route, 1000 without one -/
noncomputable def dsN (g : Nat → Nat) (i j : Nat) : Nat := @dite Nat (∃ x, isD (adN g) 1000 j i x) (Classical.propDecidable _) (fun h => Classical.choose h) (fun _ => 0)
theorem dsN_spec {i j : Nat} (h : ∃ x, isD (adN g) 1000 j i x) : isD (adN g) 1000 j i (dsN g i j) := by
  unfold dsN
  rw [dif_pos h]
  exact Classical.choose_spec h
theorem cj_l (H : CRj I g) (W : WG K g) : ∀ i k, i < g 0 → k < g 0 → (I 8 (i * 8 + k) = 1 ↔ adN g i k) := fun i k hi hk => by
  have hz := W.1.1
  rw [H i k (by omega) (by omega)]
  by_cases c : (g (23 + i)).testBit k = true
  · rw [if_pos c]
    exact ⟨fun _ => ⟨by omega, by omega, c⟩, fun _ => rfl⟩
  · rw [if_neg c]
    exact ⟨fun e => absurd e (by decide), fun e => absurd e.2.2 c⟩
theorem mj_l (W : WG K g) (H : GV (I 397) g) : ∀ i k, i < g 0 → k < g 0 → (lkM I i k ↔ adN g i k) := fun i k hi hk => by
  have hz := W.1.1
  rw [lkM_g W H (by omega) (by omega)]
  exact ⟨fun e => ⟨by omega, by omega, e⟩, fun e => e.2.2⟩
theorem bfs_d (H : CRj I g) (W : WG K g) {i j : Nat} (hi : i < g 0) (hj : j < g 0) : bfsI I (g 0) j 10 i = nI (dsN g i j) ∧ isD (adN g) 1000 j i (dsN g i j) := by
  obtain ⟨x, h1, h2⟩ := (bfs_spec (cj_l H W) (adN_s W) (adN_z W) W.1.1 hj).2 i hi
  have h3 := dsN_spec (g := g) ⟨x, h2⟩
  refine ⟨?_, h3⟩
  rw [h1]
  congr 1
  rcases isD_two h3 h2 with ⟨a, b⟩ | ⟨a, b⟩ <;> omega
theorem steps_d (H : CRj I g) (W : WG K g) {i j : Nat} (hi : i < g 0) (hj : j < g 0) : stepsF I (g 0) i j = nI (dsN g i j) := (bfs_d H W hi hj).1
theorem ds_isD (H : CRj I g) (W : WG K g) {i j : Nat} (hi : i < g 0) (hj : j < g 0) : isD (adN g) 1000 j i (dsN g i j) := (bfs_d H W hi hj).2
theorem mat_d (H : CRj I g) (W : WG K g) {i j : Nat} (hi : i < g 0) (hj : j < g 0) : matI I (g 0) 14 (i * 8 + j) = nI (dsN g i j) := by
  obtain ⟨x, h1, h2⟩ := (mat_spec (cj_l H W) (adN_i W) (adN_z W) W.1.1).2 i j hi hj
  rw [h1]
  congr 1
  rcases isD_two (ds_isD H W hi hj) h2 with ⟨a, b⟩ | ⟨a, b⟩ <;> omega
/-- the model's distance: 100 without a route -/
noncomputable def dmN (g : Nat → Nat) (i j : Nat) : Nat := if dsN g i j = 1000 then 100 else dsN g i j
theorem isD_1000 {ad : Nat → Nat → Prop} {t i x : Nat} (h : isD ad 1000 t i x) : x = 1000 ∨ x < 8 := by
  rcases h with ⟨a, -⟩ | ⟨a, -⟩
  · exact Or.inl a
  · exact Or.inr a
theorem ex_d {i j : Nat} (W : WG K g) (H : GV (I 397) g) (hD : isD (adN g) 1000 j i (dsN g i j)) (hi : i < g 0) (hj : j < g 0) : exM I (g 0) j 403 i = nI (dmN g i j) := by
  obtain ⟨x, h1, h2⟩ := ex_spec (mj_l W H) (adN_z W) W.1.1 hj hi
  rw [h1]
  congr 1
  unfold dmN
  rcases isD_two hD h2 with ⟨a, b⟩ | ⟨a, b⟩
  · rw [if_pos a]; exact b
  · rw [if_neg (by omega)]; exact b
/-- the sum over the last q cars of a track -/
noncomputable def lastN (g : Nat → Nat) (x q off : Nat) : Nat := sN (fun k => g (off + atS g x (g (31 + x) - 1 - k))) q
theorem last_re (W : WG K g) {x q off : Nat} (hx : x < 8) (hq : q ≤ g (31 + x)) : sN (fun s => if g (139 + s) = x ∧ g (31 + x) - 1 - g (159 + s) < q then g (off + s) else 0) (g 1) = lastN g x q off := by
  have sp : ∀ k, k < q → atS g x (g (31 + x) - 1 - k) < g 1 ∧ g (139 + atS g x (g (31 + x) - 1 - k)) = x ∧ g (159 + atS g x (g (31 + x) - 1 - k)) = g (31 + x) - 1 - k := fun k hk => atS_spec W hx (by omega)
  refine sN_re (σ := fun k => atS g x (g (31 + x) - 1 - k)) _ (fun k hk => ?_) (fun k k' hkk hk e => ?_) (fun u hu hn => ?_)
  · obtain ⟨a, b, c⟩ := sp k hk
    refine ⟨a, ?_⟩
    try simp only
    rw [if_pos ⟨b, by omega⟩]
  · have a := (sp k (by omega)).2.2
    have b := (sp k' hk).2.2
    try simp only at e
    rw [e] at a
    omega
  · by_cases c : g (139 + u) = x ∧ g (31 + x) - 1 - g (159 + u) < q
    · exfalso
      have b := (W.2.2.2.2.2.2.1 u hu).2.2.2.2.2.2
      rw [c.1] at b
      refine hn (g (31 + x) - 1 - g (159 + u)) c.2 ?_
      try simp only
      rw [show g (31 + x) - 1 - (g (31 + x) - 1 - g (159 + u)) = g (159 + u) by omega, ← c.1]
      exact atS_eq W hu
    · try simp only
      rw [if_neg c]
theorem last_c (hK : K ≤ 5000) (W : WG K g) (T : CRt I g) (H : CRc I g σ) {x q : Nat} (hx : x < 8) (hq : q ≤ g (31 + x)) {s : Nat} (hs : s < g 1) : (I 23 (σ s) = nI x ∧ rg 8 (I 31) (I 23 (σ s)) - 1 - I 25 (σ s) < nI q) ↔ (g (139 + s) = x ∧ g (31 + x) - 1 - g (159 + s) < q) := by
  have p := H.1 s hs
  have b := W.car hK hs
  have h20 := W.h20 hx
  rw [p.2.2.2.2.2.2.1, p.2.2.2.2.2.2.2]
  by_cases c : g (139 + s) = x
  · have hh := b.2.2.2.2.2.2.2.2.2.2.2.2.1
    rw [c] at hh ⊢
    rw [rg_nI hx (by decide), (T x hx).2.2.1, show (1 : Int32) = nI 1 from rfl, pk_sub (by omega), pk_sub (by omega), nI_ltI (by omega) (by omega)]
    exact ⟨fun e => ⟨rfl, e.2⟩, fun e => ⟨rfl, e.2⟩⟩
  · exact ⟨fun e => absurd (nI_inj (by omega) (by omega) e.1) c, fun e => absurd e.1 c⟩
theorem lenLast_g (hK : K ≤ 5000) (W : WG K g) (T : CRt I g) (H : CRc I g σ) {x q : Nat} (hx : x < 8) (hq : q ≤ g (31 + x)) : lengthOfLast I (nI x) (nI q) = nI (lastN g x q 59) := by
  rw [← last_re W hx hq]
  refine cl_sum H (fun s hs a => ?_) (fun u hu hs a => ?_)
  · have p := H.1 s hs
    have b := last_c hK W T H hx hq hs
    rw [stL, p.2.2.1]
    by_cases c : g (139 + s) = x ∧ g (31 + x) - 1 - g (159 + s) < q
    · rw [if_pos (b.mpr c), if_pos c]
    · rw [if_neg (fun e => c (b.mp e)), if_neg c, nI_0, Int32.add_zero]
  · rw [stL, (H.2.2 u hu hs).2, if_neg (fun e => nI_mi (by omega) e.1.symm)]
theorem defLast_g (hK : K ≤ 5000) (W : WG K g) (T : CRt I g) (H : CRc I g σ) {x q : Nat} (hx : x < 8) (hq : q ≤ g (31 + x)) : defectsOfLast I (nI x) (nI q) = nI (lastN g x q 119) := by
  rw [← last_re W hx hq]
  refine cl_sum H (fun s hs a => ?_) (fun u hu hs a => ?_)
  · have p := H.1 s hs
    have b := last_c hK W T H hx hq hs
    rw [stD, p.2.2.2.2.2.1]
    by_cases c : g (139 + s) = x ∧ g (31 + x) - 1 - g (159 + s) < q
    · rw [if_pos (b.mpr c), if_pos c]
    · rw [if_neg (fun e => c (b.mp e)), if_neg c, nI_0, Int32.add_zero]
  · rw [stD, (H.2.2 u hu hs).2, if_neg (fun e => nI_mi (by omega) e.1.symm)]
theorem feM_c (hK : K ≤ 5000) (W : WG K g) (H : GV (I 397) g) {x k off : Nat} (hx : x < 8) (hk : k < g (31 + x)) (ho : off ≤ 159) : I 397 (off + (feM I (g 1) x (nI k)).toNatClampNeg) = nI (g (off + atS g x (g (31 + x) - 1 - k))) := by
  have a := atS_spec W hx (p := g (31 + x) - 1 - k) (by omega)
  have b := W.1.2.1
  rw [feM_at hK W H hx hk, nI_clamp (by omega), H _ (by omega)]
theorem lnM_g (hK : K ≤ 5000) (W : WG K g) (H : GV (I 397) g) {x q : Nat} (hx : x < 8) (hq : q ≤ g (31 + x)) : lnM I (g 1) x q = nI (lastN g x q 59) :=
  fo_sum (fun k a hk => by rw [lnS, feM_c hK W H hx (by omega) (by decide)])
theorem last_le (hK : K ≤ 5000) (W : WG K g) {x q off c : Nat} (hx : x < 8) (hq : q ≤ g (31 + x)) (hc : ∀ s, s < g 1 → g (off + s) ≤ c) : lastN g x q off ≤ c * q := sN_le (fun k hk => hc _ (atS_spec W hx (by omega)).1)
theorem usN_le (hK : K ≤ 5000) (W : WG K g) {t : Nat} : usN g t ≤ 30 * g 1 := sN_le (fun s hs => by
  have b := W.car hK hs
  show (if g (139 + s) = t then g (59 + s) else 0) ≤ 30
  split <;> omega)
theorem bfsI_ne2 {z s a : Nat} (h1 : a ≠ 10) (h2 : a ≠ 12) (h3 : a ≠ 14) (h4 : a ≠ 35) : bfsI I z s a = I a := bfsI_eq a h1 h2 h3 h4
/-- the rows of the class's yard are the same -/
def eqY (J I : HI) : Prop := ∀ a, a < 36 → a ≠ 10 → a ≠ 12 → a ≠ 14 → a ≠ 35 → J a = I a
theorem eqY.of (h : eqS J I) : eqY J I := fun a _ h1 h2 h3 h4 => h a h1 h2 h3 h4
theorem eqY.t (h : eqY J I) (T : CRt I g) : CRt J g := fun t ht => by
  rw [h 3 (by decide) (by decide) (by decide) (by decide) (by decide), h 5 (by decide) (by decide) (by decide) (by decide) (by decide), h 31 (by decide) (by decide) (by decide) (by decide) (by decide), h 33 (by decide) (by decide) (by decide) (by decide) (by decide)]
  exact T t ht
theorem eqY.j (h : eqY J I) (T : CRj I g) : CRj J g := fun i j hi hj => by
  rw [h 8 (by decide) (by decide) (by decide) (by decide) (by decide)]
  exact T i j hi hj
theorem eqY.c (h : eqY J I) (T : CRc I g σ) : CRc J g σ := by
  unfold CRc
  rw [h 17 (by decide) (by decide) (by decide) (by decide) (by decide), h 19 (by decide) (by decide) (by decide) (by decide) (by decide), h 21 (by decide) (by decide) (by decide) (by decide) (by decide), h 23 (by decide) (by decide) (by decide) (by decide) (by decide), h 25 (by decide) (by decide) (by decide) (by decide) (by decide), h 27 (by decide) (by decide) (by decide) (by decide) (by decide), h 29 (by decide) (by decide) (by decide) (by decide) (by decide)]
  exact T
theorem eqY.s {L' : HL} (h : eqY J I) (hL : L' 1 = L 1) (T : CRs I L g) : CRs J L' g := by
  unfold CRs
  rw [h 6 (by decide) (by decide) (by decide) (by decide) (by decide), h 15 (by decide) (by decide) (by decide) (by decide) (by decide), h 1 (by decide) (by decide) (by decide) (by decide) (by decide), hL]
  exact T
theorem YR.sc {L' : HL} (H : YR K I L G g σ) (h : eqY J I) (hL : L' 1 = L 1) : YR K J L' G g σ := ⟨H.1, H.2.1, H.2.2.1, h.s hL H.2.2.2.1, h.t H.2.2.2.2.1, h.j H.2.2.2.2.2.1, h.c H.2.2.2.2.2.2⟩
end YWA
