/-! copies of yards -/
section YCP
variable {K : Nat} {I J I' I1 : HI} {L L' : HL} {g g' σ : Nat → Nat} {b b2 o n k m : Nat} {S : List (Nat × Nat)}
/-- the class's yard in use is this yard of numbers -/
def YC (K : Nat) (I : HI) (L : HL) (g σ : Nat → Nat) : Prop := K ≤ 5000 ∧ WG K g ∧ CRs I L g ∧ CRt I g ∧ CRj I g ∧ CRc I g σ
theorem YC.yr {G : Nat → Int32} (h : YC K I L g σ) (V : GV G g) : YR K I L G g σ := ⟨h.1, V, h.2⟩
theorem YR.yc {G : Nat → Int32} (h : YR K I L G g σ) : YC K I L g σ := ⟨h.1, h.2.2⟩
theorem YC.mono {K' : Nat} (h : YC K I L g σ) (hK : K ≤ K') (h5 : K' ≤ 5000) : YC K' I L g σ := ⟨h5, h.2.1.mono hK, h.2.2⟩
/-- the rows of the yard at b, as those of the yard at 1 -/
def yv (I : HI) (b : Nat) : HI := fun a => I (b - 1 + a)
def yl (L : HL) (b : Nat) : HL := fun a => L (b - 1 + a)
theorem yv_1 : yv I 1 = I := by
  funext a
  show I (1 - 1 + a) = I a
  rw [Nat.sub_self, Nat.zero_add]
theorem yl_1 : yl L 1 = L := by
  funext a
  show L (1 - 1 + a) = L a
  rw [Nat.sub_self, Nat.zero_add]
/-- the cells that count -/
def yE (a j : Nat) : Prop := ((a = 3 ∨ a = 5 ∨ a = 31 ∨ a = 33) ∧ j < 8) ∨ (a = 8 ∧ j < 64) ∨ ((a = 17 ∨ a = 19 ∨ a = 21 ∨ a = 23 ∨ a = 25 ∨ a = 27 ∨ a = 29) ∧ j < 20) ∨ ((a = 6 ∨ a = 15) ∧ j < 2) ∨ (a = 1 ∧ (j = 5 ∨ j = 6))
theorem YC.en (H : YC K I L g σ) (h : ∀ a j, yE a j → I' a j = I a j) (h4 : L' 1 4 = L 1 4) (h7 : L' 1 7 = L 1 7) : YC K I' L' g σ := by
  obtain ⟨hK, W, ⟨s1, s2, s3, s4, s5, s6, s7, s8⟩, T, Hj, C⟩ := H
  refine ⟨hK, W, ⟨?_, ?_, ?_, ?_, ?_, ?_, ?_, ?_⟩, fun t ht => ?_, fun i j hi hj => ?_, fun s hs => ?_, C.2.1, fun u hu hn => ?_⟩
  · rw [h 6 0 (by unfold yE; omega)]; exact s1
  · rw [h 15 0 (by unfold yE; omega)]; exact s2
  · rw [h 15 1 (by unfold yE; omega)]; exact s3
  · rw [h 1 5 (by unfold yE; omega)]; exact s4
  · rw [h 1 6 (by unfold yE; omega)]; exact s5
  · rw [h4]; exact s6
  · rw [h7]; exact s7
  · rw [h 6 1 (by unfold yE; omega)]; exact s8
  · rw [h 3 t (by unfold yE; omega), h 5 t (by unfold yE; omega), h 31 t (by unfold yE; omega), h 33 t (by unfold yE; omega)]
    exact T t ht
  · rw [h 8 _ (by unfold yE; omega)]
    exact Hj i j hi hj
  · have c := C.1 s hs
    have c0 := c.1
    rw [h 17 _ (by unfold yE; omega), h 19 _ (by unfold yE; omega), h 21 _ (by unfold yE; omega), h 23 _ (by unfold yE; omega), h 25 _ (by unfold yE; omega), h 27 _ (by unfold yE; omega), h 29 _ (by unfold yE; omega)]
    exact c
  · rw [h 17 _ (by unfold yE; omega), h 23 _ (by unfold yE; omega)]
    exact C.2.2 u hu hn
theorem YC.eq (H : YC K I L g σ) (h : eqY I' I) (hL : L' 1 = L 1) : YC K I' L' g σ := H.en (fun a j hj => by
  have : a < 36 ∧ a ≠ 10 ∧ a ≠ 12 ∧ a ≠ 14 ∧ a ≠ 35 := by unfold yE at hj; omega
  rw [h a this.1 this.2.1 this.2.2.1 this.2.2.2.1 this.2.2.2.2]) (by rw [hL]) (by rw [hL])
/-- rows of the yard at b that are copied from the yard at b2 -/
def CPD (b b2 : Nat) (S : List (Nat × Nat)) (I' I : HI) : Prop := (∀ c, (∀ p, p ∈ S → c ≠ b + p.1) → I' c = I c) ∧ ∀ p, p ∈ S → ∀ j, j < p.2 → I' (b + p.1) j = I (b2 + p.1) j
theorem CPD.row (h : CPD b b2 S I' I) (hb : ∀ x y, x < 35 → y < 35 → b2 + x ≠ b + y) (ho : o < 35) (hS : ∀ p, p ∈ S → p.1 ≠ o ∧ p.1 < 35) : CPD b b2 ((o, n) :: S) (cpF I' (b2 + o) (b + o) n) I := by
  have src : I' (b2 + o) = I (b2 + o) := h.1 _ (fun p hp => hb o p.1 ho (hS p hp).2)
  refine ⟨fun c hc => ?_, fun p hp j hj => ?_⟩
  · have c1 := hc (o, n) (List.mem_cons_self ..)
    have c2 : cpF I' (b2 + o) (b + o) n c = I' c := by
      funext j
      unfold cpF
      rw [if_neg c1]
    rw [c2]
    exact h.1 c (fun p hp => hc p (List.mem_cons_of_mem _ hp))
  · rcases List.mem_cons.mp hp with e | e
    · subst e
      unfold cpF
      rw [if_pos rfl, if_pos hj, src]
    · unfold cpF
      rw [if_neg (by have := (hS p e).1; omega)]
      exact h.2 p e j hj
theorem CPD.sc2 (h : CPD b b2 S I' I) (hb : ∀ x y, x < 35 → y < 35 → b2 + x ≠ b + y) (ho : o < 35) (hS : ∀ p, p ∈ S → p.1 ≠ o ∧ p.1 < 35) : CPD b b2 ((o, 2) :: S) (up2 (up2 I' (b + o) 0 (I' (b2 + o) 0)) (b + o) 1 ((up2 I' (b + o) 0 (I' (b2 + o) 0)) (b2 + o) 1)) I := by
  have src : I' (b2 + o) = I (b2 + o) := h.1 _ (fun p hp => hb o p.1 ho (hS p hp).2)
  refine ⟨fun c hc => ?_, fun p hp j hj => ?_⟩
  · have c1 := hc (o, 2) (List.mem_cons_self ..)
    rw [up2_ne c1, up2_ne c1]
    exact h.1 c (fun p hp => hc p (List.mem_cons_of_mem _ hp))
  · rcases List.mem_cons.mp hp with e | e
    · subst e
      have hj2 : j < 2 := hj
      show up2 (up2 I' (b + o) 0 (I' (b2 + o) 0)) (b + o) 1 _ (b + o) j = I (b2 + o) j
      rw [up2_v, up2_v, up2_ne (hb o o ho ho), src]
      by_cases c : j = 1
      · rw [if_pos c, c]
      · rw [if_neg c, if_pos (by omega)]
        congr 1
        omega
    · have ne : b + p.1 ≠ b + o := by have := (hS p e).1; omega
      rw [up2_ne ne, up2_ne ne]
      exact h.2 p e j hj
def cpS : List (Nat × Nat) := [(32, 8), (30, 8), (28, 20), (26, 20), (24, 20), (22, 20), (20, 20), (18, 20), (16, 20), (14, 2), (7, 64), (5, 2), (4, 8), (2, 8)]
theorem yardCp0_g (hb : ∀ x y, x < 35 → y < 35 → b2 + x ≠ b + y) : CPD b b2 cpS (yardCp0 I b b2) I := by
  have h0 : CPD b b2 [] I I := ⟨fun _ _ => rfl, fun p hp => by cases hp⟩
  have h1 := h0.row (o := 2) (n := 8) hb (by decide) (by decide)
  have h2 := h1.row (o := 4) (n := 8) hb (by decide) (by decide)
  have h3 := h2.sc2 (o := 5) hb (by decide) (by decide)
  have h4 := h3.row (o := 7) (n := 64) hb (by decide) (by decide)
  have h5 := h4.sc2 (o := 14) hb (by decide) (by decide)
  have h6 := h5.row (o := 16) (n := 20) hb (by decide) (by decide)
  have h7 := h6.row (o := 18) (n := 20) hb (by decide) (by decide)
  have h8 := h7.row (o := 20) (n := 20) hb (by decide) (by decide)
  have h9 := h8.row (o := 22) (n := 20) hb (by decide) (by decide)
  have h10 := h9.row (o := 24) (n := 20) hb (by decide) (by decide)
  have h11 := h10.row (o := 26) (n := 20) hb (by decide) (by decide)
  have h12 := h11.row (o := 28) (n := 20) hb (by decide) (by decide)
  have h13 := h12.row (o := 30) (n := 8) hb (by decide) (by decide)
  exact h13.row (o := 32) (n := 8) hb (by decide) (by decide)
theorem yardCpI_o (hb : ∀ x y, x < 35 → y < 35 → b2 + x ≠ b + y) {c : Nat} (hc : c < b ∨ b + 35 ≤ c) : yardCpI I b b2 c = I c := by
  have h := yardCp0_g (I := I) hb
  unfold yardCpI
  rw [up2_ne (by omega), up2_ne (by omega)]
  refine h.1 c (fun p hp => ?_)
  have : p.1 < 35 := by
    have q : ∀ p, p ∈ cpS → p.1 < 35 := by decide
    exact q p hp
  omega
theorem yardCpI_i (hb1 : 1 ≤ b) (hb21 : 1 ≤ b2) (hb : ∀ x y, x < 35 → y < 35 → b2 + x ≠ b + y) {a j : Nat} (h : yE a j) : yardCpI I b b2 (b - 1 + a) j = I (b2 - 1 + a) j := by
  have H := yardCp0_g (I := I) hb
  have b0 : ∀ o, o < 35 → b2 + o ≠ b := fun o ho => hb o 0 ho (by decide)
  have src : yardCp0 I b b2 b2 = I b2 := H.1 b2 (fun p hp => by
    have q : ∀ p, p ∈ cpS → p.1 < 35 := by decide
    exact hb 0 p.1 (by decide) (q p hp))
  have go : ∀ o n, (o, n) ∈ cpS → a = o + 1 → j < n → yardCpI I b b2 (b - 1 + a) j = I (b2 - 1 + a) j := fun o n hm e hj => by
    have q : ∀ p, p ∈ cpS → p.1 ≠ 0 := by decide
    have o0 : o ≠ 0 := q (o, n) hm
    rw [e, show b - 1 + (o + 1) = b + o by omega, show b2 - 1 + (o + 1) = b2 + o by omega]
    unfold yardCpI
    rw [up2_ne (by omega), up2_ne (by omega)]
    exact H.2 (o, n) hm j hj
  unfold yE at h
  rcases h with ⟨e | e | e | e, hj⟩ | ⟨e, hj⟩ | ⟨e | e | e | e | e | e | e, hj⟩ | ⟨e | e, hj⟩ | ⟨e, hj⟩
  · exact go 2 8 (by decide) e hj
  · exact go 4 8 (by decide) e hj
  · exact go 30 8 (by decide) e hj
  · exact go 32 8 (by decide) e hj
  · exact go 7 64 (by decide) e hj
  · exact go 16 20 (by decide) e hj
  · exact go 18 20 (by decide) e hj
  · exact go 20 20 (by decide) e hj
  · exact go 22 20 (by decide) e hj
  · exact go 24 20 (by decide) e hj
  · exact go 26 20 (by decide) e hj
  · exact go 28 20 (by decide) e hj
  · exact go 5 2 (by decide) e hj
  · exact go 14 2 (by decide) e hj
  · rw [e, show b - 1 + 1 = b by omega, show b2 - 1 + 1 = b2 by omega]
    unfold yardCpI
    have ne : b2 ≠ b := b0 0 (by decide)
    rw [up2_v, up2_v, up2_ne ne, src]
    rcases hj with hj | hj
    · rw [if_neg (by omega), if_pos hj, hj]
    · rw [if_pos hj, hj]
theorem yardCpL_o {c : Nat} (hc : c ≠ b) : yardCpL L b b2 c = L c := by
  unfold yardCpL
  rw [up2_ne hc, up2_ne hc]
theorem yardCpL_i (h : b2 ≠ b) : yardCpL L b b2 b 4 = L b2 4 ∧ yardCpL L b b2 b 7 = L b2 7 := by
  unfold yardCpL
  rw [up2_v, up2_v, up2_v, up2_ne h]
  exact ⟨rfl, rfl⟩
/-- the copy is the yard that was copied -/
theorem YC.cp (H : YC K (yv I b2) (yl L b2) g σ) (hb1 : 1 ≤ b) (hb21 : 1 ≤ b2) (hb : ∀ x y, x < 35 → y < 35 → b2 + x ≠ b + y) : YC K (yv (yardCpI I b b2) b) (yl (yardCpL L b b2) b) g σ := by
  have q := yardCpL_i (L := L) (hb 0 0 (by decide) (by decide))
  refine H.en (fun a j h => yardCpI_i hb1 hb21 hb h) ?_ ?_
  · show yardCpL L b b2 (b - 1 + 1) 4 = L (b2 - 1 + 1) 4
    rw [show b - 1 + 1 = b by omega, show b2 - 1 + 1 = b2 by omega]
    exact q.1
  · show yardCpL L b b2 (b - 1 + 1) 7 = L (b2 - 1 + 1) 7
    rw [show b - 1 + 1 = b by omega, show b2 - 1 + 1 = b2 by omega]
    exact q.2
/-- another yard than that which is written -/
theorem YC.cpo {c : Nat} (H : YC K (yv I c) (yl L c) g σ) (hc1 : 1 ≤ c) (hb : ∀ x y, x < 35 → y < 35 → b2 + x ≠ b + y) (hc : c + 35 ≤ b ∨ b + 35 ≤ c) : YC K (yv (yardCpI I b b2) c) (yl (yardCpL L b b2) c) g σ := by
  refine H.en (fun a j h => ?_) ?_ ?_
  · have : 1 ≤ a ∧ a < 36 := by unfold yE at h; omega
    show yardCpI I b b2 (c - 1 + a) j = I (c - 1 + a) j
    rw [yardCpI_o hb (by omega)]
  · show yardCpL L b b2 (c - 1 + 1) 4 = L (c - 1 + 1) 4
    rw [yardCpL_o (by omega)]
  · show yardCpL L b b2 (c - 1 + 1) 7 = L (c - 1 + 1) 7
    rw [yardCpL_o (by omega)]
/-- rows that a call does not write -/
theorem YC.fr {c : Nat} (H : YC K (yv I c) (yl L c) g σ) (h : ∀ a, c ≤ a → a < c + 35 → I' a = I a) (hc1 : 1 ≤ c) (hL : L' c = L c) : YC K (yv I' c) (yl L' c) g σ := by
  refine H.en (fun a j h2 => ?_) ?_ ?_
  · have : 1 ≤ a ∧ a < 36 := by unfold yE at h2; omega
    show I' (c - 1 + a) j = I (c - 1 + a) j
    rw [h _ (by omega) (by omega)]
  · show L' (c - 1 + 1) 4 = L (c - 1 + 1) 4
    rw [show c - 1 + 1 = c by omega, hL]
  · show L' (c - 1 + 1) 7 = L (c - 1 + 1) 7
    rw [show c - 1 + 1 = c by omega, hL]
end YCP
