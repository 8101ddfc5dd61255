/-! what the law's first calls leave of the two yards -/
section GH1
variable {s : GS} {n K : Nat} {cs : List Int32}
theorem rn_T1 (h0 : s.2.2.2.2.1 = 0) (W : WG K s.1) (hn : s.1 0 = n) (h7 : n < 7) : rnG ((T1 n).foldl appS s) = (3, 0, (canonG (r3 s.1 n), pushG s.2.1 s.2.2.1 s.1, min 8 (s.2.2.1 + 1), s.2.2.2.1, 0, ((T1 n).foldl appS s).2.2.2.2.2.1, s.2.2.2.2.2.2.1, s.2.2.2.2.2.2.2.1, s.2.2.2.2.2.2.2.2)) := by
  obtain ⟨⟨r1, r2, r3'⟩, -⟩ := T1_rd n h7
  obtain ⟨q1, q2⟩ := run_T1 (d := s.2.2.1) W hn h7
  rw [rn_good h0 ⟨r2, r3'⟩]
  unfold rnT
  rw [r1, q1, q2]
  rfl
/-- a text whose command fails -/
theorem rn_fl {c j : Nat} (h0 : s.2.2.2.2.1 = 0) (hr : (rdT cs).1 = c ∧ (rdT cs).2.2.1 = 0 ∧ ¬ (rdT cs).2.1 < cs.length) (hx : ∃ x J, mrL c 0 (GR s.1 s.2.2.1 (rdT cs).2.2.2) = (some (j, x), J)) : rnG (cs.foldl appS s) = (0, 2, (s.1, s.2.1, s.2.2.1, s.2.2.2.1, 0, (cs.foldl appS s).2.2.2.2.2.1, s.2.2.2.2.2.2.1, nI j, s.2.2.2.2.2.2.2.2)) := by
  obtain ⟨r1, r2, r3'⟩ := hr
  obtain ⟨x, J, e⟩ := hx
  rw [rn_good h0 ⟨r2, r3'⟩]
  unfold rnT
  rw [r1, e]
/-- three calls of y -/
def y1 (s : GS) : GS := cmG s 30 1 0 0 0 0
def y2 (s : GS) : GS := cmG (y1 s) 99 5 0 0 0 0
def y3 (s : GS) (n : Nat) : GS := cmG (y2 s) (nI n) (nI (n + 1)) 0 0 0 1
theorem GJ_R {g : Nat → Nat} : GJ g 397 = RJ g := rfl
theorem y1_ok (hn : s.1 0 = n) (h7 : n < 7) : (cmF s 30 1 0 0 0 0).1 = nI n ∧ (cmF s 30 1 0 0 0 0).2 396 12 = 0 ∧ y1 s = (canonG (rT (RJ s.1) n 30 1), pushG s.2.1 s.2.2.1 s.1, min 8 (s.2.2.1 + 1), s.2.2.2) := by
  have A1 := adt_ok (I := GJ s.1) (z := s.1 0) (c := 30) (e := 1) (by omega) (by decide)
  have e : cmF s 30 1 0 0 0 0 = adtM (GJ s.1) (s.1 0) 30 1 := rfl
  rw [← e, hn] at A1
  refine ⟨A1.1, A1.2.1, ?_⟩
  unfold y1 cmG cmS
  rw [if_pos A1.2.1, A1.2.2.1, GJ_R]
theorem y1_0 (hn : s.1 0 = n) (h7 : n < 7) : (y1 s).1 0 = n + 1 := by
  rw [(y1_ok hn h7).2.2]
  show canonG (rT (RJ s.1) n 30 1) 0 = n + 1
  unfold canonG rT
  rw [if_pos (by decide), if_pos rfl, nI_1, nI_clamp (by omega)]
theorem y2_ok (hn : s.1 0 = n) (h7 : n < 7) : (cmF (y1 s) 99 5 0 0 0 0).1 = nI (n + 1) ∧ (cmF (y1 s) 99 5 0 0 0 0).2 396 12 = 0 ∧ y2 s = (canonG (rT (RJ (y1 s).1) (n + 1) 99 5), pushG (y1 s).2.1 (y1 s).2.2.1 (y1 s).1, min 8 ((y1 s).2.2.1 + 1), (y1 s).2.2.2) := by
  have h1 := y1_0 hn h7
  have A1 := adt_ok (I := GJ (y1 s).1) (z := (y1 s).1 0) (c := 99) (e := 5) (by omega) (by decide)
  have e : cmF (y1 s) 99 5 0 0 0 0 = adtM (GJ (y1 s).1) ((y1 s).1 0) 99 5 := rfl
  rw [← e, h1] at A1
  refine ⟨A1.1, A1.2.1, ?_⟩
  unfold y2 cmG cmS
  rw [if_pos A1.2.1, A1.2.2.1, GJ_R]
theorem y2_r (hc : cano s.1) (hn : s.1 0 = n) (h7 : n < 7) : ∀ k, k < 179 → RJ (y2 s).1 k = rT (rT (RJ s.1) n 30 1) (n + 1) 99 5 k := fun k hk => by
  have e2 := congrArg (fun z : GS => z.1) (y2_ok hn h7).2.2
  have e1 := congrArg (fun z : GS => z.1) (y1_ok hn h7).2.2
  dsimp only at e1 e2
  have c1 : cano (y1 s).1 := by rw [e1]; exact cano_G
  rw [e2, rT_2 c1 h7 k hk]
  refine rT_congr (fun k hk => ?_) k hk
  rw [e1]
  exact rT_1 hc h7 k hk
theorem y3_ok (W : WG K s.1) (hc : cano s.1) (hn : s.1 0 = n) (h7 : n < 7) : (∃ q, 1 ≤ q ∧ q ≤ 64 ∧ (cmF (y2 s) (nI n) (nI (n + 1)) 0 0 0 1).1 = nI q) ∧ (cmF (y2 s) (nI n) (nI (n + 1)) 0 0 0 1).2 396 12 = 0 ∧ y3 s n = (canonG (r3 s.1 n), pushG (y2 s).2.1 (y2 s).2.2.1 (y2 s).1, min 8 ((y2 s).2.2.1 + 1), (y2 s).2.2.2) := by
  have r := y2_r hc hn h7
  have e0 : GJ (y2 s).1 397 0 = nI (n + 2) := by
    rw [GJ_R, r 0 (by decide)]
    unfold rT
    rw [if_pos rfl, nI_1]
  have eo : ∀ k, 23 ≤ k → k < 31 → GJ (y2 s).1 397 k = nI (s.1 k) := fun k h1 h2 => by
    rw [GJ_R, r k (by omega)]
    unfold rT
    rw [if_neg (by omega), if_neg (by omega), if_neg (by omega), if_neg (by omega), if_neg (by omega), if_neg (by omega)]
    rfl
  have c2 : cano (y2 s).1 := by
    rw [(y2_ok hn h7).2.2]
    exact cano_G
  have z2 : (y2 s).1 0 = n + 2 := nI_inj (c2 0).1 (by omega) e0
  have A3 := cn_n W hn h7 e0 (eo _ (by omega) (by omega)) (eo _ (by omega) (by omega))
  have e : cmF (y2 s) (nI n) (nI (n + 1)) 0 0 0 1 = cnM (GJ (y2 s).1) ((y2 s).1 0) (nI n) (nI (n + 1)) := rfl
  rw [z2] at e
  rw [← e] at A3
  refine ⟨A3.1, A3.2.1, ?_⟩
  unfold y3 cmG cmS
  rw [if_pos A3.2.1, A3.2.2, GJ_R, canon_congr (R' := r3 s.1 n) (fun k hk => ?_)]
  unfold r3
  exact rC_congr (by omega) (by omega) r k hk
/-- y's kept yards behind the three calls -/
theorem y3_pop (W : WG K s.1) (hc : cano s.1) (hn : s.1 0 = n) (h7 : n < 7) (hd : s.2.2.1 ≤ 8) : (y3 s n).2.1 ((y3 s n).2.2.1 - 1 - 1 - 1) = s.1 ∧ 3 ≤ (y3 s n).2.2.1 ∧ (y3 s n).2.2.1 ≤ 8 := by
  rw [(y3_ok W hc hn h7).2.2, (y2_ok hn h7).2.2, (y1_ok hn h7).2.2]
  refine ⟨pop_3 hd, ?_, ?_⟩
  · show 3 ≤ min 8 (min 8 (min 8 (s.2.2.1 + 1) + 1) + 1)
    omega
  · show min 8 (min 8 (min 8 (s.2.2.1 + 1) + 1) + 1) ≤ 8
    omega
end GH1
