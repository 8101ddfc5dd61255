/-! the train leaves: rows that agree but at 6 and 79 still do -/
section DEP
variable {I J : HI} {m x s k w : Nat} {t dd : Int32}
theorem E6.up6 (h : E6 I J) {v u : Int32} : E6 (up2 I 397 6 v) (up2 J 397 6 u) := by
  refine ⟨fun a ha => ?_, fun j h6 h7 => ?_⟩
  · exact (up2_ne ha).trans ((h.1 a ha).trans (up2_ne ha).symm)
  · exact (up2_i h6).trans ((h.2 j h6 h7).trans (up2_i h6).symm)
theorem lv_c (h : E6 I J) (hm : m ≤ 20) (hs : s < 20) (ht : (J 397 (139 + s)).toNatClampNeg < 8) : E6 (lvM I m s) (lvM J m s) := by
  have e0 : E6 (lv0 I s) (lv0 J s) := by
    unfold lv0
    rw [h.2 4 (by decide) (by decide), h.2 (139 + s) (by omega) (by omega), h.2 (31 + (J 397 (139 + s)).toNatClampNeg) (by omega) (by omega)]
    exact ((h.up rfl).up6).up rfl
  unfold lvM
  refine E6.up (fo_r _ _ _ _ (fun j A B _ hj e => ?_) e0) rfl
  unfold lvR
  refine fo_r _ _ _ _ (fun k A B h1 h2 e => ?_) e
  unfold lvS
  refine e.up ?_
  by_cases c : k < 19
  · rw [if_pos c, if_pos c]
    exact e.2 _ (by omega) (by omega)
  · rw [if_neg c, if_neg c]
theorem rnT_none {cs : List Int32} {s : GS} (h : (mrL (rdT cs).1 0 (GR s.1 s.2.2.1 (rdT cs).2.2.2)).1 = none) : rnT cs s = (nI (rdT cs).1, 0, (canonG ((mrL (rdT cs).1 0 (GR s.1 s.2.2.1 (rdT cs).2.2.2)).2 397), pushG s.2.1 s.2.2.1 s.1, min 8 (s.2.2.1 + 1), s.2.2.2.1, 0, (cs.foldl appS s).2.2.2.2.2.1, s.2.2.2.2.2.2.1, s.2.2.2.2.2.2.2.1, s.2.2.2.2.2.2.2.2)) := by
  unfold rnT
  rw [h]
theorem stG : GR st_s.1 st_s.2.2.1 = GR st_g 0 := rfl
/-- the run of z's program -/
theorem rn_T2 (hk : k < 4) : ∃ s : GS, rnG ((T2 k).foldl appS st_s) = (nI 5, 0, s) ∧ ZL (zl0 k) s ∧ cano s.1 ∧ s.2.2.2.2.1 = 0 := by
  obtain ⟨⟨r1, r2, r3⟩, -⟩ := T2_rd k hk
  obtain ⟨q1, q2⟩ := zrun k hk
  have L := (zl_len k hk).1
  have R : rnG ((T2 k).foldl appS st_s) = rnT (T2 k) st_s := rn_good rfl ⟨r2, r3⟩
  have n := @rnT_none (T2 k) st_s
  rw [r1, stG] at n
  obtain ⟨M, hM⟩ : ∃ M, M = mrL 5 0 (GR st_g 0 (rdT (T2 k)).2.2.2) := ⟨_, rfl⟩
  rw [← hM] at n q1 q2
  have e := n q1
  rw [e] at R
  refine ⟨_, R, fun j _ _ => ?_, cano_G, rfl⟩
  show canonG (M.2 397) j = LN (zl0 k) j
  by_cases hj : j < 179
  · exact q2 j hj
  · unfold canonG LN
    rw [if_neg hj, List.getD_eq_getElem?_getD, List.getElem?_eq_none (by omega)]
    rfl
end DEP
