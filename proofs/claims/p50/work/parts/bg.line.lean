/-! a line, compared sign by sign -/
section LIN
variable {X : JX} {K b v i : Nat} {s : GS} {h : MH} {Q : JR → Prop}
theorem chW_t : ∀ i, i < jnS → ∀ c ∈ jshb.getD i [], chW c := by
  unfold chW
  decide +kernel
theorem l_line (hX : JXok X) (hM : jM X ≤ 396) (hb : b = 0 ∨ 396 ≤ b) (hi : i < jnS) (hw : s.2.2.2.2.2.2.2.2 = jshb.getD i []) : ∀ (n k : Nat) (h : MH) (mc ms : Nat), k + n = (jshb.getD i []).length → OB K b v s h → zN h + 4 * n + 1 < BIG → 4 * n ≤ mc → 24 * n ≤ ms → (∀ h', STEP b v (4 * n) h h' → OB K b v s h' → Q (.inl (some (.int 1), h'))) →
    Ev X (jm jdL_isLine) 14 mc ms Q 12 [some (.ref b), some (.int (nI (jshb.getD i []).length)), some (.ref (jsh0 + i)), some (.int (nI k))] [] h := by
  have hl40 := jshl_leN i hi
  have hlen := jsh_len i hi
  intro n
  induction n with
  | zero =>
    intro k h mc ms hk ho hB hm hs hQ
    refine Ev.sg hX sL_isLine_12 (pc' := 14) (ls' := [some (.ref b), some (.int (nI (jshb.getD i []).length)), some (.ref (jsh0 + i)), some (.int (nI k))]) (st' := [.int (nI (jshb.getD i []).length), .int (nI k)]) (h' := h) rfl ?_
    refine Ev.icmp_ge (tgt := 38) dL_isLine_14 (by decide) (fun b1 => ?_) (fun b1 => ?_)
    · refine Ev.sg hX sL_isLine_38 (pc' := 39) (ls' := [some (.ref b), some (.int (nI (jshb.getD i []).length)), some (.ref (jsh0 + i)), some (.int (nI k))]) (st' := [.int 1]) (h' := h) rfl ?_
      refine Ev.zret dL_isLine_39 rfl rfl ?_
      exact hQ h STEP.rf ho
    · exact absurd ((nI_leI (a := (jshb.getD i []).length) (b := k) (by omega) (by omega)).mpr (by omega)) b1
  | succ n ih =>
    intro k h mc ms hk ho hB hm hs hQ
    have hkl : k < (jshb.getD i []).length := by omega
    refine Ev.sg hX sL_isLine_12 (pc' := 14) (ls' := [some (.ref b), some (.int (nI (jshb.getD i []).length)), some (.ref (jsh0 + i)), some (.int (nI k))]) (st' := [.int (nI (jshb.getD i []).length), .int (nI k)]) (h' := h) rfl ?_
    refine Ev.icmp_ge (tgt := 38) dL_isLine_14 (by decide) (fun b1 => ?_) (fun b1 => ?_)
    · exact absurd ((nI_leI (a := (jshb.getD i []).length) (b := k) (by omega) (by omega)).mp b1) (by omega)
    · refine Ev.sg hX sL_isLine_17 (pc' := 19) (ls' := [some (.ref b), some (.int (nI (jshb.getD i []).length)), some (.ref (jsh0 + i)), some (.int (nI k))]) (st' := [.int (nI k), .ref b]) (h' := h) rfl ?_
      refine Ev.ask (K' := K) (mc1 := 4) (ms1 := 24) (As := [.int (nI k)]) (rest := []) (xs := [xIO]) (val := some (.int ((jshb.getD i []).getD k 0))) (s' := s) hX hM hb ho (by omega) dvX6_outputAt mkL_277 rfl dL_isLine_19 (by decide) (by decide) ⟨by omega, by omega⟩ rfl (Nat.le_of_ble_eq_true rfl) nr_1 (fun _ => rfl) (by decide) (fun X' T I L D hX' c9 => by
        have q := q_outputAt (i0 := nI k) hX' c9 (by omega) (by rw [hw]; exact chW_t i hi)
        rw [hw, nI_clamp (by omega), if_pos ⟨nI_pos (by omega), (nI_ltI (by omega) (by omega)).mpr hkl⟩, ← hw] at q
        rw [← hw]
        exact q) (fun h1 st1 ob1 => ?_)
      have s1 := st1.2.1
      obtain ⟨c, hc⟩ : ∃ c, c = (jshb.getD i []).getD k 0 := ⟨_, rfl⟩
      rw [← hc]
      show Ev _ _ _ _ _ _ 22 [some (.ref b), some (.int (nI (jshb.getD i []).length)), some (.ref (jsh0 + i)), some (.int (nI k))] [.int c] h1
      refine Ev.sg hX sL_isLine_22 (pc' := 24) (ls' := [some (.ref b), some (.int (nI (jshb.getD i []).length)), some (.ref (jsh0 + i)), some (.int (nI k))]) (st' := [.int (nI k), .ref (jsh0 + i), .int c]) (h' := h1) rfl ?_
      refine (strK hX hi h1 trivial).2 (jm jdL_isLine) 14 _ _ _ 24 _ [.int c] k rfl (by decide) dL_isLine_24 (Nat.le_of_ble_eq_true rfl) hkl ?_
      rw [← hc]
      show Ev _ _ _ _ _ _ 27 [some (.ref b), some (.int (nI (jshb.getD i []).length)), some (.ref (jsh0 + i)), some (.int (nI k))] [.int c, .int c] h1
      refine Ev.icmp_eq (tgt := 32) dL_isLine_27 (by decide) (fun b2 => ?_) (fun b2 => absurd rfl b2)
      refine Ev.sg hX sL_isLine_32 (pc' := 12) (ls' := [some (.ref b), some (.int (nI (jshb.getD i []).length)), some (.ref (jsh0 + i)), some (.int (nI k + 1))]) (st' := []) (h' := h1) rfl ?_
      rw [nI_1]
      refine ih (k + 1) h1 _ _ (by omega) ob1 (by omega) (by omega) (by omega) (fun h' st' ob' => ?_)
      exact hQ h' ((st1.tr st').le (by omega)) ob'
theorem c_isLine (hX : JXok X) (hM : jM X ≤ 396) (hb : b = 0 ∨ 396 ≤ b) (hi : i < jnS) (hw : s.2.2.2.2.2.2.2.2 = jshb.getD i []) (ho : OB K b v s h) (hB : zN h + 200 < BIG) : MT X 14 160 960 jdL_isLine [.ref b, .int (nI (jshb.getD i []).length), .ref (jsh0 + i)] h (fun R => ∃ h', STEP b v 160 h h' ∧ OB K b v s h' ∧ R = .inl (some (.int 1), h')) := by
  have hl40 := jshl_leN i hi
  have hlen := jsh_len i hi
  refine MT.mk dsL_isLine.1 ?_
  refine Ev.sg hX sL_isLine_0 (pc' := 2) (ls' := [some (.ref b), some (.int (nI (jshb.getD i []).length)), some (.ref (jsh0 + i)), none]) (st' := [.ref (jsh0 + i), .int (nI (jshb.getD i []).length)]) (h' := h) rfl ?_
  refine (strK hX hi h trivial).1 (jm jdL_isLine) 14 _ _ _ 2 _ [.int (nI (jshb.getD i []).length)] rfl (by decide) dL_isLine_2 (Nat.le_of_ble_eq_true rfl) ?_
  show Ev _ _ _ _ _ _ 5 [some (.ref b), some (.int (nI (jshb.getD i []).length)), some (.ref (jsh0 + i)), none] [.int (nI (jshb.getD i []).length), .int (nI (jshb.getD i []).length)] h
  refine Ev.icmp_eq (tgt := 10) dL_isLine_5 (by decide) (fun b2 => ?_) (fun b2 => absurd rfl b2)
  refine Ev.sg hX sL_isLine_10 (pc' := 12) (ls' := [some (.ref b), some (.int (nI (jshb.getD i []).length)), some (.ref (jsh0 + i)), some (.int (nI 0))]) (st' := []) (h' := h) rfl ?_
  exact l_line hX hM hb hi hw (jshb.getD i []).length 0 h _ _ (by omega) ho (by omega) (by omega) (by omega) (fun h' a c => ⟨h', a.le (by omega), c, rfl⟩)
end LIN
