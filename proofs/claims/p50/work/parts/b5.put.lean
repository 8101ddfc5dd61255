/-! a text put into an object, sign by sign -/
section PUT
variable {X : JX} {K b v r i : Nat} {s : GS} {h h' : MH} {cs : List Int32} {P : MH → Prop}
/-- a text that the law may ask for its length and its signs -/
def StrOK (X : JX) (r : Nat) (cs : List Int32) (P : MH → Prop) : Prop := ∀ h, P h →
  (∀ (M : JM) (d mc ms : Nat) (Q : JR → Prop) (pc : Nat) (ls : List (Option Value)) (rest : List Value), M.1.cls = "ClassificationYardLaw" → 6 ≤ d → decode M.2.1 pc = .ok (.invokevirtual 7, 3) → (rest.map fun v => v.category).sum ≤ 8 → Ev X M d mc ms Q (pc + 3) ls (.int (nI cs.length) :: rest) h → Ev X M d mc ms Q pc ls (.ref r :: rest) h) ∧
  ∀ (M : JM) (d mc ms : Nat) (Q : JR → Prop) (pc : Nat) (ls : List (Option Value)) (rest : List Value) (k : Nat), M.1.cls = "ClassificationYardLaw" → 6 ≤ d → decode M.2.1 pc = .ok (.invokevirtual 13, 3) → (rest.map fun v => v.category).sum ≤ 8 → k < cs.length → Ev X M d mc ms Q (pc + 3) ls (.int (cs.getD k 0) :: rest) h → Ev X M d mc ms Q pc ls (.int (nI k) :: .ref r :: rest) h
theorem jsh_len : ∀ i, i < jnS → (jshb.getD i []).length = jshl.getD i 0 := by decide +kernel
theorem strK (hX : JXok X) (hi : i < jnS) : StrOK X (jsh0 + i) (jshb.getD i []) (fun _ => True) := by
  intro h _
  refine ⟨fun M d mc ms Q pc ls rest hcl hd dd hw kk => ?_, fun M d mc ms Q pc ls rest k hcl hd dd hw hk kk => ?_⟩
  · refine Ev.callVK (As := []) (rest := rest) hi rfl dvJ0_length_8abf5 (by rw [hcl]; exact mkL_7) dd (c_strLen (d := d - 1) hX (by omega) hi) ⟨by omega, by show 1 + 19 + 40 * _ ≤ 40 * _; omega⟩ ⟨Nat.zero_le _, Nat.zero_le _⟩ rfl hw (fun v9 h9 e9 => ?_) (fun E9 h9 e9 => nomatch e9)
    cases e9
    rw [jsh_len i hi] at kk
    exact kk
  · have hk2 : k < jshl.getD i 0 := by rw [← jsh_len i hi]; exact hk
    refine Ev.callVK (As := [.int (nI k)]) (rest := rest) hi rfl dvJ0_charAt_5068e (by rw [hcl]; exact mkL_13) dd (c_strCharAt (d := d - 1) hX (by omega) hi (k := k) hk2) ⟨by omega, by show 2 + 19 + 40 * _ ≤ 40 * _; omega⟩ ⟨Nat.zero_le _, Nat.zero_le _⟩ rfl hw (fun v9 h9 e9 => ?_) (fun E9 h9 e9 => nomatch e9)
    cases e9
    exact kk
/-- one sign more -/
def appS (s : GS) (c : Int32) : GS := (s.1, s.2.1, s.2.2.1, s.2.2.2.1, s.2.2.2.2.1 + 1, (fun j => if j = s.2.2.2.2.1 then c else s.2.2.2.2.2.1 j), s.2.2.2.2.2.2)
theorem l_put {Q : JR → Prop} (hX : JXok X) (hM : jM X ≤ 396) (hb : b = 0 ∨ 396 ≤ b) (hS : StrOK X r cs P) (hP : ∀ h h', P h → STEP b v 4 h h' → P h') (hcs : ∀ c ∈ cs, vp_nar .char c = c) (hl : cs.length ≤ 60) : ∀ (n k : Nat) (s : GS) (h : MH) (mc ms : Nat), k + n = cs.length → OB K b v s h → P h → s.2.2.2.2.1 + n ≤ 60 → zN h + 4 * n + 1 < BIG → 4 * n ≤ mc → 24 * n ≤ ms → (∀ h', STEP b v (4 * n) h h' → OB K b v ((cs.drop k).foldl appS s) h' → P h' → Q (.inl (none, h'))) →
    Ev X (jm jdL_put) 13 mc ms Q 2 [some (.ref b), some (.ref r), some (.int (nI k))] [] h := by
  intro n
  induction n with
  | zero =>
    intro k s h mc ms hk ho hp hq hB hm hs hQ
    refine Ev.sg hX sL_put_2 (pc' := 4) (ls' := [some (.ref b), some (.ref r), some (.int (nI k))]) (st' := [.ref r, .int (nI k)]) (h' := h) rfl ?_
    refine (hS h hp).1 (jm jdL_put) 13 mc ms _ 4 _ [.int (nI k)] rfl (by decide) dL_put_4 (Nat.le_of_ble_eq_true rfl) ?_
    refine Ev.icmp_ge (tgt := 26) dL_put_7 (by decide) (fun b1 => ?_) (fun b1 => ?_)
    · refine Ev.vret dL_put_26 rfl ?_
      exact hQ h STEP.rf (by rw [List.drop_eq_nil_of_le (by omega)]; exact ho) hp
    · exact absurd ((nI_leI (a := cs.length) (b := k) (by omega) (by omega)).mpr (by omega)) b1
  | succ n ih =>
    intro k s h mc ms hk ho hp hq hB hm hs hQ
    have hkl : k < cs.length := by omega
    obtain ⟨fs9, h0⟩ := ho.at0 hb
    refine Ev.sg hX sL_put_2 (pc' := 4) (ls' := [some (.ref b), some (.ref r), some (.int (nI k))]) (st' := [.ref r, .int (nI k)]) (h' := h) rfl ?_
    refine (hS h hp).1 (jm jdL_put) 13 mc ms _ 4 _ [.int (nI k)] rfl (by decide) dL_put_4 (Nat.le_of_ble_eq_true rfl) ?_
    refine Ev.icmp_ge (tgt := 26) dL_put_7 (by decide) (fun b1 => ?_) (fun b1 => ?_)
    · exact absurd ((nI_leI (a := cs.length) (b := k) (by omega) (by omega)).mp b1) (by omega)
    · refine Ev.sg hX sL_put_10 (pc' := 13) (ls' := [some (.ref b), some (.ref r), some (.int (nI k))]) (st' := [.int (nI k), .ref r, .ref b]) (h' := h) rfl ?_
      refine (hS h hp).2 (jm jdL_put) 13 mc ms _ 13 _ [.ref b] k rfl (by decide) dL_put_13 (Nat.le_of_ble_eq_true rfl) hkl ?_
      have hc : vp_nar .char (cs.getD k 0) = cs.getD k 0 := hcs _ (getD_mem hkl)
      have C : MT X 12 4 24 jdX6_append (.ref b :: [.int (cs.getD k 0)]) h _ := OB.call (xs := [xIS]) (val := some (.int (nI (s.2.2.2.2.1 + 1)))) (cd := 0) (s' := appS s (cs.getD k 0)) hX hM (by omega) hb ho (fun v hv => by rw [List.mem_singleton.mp hv]; exact fun _ => rfl) (fun _ => rfl) (fun X' T I L D hX' c => q_append hX' c (by omega) hc (by omega))
      refine Ev.callV (As := [.int (cs.getD k 0)]) (rest := []) dvX6_append mkL_17 h0 rfl dL_put_16 C ⟨Nat.le_refl _, by show 2 + 19 + 40 * _ ≤ 40 * _; omega⟩ ⟨by omega, by omega⟩ rfl (Nat.le_of_ble_eq_true rfl) (fun v9 h9 e9 => ?_) (fun E9 h9 e9 => ?_)
      · obtain ⟨h8, st9, ob9, ⟨c0, e⟩ | ⟨j, E, x1, x2, e⟩⟩ := e9
        · cases e
          show Ev _ _ _ _ _ _ 19 [some (.ref b), some (.ref r), some (.int (nI k))] [.int (nI (s.2.2.2.2.1 + 1))] h9
          refine Ev.sg hX sL_put_19 (pc' := 2) (ls' := [some (.ref b), some (.ref r), some (.int (nI k + 1))]) (st' := []) (h' := h9) rfl ?_
          rw [nI_1]
          refine ih (k + 1) (appS s (cs.getD k 0)) h9 (mc - 4) (ms - 24) (by omega) ob9 (hP _ _ hp st9) (by show s.2.2.2.2.1 + 1 + n ≤ 60; omega) (by have := st9.2.1; omega) (by omega) (by omega) (fun h7 t1 t2 t3 => ?_)
          refine hQ h7 ((st9.tr t1).le (by omega)) ?_ t3
          rw [List.drop_eq_getElem_cons hkl, List.foldl_cons]
          have eg : cs[k] = cs.getD k 0 := by rw [List.getD_eq_getElem?_getD, List.getElem?_eq_getElem hkl]; rfl
          rw [eg]
          exact t2
        · cases e
      · obtain ⟨h8, st9, ob9, ⟨c0, e⟩ | ⟨j, E, x1, x2, e⟩⟩ := e9
        · cases e
        · have := nI_inj (a := 0) (b := j + 1) (by omega) (by
            rcases j with _ | j
            · decide
            · cases x1) x2
          omega
/-- a text put into an object -/
theorem c_put (hX : JXok X) (hM : jM X ≤ 396) (hb : b = 0 ∨ 396 ≤ b) (hS : StrOK X r cs P) (hP : ∀ h h', P h → STEP b v 4 h h' → P h') (hcs : ∀ c ∈ cs, vp_nar .char c = c) (ho : OB K b v s h) (hp : P h) (hq : s.2.2.2.2.1 + cs.length ≤ 60) (hB : zN h + 4 * cs.length + 1 < BIG) : MT X 13 (4 * cs.length) (24 * cs.length) jdL_put [.ref b, .ref r] h (fun R => ∃ h', STEP b v (4 * cs.length) h h' ∧ OB K b v (cs.foldl appS s) h' ∧ P h' ∧ R = .inl (none, h')) := by
  refine MT.mk dsL_put.1 ?_
  refine Ev.sg hX sL_put_0 (pc' := 2) (ls' := [some (.ref b), some (.ref r), some (.int 0)]) (st' := []) (h' := h) rfl ?_
  exact l_put hX hM hb hS hP hcs (by omega) cs.length 0 s h _ _ (by omega) ho hp hq hB (Nat.le_refl _) (Nat.le_refl _) (fun h' a c e => ⟨h', a, c, e, rfl⟩)
end PUT
