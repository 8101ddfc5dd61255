/-! a text that is no program -/
section FAI
variable {X : JX} {K b v r : Nat} {s : GS} {h : MH} {cs : List Int32} {P : MH → Prop} {p : Int32}
theorem c_fails (hX : JXok X) (hM : jM X ≤ 396) (hb : b = 0 ∨ 396 ≤ b) (hS : StrOK X r cs P) (hP : ∀ h h', P h → STEP b v 4 h h' → P h') (hcs : ∀ c ∈ cs, vp_nar .char c = c) (ho : OB K b v s h) (hp : P h) (hq : s.2.2.2.2.1 + cs.length ≤ 60) (hK : K + 8 ≤ 5000) (hB : zN h + 4 * cs.length + 20 < BIG)
    (hV : rnV (cs.foldl appS s) = -1) (hE : (rnG (cs.foldl appS s)).2.2.2.2.2.2.2.2.1 = p) (hp0 : ¬ p = -1) : MT X 14 (4 * cs.length + 8) (24 * cs.length + 48) jdL_fails [.ref b, .ref r, .int p] h (fun R => ∃ h', STEP b v (4 * cs.length + 8) h h' ∧ OB (K + 8) b v (rnG (cs.foldl appS s)).2.2 h' ∧ P h' ∧ R = .inl (some (.int 1), h')) := by
  refine MT.mk dsL_fails.1 ?_
  refine Ev.sg hX sL_fails_0 (pc' := 2) (ls' := [some (.ref b), some (.ref r), some (.int p)]) (st' := [.ref r, .ref b]) (h' := h) rfl ?_
  refine Ev.callS (As := [.ref b, .ref r]) (rest := []) dsL_put mkL_160 dL_fails_2 (c_put hX hM hb hS hP hcs ho hp hq (by omega)) ⟨Nat.le_refl _, by show 3 + 19 + 40 * _ ≤ 40 * _; omega⟩ ⟨by omega, by omega⟩ rfl (Nat.le_of_ble_eq_true rfl) (fun v9 h9 e9 => ?_) (fun E9 h9 e9 => ?_)
  · obtain ⟨h8, st9, ob9, p9, e⟩ := e9
    cases e
    show Ev _ _ _ _ _ _ 5 [some (.ref b), some (.ref r), some (.int p)] [] h9
    refine Ev.sg hX sL_fails_5 (pc' := 6) (ls' := [some (.ref b), some (.ref r), some (.int p)]) (st' := [.ref b]) (h' := h9) rfl ?_
    have b9 := st9.2.1
    refine Ev.callSX (As := [.ref b]) (rest := []) dhL_runs mkL_172 dL_fails_6 (c_runs hX hM (by omega) hb ob9 hK) ⟨Nat.le_refl _, by show 2 + 19 + 40 * _ ≤ 40 * _; omega⟩ ⟨by omega, by omega⟩ rfl (Nat.le_of_ble_eq_true rfl) (fun v7 h7 e7 => ?_) (fun E7 h7 e7 => ?_)
    · obtain ⟨h6, st7, ob7, e⟩ := e7
      cases e
      rw [hV]
      show Ev _ _ _ _ _ _ 9 [some (.ref b), some (.ref r), some (.int p)] [.int (-1)] h7
      refine Ev.sg hX sL_fails_9 (pc' := 10) (ls' := [some (.ref b), some (.ref r), some (.int p)]) (st' := [.int (-1), .int (-1)]) (h' := h7) rfl ?_
      refine Ev.icmp_ne (tgt := 25) dL_fails_10 (by decide) (fun b1 => absurd rfl b1) (fun _ => ?_)
      refine Ev.sg hX sL_fails_13 (pc' := 14) (ls' := [some (.ref b), some (.ref r), some (.int p)]) (st' := [.ref b]) (h' := h7) rfl ?_
      obtain ⟨fs9, h0⟩ := ob7.at0 hb
      obtain ⟨s7, hs7⟩ : ∃ s7, s7 = (rnG (cs.foldl appS s)).2.2 := ⟨_, rfl⟩
      rw [← hs7] at hE ob7 ⊢
      have b7 := st7.2.1
      have C : MT X 12 4 24 jdX6_errorPosition (.ref b :: []) h7 _ := OB.call (xs := [xNE]) (val := some (.int s7.2.2.2.2.2.2.1)) (cd := if s7.2.2.2.2.2.2.1 = -1 then 1 else 0) (s' := s7) hX hM (by omega) hb ob7 (fun v hv => nomatch hv) (fun _ => rfl) (fun X' T I L D hX' c => q_errorPosition hX' c (by omega))
      have hE2 : s7.2.2.2.2.2.2.1 = p := hE
      rw [hE2, if_neg hp0] at C
      refine Ev.callV (As := []) (rest := []) dvX6_errorPosition mkL_280 h0 rfl dL_fails_14 C ⟨by omega, by show 1 + 19 + 40 * _ ≤ 40 * _; omega⟩ ⟨by omega, by omega⟩ rfl (Nat.le_of_ble_eq_true rfl) (fun v5 h5 e5 => ?_) (fun E5 h5 e5 => ?_)
      · obtain ⟨h4, st5, ob5, ⟨c0, e⟩ | ⟨j, E, x1, x2, e⟩⟩ := e5
        · cases e
          show Ev _ _ _ _ _ _ 17 [some (.ref b), some (.ref r), some (.int p)] [.int p] h5
          refine Ev.sg hX sL_fails_17 (pc' := 18) (ls' := [some (.ref b), some (.ref r), some (.int p)]) (st' := [.int p, .int p]) (h' := h5) rfl ?_
          refine Ev.icmp_ne (tgt := 25) dL_fails_18 (by decide) (fun b1 => absurd rfl b1) (fun _ => ?_)
          refine Ev.sg hX sL_fails_21 (pc' := 26) (ls' := [some (.ref b), some (.ref r), some (.int p)]) (st' := [.int 1]) (h' := h5) rfl ?_
          refine Ev.zret dL_fails_26 rfl rfl ?_
          exact ⟨h5, ((st9.tr st7).tr st5).le (by omega), ob5, hP _ _ (hP _ _ p9 st7) st5, rfl⟩
        · cases e
      · obtain ⟨h4, st5, ob5, ⟨c0, e⟩ | ⟨j, E, x1, x2, e⟩⟩ := e5
        · cases e
        · rcases j with _ | j
          · exact absurd x2 (by decide)
          · cases x1
    · obtain ⟨h6, st7, ob7, e⟩ := e7
      cases e
  · obtain ⟨h8, st9, ob9, p9, e⟩ := e9
    cases e
end FAI
