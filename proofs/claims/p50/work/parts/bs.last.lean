/-! the law's end: x restored -/
section LWZ
variable {X : JX} {mc ms : Nat} {Q : JR → Prop} {h : MH} {K : Nat} {now : Int32} {sx : GS} {g : Nat → Nat} {l0 l2 l4 l5 l6 l7 l8 : Option Value}
theorem law_Z (hX : JXok X) (hM : jM X ≤ 396) (ox : OB K 0 395 sx h) (hs : sx.2.2.2.1 = some g) (hg : now = stGF g) (hN : zN h ≤ 400000) (hm : 6000 ≤ mc ∧ 40000 ≤ ms) (hQ : ∀ h', Q (.inl (some (.int 1), h'))) :
    Ev X (jm jdL_law) 17 mc ms Q 1165 [l0, some (.ref 0), l2, some (.int now), l4, l5, l6, l7, l8] [] h := by
  have b0 : (0 : Nat) = 0 ∨ 396 ≤ 0 := Or.inl rfl
  have hBIG : 500000 < BIG := by decide
  obtain ⟨s2, hs2⟩ : ∃ t : GS, t = (g, sx.2.1, 0, some g, sx.2.2.2.2.1, sx.2.2.2.2.2.1, sx.2.2.2.2.2.2.1, sx.2.2.2.2.2.2.2.1, sx.2.2.2.2.2.2.2.2) := ⟨_, rfl⟩
  refine Ev.sg hX sL_law_1165 (pc' := 1166) (ls' := [l0, some (.ref 0), l2, some (.int now), l4, l5, l6, l7, l8]) (st' := [.ref 0]) (h' := h) rfl ?_
  refine Ev.ask (K' := K) (mc1 := 4) (ms1 := 24) (As := []) (rest := []) (xs := [xIS]) (val := none) (s' := s2) hX hM b0 ox (by omega) dvX6_restore mkL_274 rfl dL_law_1166 (by decide) (by decide) ⟨by omega, by omega⟩ rfl (Nat.le_of_ble_eq_true rfl) nr_0 (fun _ => rfl) (by decide) (fun X' T I L D hX' c9 => by
    rw [hs2]
    exact q_restore hX' c9 (by omega) hs) (fun h1 st1 ob1 => ?_)
  have s1 := st1.2.1
  show Ev _ _ _ _ _ _ 1169 [l0, some (.ref 0), l2, some (.int now), l4, l5, l6, l7, l8] [] h1
  refine Ev.sg hX sL_law_1169 (pc' := 1170) (ls' := [l0, some (.ref 0), l2, some (.int now), l4, l5, l6, l7, l8]) (st' := [.ref 0]) (h' := h1) rfl ?_
  refine Ev.callS (As := [.ref 0]) (rest := []) dsL_state mkL_139 dL_law_1170 (c_state hX hM b0 ob1 (by omega)) ⟨by decide, by show 7 + 19 + 40 * _ ≤ 40 * _; omega⟩ ⟨by omega, by omega⟩ rfl (Nat.le_of_ble_eq_true rfl) (fun v9 h9 e9 => ?_) (fun E9 h9 e9 => ?_)
  · obtain ⟨h2, st2, ob2, e⟩ := e9
    cases e
    have eg : s2.1 = g := by rw [hs2]
    rw [eg, ← hg]
    show Ev _ _ _ _ _ _ 1173 [l0, some (.ref 0), l2, some (.int now), l4, l5, l6, l7, l8] [.int now] h9
    refine Ev.sg hX sL_law_1173 (pc' := 1174) (ls' := [l0, some (.ref 0), l2, some (.int now), l4, l5, l6, l7, l8]) (st' := [.int now, .int now]) (h' := h9) rfl ?_
    refine Ev.icmp_ne (tgt := 1181) dL_law_1174 (by decide) (fun b1 => absurd rfl b1) (fun _ => ?_)
    refine Ev.sg hX sL_law_1177 (pc' := 1182) (ls' := [l0, some (.ref 0), l2, some (.int now), l4, l5, l6, l7, l8]) (st' := [.int 1]) (h' := h9) rfl ?_
    refine Ev.zret dL_law_1182 rfl rfl ?_
    exact hQ h9
  · obtain ⟨h2, st2, ob2, e⟩ := e9
    cases e
end LWZ
