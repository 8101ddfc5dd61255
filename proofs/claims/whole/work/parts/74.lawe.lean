/-! the law's methods: calls 2 -/
section LWM
variable {X : JX} {d mc ms : Nat} {h : MH} {Q' : JR → Prop} {fs9 : List (Value ⊕ Bool)}
abbrev cdL_weightOn : String → Int32 := cdE ["java/lang/IndexOutOfBoundsException"]
theorem wL_weightOn {a0 : Int32} (hX : JXok X) (h0 : zS h 0 = some (.inr (6, fs9))) (hm : MT X d mc ms jdX6_weightOn [.ref 0, .int a0] h Q') (hq : ∀ v h', Q' (.inl (v, h')) → ∃ x, v = some (.int x) ∧ zS h' 405 = some (.inl (.long, 1))) (hx : ∀ E h', Q' (.inr (E, h')) → E = "java/lang/IndexOutOfBoundsException") : MTH X (d + 1) mc ms jdL_weightOn hhL_weightOn [.ref 0, .int a0, .ref 405] h (wQ cdL_weightOn wI Q') := by
  refine MTH.mk dhL_weightOn ?_
  refine Ev.sg hX sL_weightOn_0 (pc' := 4) (ls' := [some (.ref 0), some (.int a0), some (.ref 405), none]) (st' := [.int a0, .ref 0, .int 0, .ref 405]) (h' := h) rfl ?_
  refine Ev.callV (As := [.int a0]) (rest := [.int 0, .ref 405]) dvX6_weightOn mkL_50 h0 rfl dL_weightOn_4 hm ⟨Nat.le_refl _, by show 2 + 19 + 40 * _ ≤ 40 * _; omega⟩ ⟨Nat.le_refl _, Nat.le_refl _⟩ rfl (Nat.le_of_ble_eq_true rfl) (fun v9 h9 e9 => ?_) (fun E9 h9 e9 => ?_)
  · obtain ⟨x, rfl, hsh⟩ := hq _ _ e9
    show Ev _ _ _ _ _ _ 7 [some (.ref 0), some (.int a0), some (.ref 405), none] [.int x, .int 0, .ref 405] h9
    refine Ev.sg hX sL_weightOn_7 (pc' := 8) (ls' := [some (.ref 0), some (.int a0), some (.ref 405), none]) (st' := [.long x.toInt64, .int 0, .ref 405]) (h' := h9) rfl ?_
    refine Ev.last hX hsh (vp_in_nI (n := 0) (N := 1) (by decide) (by decide)) dL_weightOn_8 ?_
    show Ev _ _ _ _ _ _ 9 [some (.ref 0), some (.int a0), some (.ref 405), none] [] (setL h9 405 0 x.toInt64)
    refine Ev.sg hX sL_weightOn_9 (pc' := 15) (ls' := [some (.ref 0), some (.int a0), some (.ref 405), none]) (st' := []) (h' := setL h9 405 0 x.toInt64) rfl ?_
    refine Ev.sg hX sL_weightOn_15 (pc' := 16) (ls' := [some (.ref 0), some (.int a0), some (.ref 405), none]) (st' := [.int 0]) (h' := setL h9 405 0 x.toInt64) rfl ?_
    refine Ev.iret dL_weightOn_16 rfl ?_
    exact Or.inl ⟨_, _, _, e9, ⟨_, rfl, rfl⟩, rfl⟩
  · rcases hx _ _ e9 with rfl
    · refine EvX.catchN (E := "java/lang/IndexOutOfBoundsException") (i := 3) (by decide +kernel) [] (0, 9, 12, 20) [] rfl (List.mem_filter.mpr ⟨List.mem_of_getElem? (show tables_1[441]? = some _ by decide +kernel), by decide +kernel⟩) (fun _ h => absurd h List.not_mem_nil) ⟨by decide, by decide⟩ (by decide) (bw_of 592 (by decide +kernel) (by decide +kernel)) rfl (sL_weightOn_12.dc 0 (q := (12, .astore_n 3, 0, 0)) rfl) ?_
      show Ev _ _ _ _ _ _ 13 [some (.ref 0), some (.int a0), some (.ref 405), none] [] h9
      refine Ev.sg hX (sL_weightOn_12.sub 1 1) (pc' := 14) (ls' := [some (.ref 0), some (.int a0), some (.ref 405), none]) (st' := [.int 1]) (h' := h9) rfl ?_
      refine Ev.iret dL_weightOn_14 rfl ?_
      exact Or.inr ⟨_, _, e9, by rw [show cdL_weightOn "java/lang/IndexOutOfBoundsException" = 1 by decide +kernel]⟩
abbrev cdL_carAt : String → Int32 := cdE ["java/lang/IndexOutOfBoundsException", "java/util/NoSuchElementException"]
theorem wL_carAt {a0 : Int32} {a1 : Int32} (hX : JXok X) (h0 : zS h 0 = some (.inr (6, fs9))) (hm : MT X d mc ms jdX6_carAt [.ref 0, .int a0, .int a1] h Q') (hq : ∀ v h', Q' (.inl (v, h')) → ∃ x, v = some (.int x) ∧ zS h' 405 = some (.inl (.long, 1))) (hx : ∀ E h', Q' (.inr (E, h')) → E = "java/lang/IndexOutOfBoundsException" ∨ E = "java/util/NoSuchElementException") : MTH X (d + 1) mc ms jdL_carAt hhL_carAt [.ref 0, .int a0, .int a1, .ref 405] h (wQ cdL_carAt wI Q') := by
  refine MTH.mk dhL_carAt ?_
  refine Ev.sg hX sL_carAt_0 (pc' := 5) (ls' := [some (.ref 0), some (.int a0), some (.int a1), some (.ref 405), none]) (st' := [.int a1, .int a0, .ref 0, .int 0, .ref 405]) (h' := h) rfl ?_
  refine Ev.callV (As := [.int a0, .int a1]) (rest := [.int 0, .ref 405]) dvX6_carAt mkL_53 h0 rfl dL_carAt_5 hm ⟨Nat.le_refl _, by show 4 + 19 + 40 * _ ≤ 40 * _; omega⟩ ⟨Nat.le_refl _, Nat.le_refl _⟩ rfl (Nat.le_of_ble_eq_true rfl) (fun v9 h9 e9 => ?_) (fun E9 h9 e9 => ?_)
  · obtain ⟨x, rfl, hsh⟩ := hq _ _ e9
    show Ev _ _ _ _ _ _ 8 [some (.ref 0), some (.int a0), some (.int a1), some (.ref 405), none] [.int x, .int 0, .ref 405] h9
    refine Ev.sg hX sL_carAt_8 (pc' := 9) (ls' := [some (.ref 0), some (.int a0), some (.int a1), some (.ref 405), none]) (st' := [.long x.toInt64, .int 0, .ref 405]) (h' := h9) rfl ?_
    refine Ev.last hX hsh (vp_in_nI (n := 0) (N := 1) (by decide) (by decide)) dL_carAt_9 ?_
    show Ev _ _ _ _ _ _ 10 [some (.ref 0), some (.int a0), some (.int a1), some (.ref 405), none] [] (setL h9 405 0 x.toInt64)
    refine Ev.sg hX sL_carAt_10 (pc' := 21) (ls' := [some (.ref 0), some (.int a0), some (.int a1), some (.ref 405), none]) (st' := []) (h' := setL h9 405 0 x.toInt64) rfl ?_
    refine Ev.sg hX sL_carAt_21 (pc' := 22) (ls' := [some (.ref 0), some (.int a0), some (.int a1), some (.ref 405), none]) (st' := [.int 0]) (h' := setL h9 405 0 x.toInt64) rfl ?_
    refine Ev.iret dL_carAt_22 rfl ?_
    exact Or.inl ⟨_, _, _, e9, ⟨_, rfl, rfl⟩, rfl⟩
  · rcases hx _ _ e9 with rfl | rfl
    · refine EvX.catch (E := "java/lang/IndexOutOfBoundsException") (i := 4) (by decide +kernel) [] (0, 10, 13, 20) [(0, 10, 17, 35)] rfl (List.mem_filter.mpr ⟨List.mem_of_getElem? (show tables_1[441]? = some _ by decide +kernel), by decide +kernel⟩) (fun _ h => absurd h List.not_mem_nil) ⟨by decide, by decide⟩ (by decide) (bw_of 592 (by decide +kernel) (by decide +kernel)) rfl (sL_carAt_13.dc 0 (q := (13, .astore 4, 0, 0)) rfl) ?_
      show Ev _ _ _ _ _ _ 15 [some (.ref 0), some (.int a0), some (.int a1), some (.ref 405), none] [] h9
      refine Ev.sg hX (sL_carAt_13.sub 1 1) (pc' := 16) (ls' := [some (.ref 0), some (.int a0), some (.int a1), some (.ref 405), none]) (st' := [.int 1]) (h' := h9) rfl ?_
      refine Ev.iret dL_carAt_16 rfl ?_
      exact Or.inr ⟨_, _, e9, by rw [show cdL_carAt "java/lang/IndexOutOfBoundsException" = 1 by decide +kernel]⟩
    · refine EvX.catch (E := "java/util/NoSuchElementException") (i := 4) (by decide +kernel) [(0, 10, 13, 20)] (0, 10, 17, 35) [] rfl (List.mem_filter.mpr ⟨List.mem_of_getElem? (show tables_1[545]? = some _ by decide +kernel), by decide +kernel⟩) (List.forall_mem_cons.mpr ⟨⟨by decide, "java/lang/IndexOutOfBoundsException", by decide +kernel, by decide +kernel, (bw_of 592 (by decide +kernel) (by decide +kernel))⟩, fun _ h => absurd h List.not_mem_nil⟩) ⟨by decide, by decide⟩ (by decide) (bw_of 686 (by decide +kernel) (by decide +kernel)) rfl (sL_carAt_17.dc 0 (q := (17, .astore 4, 0, 0)) rfl) ?_
      show Ev _ _ _ _ _ _ 19 [some (.ref 0), some (.int a0), some (.int a1), some (.ref 405), none] [] h9
      refine Ev.sg hX (sL_carAt_17.sub 1 1) (pc' := 20) (ls' := [some (.ref 0), some (.int a0), some (.int a1), some (.ref 405), none]) (st' := [.int 2]) (h' := h9) rfl ?_
      refine Ev.iret dL_carAt_20 rfl ?_
      exact Or.inr ⟨_, _, e9, by rw [show cdL_carAt "java/util/NoSuchElementException" = 2 by decide +kernel]⟩
abbrev cdL_isSorted : String → Int32 := cdE ["java/lang/IndexOutOfBoundsException"]
theorem wL_isSorted {a0 : Int32} (hX : JXok X) (h0 : zS h 0 = some (.inr (6, fs9))) (hm : MT X d mc ms jdX6_isSorted [.ref 0, .int a0] h Q') (hq : ∀ v h', Q' (.inl (v, h')) → ∃ x, v = some (.int x) ∧ zS h' 405 = some (.inl (.long, 1))) (hx : ∀ E h', Q' (.inr (E, h')) → E = "java/lang/IndexOutOfBoundsException") : MTH X (d + 1) mc ms jdL_isSorted hhL_isSorted [.ref 0, .int a0, .ref 405] h (wQ cdL_isSorted wZ Q') := by
  refine MTH.mk dhL_isSorted ?_
  refine Ev.sg hX sL_isSorted_0 (pc' := 4) (ls' := [some (.ref 0), some (.int a0), some (.ref 405), none]) (st' := [.int a0, .ref 0, .int 0, .ref 405]) (h' := h) rfl ?_
  refine Ev.callV (As := [.int a0]) (rest := [.int 0, .ref 405]) dvX6_isSorted mkL_56 h0 rfl dL_isSorted_4 hm ⟨Nat.le_refl _, by show 2 + 19 + 40 * _ ≤ 40 * _; omega⟩ ⟨Nat.le_refl _, Nat.le_refl _⟩ rfl (Nat.le_of_ble_eq_true rfl) (fun v9 h9 e9 => ?_) (fun E9 h9 e9 => ?_)
  · obtain ⟨x, rfl, hsh⟩ := hq _ _ e9
    show Ev _ _ _ _ _ _ 7 [some (.ref 0), some (.int a0), some (.ref 405), none] [.int x, .int 0, .ref 405] h9
    refine Ev.if_eq (tgt := 14) dL_isSorted_7 (by decide) (fun b1 => ?_) (fun b1 => ?_)
    · refine Ev.sg hX sL_isSorted_14 (pc' := 15) (ls' := [some (.ref 0), some (.int a0), some (.ref 405), none]) (st' := [.long 0, .int 0, .ref 405]) (h' := h9) rfl ?_
      refine Ev.last hX hsh (vp_in_nI (n := 0) (N := 1) (by decide) (by decide)) dL_isSorted_15 ?_
      show Ev _ _ _ _ _ _ 16 [some (.ref 0), some (.int a0), some (.ref 405), none] [] (setL h9 405 0 0)
      refine Ev.sg hX sL_isSorted_16 (pc' := 22) (ls' := [some (.ref 0), some (.int a0), some (.ref 405), none]) (st' := []) (h' := setL h9 405 0 0) rfl ?_
      refine Ev.sg hX sL_isSorted_22 (pc' := 23) (ls' := [some (.ref 0), some (.int a0), some (.ref 405), none]) (st' := [.int 0]) (h' := setL h9 405 0 0) rfl ?_
      refine Ev.iret dL_isSorted_23 rfl ?_
      exact Or.inl ⟨_, _, _, e9, ⟨_, rfl, by rw [if_pos b1]⟩, rfl⟩
    · refine Ev.sg hX sL_isSorted_10 (pc' := 15) (ls' := [some (.ref 0), some (.int a0), some (.ref 405), none]) (st' := [.long 1, .int 0, .ref 405]) (h' := h9) rfl ?_
      refine Ev.last hX hsh (vp_in_nI (n := 0) (N := 1) (by decide) (by decide)) dL_isSorted_15 ?_
      show Ev _ _ _ _ _ _ 16 [some (.ref 0), some (.int a0), some (.ref 405), none] [] (setL h9 405 0 1)
      refine Ev.sg hX sL_isSorted_16 (pc' := 22) (ls' := [some (.ref 0), some (.int a0), some (.ref 405), none]) (st' := []) (h' := setL h9 405 0 1) rfl ?_
      refine Ev.sg hX sL_isSorted_22 (pc' := 23) (ls' := [some (.ref 0), some (.int a0), some (.ref 405), none]) (st' := [.int 0]) (h' := setL h9 405 0 1) rfl ?_
      refine Ev.iret dL_isSorted_23 rfl ?_
      exact Or.inl ⟨_, _, _, e9, ⟨_, rfl, by rw [if_neg b1]⟩, rfl⟩
  · rcases hx _ _ e9 with rfl
    · refine EvX.catchN (E := "java/lang/IndexOutOfBoundsException") (i := 3) (by decide +kernel) [] (0, 16, 19, 20) [] rfl (List.mem_filter.mpr ⟨List.mem_of_getElem? (show tables_1[441]? = some _ by decide +kernel), by decide +kernel⟩) (fun _ h => absurd h List.not_mem_nil) ⟨by decide, by decide⟩ (by decide) (bw_of 592 (by decide +kernel) (by decide +kernel)) rfl (sL_isSorted_19.dc 0 (q := (19, .astore_n 3, 0, 0)) rfl) ?_
      show Ev _ _ _ _ _ _ 20 [some (.ref 0), some (.int a0), some (.ref 405), none] [] h9
      refine Ev.sg hX (sL_isSorted_19.sub 1 1) (pc' := 21) (ls' := [some (.ref 0), some (.int a0), some (.ref 405), none]) (st' := [.int 1]) (h' := h9) rfl ?_
      refine Ev.iret dL_isSorted_21 rfl ?_
      exact Or.inr ⟨_, _, e9, by rw [show cdL_isSorted "java/lang/IndexOutOfBoundsException" = 1 by decide +kernel]⟩
abbrev cdL_disorder : String → Int32 := cdE ["java/lang/IndexOutOfBoundsException"]
theorem wL_disorder {a0 : Int32} (hX : JXok X) (h0 : zS h 0 = some (.inr (6, fs9))) (hm : MT X d mc ms jdX6_disorder [.ref 0, .int a0] h Q') (hq : ∀ v h', Q' (.inl (v, h')) → ∃ x, v = some (.int x) ∧ zS h' 405 = some (.inl (.long, 1))) (hx : ∀ E h', Q' (.inr (E, h')) → E = "java/lang/IndexOutOfBoundsException") : MTH X (d + 1) mc ms jdL_disorder hhL_disorder [.ref 0, .int a0, .ref 405] h (wQ cdL_disorder wI Q') := by
  refine MTH.mk dhL_disorder ?_
  refine Ev.sg hX sL_disorder_0 (pc' := 4) (ls' := [some (.ref 0), some (.int a0), some (.ref 405), none]) (st' := [.int a0, .ref 0, .int 0, .ref 405]) (h' := h) rfl ?_
  refine Ev.callV (As := [.int a0]) (rest := [.int 0, .ref 405]) dvX6_disorder mkL_60 h0 rfl dL_disorder_4 hm ⟨Nat.le_refl _, by show 2 + 19 + 40 * _ ≤ 40 * _; omega⟩ ⟨Nat.le_refl _, Nat.le_refl _⟩ rfl (Nat.le_of_ble_eq_true rfl) (fun v9 h9 e9 => ?_) (fun E9 h9 e9 => ?_)
  · obtain ⟨x, rfl, hsh⟩ := hq _ _ e9
    show Ev _ _ _ _ _ _ 7 [some (.ref 0), some (.int a0), some (.ref 405), none] [.int x, .int 0, .ref 405] h9
    refine Ev.sg hX sL_disorder_7 (pc' := 8) (ls' := [some (.ref 0), some (.int a0), some (.ref 405), none]) (st' := [.long x.toInt64, .int 0, .ref 405]) (h' := h9) rfl ?_
    refine Ev.last hX hsh (vp_in_nI (n := 0) (N := 1) (by decide) (by decide)) dL_disorder_8 ?_
    show Ev _ _ _ _ _ _ 9 [some (.ref 0), some (.int a0), some (.ref 405), none] [] (setL h9 405 0 x.toInt64)
    refine Ev.sg hX sL_disorder_9 (pc' := 15) (ls' := [some (.ref 0), some (.int a0), some (.ref 405), none]) (st' := []) (h' := setL h9 405 0 x.toInt64) rfl ?_
    refine Ev.sg hX sL_disorder_15 (pc' := 16) (ls' := [some (.ref 0), some (.int a0), some (.ref 405), none]) (st' := [.int 0]) (h' := setL h9 405 0 x.toInt64) rfl ?_
    refine Ev.iret dL_disorder_16 rfl ?_
    exact Or.inl ⟨_, _, _, e9, ⟨_, rfl, rfl⟩, rfl⟩
  · rcases hx _ _ e9 with rfl
    · refine EvX.catchN (E := "java/lang/IndexOutOfBoundsException") (i := 3) (by decide +kernel) [] (0, 9, 12, 20) [] rfl (List.mem_filter.mpr ⟨List.mem_of_getElem? (show tables_1[441]? = some _ by decide +kernel), by decide +kernel⟩) (fun _ h => absurd h List.not_mem_nil) ⟨by decide, by decide⟩ (by decide) (bw_of 592 (by decide +kernel) (by decide +kernel)) rfl (sL_disorder_12.dc 0 (q := (12, .astore_n 3, 0, 0)) rfl) ?_
      show Ev _ _ _ _ _ _ 13 [some (.ref 0), some (.int a0), some (.ref 405), none] [] h9
      refine Ev.sg hX (sL_disorder_12.sub 1 1) (pc' := 14) (ls' := [some (.ref 0), some (.int a0), some (.ref 405), none]) (st' := [.int 1]) (h' := h9) rfl ?_
      refine Ev.iret dL_disorder_14 rfl ?_
      exact Or.inr ⟨_, _, e9, by rw [show cdL_disorder "java/lang/IndexOutOfBoundsException" = 1 by decide +kernel]⟩
abbrev cdL_disorderByInsertion : String → Int32 := cdE ["java/lang/IndexOutOfBoundsException"]
theorem wL_disorderByInsertion {a0 : Int32} (hX : JXok X) (h0 : zS h 0 = some (.inr (6, fs9))) (hm : MT X d mc ms jdX6_disorderByInsertion [.ref 0, .int a0] h Q') (hq : ∀ v h', Q' (.inl (v, h')) → ∃ x, v = some (.int x) ∧ zS h' 405 = some (.inl (.long, 1))) (hx : ∀ E h', Q' (.inr (E, h')) → E = "java/lang/IndexOutOfBoundsException") : MTH X (d + 1) mc ms jdL_disorderByInsertion hhL_disorderByInsertion [.ref 0, .int a0, .ref 405] h (wQ cdL_disorderByInsertion wI Q') := by
  refine MTH.mk dhL_disorderByInsertion ?_
  refine Ev.sg hX sL_disorderByInsertion_0 (pc' := 4) (ls' := [some (.ref 0), some (.int a0), some (.ref 405), none]) (st' := [.int a0, .ref 0, .int 0, .ref 405]) (h' := h) rfl ?_
  refine Ev.callV (As := [.int a0]) (rest := [.int 0, .ref 405]) dvX6_disorderByInsertion mkL_63 h0 rfl dL_disorderByInsertion_4 hm ⟨Nat.le_refl _, by show 2 + 19 + 40 * _ ≤ 40 * _; omega⟩ ⟨Nat.le_refl _, Nat.le_refl _⟩ rfl (Nat.le_of_ble_eq_true rfl) (fun v9 h9 e9 => ?_) (fun E9 h9 e9 => ?_)
  · obtain ⟨x, rfl, hsh⟩ := hq _ _ e9
    show Ev _ _ _ _ _ _ 7 [some (.ref 0), some (.int a0), some (.ref 405), none] [.int x, .int 0, .ref 405] h9
    refine Ev.sg hX sL_disorderByInsertion_7 (pc' := 8) (ls' := [some (.ref 0), some (.int a0), some (.ref 405), none]) (st' := [.long x.toInt64, .int 0, .ref 405]) (h' := h9) rfl ?_
    refine Ev.last hX hsh (vp_in_nI (n := 0) (N := 1) (by decide) (by decide)) dL_disorderByInsertion_8 ?_
    show Ev _ _ _ _ _ _ 9 [some (.ref 0), some (.int a0), some (.ref 405), none] [] (setL h9 405 0 x.toInt64)
    refine Ev.sg hX sL_disorderByInsertion_9 (pc' := 15) (ls' := [some (.ref 0), some (.int a0), some (.ref 405), none]) (st' := []) (h' := setL h9 405 0 x.toInt64) rfl ?_
    refine Ev.sg hX sL_disorderByInsertion_15 (pc' := 16) (ls' := [some (.ref 0), some (.int a0), some (.ref 405), none]) (st' := [.int 0]) (h' := setL h9 405 0 x.toInt64) rfl ?_
    refine Ev.iret dL_disorderByInsertion_16 rfl ?_
    exact Or.inl ⟨_, _, _, e9, ⟨_, rfl, rfl⟩, rfl⟩
  · rcases hx _ _ e9 with rfl
    · refine EvX.catchN (E := "java/lang/IndexOutOfBoundsException") (i := 3) (by decide +kernel) [] (0, 9, 12, 20) [] rfl (List.mem_filter.mpr ⟨List.mem_of_getElem? (show tables_1[441]? = some _ by decide +kernel), by decide +kernel⟩) (fun _ h => absurd h List.not_mem_nil) ⟨by decide, by decide⟩ (by decide) (bw_of 592 (by decide +kernel) (by decide +kernel)) rfl (sL_disorderByInsertion_12.dc 0 (q := (12, .astore_n 3, 0, 0)) rfl) ?_
      show Ev _ _ _ _ _ _ 13 [some (.ref 0), some (.int a0), some (.ref 405), none] [] h9
      refine Ev.sg hX (sL_disorderByInsertion_12.sub 1 1) (pc' := 14) (ls' := [some (.ref 0), some (.int a0), some (.ref 405), none]) (st' := [.int 1]) (h' := h9) rfl ?_
      refine Ev.iret dL_disorderByInsertion_14 rfl ?_
      exact Or.inr ⟨_, _, e9, by rw [show cdL_disorderByInsertion "java/lang/IndexOutOfBoundsException" = 1 by decide +kernel]⟩
abbrev cdL_trainLength : String → Int32 := cdE ["java/lang/IndexOutOfBoundsException"]
theorem wL_trainLength {a0 : Int32} (hX : JXok X) (h0 : zS h 0 = some (.inr (6, fs9))) (hm : MT X d mc ms jdX6_trainLength [.ref 0, .int a0] h Q') (hq : ∀ v h', Q' (.inl (v, h')) → ∃ x, v = some (.int x) ∧ zS h' 405 = some (.inl (.long, 1))) (hx : ∀ E h', Q' (.inr (E, h')) → E = "java/lang/IndexOutOfBoundsException") : MTH X (d + 1) mc ms jdL_trainLength hhL_trainLength [.ref 0, .int a0, .ref 405] h (wQ cdL_trainLength wI Q') := by
  refine MTH.mk dhL_trainLength ?_
  refine Ev.sg hX sL_trainLength_0 (pc' := 4) (ls' := [some (.ref 0), some (.int a0), some (.ref 405), none]) (st' := [.int a0, .ref 0, .int 0, .ref 405]) (h' := h) rfl ?_
  refine Ev.callV (As := [.int a0]) (rest := [.int 0, .ref 405]) dvX6_trainLength mkL_66 h0 rfl dL_trainLength_4 hm ⟨Nat.le_refl _, by show 2 + 19 + 40 * _ ≤ 40 * _; omega⟩ ⟨Nat.le_refl _, Nat.le_refl _⟩ rfl (Nat.le_of_ble_eq_true rfl) (fun v9 h9 e9 => ?_) (fun E9 h9 e9 => ?_)
  · obtain ⟨x, rfl, hsh⟩ := hq _ _ e9
    show Ev _ _ _ _ _ _ 7 [some (.ref 0), some (.int a0), some (.ref 405), none] [.int x, .int 0, .ref 405] h9
    refine Ev.sg hX sL_trainLength_7 (pc' := 8) (ls' := [some (.ref 0), some (.int a0), some (.ref 405), none]) (st' := [.long x.toInt64, .int 0, .ref 405]) (h' := h9) rfl ?_
    refine Ev.last hX hsh (vp_in_nI (n := 0) (N := 1) (by decide) (by decide)) dL_trainLength_8 ?_
    show Ev _ _ _ _ _ _ 9 [some (.ref 0), some (.int a0), some (.ref 405), none] [] (setL h9 405 0 x.toInt64)
    refine Ev.sg hX sL_trainLength_9 (pc' := 15) (ls' := [some (.ref 0), some (.int a0), some (.ref 405), none]) (st' := []) (h' := setL h9 405 0 x.toInt64) rfl ?_
    refine Ev.sg hX sL_trainLength_15 (pc' := 16) (ls' := [some (.ref 0), some (.int a0), some (.ref 405), none]) (st' := [.int 0]) (h' := setL h9 405 0 x.toInt64) rfl ?_
    refine Ev.iret dL_trainLength_16 rfl ?_
    exact Or.inl ⟨_, _, _, e9, ⟨_, rfl, rfl⟩, rfl⟩
  · rcases hx _ _ e9 with rfl
    · refine EvX.catchN (E := "java/lang/IndexOutOfBoundsException") (i := 3) (by decide +kernel) [] (0, 9, 12, 20) [] rfl (List.mem_filter.mpr ⟨List.mem_of_getElem? (show tables_1[441]? = some _ by decide +kernel), by decide +kernel⟩) (fun _ h => absurd h List.not_mem_nil) ⟨by decide, by decide⟩ (by decide) (bw_of 592 (by decide +kernel) (by decide +kernel)) rfl (sL_trainLength_12.dc 0 (q := (12, .astore_n 3, 0, 0)) rfl) ?_
      show Ev _ _ _ _ _ _ 13 [some (.ref 0), some (.int a0), some (.ref 405), none] [] h9
      refine Ev.sg hX (sL_trainLength_12.sub 1 1) (pc' := 14) (ls' := [some (.ref 0), some (.int a0), some (.ref 405), none]) (st' := [.int 1]) (h' := h9) rfl ?_
      refine Ev.iret dL_trainLength_14 rfl ?_
      exact Or.inr ⟨_, _, e9, by rw [show cdL_trainLength "java/lang/IndexOutOfBoundsException" = 1 by decide +kernel]⟩
abbrev cdL_trackAtRank : String → Int32 := cdE ["java/util/NoSuchElementException"]
theorem wL_trackAtRank {a0 : Int32} (hX : JXok X) (h0 : zS h 0 = some (.inr (6, fs9))) (hm : MT X d mc ms jdX6_trackAtRank [.ref 0, .int a0] h Q') (hq : ∀ v h', Q' (.inl (v, h')) → ∃ x, v = some (.int x) ∧ zS h' 405 = some (.inl (.long, 1))) (hx : ∀ E h', Q' (.inr (E, h')) → E = "java/util/NoSuchElementException") : MTH X (d + 1) mc ms jdL_trackAtRank hhL_trackAtRank [.ref 0, .int a0, .ref 405] h (wQ cdL_trackAtRank wI Q') := by
  refine MTH.mk dhL_trackAtRank ?_
  refine Ev.sg hX sL_trackAtRank_0 (pc' := 4) (ls' := [some (.ref 0), some (.int a0), some (.ref 405), none]) (st' := [.int a0, .ref 0, .int 0, .ref 405]) (h' := h) rfl ?_
  refine Ev.callV (As := [.int a0]) (rest := [.int 0, .ref 405]) dvX6_trackAtRank mkL_69 h0 rfl dL_trackAtRank_4 hm ⟨Nat.le_refl _, by show 3 + 19 + 40 * _ ≤ 40 * _; omega⟩ ⟨Nat.le_refl _, Nat.le_refl _⟩ rfl (Nat.le_of_ble_eq_true rfl) (fun v9 h9 e9 => ?_) (fun E9 h9 e9 => ?_)
  · obtain ⟨x, rfl, hsh⟩ := hq _ _ e9
    show Ev _ _ _ _ _ _ 7 [some (.ref 0), some (.int a0), some (.ref 405), none] [.int x, .int 0, .ref 405] h9
    refine Ev.sg hX sL_trackAtRank_7 (pc' := 8) (ls' := [some (.ref 0), some (.int a0), some (.ref 405), none]) (st' := [.long x.toInt64, .int 0, .ref 405]) (h' := h9) rfl ?_
    refine Ev.last hX hsh (vp_in_nI (n := 0) (N := 1) (by decide) (by decide)) dL_trackAtRank_8 ?_
    show Ev _ _ _ _ _ _ 9 [some (.ref 0), some (.int a0), some (.ref 405), none] [] (setL h9 405 0 x.toInt64)
    refine Ev.sg hX sL_trackAtRank_9 (pc' := 15) (ls' := [some (.ref 0), some (.int a0), some (.ref 405), none]) (st' := []) (h' := setL h9 405 0 x.toInt64) rfl ?_
    refine Ev.sg hX sL_trackAtRank_15 (pc' := 16) (ls' := [some (.ref 0), some (.int a0), some (.ref 405), none]) (st' := [.int 0]) (h' := setL h9 405 0 x.toInt64) rfl ?_
    refine Ev.iret dL_trackAtRank_16 rfl ?_
    exact Or.inl ⟨_, _, _, e9, ⟨_, rfl, rfl⟩, rfl⟩
  · rcases hx _ _ e9 with rfl
    · refine EvX.catchN (E := "java/util/NoSuchElementException") (i := 3) (by decide +kernel) [] (0, 9, 12, 35) [] rfl (List.mem_filter.mpr ⟨List.mem_of_getElem? (show tables_1[545]? = some _ by decide +kernel), by decide +kernel⟩) (fun _ h => absurd h List.not_mem_nil) ⟨by decide, by decide⟩ (by decide) (bw_of 686 (by decide +kernel) (by decide +kernel)) rfl (sL_trackAtRank_12.dc 0 (q := (12, .astore_n 3, 0, 0)) rfl) ?_
      show Ev _ _ _ _ _ _ 13 [some (.ref 0), some (.int a0), some (.ref 405), none] [] h9
      refine Ev.sg hX (sL_trackAtRank_12.sub 1 1) (pc' := 14) (ls' := [some (.ref 0), some (.int a0), some (.ref 405), none]) (st' := [.int 1]) (h' := h9) rfl ?_
      refine Ev.iret dL_trackAtRank_14 rfl ?_
      exact Or.inr ⟨_, _, e9, by rw [show cdL_trackAtRank "java/util/NoSuchElementException" = 1 by decide +kernel]⟩
abbrev cdL_areConnected : String → Int32 := cdE ["java/lang/IndexOutOfBoundsException"]
theorem wL_areConnected {a0 : Int32} {a1 : Int32} (hX : JXok X) (h0 : zS h 0 = some (.inr (6, fs9))) (hm : MT X d mc ms jdX6_areConnected [.ref 0, .int a0, .int a1] h Q') (hq : ∀ v h', Q' (.inl (v, h')) → ∃ x, v = some (.int x) ∧ zS h' 405 = some (.inl (.long, 1))) (hx : ∀ E h', Q' (.inr (E, h')) → E = "java/lang/IndexOutOfBoundsException") : MTH X (d + 1) mc ms jdL_areConnected hhL_areConnected [.ref 0, .int a0, .int a1, .ref 405] h (wQ cdL_areConnected wZ Q') := by
  refine MTH.mk dhL_areConnected ?_
  refine Ev.sg hX sL_areConnected_0 (pc' := 5) (ls' := [some (.ref 0), some (.int a0), some (.int a1), some (.ref 405), none]) (st' := [.int a1, .int a0, .ref 0, .int 0, .ref 405]) (h' := h) rfl ?_
  refine Ev.callV (As := [.int a0, .int a1]) (rest := [.int 0, .ref 405]) dvX6_areConnected mkL_72 h0 rfl dL_areConnected_5 hm ⟨Nat.le_refl _, by show 3 + 19 + 40 * _ ≤ 40 * _; omega⟩ ⟨Nat.le_refl _, Nat.le_refl _⟩ rfl (Nat.le_of_ble_eq_true rfl) (fun v9 h9 e9 => ?_) (fun E9 h9 e9 => ?_)
  · obtain ⟨x, rfl, hsh⟩ := hq _ _ e9
    show Ev _ _ _ _ _ _ 8 [some (.ref 0), some (.int a0), some (.int a1), some (.ref 405), none] [.int x, .int 0, .ref 405] h9
    refine Ev.if_eq (tgt := 15) dL_areConnected_8 (by decide) (fun b1 => ?_) (fun b1 => ?_)
    · refine Ev.sg hX sL_areConnected_15 (pc' := 16) (ls' := [some (.ref 0), some (.int a0), some (.int a1), some (.ref 405), none]) (st' := [.long 0, .int 0, .ref 405]) (h' := h9) rfl ?_
      refine Ev.last hX hsh (vp_in_nI (n := 0) (N := 1) (by decide) (by decide)) dL_areConnected_16 ?_
      show Ev _ _ _ _ _ _ 17 [some (.ref 0), some (.int a0), some (.int a1), some (.ref 405), none] [] (setL h9 405 0 0)
      refine Ev.sg hX sL_areConnected_17 (pc' := 24) (ls' := [some (.ref 0), some (.int a0), some (.int a1), some (.ref 405), none]) (st' := []) (h' := setL h9 405 0 0) rfl ?_
      refine Ev.sg hX sL_areConnected_24 (pc' := 25) (ls' := [some (.ref 0), some (.int a0), some (.int a1), some (.ref 405), none]) (st' := [.int 0]) (h' := setL h9 405 0 0) rfl ?_
      refine Ev.iret dL_areConnected_25 rfl ?_
      exact Or.inl ⟨_, _, _, e9, ⟨_, rfl, by rw [if_pos b1]⟩, rfl⟩
    · refine Ev.sg hX sL_areConnected_11 (pc' := 16) (ls' := [some (.ref 0), some (.int a0), some (.int a1), some (.ref 405), none]) (st' := [.long 1, .int 0, .ref 405]) (h' := h9) rfl ?_
      refine Ev.last hX hsh (vp_in_nI (n := 0) (N := 1) (by decide) (by decide)) dL_areConnected_16 ?_
      show Ev _ _ _ _ _ _ 17 [some (.ref 0), some (.int a0), some (.int a1), some (.ref 405), none] [] (setL h9 405 0 1)
      refine Ev.sg hX sL_areConnected_17 (pc' := 24) (ls' := [some (.ref 0), some (.int a0), some (.int a1), some (.ref 405), none]) (st' := []) (h' := setL h9 405 0 1) rfl ?_
      refine Ev.sg hX sL_areConnected_24 (pc' := 25) (ls' := [some (.ref 0), some (.int a0), some (.int a1), some (.ref 405), none]) (st' := [.int 0]) (h' := setL h9 405 0 1) rfl ?_
      refine Ev.iret dL_areConnected_25 rfl ?_
      exact Or.inl ⟨_, _, _, e9, ⟨_, rfl, by rw [if_neg b1]⟩, rfl⟩
  · rcases hx _ _ e9 with rfl
    · refine EvX.catch (E := "java/lang/IndexOutOfBoundsException") (i := 4) (by decide +kernel) [] (0, 17, 20, 20) [] rfl (List.mem_filter.mpr ⟨List.mem_of_getElem? (show tables_1[441]? = some _ by decide +kernel), by decide +kernel⟩) (fun _ h => absurd h List.not_mem_nil) ⟨by decide, by decide⟩ (by decide) (bw_of 592 (by decide +kernel) (by decide +kernel)) rfl (sL_areConnected_20.dc 0 (q := (20, .astore 4, 0, 0)) rfl) ?_
      show Ev _ _ _ _ _ _ 22 [some (.ref 0), some (.int a0), some (.int a1), some (.ref 405), none] [] h9
      refine Ev.sg hX (sL_areConnected_20.sub 1 1) (pc' := 23) (ls' := [some (.ref 0), some (.int a0), some (.int a1), some (.ref 405), none]) (st' := [.int 1]) (h' := h9) rfl ?_
      refine Ev.iret dL_areConnected_23 rfl ?_
      exact Or.inr ⟨_, _, e9, by rw [show cdL_areConnected "java/lang/IndexOutOfBoundsException" = 1 by decide +kernel]⟩
abbrev cdL_routeLength : String → Int32 := cdE ["java/lang/IndexOutOfBoundsException", "java/util/NoSuchElementException"]
theorem wL_routeLength {a0 : Int32} {a1 : Int32} (hX : JXok X) (h0 : zS h 0 = some (.inr (6, fs9))) (hm : MT X d mc ms jdX6_routeLength [.ref 0, .int a0, .int a1] h Q') (hq : ∀ v h', Q' (.inl (v, h')) → ∃ x, v = some (.int x) ∧ zS h' 405 = some (.inl (.long, 1))) (hx : ∀ E h', Q' (.inr (E, h')) → E = "java/lang/IndexOutOfBoundsException" ∨ E = "java/util/NoSuchElementException") : MTH X (d + 1) mc ms jdL_routeLength hhL_routeLength [.ref 0, .int a0, .int a1, .ref 405] h (wQ cdL_routeLength wI Q') := by
  refine MTH.mk dhL_routeLength ?_
  refine Ev.sg hX sL_routeLength_0 (pc' := 5) (ls' := [some (.ref 0), some (.int a0), some (.int a1), some (.ref 405), none]) (st' := [.int a1, .int a0, .ref 0, .int 0, .ref 405]) (h' := h) rfl ?_
  refine Ev.callV (As := [.int a0, .int a1]) (rest := [.int 0, .ref 405]) dvX6_routeLength mkL_76 h0 rfl dL_routeLength_5 hm ⟨Nat.le_refl _, by show 3 + 19 + 40 * _ ≤ 40 * _; omega⟩ ⟨Nat.le_refl _, Nat.le_refl _⟩ rfl (Nat.le_of_ble_eq_true rfl) (fun v9 h9 e9 => ?_) (fun E9 h9 e9 => ?_)
  · obtain ⟨x, rfl, hsh⟩ := hq _ _ e9
    show Ev _ _ _ _ _ _ 8 [some (.ref 0), some (.int a0), some (.int a1), some (.ref 405), none] [.int x, .int 0, .ref 405] h9
    refine Ev.sg hX sL_routeLength_8 (pc' := 9) (ls' := [some (.ref 0), some (.int a0), some (.int a1), some (.ref 405), none]) (st' := [.long x.toInt64, .int 0, .ref 405]) (h' := h9) rfl ?_
    refine Ev.last hX hsh (vp_in_nI (n := 0) (N := 1) (by decide) (by decide)) dL_routeLength_9 ?_
    show Ev _ _ _ _ _ _ 10 [some (.ref 0), some (.int a0), some (.int a1), some (.ref 405), none] [] (setL h9 405 0 x.toInt64)
    refine Ev.sg hX sL_routeLength_10 (pc' := 21) (ls' := [some (.ref 0), some (.int a0), some (.int a1), some (.ref 405), none]) (st' := []) (h' := setL h9 405 0 x.toInt64) rfl ?_
    refine Ev.sg hX sL_routeLength_21 (pc' := 22) (ls' := [some (.ref 0), some (.int a0), some (.int a1), some (.ref 405), none]) (st' := [.int 0]) (h' := setL h9 405 0 x.toInt64) rfl ?_
    refine Ev.iret dL_routeLength_22 rfl ?_
    exact Or.inl ⟨_, _, _, e9, ⟨_, rfl, rfl⟩, rfl⟩
  · rcases hx _ _ e9 with rfl | rfl
    · refine EvX.catch (E := "java/lang/IndexOutOfBoundsException") (i := 4) (by decide +kernel) [] (0, 10, 13, 20) [(0, 10, 17, 35)] rfl (List.mem_filter.mpr ⟨List.mem_of_getElem? (show tables_1[441]? = some _ by decide +kernel), by decide +kernel⟩) (fun _ h => absurd h List.not_mem_nil) ⟨by decide, by decide⟩ (by decide) (bw_of 592 (by decide +kernel) (by decide +kernel)) rfl (sL_routeLength_13.dc 0 (q := (13, .astore 4, 0, 0)) rfl) ?_
      show Ev _ _ _ _ _ _ 15 [some (.ref 0), some (.int a0), some (.int a1), some (.ref 405), none] [] h9
      refine Ev.sg hX (sL_routeLength_13.sub 1 1) (pc' := 16) (ls' := [some (.ref 0), some (.int a0), some (.int a1), some (.ref 405), none]) (st' := [.int 1]) (h' := h9) rfl ?_
      refine Ev.iret dL_routeLength_16 rfl ?_
      exact Or.inr ⟨_, _, e9, by rw [show cdL_routeLength "java/lang/IndexOutOfBoundsException" = 1 by decide +kernel]⟩
    · refine EvX.catch (E := "java/util/NoSuchElementException") (i := 4) (by decide +kernel) [(0, 10, 13, 20)] (0, 10, 17, 35) [] rfl (List.mem_filter.mpr ⟨List.mem_of_getElem? (show tables_1[545]? = some _ by decide +kernel), by decide +kernel⟩) (List.forall_mem_cons.mpr ⟨⟨by decide, "java/lang/IndexOutOfBoundsException", by decide +kernel, by decide +kernel, (bw_of 592 (by decide +kernel) (by decide +kernel))⟩, fun _ h => absurd h List.not_mem_nil⟩) ⟨by decide, by decide⟩ (by decide) (bw_of 686 (by decide +kernel) (by decide +kernel)) rfl (sL_routeLength_17.dc 0 (q := (17, .astore 4, 0, 0)) rfl) ?_
      show Ev _ _ _ _ _ _ 19 [some (.ref 0), some (.int a0), some (.int a1), some (.ref 405), none] [] h9
      refine Ev.sg hX (sL_routeLength_17.sub 1 1) (pc' := 20) (ls' := [some (.ref 0), some (.int a0), some (.int a1), some (.ref 405), none]) (st' := [.int 2]) (h' := h9) rfl ?_
      refine Ev.iret dL_routeLength_20 rfl ?_
      exact Or.inr ⟨_, _, e9, by rw [show cdL_routeLength "java/util/NoSuchElementException" = 2 by decide +kernel]⟩
abbrev cdL_routeLengthByMatrix : String → Int32 := cdE ["java/lang/IndexOutOfBoundsException", "java/util/NoSuchElementException"]
theorem wL_routeLengthByMatrix {a0 : Int32} {a1 : Int32} (hX : JXok X) (h0 : zS h 0 = some (.inr (6, fs9))) (hm : MT X d mc ms jdX6_routeLengthByMatrix [.ref 0, .int a0, .int a1] h Q') (hq : ∀ v h', Q' (.inl (v, h')) → ∃ x, v = some (.int x) ∧ zS h' 405 = some (.inl (.long, 1))) (hx : ∀ E h', Q' (.inr (E, h')) → E = "java/lang/IndexOutOfBoundsException" ∨ E = "java/util/NoSuchElementException") : MTH X (d + 1) mc ms jdL_routeLengthByMatrix hhL_routeLengthByMatrix [.ref 0, .int a0, .int a1, .ref 405] h (wQ cdL_routeLengthByMatrix wI Q') := by
  refine MTH.mk dhL_routeLengthByMatrix ?_
  refine Ev.sg hX sL_routeLengthByMatrix_0 (pc' := 5) (ls' := [some (.ref 0), some (.int a0), some (.int a1), some (.ref 405), none]) (st' := [.int a1, .int a0, .ref 0, .int 0, .ref 405]) (h' := h) rfl ?_
  refine Ev.callV (As := [.int a0, .int a1]) (rest := [.int 0, .ref 405]) dvX6_routeLengthByMatrix mkL_79 h0 rfl dL_routeLengthByMatrix_5 hm ⟨Nat.le_refl _, by show 3 + 19 + 40 * _ ≤ 40 * _; omega⟩ ⟨Nat.le_refl _, Nat.le_refl _⟩ rfl (Nat.le_of_ble_eq_true rfl) (fun v9 h9 e9 => ?_) (fun E9 h9 e9 => ?_)
  · obtain ⟨x, rfl, hsh⟩ := hq _ _ e9
    show Ev _ _ _ _ _ _ 8 [some (.ref 0), some (.int a0), some (.int a1), some (.ref 405), none] [.int x, .int 0, .ref 405] h9
    refine Ev.sg hX sL_routeLengthByMatrix_8 (pc' := 9) (ls' := [some (.ref 0), some (.int a0), some (.int a1), some (.ref 405), none]) (st' := [.long x.toInt64, .int 0, .ref 405]) (h' := h9) rfl ?_
    refine Ev.last hX hsh (vp_in_nI (n := 0) (N := 1) (by decide) (by decide)) dL_routeLengthByMatrix_9 ?_
    show Ev _ _ _ _ _ _ 10 [some (.ref 0), some (.int a0), some (.int a1), some (.ref 405), none] [] (setL h9 405 0 x.toInt64)
    refine Ev.sg hX sL_routeLengthByMatrix_10 (pc' := 21) (ls' := [some (.ref 0), some (.int a0), some (.int a1), some (.ref 405), none]) (st' := []) (h' := setL h9 405 0 x.toInt64) rfl ?_
    refine Ev.sg hX sL_routeLengthByMatrix_21 (pc' := 22) (ls' := [some (.ref 0), some (.int a0), some (.int a1), some (.ref 405), none]) (st' := [.int 0]) (h' := setL h9 405 0 x.toInt64) rfl ?_
    refine Ev.iret dL_routeLengthByMatrix_22 rfl ?_
    exact Or.inl ⟨_, _, _, e9, ⟨_, rfl, rfl⟩, rfl⟩
  · rcases hx _ _ e9 with rfl | rfl
    · refine EvX.catch (E := "java/lang/IndexOutOfBoundsException") (i := 4) (by decide +kernel) [] (0, 10, 13, 20) [(0, 10, 17, 35)] rfl (List.mem_filter.mpr ⟨List.mem_of_getElem? (show tables_1[441]? = some _ by decide +kernel), by decide +kernel⟩) (fun _ h => absurd h List.not_mem_nil) ⟨by decide, by decide⟩ (by decide) (bw_of 592 (by decide +kernel) (by decide +kernel)) rfl (sL_routeLengthByMatrix_13.dc 0 (q := (13, .astore 4, 0, 0)) rfl) ?_
      show Ev _ _ _ _ _ _ 15 [some (.ref 0), some (.int a0), some (.int a1), some (.ref 405), none] [] h9
      refine Ev.sg hX (sL_routeLengthByMatrix_13.sub 1 1) (pc' := 16) (ls' := [some (.ref 0), some (.int a0), some (.int a1), some (.ref 405), none]) (st' := [.int 1]) (h' := h9) rfl ?_
      refine Ev.iret dL_routeLengthByMatrix_16 rfl ?_
      exact Or.inr ⟨_, _, e9, by rw [show cdL_routeLengthByMatrix "java/lang/IndexOutOfBoundsException" = 1 by decide +kernel]⟩
    · refine EvX.catch (E := "java/util/NoSuchElementException") (i := 4) (by decide +kernel) [(0, 10, 13, 20)] (0, 10, 17, 35) [] rfl (List.mem_filter.mpr ⟨List.mem_of_getElem? (show tables_1[545]? = some _ by decide +kernel), by decide +kernel⟩) (List.forall_mem_cons.mpr ⟨⟨by decide, "java/lang/IndexOutOfBoundsException", by decide +kernel, by decide +kernel, (bw_of 592 (by decide +kernel) (by decide +kernel))⟩, fun _ h => absurd h List.not_mem_nil⟩) ⟨by decide, by decide⟩ (by decide) (bw_of 686 (by decide +kernel) (by decide +kernel)) rfl (sL_routeLengthByMatrix_17.dc 0 (q := (17, .astore 4, 0, 0)) rfl) ?_
      show Ev _ _ _ _ _ _ 19 [some (.ref 0), some (.int a0), some (.int a1), some (.ref 405), none] [] h9
      refine Ev.sg hX (sL_routeLengthByMatrix_17.sub 1 1) (pc' := 20) (ls' := [some (.ref 0), some (.int a0), some (.int a1), some (.ref 405), none]) (st' := [.int 2]) (h' := h9) rfl ?_
      refine Ev.iret dL_routeLengthByMatrix_20 rfl ?_
      exact Or.inr ⟨_, _, e9, by rw [show cdL_routeLengthByMatrix "java/util/NoSuchElementException" = 2 by decide +kernel]⟩
end LWM
