/-! the law's methods: calls 4 -/
section LWM
variable {X : JX} {d mc ms : Nat} {h : MH} {Q' : JR → Prop} {fs9 : List (Value ⊕ Bool)}
abbrev cdL_meanMoveTime : String → Int32 := cdE ["java/lang/ArithmeticException"]
theorem wL_meanMoveTime (hX : JXok X) (h0 : zS h 0 = some (.inr (6, fs9))) (hm : MT X d mc ms jdX6_meanMoveTime [.ref 0] h Q') (hq : ∀ v h', Q' (.inl (v, h')) → ∃ x, v = some (.double x) ∧ zS h' 406 = some (.inl (.double, 1))) (hx : ∀ E h', Q' (.inr (E, h')) → E = "java/lang/ArithmeticException") : MTH X (d + 1) mc ms jdL_meanMoveTime hhL_meanMoveTime [.ref 0, .ref 406] h (wQ cdL_meanMoveTime wD Q') := by
  refine MTH.mk dhL_meanMoveTime ?_
  refine Ev.sg hX sL_meanMoveTime_0 (pc' := 3) (ls' := [some (.ref 0), some (.ref 406), none]) (st' := [.ref 0, .int 0, .ref 406]) (h' := h) rfl ?_
  refine Ev.callV (As := []) (rest := [.int 0, .ref 406]) dvX6_meanMoveTime mkL_109 h0 rfl dL_meanMoveTime_3 hm ⟨Nat.le_refl _, by show 1 + 19 + 40 * _ ≤ 40 * _; omega⟩ ⟨Nat.le_refl _, Nat.le_refl _⟩ rfl (Nat.le_of_ble_eq_true rfl) (fun v9 h9 e9 => ?_) (fun E9 h9 e9 => ?_)
  · obtain ⟨x, rfl, hsh⟩ := hq _ _ e9
    show Ev _ _ _ _ _ _ 6 [some (.ref 0), some (.ref 406), none] [.double x, .int 0, .ref 406] h9
    refine Ev.dast hX hsh (vp_in_nI (n := 0) (N := 1) (by decide) (by decide)) dL_meanMoveTime_6 ?_
    show Ev _ _ _ _ _ _ 7 [some (.ref 0), some (.ref 406), none] [] (setD h9 406 0 x)
    refine Ev.sg hX sL_meanMoveTime_7 (pc' := 13) (ls' := [some (.ref 0), some (.ref 406), none]) (st' := []) (h' := setD h9 406 0 x) rfl ?_
    refine Ev.sg hX sL_meanMoveTime_13 (pc' := 14) (ls' := [some (.ref 0), some (.ref 406), none]) (st' := [.int 0]) (h' := setD h9 406 0 x) rfl ?_
    refine Ev.iret dL_meanMoveTime_14 rfl ?_
    exact Or.inl ⟨_, _, _, e9, ⟨_, rfl, rfl⟩, rfl⟩
  · rcases hx _ _ e9 with rfl
    · refine EvX.catchN (E := "java/lang/ArithmeticException") (i := 2) (by decide +kernel) [] (0, 7, 10, 113) [] rfl (List.mem_filter.mpr ⟨List.mem_of_getElem? (show tables_1[1015]? = some _ by decide +kernel), by decide +kernel⟩) (fun _ h => absurd h List.not_mem_nil) ⟨by decide, by decide⟩ (by decide) (bw_of 1003 (by decide +kernel) (by decide +kernel)) rfl (sL_meanMoveTime_10.dc 0 (q := (10, .astore_n 2, 0, 0)) rfl) ?_
      show Ev _ _ _ _ _ _ 11 [some (.ref 0), some (.ref 406), none] [] h9
      refine Ev.sg hX (sL_meanMoveTime_10.sub 1 1) (pc' := 12) (ls' := [some (.ref 0), some (.ref 406), none]) (st' := [.int 1]) (h' := h9) rfl ?_
      refine Ev.iret dL_meanMoveTime_12 rfl ?_
      exact Or.inr ⟨_, _, e9, by rw [show cdL_meanMoveTime "java/lang/ArithmeticException" = 1 by decide +kernel]⟩
abbrev cdL_usedShare : String → Int32 := cdE ["java/lang/ArithmeticException"]
theorem wL_usedShare (hX : JXok X) (h0 : zS h 0 = some (.inr (6, fs9))) (hm : MT X d mc ms jdX6_usedShare [.ref 0] h Q') (hq : ∀ v h', Q' (.inl (v, h')) → ∃ x, v = some (.float x) ∧ zS h' 406 = some (.inl (.double, 1)) ∧ vf_n64 (FP.f2d x)) (hx : ∀ E h', Q' (.inr (E, h')) → E = "java/lang/ArithmeticException") : MTH X (d + 1) mc ms jdL_usedShare hhL_usedShare [.ref 0, .ref 406] h (wQ cdL_usedShare wF Q') := by
  refine MTH.mk dhL_usedShare ?_
  refine Ev.sg hX sL_usedShare_0 (pc' := 3) (ls' := [some (.ref 0), some (.ref 406), none]) (st' := [.ref 0, .int 0, .ref 406]) (h' := h) rfl ?_
  refine Ev.callV (As := []) (rest := [.int 0, .ref 406]) dvX6_usedShare mkL_115 h0 rfl dL_usedShare_3 hm ⟨Nat.le_refl _, by show 2 + 19 + 40 * _ ≤ 40 * _; omega⟩ ⟨Nat.le_refl _, Nat.le_refl _⟩ rfl (Nat.le_of_ble_eq_true rfl) (fun v9 h9 e9 => ?_) (fun E9 h9 e9 => ?_)
  · obtain ⟨x, rfl, hsh, hnf⟩ := hq _ _ e9
    show Ev _ _ _ _ _ _ 6 [some (.ref 0), some (.ref 406), none] [.float x, .int 0, .ref 406] h9
    refine Ev.f2d hnf dL_usedShare_6 ?_
    refine Ev.dast hX hsh (vp_in_nI (n := 0) (N := 1) (by decide) (by decide)) dL_usedShare_7 ?_
    show Ev _ _ _ _ _ _ 8 [some (.ref 0), some (.ref 406), none] [] (setD h9 406 0 (FP.f2d x))
    refine Ev.sg hX sL_usedShare_8 (pc' := 14) (ls' := [some (.ref 0), some (.ref 406), none]) (st' := []) (h' := setD h9 406 0 (FP.f2d x)) rfl ?_
    refine Ev.sg hX sL_usedShare_14 (pc' := 15) (ls' := [some (.ref 0), some (.ref 406), none]) (st' := [.int 0]) (h' := setD h9 406 0 (FP.f2d x)) rfl ?_
    refine Ev.iret dL_usedShare_15 rfl ?_
    exact Or.inl ⟨_, _, _, e9, ⟨_, rfl, rfl⟩, rfl⟩
  · rcases hx _ _ e9 with rfl
    · refine EvX.catchN (E := "java/lang/ArithmeticException") (i := 2) (by decide +kernel) [] (0, 8, 11, 113) [] rfl (List.mem_filter.mpr ⟨List.mem_of_getElem? (show tables_1[1015]? = some _ by decide +kernel), by decide +kernel⟩) (fun _ h => absurd h List.not_mem_nil) ⟨by decide, by decide⟩ (by decide) (bw_of 1003 (by decide +kernel) (by decide +kernel)) rfl (sL_usedShare_11.dc 0 (q := (11, .astore_n 2, 0, 0)) rfl) ?_
      show Ev _ _ _ _ _ _ 12 [some (.ref 0), some (.ref 406), none] [] h9
      refine Ev.sg hX (sL_usedShare_11.sub 1 1) (pc' := 13) (ls' := [some (.ref 0), some (.ref 406), none]) (st' := [.int 1]) (h' := h9) rfl ?_
      refine Ev.iret dL_usedShare_13 rfl ?_
      exact Or.inr ⟨_, _, e9, by rw [show cdL_usedShare "java/lang/ArithmeticException" = 1 by decide +kernel]⟩
abbrev cdL_append : String → Int32 := cdE ["java/lang/IllegalStateException"]
theorem wL_append {a0 : Int32} (hX : JXok X) (h0 : zS h 0 = some (.inr (6, fs9))) (hm : MT X d mc ms jdX6_append [.ref 0, .int a0] h Q') (hq : ∀ v h', Q' (.inl (v, h')) → ∃ x, v = some (.int x) ∧ zS h' 405 = some (.inl (.long, 1))) (hx : ∀ E h', Q' (.inr (E, h')) → E = "java/lang/IllegalStateException") : MTH X (d + 1) mc ms jdL_append hhL_append [.ref 0, .int a0, .ref 405] h (wQ cdL_append wI Q') := by
  refine MTH.mk dhL_append ?_
  refine Ev.sg hX sL_append_0 (pc' := 4) (ls' := [some (.ref 0), some (.int a0), some (.ref 405), none]) (st' := [.int a0, .ref 0, .int 0, .ref 405]) (h' := h) rfl ?_
  refine Ev.callV (As := [.int a0]) (rest := [.int 0, .ref 405]) dvX6_append mkL_119 h0 rfl dL_append_4 hm ⟨Nat.le_refl _, by show 2 + 19 + 40 * _ ≤ 40 * _; omega⟩ ⟨Nat.le_refl _, Nat.le_refl _⟩ rfl (Nat.le_of_ble_eq_true rfl) (fun v9 h9 e9 => ?_) (fun E9 h9 e9 => ?_)
  · obtain ⟨x, rfl, hsh⟩ := hq _ _ e9
    show Ev _ _ _ _ _ _ 7 [some (.ref 0), some (.int a0), some (.ref 405), none] [.int x, .int 0, .ref 405] h9
    refine Ev.sg hX sL_append_7 (pc' := 8) (ls' := [some (.ref 0), some (.int a0), some (.ref 405), none]) (st' := [.long x.toInt64, .int 0, .ref 405]) (h' := h9) rfl ?_
    refine Ev.last hX hsh (vp_in_nI (n := 0) (N := 1) (by decide) (by decide)) dL_append_8 ?_
    show Ev _ _ _ _ _ _ 9 [some (.ref 0), some (.int a0), some (.ref 405), none] [] (setL h9 405 0 x.toInt64)
    refine Ev.sg hX sL_append_9 (pc' := 15) (ls' := [some (.ref 0), some (.int a0), some (.ref 405), none]) (st' := []) (h' := setL h9 405 0 x.toInt64) rfl ?_
    refine Ev.sg hX sL_append_15 (pc' := 16) (ls' := [some (.ref 0), some (.int a0), some (.ref 405), none]) (st' := [.int 0]) (h' := setL h9 405 0 x.toInt64) rfl ?_
    refine Ev.iret dL_append_16 rfl ?_
    exact Or.inl ⟨_, _, _, e9, ⟨_, rfl, rfl⟩, rfl⟩
  · rcases hx _ _ e9 with rfl
    · refine EvX.catchN (E := "java/lang/IllegalStateException") (i := 3) (by decide +kernel) [] (0, 9, 12, 15) [] rfl (List.mem_filter.mpr ⟨List.mem_of_getElem? (show tables_1[529]? = some _ by decide +kernel), by decide +kernel⟩) (fun _ h => absurd h List.not_mem_nil) ⟨by decide, by decide⟩ (by decide) (bw_of 424 (by decide +kernel) (by decide +kernel)) rfl (sL_append_12.dc 0 (q := (12, .astore_n 3, 0, 0)) rfl) ?_
      show Ev _ _ _ _ _ _ 13 [some (.ref 0), some (.int a0), some (.ref 405), none] [] h9
      refine Ev.sg hX (sL_append_12.sub 1 1) (pc' := 14) (ls' := [some (.ref 0), some (.int a0), some (.ref 405), none]) (st' := [.int 1]) (h' := h9) rfl ?_
      refine Ev.iret dL_append_14 rfl ?_
      exact Or.inr ⟨_, _, e9, by rw [show cdL_append "java/lang/IllegalStateException" = 1 by decide +kernel]⟩
abbrev cdL_run : String → Int32 := cdE ["java/lang/IllegalArgumentException", "java/lang/UnsupportedOperationException"]
theorem wL_run (hX : JXok X) (h0 : zS h 0 = some (.inr (6, fs9))) (hm : MT X d mc ms jdX6_run [.ref 0] h Q') (hq : ∀ v h', Q' (.inl (v, h')) → ∃ x, v = some (.int x) ∧ zS h' 405 = some (.inl (.long, 1))) (hx : ∀ E h', Q' (.inr (E, h')) → E = "java/lang/IllegalArgumentException" ∨ E = "java/lang/UnsupportedOperationException") : MTH X (d + 1) mc ms jdL_run hhL_run [.ref 0, .ref 405] h (wQ cdL_run wI Q') := by
  refine MTH.mk dhL_run ?_
  refine Ev.sg hX sL_run_0 (pc' := 3) (ls' := [some (.ref 0), some (.ref 405), none]) (st' := [.ref 0, .int 0, .ref 405]) (h' := h) rfl ?_
  refine Ev.callV (As := []) (rest := [.int 0, .ref 405]) dvX6_run mkL_123 h0 rfl dL_run_3 hm ⟨Nat.le_refl _, by show 3 + 19 + 40 * _ ≤ 40 * _; omega⟩ ⟨Nat.le_refl _, Nat.le_refl _⟩ rfl (Nat.le_of_ble_eq_true rfl) (fun v9 h9 e9 => ?_) (fun E9 h9 e9 => ?_)
  · obtain ⟨x, rfl, hsh⟩ := hq _ _ e9
    show Ev _ _ _ _ _ _ 6 [some (.ref 0), some (.ref 405), none] [.int x, .int 0, .ref 405] h9
    refine Ev.sg hX sL_run_6 (pc' := 7) (ls' := [some (.ref 0), some (.ref 405), none]) (st' := [.long x.toInt64, .int 0, .ref 405]) (h' := h9) rfl ?_
    refine Ev.last hX hsh (vp_in_nI (n := 0) (N := 1) (by decide) (by decide)) dL_run_7 ?_
    show Ev _ _ _ _ _ _ 8 [some (.ref 0), some (.ref 405), none] [] (setL h9 405 0 x.toInt64)
    refine Ev.sg hX sL_run_8 (pc' := 17) (ls' := [some (.ref 0), some (.ref 405), none]) (st' := []) (h' := setL h9 405 0 x.toInt64) rfl ?_
    refine Ev.sg hX sL_run_17 (pc' := 18) (ls' := [some (.ref 0), some (.ref 405), none]) (st' := [.int 0]) (h' := setL h9 405 0 x.toInt64) rfl ?_
    refine Ev.iret dL_run_18 rfl ?_
    exact Or.inl ⟨_, _, _, e9, ⟨_, rfl, rfl⟩, rfl⟩
  · rcases hx _ _ e9 with rfl | rfl
    · refine EvX.catchN (E := "java/lang/IllegalArgumentException") (i := 2) (by decide +kernel) [] (0, 8, 11, 13) [(0, 8, 14, 29)] rfl (List.mem_filter.mpr ⟨List.mem_of_getElem? (show tables_1[513]? = some _ by decide +kernel), by decide +kernel⟩) (fun _ h => absurd h List.not_mem_nil) ⟨by decide, by decide⟩ (by decide) (bw_of 423 (by decide +kernel) (by decide +kernel)) rfl (sL_run_11.dc 0 (q := (11, .astore_n 2, 0, 0)) rfl) ?_
      show Ev _ _ _ _ _ _ 12 [some (.ref 0), some (.ref 405), none] [] h9
      refine Ev.sg hX (sL_run_11.sub 1 1) (pc' := 13) (ls' := [some (.ref 0), some (.ref 405), none]) (st' := [.int 1]) (h' := h9) rfl ?_
      refine Ev.iret dL_run_13 rfl ?_
      exact Or.inr ⟨_, _, e9, by rw [show cdL_run "java/lang/IllegalArgumentException" = 1 by decide +kernel]⟩
    · refine EvX.catchN (E := "java/lang/UnsupportedOperationException") (i := 2) (by decide +kernel) [(0, 8, 11, 13)] (0, 8, 14, 29) [] rfl (List.mem_filter.mpr ⟨List.mem_of_getElem? (show tables_1[561]? = some _ by decide +kernel), by decide +kernel⟩) (List.forall_mem_cons.mpr ⟨⟨by decide, "java/lang/IllegalArgumentException", by decide +kernel, by decide +kernel, (bw_of 423 (by decide +kernel) (by decide +kernel))⟩, fun _ h => absurd h List.not_mem_nil⟩) ⟨by decide, by decide⟩ (by decide) (bw_of 648 (by decide +kernel) (by decide +kernel)) rfl (sL_run_14.dc 0 (q := (14, .astore_n 2, 0, 0)) rfl) ?_
      show Ev _ _ _ _ _ _ 15 [some (.ref 0), some (.ref 405), none] [] h9
      refine Ev.sg hX (sL_run_14.sub 1 1) (pc' := 16) (ls' := [some (.ref 0), some (.ref 405), none]) (st' := [.int 2]) (h' := h9) rfl ?_
      refine Ev.iret dL_run_16 rfl ?_
      exact Or.inr ⟨_, _, e9, by rw [show cdL_run "java/lang/UnsupportedOperationException" = 2 by decide +kernel]⟩
abbrev cdL_errorPosition : String → Int32 := cdE ["java/util/NoSuchElementException"]
theorem wL_errorPosition (hX : JXok X) (h0 : zS h 0 = some (.inr (6, fs9))) (hm : MT X d mc ms jdX6_errorPosition [.ref 0] h Q') (hq : ∀ v h', Q' (.inl (v, h')) → ∃ x, v = some (.int x) ∧ zS h' 405 = some (.inl (.long, 1))) (hx : ∀ E h', Q' (.inr (E, h')) → E = "java/util/NoSuchElementException") : MTH X (d + 1) mc ms jdL_errorPosition hhL_errorPosition [.ref 0, .ref 405] h (wQ cdL_errorPosition wI Q') := by
  refine MTH.mk dhL_errorPosition ?_
  refine Ev.sg hX sL_errorPosition_0 (pc' := 3) (ls' := [some (.ref 0), some (.ref 405), none]) (st' := [.ref 0, .int 0, .ref 405]) (h' := h) rfl ?_
  refine Ev.callV (As := []) (rest := [.int 0, .ref 405]) dvX6_errorPosition mkL_127 h0 rfl dL_errorPosition_3 hm ⟨Nat.le_refl _, by show 1 + 19 + 40 * _ ≤ 40 * _; omega⟩ ⟨Nat.le_refl _, Nat.le_refl _⟩ rfl (Nat.le_of_ble_eq_true rfl) (fun v9 h9 e9 => ?_) (fun E9 h9 e9 => ?_)
  · obtain ⟨x, rfl, hsh⟩ := hq _ _ e9
    show Ev _ _ _ _ _ _ 6 [some (.ref 0), some (.ref 405), none] [.int x, .int 0, .ref 405] h9
    refine Ev.sg hX sL_errorPosition_6 (pc' := 7) (ls' := [some (.ref 0), some (.ref 405), none]) (st' := [.long x.toInt64, .int 0, .ref 405]) (h' := h9) rfl ?_
    refine Ev.last hX hsh (vp_in_nI (n := 0) (N := 1) (by decide) (by decide)) dL_errorPosition_7 ?_
    show Ev _ _ _ _ _ _ 8 [some (.ref 0), some (.ref 405), none] [] (setL h9 405 0 x.toInt64)
    refine Ev.sg hX sL_errorPosition_8 (pc' := 14) (ls' := [some (.ref 0), some (.ref 405), none]) (st' := []) (h' := setL h9 405 0 x.toInt64) rfl ?_
    refine Ev.sg hX sL_errorPosition_14 (pc' := 15) (ls' := [some (.ref 0), some (.ref 405), none]) (st' := [.int 0]) (h' := setL h9 405 0 x.toInt64) rfl ?_
    refine Ev.iret dL_errorPosition_15 rfl ?_
    exact Or.inl ⟨_, _, _, e9, ⟨_, rfl, rfl⟩, rfl⟩
  · rcases hx _ _ e9 with rfl
    · refine EvX.catchN (E := "java/util/NoSuchElementException") (i := 2) (by decide +kernel) [] (0, 8, 11, 35) [] rfl (List.mem_filter.mpr ⟨List.mem_of_getElem? (show tables_1[545]? = some _ by decide +kernel), by decide +kernel⟩) (fun _ h => absurd h List.not_mem_nil) ⟨by decide, by decide⟩ (by decide) (bw_of 686 (by decide +kernel) (by decide +kernel)) rfl (sL_errorPosition_11.dc 0 (q := (11, .astore_n 2, 0, 0)) rfl) ?_
      show Ev _ _ _ _ _ _ 12 [some (.ref 0), some (.ref 405), none] [] h9
      refine Ev.sg hX (sL_errorPosition_11.sub 1 1) (pc' := 13) (ls' := [some (.ref 0), some (.ref 405), none]) (st' := [.int 1]) (h' := h9) rfl ?_
      refine Ev.iret dL_errorPosition_13 rfl ?_
      exact Or.inr ⟨_, _, e9, by rw [show cdL_errorPosition "java/util/NoSuchElementException" = 1 by decide +kernel]⟩
abbrev cdL_failedCommand : String → Int32 := cdE ["java/util/NoSuchElementException"]
theorem wL_failedCommand (hX : JXok X) (h0 : zS h 0 = some (.inr (6, fs9))) (hm : MT X d mc ms jdX6_failedCommand [.ref 0] h Q') (hq : ∀ v h', Q' (.inl (v, h')) → ∃ x, v = some (.int x) ∧ zS h' 405 = some (.inl (.long, 1))) (hx : ∀ E h', Q' (.inr (E, h')) → E = "java/util/NoSuchElementException") : MTH X (d + 1) mc ms jdL_failedCommand hhL_failedCommand [.ref 0, .ref 405] h (wQ cdL_failedCommand wI Q') := by
  refine MTH.mk dhL_failedCommand ?_
  refine Ev.sg hX sL_failedCommand_0 (pc' := 3) (ls' := [some (.ref 0), some (.ref 405), none]) (st' := [.ref 0, .int 0, .ref 405]) (h' := h) rfl ?_
  refine Ev.callV (As := []) (rest := [.int 0, .ref 405]) dvX6_failedCommand mkL_130 h0 rfl dL_failedCommand_3 hm ⟨Nat.le_refl _, by show 1 + 19 + 40 * _ ≤ 40 * _; omega⟩ ⟨Nat.le_refl _, Nat.le_refl _⟩ rfl (Nat.le_of_ble_eq_true rfl) (fun v9 h9 e9 => ?_) (fun E9 h9 e9 => ?_)
  · obtain ⟨x, rfl, hsh⟩ := hq _ _ e9
    show Ev _ _ _ _ _ _ 6 [some (.ref 0), some (.ref 405), none] [.int x, .int 0, .ref 405] h9
    refine Ev.sg hX sL_failedCommand_6 (pc' := 7) (ls' := [some (.ref 0), some (.ref 405), none]) (st' := [.long x.toInt64, .int 0, .ref 405]) (h' := h9) rfl ?_
    refine Ev.last hX hsh (vp_in_nI (n := 0) (N := 1) (by decide) (by decide)) dL_failedCommand_7 ?_
    show Ev _ _ _ _ _ _ 8 [some (.ref 0), some (.ref 405), none] [] (setL h9 405 0 x.toInt64)
    refine Ev.sg hX sL_failedCommand_8 (pc' := 14) (ls' := [some (.ref 0), some (.ref 405), none]) (st' := []) (h' := setL h9 405 0 x.toInt64) rfl ?_
    refine Ev.sg hX sL_failedCommand_14 (pc' := 15) (ls' := [some (.ref 0), some (.ref 405), none]) (st' := [.int 0]) (h' := setL h9 405 0 x.toInt64) rfl ?_
    refine Ev.iret dL_failedCommand_15 rfl ?_
    exact Or.inl ⟨_, _, _, e9, ⟨_, rfl, rfl⟩, rfl⟩
  · rcases hx _ _ e9 with rfl
    · refine EvX.catchN (E := "java/util/NoSuchElementException") (i := 2) (by decide +kernel) [] (0, 8, 11, 35) [] rfl (List.mem_filter.mpr ⟨List.mem_of_getElem? (show tables_1[545]? = some _ by decide +kernel), by decide +kernel⟩) (fun _ h => absurd h List.not_mem_nil) ⟨by decide, by decide⟩ (by decide) (bw_of 686 (by decide +kernel) (by decide +kernel)) rfl (sL_failedCommand_11.dc 0 (q := (11, .astore_n 2, 0, 0)) rfl) ?_
      show Ev _ _ _ _ _ _ 12 [some (.ref 0), some (.ref 405), none] [] h9
      refine Ev.sg hX (sL_failedCommand_11.sub 1 1) (pc' := 13) (ls' := [some (.ref 0), some (.ref 405), none]) (st' := [.int 1]) (h' := h9) rfl ?_
      refine Ev.iret dL_failedCommand_13 rfl ?_
      exact Or.inr ⟨_, _, e9, by rw [show cdL_failedCommand "java/util/NoSuchElementException" = 1 by decide +kernel]⟩
abbrev cdL_writeTrack : String → Int32 := cdE ["java/lang/IndexOutOfBoundsException"]
theorem wL_writeTrack {a0 : Int32} (hX : JXok X) (h0 : zS h 0 = some (.inr (6, fs9))) (hm : MT X d mc ms jdX6_writeTrack [.ref 0, .int a0] h Q') (hq : ∀ v h', Q' (.inl (v, h')) → ∃ x, v = some (.int x) ∧ zS h' 405 = some (.inl (.long, 1))) (hx : ∀ E h', Q' (.inr (E, h')) → E = "java/lang/IndexOutOfBoundsException") : MTH X (d + 1) mc ms jdL_writeTrack hhL_writeTrack [.ref 0, .int a0, .ref 405] h (wQ cdL_writeTrack wI Q') := by
  refine MTH.mk dhL_writeTrack ?_
  refine Ev.sg hX sL_writeTrack_0 (pc' := 4) (ls' := [some (.ref 0), some (.int a0), some (.ref 405), none]) (st' := [.int a0, .ref 0, .int 0, .ref 405]) (h' := h) rfl ?_
  refine Ev.callV (As := [.int a0]) (rest := [.int 0, .ref 405]) dvX6_writeTrack mkL_133 h0 rfl dL_writeTrack_4 hm ⟨Nat.le_refl _, by show 4 + 19 + 40 * _ ≤ 40 * _; omega⟩ ⟨Nat.le_refl _, Nat.le_refl _⟩ rfl (Nat.le_of_ble_eq_true rfl) (fun v9 h9 e9 => ?_) (fun E9 h9 e9 => ?_)
  · obtain ⟨x, rfl, hsh⟩ := hq _ _ e9
    show Ev _ _ _ _ _ _ 7 [some (.ref 0), some (.int a0), some (.ref 405), none] [.int x, .int 0, .ref 405] h9
    refine Ev.sg hX sL_writeTrack_7 (pc' := 8) (ls' := [some (.ref 0), some (.int a0), some (.ref 405), none]) (st' := [.long x.toInt64, .int 0, .ref 405]) (h' := h9) rfl ?_
    refine Ev.last hX hsh (vp_in_nI (n := 0) (N := 1) (by decide) (by decide)) dL_writeTrack_8 ?_
    show Ev _ _ _ _ _ _ 9 [some (.ref 0), some (.int a0), some (.ref 405), none] [] (setL h9 405 0 x.toInt64)
    refine Ev.sg hX sL_writeTrack_9 (pc' := 15) (ls' := [some (.ref 0), some (.int a0), some (.ref 405), none]) (st' := []) (h' := setL h9 405 0 x.toInt64) rfl ?_
    refine Ev.sg hX sL_writeTrack_15 (pc' := 16) (ls' := [some (.ref 0), some (.int a0), some (.ref 405), none]) (st' := [.int 0]) (h' := setL h9 405 0 x.toInt64) rfl ?_
    refine Ev.iret dL_writeTrack_16 rfl ?_
    exact Or.inl ⟨_, _, _, e9, ⟨_, rfl, rfl⟩, rfl⟩
  · rcases hx _ _ e9 with rfl
    · refine EvX.catchN (E := "java/lang/IndexOutOfBoundsException") (i := 3) (by decide +kernel) [] (0, 9, 12, 20) [] rfl (List.mem_filter.mpr ⟨List.mem_of_getElem? (show tables_1[441]? = some _ by decide +kernel), by decide +kernel⟩) (fun _ h => absurd h List.not_mem_nil) ⟨by decide, by decide⟩ (by decide) (bw_of 592 (by decide +kernel) (by decide +kernel)) rfl (sL_writeTrack_12.dc 0 (q := (12, .astore_n 3, 0, 0)) rfl) ?_
      show Ev _ _ _ _ _ _ 13 [some (.ref 0), some (.int a0), some (.ref 405), none] [] h9
      refine Ev.sg hX (sL_writeTrack_12.sub 1 1) (pc' := 14) (ls' := [some (.ref 0), some (.int a0), some (.ref 405), none]) (st' := [.int 1]) (h' := h9) rfl ?_
      refine Ev.iret dL_writeTrack_14 rfl ?_
      exact Or.inr ⟨_, _, e9, by rw [show cdL_writeTrack "java/lang/IndexOutOfBoundsException" = 1 by decide +kernel]⟩
abbrev cdL_outputAt : String → Int32 := cdE ["java/lang/IndexOutOfBoundsException"]
theorem wL_outputAt {a0 : Int32} (hX : JXok X) (h0 : zS h 0 = some (.inr (6, fs9))) (hm : MT X d mc ms jdX6_outputAt [.ref 0, .int a0] h Q') (hq : ∀ v h', Q' (.inl (v, h')) → ∃ x, v = some (.int x) ∧ zS h' 405 = some (.inl (.long, 1))) (hx : ∀ E h', Q' (.inr (E, h')) → E = "java/lang/IndexOutOfBoundsException") : MTH X (d + 1) mc ms jdL_outputAt hhL_outputAt [.ref 0, .int a0, .ref 405] h (wQ cdL_outputAt wI Q') := by
  refine MTH.mk dhL_outputAt ?_
  refine Ev.sg hX sL_outputAt_0 (pc' := 4) (ls' := [some (.ref 0), some (.int a0), some (.ref 405), none]) (st' := [.int a0, .ref 0, .int 0, .ref 405]) (h' := h) rfl ?_
  refine Ev.callV (As := [.int a0]) (rest := [.int 0, .ref 405]) dvX6_outputAt mkL_136 h0 rfl dL_outputAt_4 hm ⟨Nat.le_refl _, by show 2 + 19 + 40 * _ ≤ 40 * _; omega⟩ ⟨Nat.le_refl _, Nat.le_refl _⟩ rfl (Nat.le_of_ble_eq_true rfl) (fun v9 h9 e9 => ?_) (fun E9 h9 e9 => ?_)
  · obtain ⟨x, rfl, hsh⟩ := hq _ _ e9
    show Ev _ _ _ _ _ _ 7 [some (.ref 0), some (.int a0), some (.ref 405), none] [.int x, .int 0, .ref 405] h9
    refine Ev.sg hX sL_outputAt_7 (pc' := 8) (ls' := [some (.ref 0), some (.int a0), some (.ref 405), none]) (st' := [.long x.toInt64, .int 0, .ref 405]) (h' := h9) rfl ?_
    refine Ev.last hX hsh (vp_in_nI (n := 0) (N := 1) (by decide) (by decide)) dL_outputAt_8 ?_
    show Ev _ _ _ _ _ _ 9 [some (.ref 0), some (.int a0), some (.ref 405), none] [] (setL h9 405 0 x.toInt64)
    refine Ev.sg hX sL_outputAt_9 (pc' := 15) (ls' := [some (.ref 0), some (.int a0), some (.ref 405), none]) (st' := []) (h' := setL h9 405 0 x.toInt64) rfl ?_
    refine Ev.sg hX sL_outputAt_15 (pc' := 16) (ls' := [some (.ref 0), some (.int a0), some (.ref 405), none]) (st' := [.int 0]) (h' := setL h9 405 0 x.toInt64) rfl ?_
    refine Ev.iret dL_outputAt_16 rfl ?_
    exact Or.inl ⟨_, _, _, e9, ⟨_, rfl, rfl⟩, rfl⟩
  · rcases hx _ _ e9 with rfl
    · refine EvX.catchN (E := "java/lang/IndexOutOfBoundsException") (i := 3) (by decide +kernel) [] (0, 9, 12, 20) [] rfl (List.mem_filter.mpr ⟨List.mem_of_getElem? (show tables_1[441]? = some _ by decide +kernel), by decide +kernel⟩) (fun _ h => absurd h List.not_mem_nil) ⟨by decide, by decide⟩ (by decide) (bw_of 592 (by decide +kernel) (by decide +kernel)) rfl (sL_outputAt_12.dc 0 (q := (12, .astore_n 3, 0, 0)) rfl) ?_
      show Ev _ _ _ _ _ _ 13 [some (.ref 0), some (.int a0), some (.ref 405), none] [] h9
      refine Ev.sg hX (sL_outputAt_12.sub 1 1) (pc' := 14) (ls' := [some (.ref 0), some (.int a0), some (.ref 405), none]) (st' := [.int 1]) (h' := h9) rfl ?_
      refine Ev.iret dL_outputAt_14 rfl ?_
      exact Or.inr ⟨_, _, e9, by rw [show cdL_outputAt "java/lang/IndexOutOfBoundsException" = 1 by decide +kernel]⟩
abbrev cdL_undo : String → Int32 := cdE ["java/lang/IllegalStateException"]
theorem wL_undo (hX : JXok X) (h0 : zS h 0 = some (.inr (6, fs9))) (hm : MT X d mc ms jdX6_undo [.ref 0] h Q') (hq : ∀ v h', Q' (.inl (v, h')) → ∃ x, v = some (.int x) ∧ zS h' 405 = some (.inl (.long, 1))) (hx : ∀ E h', Q' (.inr (E, h')) → E = "java/lang/IllegalStateException") : MTH X (d + 1) mc ms jdL_undo hhL_undo [.ref 0, .ref 405] h (wQ cdL_undo wI Q') := by
  refine MTH.mk dhL_undo ?_
  refine Ev.sg hX sL_undo_0 (pc' := 3) (ls' := [some (.ref 0), some (.ref 405), none]) (st' := [.ref 0, .int 0, .ref 405]) (h' := h) rfl ?_
  refine Ev.callV (As := []) (rest := [.int 0, .ref 405]) dvX6_undo mkL_140 h0 rfl dL_undo_3 hm ⟨Nat.le_refl _, by show 1 + 19 + 40 * _ ≤ 40 * _; omega⟩ ⟨Nat.le_refl _, Nat.le_refl _⟩ rfl (Nat.le_of_ble_eq_true rfl) (fun v9 h9 e9 => ?_) (fun E9 h9 e9 => ?_)
  · obtain ⟨x, rfl, hsh⟩ := hq _ _ e9
    show Ev _ _ _ _ _ _ 6 [some (.ref 0), some (.ref 405), none] [.int x, .int 0, .ref 405] h9
    refine Ev.sg hX sL_undo_6 (pc' := 7) (ls' := [some (.ref 0), some (.ref 405), none]) (st' := [.long x.toInt64, .int 0, .ref 405]) (h' := h9) rfl ?_
    refine Ev.last hX hsh (vp_in_nI (n := 0) (N := 1) (by decide) (by decide)) dL_undo_7 ?_
    show Ev _ _ _ _ _ _ 8 [some (.ref 0), some (.ref 405), none] [] (setL h9 405 0 x.toInt64)
    refine Ev.sg hX sL_undo_8 (pc' := 14) (ls' := [some (.ref 0), some (.ref 405), none]) (st' := []) (h' := setL h9 405 0 x.toInt64) rfl ?_
    refine Ev.sg hX sL_undo_14 (pc' := 15) (ls' := [some (.ref 0), some (.ref 405), none]) (st' := [.int 0]) (h' := setL h9 405 0 x.toInt64) rfl ?_
    refine Ev.iret dL_undo_15 rfl ?_
    exact Or.inl ⟨_, _, _, e9, ⟨_, rfl, rfl⟩, rfl⟩
  · rcases hx _ _ e9 with rfl
    · refine EvX.catchN (E := "java/lang/IllegalStateException") (i := 2) (by decide +kernel) [] (0, 8, 11, 15) [] rfl (List.mem_filter.mpr ⟨List.mem_of_getElem? (show tables_1[529]? = some _ by decide +kernel), by decide +kernel⟩) (fun _ h => absurd h List.not_mem_nil) ⟨by decide, by decide⟩ (by decide) (bw_of 424 (by decide +kernel) (by decide +kernel)) rfl (sL_undo_11.dc 0 (q := (11, .astore_n 2, 0, 0)) rfl) ?_
      show Ev _ _ _ _ _ _ 12 [some (.ref 0), some (.ref 405), none] [] h9
      refine Ev.sg hX (sL_undo_11.sub 1 1) (pc' := 13) (ls' := [some (.ref 0), some (.ref 405), none]) (st' := [.int 1]) (h' := h9) rfl ?_
      refine Ev.iret dL_undo_13 rfl ?_
      exact Or.inr ⟨_, _, e9, by rw [show cdL_undo "java/lang/IllegalStateException" = 1 by decide +kernel]⟩
abbrev cdL_restore : String → Int32 := cdE ["java/lang/IllegalStateException"]
theorem wL_restore (hX : JXok X) (h0 : zS h 0 = some (.inr (6, fs9))) (hm : MT X d mc ms jdX6_restore [.ref 0] h Q') (hq : ∀ v h', Q' (.inl (v, h')) → v = none) (hx : ∀ E h', Q' (.inr (E, h')) → E = "java/lang/IllegalStateException") : MTH X (d + 1) mc ms jdL_restore hhL_restore [.ref 0] h (wQ cdL_restore wV Q') := by
  refine MTH.mk dhL_restore ?_
  refine Ev.sg hX sL_restore_0 (pc' := 1) (ls' := [some (.ref 0), none]) (st' := [.ref 0]) (h' := h) rfl ?_
  refine Ev.callV (As := []) (rest := []) dvX6_restore mkL_143 h0 rfl dL_restore_1 hm ⟨Nat.le_refl _, by show 1 + 19 + 40 * _ ≤ 40 * _; omega⟩ ⟨Nat.le_refl _, Nat.le_refl _⟩ rfl (Nat.le_of_ble_eq_true rfl) (fun v9 h9 e9 => ?_) (fun E9 h9 e9 => ?_)
  · obtain rfl := hq _ _ e9
    show Ev _ _ _ _ _ _ 4 [some (.ref 0), none] [] h9
    refine Ev.sg hX sL_restore_4 (pc' := 10) (ls' := [some (.ref 0), none]) (st' := []) (h' := h9) rfl ?_
    refine Ev.sg hX sL_restore_10 (pc' := 11) (ls' := [some (.ref 0), none]) (st' := [.int 0]) (h' := h9) rfl ?_
    refine Ev.iret dL_restore_11 rfl ?_
    exact Or.inl ⟨_, _, _, e9, ⟨rfl, rfl⟩, rfl⟩
  · rcases hx _ _ e9 with rfl
    · refine EvX.catchN (E := "java/lang/IllegalStateException") (i := 1) (by decide +kernel) [] (0, 4, 7, 15) [] rfl (List.mem_filter.mpr ⟨List.mem_of_getElem? (show tables_1[529]? = some _ by decide +kernel), by decide +kernel⟩) (fun _ h => absurd h List.not_mem_nil) ⟨by decide, by decide⟩ (by decide) (bw_of 424 (by decide +kernel) (by decide +kernel)) rfl (sL_restore_7.dc 0 (q := (7, .astore_n 1, 0, 0)) rfl) ?_
      show Ev _ _ _ _ _ _ 8 [some (.ref 0), none] [] h9
      refine Ev.sg hX (sL_restore_7.sub 1 1) (pc' := 9) (ls' := [some (.ref 0), none]) (st' := [.int 1]) (h' := h9) rfl ?_
      refine Ev.iret dL_restore_9 rfl ?_
      exact Or.inr ⟨_, _, e9, by rw [show cdL_restore "java/lang/IllegalStateException" = 1 by decide +kernel]⟩
end LWM
