/-! the law's methods: calls 3 -/
section LWM
variable {X : JX} {d mc ms : Nat} {h : MH} {Q' : JR → Prop} {fs9 : List (Value ⊕ Bool)}
abbrev cdL_routeTrack : String → Int32 := cdE ["java/lang/IndexOutOfBoundsException", "java/util/NoSuchElementException"]
theorem wL_routeTrack {a0 : Int32} {a1 : Int32} {a2 : Int32} (hX : JXok X) (h0 : zS h 0 = some (.inr (6, fs9))) (hm : MT X d mc ms jdX6_routeTrack [.ref 0, .int a0, .int a1, .int a2] h Q') (hq : ∀ v h', Q' (.inl (v, h')) → ∃ x, v = some (.int x) ∧ zS h' 405 = some (.inl (.long, 1))) (hx : ∀ E h', Q' (.inr (E, h')) → E = "java/lang/IndexOutOfBoundsException" ∨ E = "java/util/NoSuchElementException") : MTH X (d + 1) mc ms jdL_routeTrack hhL_routeTrack [.ref 0, .int a0, .int a1, .int a2, .ref 405] h (wQ cdL_routeTrack wI Q') := by
  refine MTH.mk dhL_routeTrack ?_
  refine Ev.sg hX sL_routeTrack_0 (pc' := 7) (ls' := [some (.ref 0), some (.int a0), some (.int a1), some (.int a2), some (.ref 405), none]) (st' := [.int a2, .int a1, .int a0, .ref 0, .int 0, .ref 405]) (h' := h) rfl ?_
  refine Ev.callV (As := [.int a0, .int a1, .int a2]) (rest := [.int 0, .ref 405]) dvX6_routeTrack mkL_82 h0 rfl dL_routeTrack_7 hm ⟨Nat.le_refl _, by show 5 + 19 + 40 * _ ≤ 40 * _; omega⟩ ⟨Nat.le_refl _, Nat.le_refl _⟩ rfl (Nat.le_of_ble_eq_true rfl) (fun v9 h9 e9 => ?_) (fun E9 h9 e9 => ?_)
  · obtain ⟨x, rfl, hsh⟩ := hq _ _ e9
    show Ev _ _ _ _ _ _ 10 [some (.ref 0), some (.int a0), some (.int a1), some (.int a2), some (.ref 405), none] [.int x, .int 0, .ref 405] h9
    refine Ev.sg hX sL_routeTrack_10 (pc' := 11) (ls' := [some (.ref 0), some (.int a0), some (.int a1), some (.int a2), some (.ref 405), none]) (st' := [.long x.toInt64, .int 0, .ref 405]) (h' := h9) rfl ?_
    refine Ev.last hX hsh (vp_in_nI (n := 0) (N := 1) (by decide) (by decide)) dL_routeTrack_11 ?_
    show Ev _ _ _ _ _ _ 12 [some (.ref 0), some (.int a0), some (.int a1), some (.int a2), some (.ref 405), none] [] (setL h9 405 0 x.toInt64)
    refine Ev.sg hX sL_routeTrack_12 (pc' := 23) (ls' := [some (.ref 0), some (.int a0), some (.int a1), some (.int a2), some (.ref 405), none]) (st' := []) (h' := setL h9 405 0 x.toInt64) rfl ?_
    refine Ev.sg hX sL_routeTrack_23 (pc' := 24) (ls' := [some (.ref 0), some (.int a0), some (.int a1), some (.int a2), some (.ref 405), none]) (st' := [.int 0]) (h' := setL h9 405 0 x.toInt64) rfl ?_
    refine Ev.iret dL_routeTrack_24 rfl ?_
    exact Or.inl ⟨_, _, _, e9, ⟨_, rfl, rfl⟩, rfl⟩
  · rcases hx _ _ e9 with rfl | rfl
    · refine EvX.catch (E := "java/lang/IndexOutOfBoundsException") (i := 5) (by decide +kernel) [] (0, 12, 15, 20) [(0, 12, 19, 35)] rfl (List.mem_filter.mpr ⟨List.mem_of_getElem? (show tables_1[441]? = some _ by decide +kernel), by decide +kernel⟩) (fun _ h => absurd h List.not_mem_nil) ⟨by decide, by decide⟩ (by decide) (bw_of 592 (by decide +kernel) (by decide +kernel)) rfl (sL_routeTrack_15.dc 0 (q := (15, .astore 5, 0, 0)) rfl) ?_
      show Ev _ _ _ _ _ _ 17 [some (.ref 0), some (.int a0), some (.int a1), some (.int a2), some (.ref 405), none] [] h9
      refine Ev.sg hX (sL_routeTrack_15.sub 1 1) (pc' := 18) (ls' := [some (.ref 0), some (.int a0), some (.int a1), some (.int a2), some (.ref 405), none]) (st' := [.int 1]) (h' := h9) rfl ?_
      refine Ev.iret dL_routeTrack_18 rfl ?_
      exact Or.inr ⟨_, _, e9, by rw [show cdL_routeTrack "java/lang/IndexOutOfBoundsException" = 1 by decide +kernel]⟩
    · refine EvX.catch (E := "java/util/NoSuchElementException") (i := 5) (by decide +kernel) [(0, 12, 15, 20)] (0, 12, 19, 35) [] rfl (List.mem_filter.mpr ⟨List.mem_of_getElem? (show tables_1[545]? = some _ by decide +kernel), by decide +kernel⟩) (List.forall_mem_cons.mpr ⟨⟨by decide, "java/lang/IndexOutOfBoundsException", by decide +kernel, by decide +kernel, (bw_of 592 (by decide +kernel) (by decide +kernel))⟩, fun _ h => absurd h List.not_mem_nil⟩) ⟨by decide, by decide⟩ (by decide) (bw_of 686 (by decide +kernel) (by decide +kernel)) rfl (sL_routeTrack_19.dc 0 (q := (19, .astore 5, 0, 0)) rfl) ?_
      show Ev _ _ _ _ _ _ 21 [some (.ref 0), some (.int a0), some (.int a1), some (.int a2), some (.ref 405), none] [] h9
      refine Ev.sg hX (sL_routeTrack_19.sub 1 1) (pc' := 22) (ls' := [some (.ref 0), some (.int a0), some (.int a1), some (.int a2), some (.ref 405), none]) (st' := [.int 2]) (h' := h9) rfl ?_
      refine Ev.iret dL_routeTrack_22 rfl ?_
      exact Or.inr ⟨_, _, e9, by rw [show cdL_routeTrack "java/util/NoSuchElementException" = 2 by decide +kernel]⟩
abbrev cdL_shuntingTime : String → Int32 := cdE ["java/lang/IndexOutOfBoundsException", "java/lang/IllegalArgumentException", "java/util/NoSuchElementException"]
theorem wL_shuntingTime {a0 : Int32} {a1 : Int32} {a2 : Int32} (hX : JXok X) (h0 : zS h 0 = some (.inr (6, fs9))) (hm : MT X d mc ms jdX6_shuntingTime [.ref 0, .int a0, .int a1, .int a2] h Q') (hq : ∀ v h', Q' (.inl (v, h')) → ∃ x, v = some (.int x) ∧ zS h' 405 = some (.inl (.long, 1))) (hx : ∀ E h', Q' (.inr (E, h')) → E = "java/lang/IndexOutOfBoundsException" ∨ E = "java/lang/IllegalArgumentException" ∨ E = "java/util/NoSuchElementException") : MTH X (d + 1) mc ms jdL_shuntingTime hhL_shuntingTime [.ref 0, .int a0, .int a1, .int a2, .ref 405] h (wQ cdL_shuntingTime wI Q') := by
  refine MTH.mk dhL_shuntingTime ?_
  refine Ev.sg hX sL_shuntingTime_0 (pc' := 7) (ls' := [some (.ref 0), some (.int a0), some (.int a1), some (.int a2), some (.ref 405), none]) (st' := [.int a2, .int a1, .int a0, .ref 0, .int 0, .ref 405]) (h' := h) rfl ?_
  refine Ev.callV (As := [.int a0, .int a1, .int a2]) (rest := [.int 0, .ref 405]) dvX6_shuntingTime mkL_85 h0 rfl dL_shuntingTime_7 hm ⟨Nat.le_refl _, by show 5 + 19 + 40 * _ ≤ 40 * _; omega⟩ ⟨Nat.le_refl _, Nat.le_refl _⟩ rfl (Nat.le_of_ble_eq_true rfl) (fun v9 h9 e9 => ?_) (fun E9 h9 e9 => ?_)
  · obtain ⟨x, rfl, hsh⟩ := hq _ _ e9
    show Ev _ _ _ _ _ _ 10 [some (.ref 0), some (.int a0), some (.int a1), some (.int a2), some (.ref 405), none] [.int x, .int 0, .ref 405] h9
    refine Ev.sg hX sL_shuntingTime_10 (pc' := 11) (ls' := [some (.ref 0), some (.int a0), some (.int a1), some (.int a2), some (.ref 405), none]) (st' := [.long x.toInt64, .int 0, .ref 405]) (h' := h9) rfl ?_
    refine Ev.last hX hsh (vp_in_nI (n := 0) (N := 1) (by decide) (by decide)) dL_shuntingTime_11 ?_
    show Ev _ _ _ _ _ _ 12 [some (.ref 0), some (.int a0), some (.int a1), some (.int a2), some (.ref 405), none] [] (setL h9 405 0 x.toInt64)
    refine Ev.sg hX sL_shuntingTime_12 (pc' := 27) (ls' := [some (.ref 0), some (.int a0), some (.int a1), some (.int a2), some (.ref 405), none]) (st' := []) (h' := setL h9 405 0 x.toInt64) rfl ?_
    refine Ev.sg hX sL_shuntingTime_27 (pc' := 28) (ls' := [some (.ref 0), some (.int a0), some (.int a1), some (.int a2), some (.ref 405), none]) (st' := [.int 0]) (h' := setL h9 405 0 x.toInt64) rfl ?_
    refine Ev.iret dL_shuntingTime_28 rfl ?_
    exact Or.inl ⟨_, _, _, e9, ⟨_, rfl, rfl⟩, rfl⟩
  · rcases hx _ _ e9 with rfl | rfl | rfl
    · refine EvX.catch (E := "java/lang/IndexOutOfBoundsException") (i := 5) (by decide +kernel) [] (0, 12, 15, 20) [(0, 12, 19, 13), (0, 12, 23, 35)] rfl (List.mem_filter.mpr ⟨List.mem_of_getElem? (show tables_1[441]? = some _ by decide +kernel), by decide +kernel⟩) (fun _ h => absurd h List.not_mem_nil) ⟨by decide, by decide⟩ (by decide) (bw_of 592 (by decide +kernel) (by decide +kernel)) rfl (sL_shuntingTime_15.dc 0 (q := (15, .astore 5, 0, 0)) rfl) ?_
      show Ev _ _ _ _ _ _ 17 [some (.ref 0), some (.int a0), some (.int a1), some (.int a2), some (.ref 405), none] [] h9
      refine Ev.sg hX (sL_shuntingTime_15.sub 1 1) (pc' := 18) (ls' := [some (.ref 0), some (.int a0), some (.int a1), some (.int a2), some (.ref 405), none]) (st' := [.int 1]) (h' := h9) rfl ?_
      refine Ev.iret dL_shuntingTime_18 rfl ?_
      exact Or.inr ⟨_, _, e9, by rw [show cdL_shuntingTime "java/lang/IndexOutOfBoundsException" = 1 by decide +kernel]⟩
    · refine EvX.catch (E := "java/lang/IllegalArgumentException") (i := 5) (by decide +kernel) [(0, 12, 15, 20)] (0, 12, 19, 13) [(0, 12, 23, 35)] rfl (List.mem_filter.mpr ⟨List.mem_of_getElem? (show tables_1[513]? = some _ by decide +kernel), by decide +kernel⟩) (List.forall_mem_cons.mpr ⟨⟨by decide, "java/lang/IndexOutOfBoundsException", by decide +kernel, by decide +kernel, (bw_of 592 (by decide +kernel) (by decide +kernel))⟩, fun _ h => absurd h List.not_mem_nil⟩) ⟨by decide, by decide⟩ (by decide) (bw_of 423 (by decide +kernel) (by decide +kernel)) rfl (sL_shuntingTime_19.dc 0 (q := (19, .astore 5, 0, 0)) rfl) ?_
      show Ev _ _ _ _ _ _ 21 [some (.ref 0), some (.int a0), some (.int a1), some (.int a2), some (.ref 405), none] [] h9
      refine Ev.sg hX (sL_shuntingTime_19.sub 1 1) (pc' := 22) (ls' := [some (.ref 0), some (.int a0), some (.int a1), some (.int a2), some (.ref 405), none]) (st' := [.int 2]) (h' := h9) rfl ?_
      refine Ev.iret dL_shuntingTime_22 rfl ?_
      exact Or.inr ⟨_, _, e9, by rw [show cdL_shuntingTime "java/lang/IllegalArgumentException" = 2 by decide +kernel]⟩
    · refine EvX.catch (E := "java/util/NoSuchElementException") (i := 5) (by decide +kernel) [(0, 12, 15, 20), (0, 12, 19, 13)] (0, 12, 23, 35) [] rfl (List.mem_filter.mpr ⟨List.mem_of_getElem? (show tables_1[545]? = some _ by decide +kernel), by decide +kernel⟩) (List.forall_mem_cons.mpr ⟨⟨by decide, "java/lang/IndexOutOfBoundsException", by decide +kernel, by decide +kernel, (bw_of 592 (by decide +kernel) (by decide +kernel))⟩, List.forall_mem_cons.mpr ⟨⟨by decide, "java/lang/IllegalArgumentException", by decide +kernel, by decide +kernel, (bw_of 423 (by decide +kernel) (by decide +kernel))⟩, fun _ h => absurd h List.not_mem_nil⟩⟩) ⟨by decide, by decide⟩ (by decide) (bw_of 686 (by decide +kernel) (by decide +kernel)) rfl (sL_shuntingTime_23.dc 0 (q := (23, .astore 5, 0, 0)) rfl) ?_
      show Ev _ _ _ _ _ _ 25 [some (.ref 0), some (.int a0), some (.int a1), some (.int a2), some (.ref 405), none] [] h9
      refine Ev.sg hX (sL_shuntingTime_23.sub 1 1) (pc' := 26) (ls' := [some (.ref 0), some (.int a0), some (.int a1), some (.int a2), some (.ref 405), none]) (st' := [.int 3]) (h' := h9) rfl ?_
      refine Ev.iret dL_shuntingTime_26 rfl ?_
      exact Or.inr ⟨_, _, e9, by rw [show cdL_shuntingTime "java/util/NoSuchElementException" = 3 by decide +kernel]⟩
abbrev cdL_nearestFreeTrack : String → Int32 := cdE ["java/lang/IndexOutOfBoundsException", "java/util/NoSuchElementException"]
theorem wL_nearestFreeTrack {a0 : Int32} (hX : JXok X) (h0 : zS h 0 = some (.inr (6, fs9))) (hm : MT X d mc ms jdX6_nearestFreeTrack [.ref 0, .int a0] h Q') (hq : ∀ v h', Q' (.inl (v, h')) → ∃ x, v = some (.int x) ∧ zS h' 405 = some (.inl (.long, 1))) (hx : ∀ E h', Q' (.inr (E, h')) → E = "java/lang/IndexOutOfBoundsException" ∨ E = "java/util/NoSuchElementException") : MTH X (d + 1) mc ms jdL_nearestFreeTrack hhL_nearestFreeTrack [.ref 0, .int a0, .ref 405] h (wQ cdL_nearestFreeTrack wI Q') := by
  refine MTH.mk dhL_nearestFreeTrack ?_
  refine Ev.sg hX sL_nearestFreeTrack_0 (pc' := 4) (ls' := [some (.ref 0), some (.int a0), some (.ref 405), none]) (st' := [.int a0, .ref 0, .int 0, .ref 405]) (h' := h) rfl ?_
  refine Ev.callV (As := [.int a0]) (rest := [.int 0, .ref 405]) dvX6_nearestFreeTrack mkL_88 h0 rfl dL_nearestFreeTrack_4 hm ⟨Nat.le_refl _, by show 3 + 19 + 40 * _ ≤ 40 * _; omega⟩ ⟨Nat.le_refl _, Nat.le_refl _⟩ rfl (Nat.le_of_ble_eq_true rfl) (fun v9 h9 e9 => ?_) (fun E9 h9 e9 => ?_)
  · obtain ⟨x, rfl, hsh⟩ := hq _ _ e9
    show Ev _ _ _ _ _ _ 7 [some (.ref 0), some (.int a0), some (.ref 405), none] [.int x, .int 0, .ref 405] h9
    refine Ev.sg hX sL_nearestFreeTrack_7 (pc' := 8) (ls' := [some (.ref 0), some (.int a0), some (.ref 405), none]) (st' := [.long x.toInt64, .int 0, .ref 405]) (h' := h9) rfl ?_
    refine Ev.last hX hsh (vp_in_nI (n := 0) (N := 1) (by decide) (by decide)) dL_nearestFreeTrack_8 ?_
    show Ev _ _ _ _ _ _ 9 [some (.ref 0), some (.int a0), some (.ref 405), none] [] (setL h9 405 0 x.toInt64)
    refine Ev.sg hX sL_nearestFreeTrack_9 (pc' := 18) (ls' := [some (.ref 0), some (.int a0), some (.ref 405), none]) (st' := []) (h' := setL h9 405 0 x.toInt64) rfl ?_
    refine Ev.sg hX sL_nearestFreeTrack_18 (pc' := 19) (ls' := [some (.ref 0), some (.int a0), some (.ref 405), none]) (st' := [.int 0]) (h' := setL h9 405 0 x.toInt64) rfl ?_
    refine Ev.iret dL_nearestFreeTrack_19 rfl ?_
    exact Or.inl ⟨_, _, _, e9, ⟨_, rfl, rfl⟩, rfl⟩
  · rcases hx _ _ e9 with rfl | rfl
    · refine EvX.catchN (E := "java/lang/IndexOutOfBoundsException") (i := 3) (by decide +kernel) [] (0, 9, 12, 20) [(0, 9, 15, 35)] rfl (List.mem_filter.mpr ⟨List.mem_of_getElem? (show tables_1[441]? = some _ by decide +kernel), by decide +kernel⟩) (fun _ h => absurd h List.not_mem_nil) ⟨by decide, by decide⟩ (by decide) (bw_of 592 (by decide +kernel) (by decide +kernel)) rfl (sL_nearestFreeTrack_12.dc 0 (q := (12, .astore_n 3, 0, 0)) rfl) ?_
      show Ev _ _ _ _ _ _ 13 [some (.ref 0), some (.int a0), some (.ref 405), none] [] h9
      refine Ev.sg hX (sL_nearestFreeTrack_12.sub 1 1) (pc' := 14) (ls' := [some (.ref 0), some (.int a0), some (.ref 405), none]) (st' := [.int 1]) (h' := h9) rfl ?_
      refine Ev.iret dL_nearestFreeTrack_14 rfl ?_
      exact Or.inr ⟨_, _, e9, by rw [show cdL_nearestFreeTrack "java/lang/IndexOutOfBoundsException" = 1 by decide +kernel]⟩
    · refine EvX.catchN (E := "java/util/NoSuchElementException") (i := 3) (by decide +kernel) [(0, 9, 12, 20)] (0, 9, 15, 35) [] rfl (List.mem_filter.mpr ⟨List.mem_of_getElem? (show tables_1[545]? = some _ by decide +kernel), by decide +kernel⟩) (List.forall_mem_cons.mpr ⟨⟨by decide, "java/lang/IndexOutOfBoundsException", by decide +kernel, by decide +kernel, (bw_of 592 (by decide +kernel) (by decide +kernel))⟩, fun _ h => absurd h List.not_mem_nil⟩) ⟨by decide, by decide⟩ (by decide) (bw_of 686 (by decide +kernel) (by decide +kernel)) rfl (sL_nearestFreeTrack_15.dc 0 (q := (15, .astore_n 3, 0, 0)) rfl) ?_
      show Ev _ _ _ _ _ _ 16 [some (.ref 0), some (.int a0), some (.ref 405), none] [] h9
      refine Ev.sg hX (sL_nearestFreeTrack_15.sub 1 1) (pc' := 17) (ls' := [some (.ref 0), some (.int a0), some (.ref 405), none]) (st' := [.int 2]) (h' := h9) rfl ?_
      refine Ev.iret dL_nearestFreeTrack_17 rfl ?_
      exact Or.inr ⟨_, _, e9, by rw [show cdL_nearestFreeTrack "java/util/NoSuchElementException" = 2 by decide +kernel]⟩
abbrev cdL_trackOf : String → Int32 := cdE ["java/util/NoSuchElementException"]
theorem wL_trackOf {a0 : Int32} (hX : JXok X) (h0 : zS h 0 = some (.inr (6, fs9))) (hm : MT X d mc ms jdX6_trackOf [.ref 0, .int a0] h Q') (hq : ∀ v h', Q' (.inl (v, h')) → ∃ x, v = some (.int x) ∧ zS h' 405 = some (.inl (.long, 1))) (hx : ∀ E h', Q' (.inr (E, h')) → E = "java/util/NoSuchElementException") : MTH X (d + 1) mc ms jdL_trackOf hhL_trackOf [.ref 0, .int a0, .ref 405] h (wQ cdL_trackOf wI Q') := by
  refine MTH.mk dhL_trackOf ?_
  refine Ev.sg hX sL_trackOf_0 (pc' := 4) (ls' := [some (.ref 0), some (.int a0), some (.ref 405), none]) (st' := [.int a0, .ref 0, .int 0, .ref 405]) (h' := h) rfl ?_
  refine Ev.callV (As := [.int a0]) (rest := [.int 0, .ref 405]) dvX6_trackOf mkL_91 h0 rfl dL_trackOf_4 hm ⟨Nat.le_refl _, by show 2 + 19 + 40 * _ ≤ 40 * _; omega⟩ ⟨Nat.le_refl _, Nat.le_refl _⟩ rfl (Nat.le_of_ble_eq_true rfl) (fun v9 h9 e9 => ?_) (fun E9 h9 e9 => ?_)
  · obtain ⟨x, rfl, hsh⟩ := hq _ _ e9
    show Ev _ _ _ _ _ _ 7 [some (.ref 0), some (.int a0), some (.ref 405), none] [.int x, .int 0, .ref 405] h9
    refine Ev.sg hX sL_trackOf_7 (pc' := 8) (ls' := [some (.ref 0), some (.int a0), some (.ref 405), none]) (st' := [.long x.toInt64, .int 0, .ref 405]) (h' := h9) rfl ?_
    refine Ev.last hX hsh (vp_in_nI (n := 0) (N := 1) (by decide) (by decide)) dL_trackOf_8 ?_
    show Ev _ _ _ _ _ _ 9 [some (.ref 0), some (.int a0), some (.ref 405), none] [] (setL h9 405 0 x.toInt64)
    refine Ev.sg hX sL_trackOf_9 (pc' := 15) (ls' := [some (.ref 0), some (.int a0), some (.ref 405), none]) (st' := []) (h' := setL h9 405 0 x.toInt64) rfl ?_
    refine Ev.sg hX sL_trackOf_15 (pc' := 16) (ls' := [some (.ref 0), some (.int a0), some (.ref 405), none]) (st' := [.int 0]) (h' := setL h9 405 0 x.toInt64) rfl ?_
    refine Ev.iret dL_trackOf_16 rfl ?_
    exact Or.inl ⟨_, _, _, e9, ⟨_, rfl, rfl⟩, rfl⟩
  · rcases hx _ _ e9 with rfl
    · refine EvX.catchN (E := "java/util/NoSuchElementException") (i := 3) (by decide +kernel) [] (0, 9, 12, 35) [] rfl (List.mem_filter.mpr ⟨List.mem_of_getElem? (show tables_1[545]? = some _ by decide +kernel), by decide +kernel⟩) (fun _ h => absurd h List.not_mem_nil) ⟨by decide, by decide⟩ (by decide) (bw_of 686 (by decide +kernel) (by decide +kernel)) rfl (sL_trackOf_12.dc 0 (q := (12, .astore_n 3, 0, 0)) rfl) ?_
      show Ev _ _ _ _ _ _ 13 [some (.ref 0), some (.int a0), some (.ref 405), none] [] h9
      refine Ev.sg hX (sL_trackOf_12.sub 1 1) (pc' := 14) (ls' := [some (.ref 0), some (.int a0), some (.ref 405), none]) (st' := [.int 1]) (h' := h9) rfl ?_
      refine Ev.iret dL_trackOf_14 rfl ?_
      exact Or.inr ⟨_, _, e9, by rw [show cdL_trackOf "java/util/NoSuchElementException" = 1 by decide +kernel]⟩
abbrev cdL_carsBehind : String → Int32 := cdE ["java/util/NoSuchElementException"]
theorem wL_carsBehind {a0 : Int32} (hX : JXok X) (h0 : zS h 0 = some (.inr (6, fs9))) (hm : MT X d mc ms jdX6_carsBehind [.ref 0, .int a0] h Q') (hq : ∀ v h', Q' (.inl (v, h')) → ∃ x, v = some (.int x) ∧ zS h' 405 = some (.inl (.long, 1))) (hx : ∀ E h', Q' (.inr (E, h')) → E = "java/util/NoSuchElementException") : MTH X (d + 1) mc ms jdL_carsBehind hhL_carsBehind [.ref 0, .int a0, .ref 405] h (wQ cdL_carsBehind wI Q') := by
  refine MTH.mk dhL_carsBehind ?_
  refine Ev.sg hX sL_carsBehind_0 (pc' := 4) (ls' := [some (.ref 0), some (.int a0), some (.ref 405), none]) (st' := [.int a0, .ref 0, .int 0, .ref 405]) (h' := h) rfl ?_
  refine Ev.callV (As := [.int a0]) (rest := [.int 0, .ref 405]) dvX6_carsBehind mkL_94 h0 rfl dL_carsBehind_4 hm ⟨Nat.le_refl _, by show 2 + 19 + 40 * _ ≤ 40 * _; omega⟩ ⟨Nat.le_refl _, Nat.le_refl _⟩ rfl (Nat.le_of_ble_eq_true rfl) (fun v9 h9 e9 => ?_) (fun E9 h9 e9 => ?_)
  · obtain ⟨x, rfl, hsh⟩ := hq _ _ e9
    show Ev _ _ _ _ _ _ 7 [some (.ref 0), some (.int a0), some (.ref 405), none] [.int x, .int 0, .ref 405] h9
    refine Ev.sg hX sL_carsBehind_7 (pc' := 8) (ls' := [some (.ref 0), some (.int a0), some (.ref 405), none]) (st' := [.long x.toInt64, .int 0, .ref 405]) (h' := h9) rfl ?_
    refine Ev.last hX hsh (vp_in_nI (n := 0) (N := 1) (by decide) (by decide)) dL_carsBehind_8 ?_
    show Ev _ _ _ _ _ _ 9 [some (.ref 0), some (.int a0), some (.ref 405), none] [] (setL h9 405 0 x.toInt64)
    refine Ev.sg hX sL_carsBehind_9 (pc' := 15) (ls' := [some (.ref 0), some (.int a0), some (.ref 405), none]) (st' := []) (h' := setL h9 405 0 x.toInt64) rfl ?_
    refine Ev.sg hX sL_carsBehind_15 (pc' := 16) (ls' := [some (.ref 0), some (.int a0), some (.ref 405), none]) (st' := [.int 0]) (h' := setL h9 405 0 x.toInt64) rfl ?_
    refine Ev.iret dL_carsBehind_16 rfl ?_
    exact Or.inl ⟨_, _, _, e9, ⟨_, rfl, rfl⟩, rfl⟩
  · rcases hx _ _ e9 with rfl
    · refine EvX.catchN (E := "java/util/NoSuchElementException") (i := 3) (by decide +kernel) [] (0, 9, 12, 35) [] rfl (List.mem_filter.mpr ⟨List.mem_of_getElem? (show tables_1[545]? = some _ by decide +kernel), by decide +kernel⟩) (fun _ h => absurd h List.not_mem_nil) ⟨by decide, by decide⟩ (by decide) (bw_of 686 (by decide +kernel) (by decide +kernel)) rfl (sL_carsBehind_12.dc 0 (q := (12, .astore_n 3, 0, 0)) rfl) ?_
      show Ev _ _ _ _ _ _ 13 [some (.ref 0), some (.int a0), some (.ref 405), none] [] h9
      refine Ev.sg hX (sL_carsBehind_12.sub 1 1) (pc' := 14) (ls' := [some (.ref 0), some (.int a0), some (.ref 405), none]) (st' := [.int 1]) (h' := h9) rfl ?_
      refine Ev.iret dL_carsBehind_14 rfl ?_
      exact Or.inr ⟨_, _, e9, by rw [show cdL_carsBehind "java/util/NoSuchElementException" = 1 by decide +kernel]⟩
abbrev cdL_destination : String → Int32 := cdE ["java/util/NoSuchElementException"]
theorem wL_destination {a0 : Int32} (hX : JXok X) (h0 : zS h 0 = some (.inr (6, fs9))) (hm : MT X d mc ms jdX6_destination [.ref 0, .int a0] h Q') (hq : ∀ v h', Q' (.inl (v, h')) → ∃ x, v = some (.int x) ∧ zS h' 405 = some (.inl (.long, 1))) (hx : ∀ E h', Q' (.inr (E, h')) → E = "java/util/NoSuchElementException") : MTH X (d + 1) mc ms jdL_destination hhL_destination [.ref 0, .int a0, .ref 405] h (wQ cdL_destination wI Q') := by
  refine MTH.mk dhL_destination ?_
  refine Ev.sg hX sL_destination_0 (pc' := 4) (ls' := [some (.ref 0), some (.int a0), some (.ref 405), none]) (st' := [.int a0, .ref 0, .int 0, .ref 405]) (h' := h) rfl ?_
  refine Ev.callV (As := [.int a0]) (rest := [.int 0, .ref 405]) dvX6_destination mkL_97 h0 rfl dL_destination_4 hm ⟨Nat.le_refl _, by show 2 + 19 + 40 * _ ≤ 40 * _; omega⟩ ⟨Nat.le_refl _, Nat.le_refl _⟩ rfl (Nat.le_of_ble_eq_true rfl) (fun v9 h9 e9 => ?_) (fun E9 h9 e9 => ?_)
  · obtain ⟨x, rfl, hsh⟩ := hq _ _ e9
    show Ev _ _ _ _ _ _ 7 [some (.ref 0), some (.int a0), some (.ref 405), none] [.int x, .int 0, .ref 405] h9
    refine Ev.sg hX sL_destination_7 (pc' := 8) (ls' := [some (.ref 0), some (.int a0), some (.ref 405), none]) (st' := [.long x.toInt64, .int 0, .ref 405]) (h' := h9) rfl ?_
    refine Ev.last hX hsh (vp_in_nI (n := 0) (N := 1) (by decide) (by decide)) dL_destination_8 ?_
    show Ev _ _ _ _ _ _ 9 [some (.ref 0), some (.int a0), some (.ref 405), none] [] (setL h9 405 0 x.toInt64)
    refine Ev.sg hX sL_destination_9 (pc' := 15) (ls' := [some (.ref 0), some (.int a0), some (.ref 405), none]) (st' := []) (h' := setL h9 405 0 x.toInt64) rfl ?_
    refine Ev.sg hX sL_destination_15 (pc' := 16) (ls' := [some (.ref 0), some (.int a0), some (.ref 405), none]) (st' := [.int 0]) (h' := setL h9 405 0 x.toInt64) rfl ?_
    refine Ev.iret dL_destination_16 rfl ?_
    exact Or.inl ⟨_, _, _, e9, ⟨_, rfl, rfl⟩, rfl⟩
  · rcases hx _ _ e9 with rfl
    · refine EvX.catchN (E := "java/util/NoSuchElementException") (i := 3) (by decide +kernel) [] (0, 9, 12, 35) [] rfl (List.mem_filter.mpr ⟨List.mem_of_getElem? (show tables_1[545]? = some _ by decide +kernel), by decide +kernel⟩) (fun _ h => absurd h List.not_mem_nil) ⟨by decide, by decide⟩ (by decide) (bw_of 686 (by decide +kernel) (by decide +kernel)) rfl (sL_destination_12.dc 0 (q := (12, .astore_n 3, 0, 0)) rfl) ?_
      show Ev _ _ _ _ _ _ 13 [some (.ref 0), some (.int a0), some (.ref 405), none] [] h9
      refine Ev.sg hX (sL_destination_12.sub 1 1) (pc' := 14) (ls' := [some (.ref 0), some (.int a0), some (.ref 405), none]) (st' := [.int 1]) (h' := h9) rfl ?_
      refine Ev.iret dL_destination_14 rfl ?_
      exact Or.inr ⟨_, _, e9, by rw [show cdL_destination "java/util/NoSuchElementException" = 1 by decide +kernel]⟩
abbrev cdL_isDefective : String → Int32 := cdE ["java/util/NoSuchElementException"]
theorem wL_isDefective {a0 : Int32} (hX : JXok X) (h0 : zS h 0 = some (.inr (6, fs9))) (hm : MT X d mc ms jdX6_isDefective [.ref 0, .int a0] h Q') (hq : ∀ v h', Q' (.inl (v, h')) → ∃ x, v = some (.int x) ∧ zS h' 405 = some (.inl (.long, 1))) (hx : ∀ E h', Q' (.inr (E, h')) → E = "java/util/NoSuchElementException") : MTH X (d + 1) mc ms jdL_isDefective hhL_isDefective [.ref 0, .int a0, .ref 405] h (wQ cdL_isDefective wZ Q') := by
  refine MTH.mk dhL_isDefective ?_
  refine Ev.sg hX sL_isDefective_0 (pc' := 4) (ls' := [some (.ref 0), some (.int a0), some (.ref 405), none]) (st' := [.int a0, .ref 0, .int 0, .ref 405]) (h' := h) rfl ?_
  refine Ev.callV (As := [.int a0]) (rest := [.int 0, .ref 405]) dvX6_isDefective mkL_100 h0 rfl dL_isDefective_4 hm ⟨Nat.le_refl _, by show 2 + 19 + 40 * _ ≤ 40 * _; omega⟩ ⟨Nat.le_refl _, Nat.le_refl _⟩ rfl (Nat.le_of_ble_eq_true rfl) (fun v9 h9 e9 => ?_) (fun E9 h9 e9 => ?_)
  · obtain ⟨x, rfl, hsh⟩ := hq _ _ e9
    show Ev _ _ _ _ _ _ 7 [some (.ref 0), some (.int a0), some (.ref 405), none] [.int x, .int 0, .ref 405] h9
    refine Ev.if_eq (tgt := 14) dL_isDefective_7 (by decide) (fun b1 => ?_) (fun b1 => ?_)
    · refine Ev.sg hX sL_isDefective_14 (pc' := 15) (ls' := [some (.ref 0), some (.int a0), some (.ref 405), none]) (st' := [.long 0, .int 0, .ref 405]) (h' := h9) rfl ?_
      refine Ev.last hX hsh (vp_in_nI (n := 0) (N := 1) (by decide) (by decide)) dL_isDefective_15 ?_
      show Ev _ _ _ _ _ _ 16 [some (.ref 0), some (.int a0), some (.ref 405), none] [] (setL h9 405 0 0)
      refine Ev.sg hX sL_isDefective_16 (pc' := 22) (ls' := [some (.ref 0), some (.int a0), some (.ref 405), none]) (st' := []) (h' := setL h9 405 0 0) rfl ?_
      refine Ev.sg hX sL_isDefective_22 (pc' := 23) (ls' := [some (.ref 0), some (.int a0), some (.ref 405), none]) (st' := [.int 0]) (h' := setL h9 405 0 0) rfl ?_
      refine Ev.iret dL_isDefective_23 rfl ?_
      exact Or.inl ⟨_, _, _, e9, ⟨_, rfl, by rw [if_pos b1]⟩, rfl⟩
    · refine Ev.sg hX sL_isDefective_10 (pc' := 15) (ls' := [some (.ref 0), some (.int a0), some (.ref 405), none]) (st' := [.long 1, .int 0, .ref 405]) (h' := h9) rfl ?_
      refine Ev.last hX hsh (vp_in_nI (n := 0) (N := 1) (by decide) (by decide)) dL_isDefective_15 ?_
      show Ev _ _ _ _ _ _ 16 [some (.ref 0), some (.int a0), some (.ref 405), none] [] (setL h9 405 0 1)
      refine Ev.sg hX sL_isDefective_16 (pc' := 22) (ls' := [some (.ref 0), some (.int a0), some (.ref 405), none]) (st' := []) (h' := setL h9 405 0 1) rfl ?_
      refine Ev.sg hX sL_isDefective_22 (pc' := 23) (ls' := [some (.ref 0), some (.int a0), some (.ref 405), none]) (st' := [.int 0]) (h' := setL h9 405 0 1) rfl ?_
      refine Ev.iret dL_isDefective_23 rfl ?_
      exact Or.inl ⟨_, _, _, e9, ⟨_, rfl, by rw [if_neg b1]⟩, rfl⟩
  · rcases hx _ _ e9 with rfl
    · refine EvX.catchN (E := "java/util/NoSuchElementException") (i := 3) (by decide +kernel) [] (0, 16, 19, 35) [] rfl (List.mem_filter.mpr ⟨List.mem_of_getElem? (show tables_1[545]? = some _ by decide +kernel), by decide +kernel⟩) (fun _ h => absurd h List.not_mem_nil) ⟨by decide, by decide⟩ (by decide) (bw_of 686 (by decide +kernel) (by decide +kernel)) rfl (sL_isDefective_19.dc 0 (q := (19, .astore_n 3, 0, 0)) rfl) ?_
      show Ev _ _ _ _ _ _ 20 [some (.ref 0), some (.int a0), some (.ref 405), none] [] h9
      refine Ev.sg hX (sL_isDefective_19.sub 1 1) (pc' := 21) (ls' := [some (.ref 0), some (.int a0), some (.ref 405), none]) (st' := [.int 1]) (h' := h9) rfl ?_
      refine Ev.iret dL_isDefective_21 rfl ?_
      exact Or.inr ⟨_, _, e9, by rw [show cdL_isDefective "java/util/NoSuchElementException" = 1 by decide +kernel]⟩
abbrev cdL_carsFor : String → Int32 := cdE ["java/lang/IllegalArgumentException"]
theorem wL_carsFor {a0 : Int32} (hX : JXok X) (h0 : zS h 0 = some (.inr (6, fs9))) (hm : MT X d mc ms jdX6_carsFor [.ref 0, .int a0] h Q') (hq : ∀ v h', Q' (.inl (v, h')) → ∃ x, v = some (.int x) ∧ zS h' 405 = some (.inl (.long, 1))) (hx : ∀ E h', Q' (.inr (E, h')) → E = "java/lang/IllegalArgumentException") : MTH X (d + 1) mc ms jdL_carsFor hhL_carsFor [.ref 0, .int a0, .ref 405] h (wQ cdL_carsFor wI Q') := by
  refine MTH.mk dhL_carsFor ?_
  refine Ev.sg hX sL_carsFor_0 (pc' := 4) (ls' := [some (.ref 0), some (.int a0), some (.ref 405), none]) (st' := [.int a0, .ref 0, .int 0, .ref 405]) (h' := h) rfl ?_
  refine Ev.callV (As := [.int a0]) (rest := [.int 0, .ref 405]) dvX6_carsFor mkL_103 h0 rfl dL_carsFor_4 hm ⟨Nat.le_refl _, by show 2 + 19 + 40 * _ ≤ 40 * _; omega⟩ ⟨Nat.le_refl _, Nat.le_refl _⟩ rfl (Nat.le_of_ble_eq_true rfl) (fun v9 h9 e9 => ?_) (fun E9 h9 e9 => ?_)
  · obtain ⟨x, rfl, hsh⟩ := hq _ _ e9
    show Ev _ _ _ _ _ _ 7 [some (.ref 0), some (.int a0), some (.ref 405), none] [.int x, .int 0, .ref 405] h9
    refine Ev.sg hX sL_carsFor_7 (pc' := 8) (ls' := [some (.ref 0), some (.int a0), some (.ref 405), none]) (st' := [.long x.toInt64, .int 0, .ref 405]) (h' := h9) rfl ?_
    refine Ev.last hX hsh (vp_in_nI (n := 0) (N := 1) (by decide) (by decide)) dL_carsFor_8 ?_
    show Ev _ _ _ _ _ _ 9 [some (.ref 0), some (.int a0), some (.ref 405), none] [] (setL h9 405 0 x.toInt64)
    refine Ev.sg hX sL_carsFor_9 (pc' := 15) (ls' := [some (.ref 0), some (.int a0), some (.ref 405), none]) (st' := []) (h' := setL h9 405 0 x.toInt64) rfl ?_
    refine Ev.sg hX sL_carsFor_15 (pc' := 16) (ls' := [some (.ref 0), some (.int a0), some (.ref 405), none]) (st' := [.int 0]) (h' := setL h9 405 0 x.toInt64) rfl ?_
    refine Ev.iret dL_carsFor_16 rfl ?_
    exact Or.inl ⟨_, _, _, e9, ⟨_, rfl, rfl⟩, rfl⟩
  · rcases hx _ _ e9 with rfl
    · refine EvX.catchN (E := "java/lang/IllegalArgumentException") (i := 3) (by decide +kernel) [] (0, 9, 12, 13) [] rfl (List.mem_filter.mpr ⟨List.mem_of_getElem? (show tables_1[513]? = some _ by decide +kernel), by decide +kernel⟩) (fun _ h => absurd h List.not_mem_nil) ⟨by decide, by decide⟩ (by decide) (bw_of 423 (by decide +kernel) (by decide +kernel)) rfl (sL_carsFor_12.dc 0 (q := (12, .astore_n 3, 0, 0)) rfl) ?_
      show Ev _ _ _ _ _ _ 13 [some (.ref 0), some (.int a0), some (.ref 405), none] [] h9
      refine Ev.sg hX (sL_carsFor_12.sub 1 1) (pc' := 14) (ls' := [some (.ref 0), some (.int a0), some (.ref 405), none]) (st' := [.int 1]) (h' := h9) rfl ?_
      refine Ev.iret dL_carsFor_14 rfl ?_
      exact Or.inr ⟨_, _, e9, by rw [show cdL_carsFor "java/lang/IllegalArgumentException" = 1 by decide +kernel]⟩
abbrev cdL_carAtRank : String → Int32 := cdE ["java/util/NoSuchElementException"]
theorem wL_carAtRank {a0 : Int32} (hX : JXok X) (h0 : zS h 0 = some (.inr (6, fs9))) (hm : MT X d mc ms jdX6_carAtRank [.ref 0, .int a0] h Q') (hq : ∀ v h', Q' (.inl (v, h')) → ∃ x, v = some (.int x) ∧ zS h' 405 = some (.inl (.long, 1))) (hx : ∀ E h', Q' (.inr (E, h')) → E = "java/util/NoSuchElementException") : MTH X (d + 1) mc ms jdL_carAtRank hhL_carAtRank [.ref 0, .int a0, .ref 405] h (wQ cdL_carAtRank wI Q') := by
  refine MTH.mk dhL_carAtRank ?_
  refine Ev.sg hX sL_carAtRank_0 (pc' := 4) (ls' := [some (.ref 0), some (.int a0), some (.ref 405), none]) (st' := [.int a0, .ref 0, .int 0, .ref 405]) (h' := h) rfl ?_
  refine Ev.callV (As := [.int a0]) (rest := [.int 0, .ref 405]) dvX6_carAtRank mkL_106 h0 rfl dL_carAtRank_4 hm ⟨Nat.le_refl _, by show 3 + 19 + 40 * _ ≤ 40 * _; omega⟩ ⟨Nat.le_refl _, Nat.le_refl _⟩ rfl (Nat.le_of_ble_eq_true rfl) (fun v9 h9 e9 => ?_) (fun E9 h9 e9 => ?_)
  · obtain ⟨x, rfl, hsh⟩ := hq _ _ e9
    show Ev _ _ _ _ _ _ 7 [some (.ref 0), some (.int a0), some (.ref 405), none] [.int x, .int 0, .ref 405] h9
    refine Ev.sg hX sL_carAtRank_7 (pc' := 8) (ls' := [some (.ref 0), some (.int a0), some (.ref 405), none]) (st' := [.long x.toInt64, .int 0, .ref 405]) (h' := h9) rfl ?_
    refine Ev.last hX hsh (vp_in_nI (n := 0) (N := 1) (by decide) (by decide)) dL_carAtRank_8 ?_
    show Ev _ _ _ _ _ _ 9 [some (.ref 0), some (.int a0), some (.ref 405), none] [] (setL h9 405 0 x.toInt64)
    refine Ev.sg hX sL_carAtRank_9 (pc' := 15) (ls' := [some (.ref 0), some (.int a0), some (.ref 405), none]) (st' := []) (h' := setL h9 405 0 x.toInt64) rfl ?_
    refine Ev.sg hX sL_carAtRank_15 (pc' := 16) (ls' := [some (.ref 0), some (.int a0), some (.ref 405), none]) (st' := [.int 0]) (h' := setL h9 405 0 x.toInt64) rfl ?_
    refine Ev.iret dL_carAtRank_16 rfl ?_
    exact Or.inl ⟨_, _, _, e9, ⟨_, rfl, rfl⟩, rfl⟩
  · rcases hx _ _ e9 with rfl
    · refine EvX.catchN (E := "java/util/NoSuchElementException") (i := 3) (by decide +kernel) [] (0, 9, 12, 35) [] rfl (List.mem_filter.mpr ⟨List.mem_of_getElem? (show tables_1[545]? = some _ by decide +kernel), by decide +kernel⟩) (fun _ h => absurd h List.not_mem_nil) ⟨by decide, by decide⟩ (by decide) (bw_of 686 (by decide +kernel) (by decide +kernel)) rfl (sL_carAtRank_12.dc 0 (q := (12, .astore_n 3, 0, 0)) rfl) ?_
      show Ev _ _ _ _ _ _ 13 [some (.ref 0), some (.int a0), some (.ref 405), none] [] h9
      refine Ev.sg hX (sL_carAtRank_12.sub 1 1) (pc' := 14) (ls' := [some (.ref 0), some (.int a0), some (.ref 405), none]) (st' := [.int 1]) (h' := h9) rfl ?_
      refine Ev.iret dL_carAtRank_14 rfl ?_
      exact Or.inr ⟨_, _, e9, by rw [show cdL_carAtRank "java/util/NoSuchElementException" = 1 by decide +kernel]⟩
end LWM
