/-! the law's methods: calls 1 -/
section LWM
variable {X : JX} {d mc ms : Nat} {h : MH} {Q' : JR → Prop} {fs9 : List (Value ⊕ Bool)}
abbrev cdL_addTrack : String → Int32 := cdE ["java/lang/IllegalArgumentException", "java/lang/IllegalStateException"]
theorem wL_addTrack {a0 : Int32} {a1 : Int32} (hX : JXok X) (h0 : zS h 0 = some (.inr (6, fs9))) (hm : MT X d mc ms jdX6_addTrack [.ref 0, .int a0, .int a1] h Q') (hq : ∀ v h', Q' (.inl (v, h')) → ∃ x, v = some (.int x) ∧ zS h' 405 = some (.inl (.long, 1))) (hx : ∀ E h', Q' (.inr (E, h')) → E = "java/lang/IllegalArgumentException" ∨ E = "java/lang/IllegalStateException") : MTH X (d + 1) mc ms jdL_addTrack hhL_addTrack [.ref 0, .int a0, .int a1, .ref 405] h (wQ cdL_addTrack wI Q') := by
  refine MTH.mk dhL_addTrack ?_
  refine Ev.sg hX sL_addTrack_0 (pc' := 5) (ls' := [some (.ref 0), some (.int a0), some (.int a1), some (.ref 405), none]) (st' := [.int a1, .int a0, .ref 0, .int 0, .ref 405]) (h' := h) rfl ?_
  refine Ev.callV (As := [.int a0, .int a1]) (rest := [.int 0, .ref 405]) dvX6_addTrack mkL_7 h0 rfl dL_addTrack_5 hm ⟨Nat.le_refl _, by show 3 + 19 + 40 * _ ≤ 40 * _; omega⟩ ⟨Nat.le_refl _, Nat.le_refl _⟩ rfl (Nat.le_of_ble_eq_true rfl) (fun v9 h9 e9 => ?_) (fun E9 h9 e9 => ?_)
  · obtain ⟨x, rfl, hsh⟩ := hq _ _ e9
    show Ev _ _ _ _ _ _ 8 [some (.ref 0), some (.int a0), some (.int a1), some (.ref 405), none] [.int x, .int 0, .ref 405] h9
    refine Ev.sg hX sL_addTrack_8 (pc' := 9) (ls' := [some (.ref 0), some (.int a0), some (.int a1), some (.ref 405), none]) (st' := [.long x.toInt64, .int 0, .ref 405]) (h' := h9) rfl ?_
    refine Ev.last hX hsh (vp_in_nI (n := 0) (N := 1) (by decide) (by decide)) dL_addTrack_9 ?_
    show Ev _ _ _ _ _ _ 10 [some (.ref 0), some (.int a0), some (.int a1), some (.ref 405), none] [] (setL h9 405 0 x.toInt64)
    refine Ev.sg hX sL_addTrack_10 (pc' := 21) (ls' := [some (.ref 0), some (.int a0), some (.int a1), some (.ref 405), none]) (st' := []) (h' := setL h9 405 0 x.toInt64) rfl ?_
    refine Ev.sg hX sL_addTrack_21 (pc' := 22) (ls' := [some (.ref 0), some (.int a0), some (.int a1), some (.ref 405), none]) (st' := [.int 0]) (h' := setL h9 405 0 x.toInt64) rfl ?_
    refine Ev.iret dL_addTrack_22 rfl ?_
    exact Or.inl ⟨_, _, _, e9, ⟨_, rfl, rfl⟩, rfl⟩
  · rcases hx _ _ e9 with rfl | rfl
    · refine EvX.catch (E := "java/lang/IllegalArgumentException") (i := 4) (by decide +kernel) [] (0, 10, 13, 13) [(0, 10, 17, 15)] rfl (List.mem_filter.mpr ⟨List.mem_of_getElem? (show tables_1[513]? = some _ by decide +kernel), by decide +kernel⟩) (fun _ h => absurd h List.not_mem_nil) ⟨by decide, by decide⟩ (by decide) (bw_of 423 (by decide +kernel) (by decide +kernel)) rfl (sL_addTrack_13.dc 0 (q := (13, .astore 4, 0, 0)) rfl) ?_
      show Ev _ _ _ _ _ _ 15 [some (.ref 0), some (.int a0), some (.int a1), some (.ref 405), none] [] h9
      refine Ev.sg hX (sL_addTrack_13.sub 1 1) (pc' := 16) (ls' := [some (.ref 0), some (.int a0), some (.int a1), some (.ref 405), none]) (st' := [.int 1]) (h' := h9) rfl ?_
      refine Ev.iret dL_addTrack_16 rfl ?_
      exact Or.inr ⟨_, _, e9, by rw [show cdL_addTrack "java/lang/IllegalArgumentException" = 1 by decide +kernel]⟩
    · refine EvX.catch (E := "java/lang/IllegalStateException") (i := 4) (by decide +kernel) [(0, 10, 13, 13)] (0, 10, 17, 15) [] rfl (List.mem_filter.mpr ⟨List.mem_of_getElem? (show tables_1[529]? = some _ by decide +kernel), by decide +kernel⟩) (List.forall_mem_cons.mpr ⟨⟨by decide, "java/lang/IllegalArgumentException", by decide +kernel, by decide +kernel, (bw_of 423 (by decide +kernel) (by decide +kernel))⟩, fun _ h => absurd h List.not_mem_nil⟩) ⟨by decide, by decide⟩ (by decide) (bw_of 424 (by decide +kernel) (by decide +kernel)) rfl (sL_addTrack_17.dc 0 (q := (17, .astore 4, 0, 0)) rfl) ?_
      show Ev _ _ _ _ _ _ 19 [some (.ref 0), some (.int a0), some (.int a1), some (.ref 405), none] [] h9
      refine Ev.sg hX (sL_addTrack_17.sub 1 1) (pc' := 20) (ls' := [some (.ref 0), some (.int a0), some (.int a1), some (.ref 405), none]) (st' := [.int 2]) (h' := h9) rfl ?_
      refine Ev.iret dL_addTrack_20 rfl ?_
      exact Or.inr ⟨_, _, e9, by rw [show cdL_addTrack "java/lang/IllegalStateException" = 2 by decide +kernel]⟩
abbrev cdL_connect : String → Int32 := cdE ["java/lang/IndexOutOfBoundsException", "java/lang/IllegalArgumentException", "java/lang/IllegalStateException"]
theorem wL_connect {a0 : Int32} {a1 : Int32} (hX : JXok X) (h0 : zS h 0 = some (.inr (6, fs9))) (hm : MT X d mc ms jdX6_connect [.ref 0, .int a0, .int a1] h Q') (hq : ∀ v h', Q' (.inl (v, h')) → ∃ x, v = some (.int x) ∧ zS h' 405 = some (.inl (.long, 1))) (hx : ∀ E h', Q' (.inr (E, h')) → E = "java/lang/IndexOutOfBoundsException" ∨ E = "java/lang/IllegalArgumentException" ∨ E = "java/lang/IllegalStateException") : MTH X (d + 1) mc ms jdL_connect hhL_connect [.ref 0, .int a0, .int a1, .ref 405] h (wQ cdL_connect wI Q') := by
  refine MTH.mk dhL_connect ?_
  refine Ev.sg hX sL_connect_0 (pc' := 5) (ls' := [some (.ref 0), some (.int a0), some (.int a1), some (.ref 405), none]) (st' := [.int a1, .int a0, .ref 0, .int 0, .ref 405]) (h' := h) rfl ?_
  refine Ev.callV (As := [.int a0, .int a1]) (rest := [.int 0, .ref 405]) dvX6_connect mkL_17 h0 rfl dL_connect_5 hm ⟨Nat.le_refl _, by show 3 + 19 + 40 * _ ≤ 40 * _; omega⟩ ⟨Nat.le_refl _, Nat.le_refl _⟩ rfl (Nat.le_of_ble_eq_true rfl) (fun v9 h9 e9 => ?_) (fun E9 h9 e9 => ?_)
  · obtain ⟨x, rfl, hsh⟩ := hq _ _ e9
    show Ev _ _ _ _ _ _ 8 [some (.ref 0), some (.int a0), some (.int a1), some (.ref 405), none] [.int x, .int 0, .ref 405] h9
    refine Ev.sg hX sL_connect_8 (pc' := 9) (ls' := [some (.ref 0), some (.int a0), some (.int a1), some (.ref 405), none]) (st' := [.long x.toInt64, .int 0, .ref 405]) (h' := h9) rfl ?_
    refine Ev.last hX hsh (vp_in_nI (n := 0) (N := 1) (by decide) (by decide)) dL_connect_9 ?_
    show Ev _ _ _ _ _ _ 10 [some (.ref 0), some (.int a0), some (.int a1), some (.ref 405), none] [] (setL h9 405 0 x.toInt64)
    refine Ev.sg hX sL_connect_10 (pc' := 25) (ls' := [some (.ref 0), some (.int a0), some (.int a1), some (.ref 405), none]) (st' := []) (h' := setL h9 405 0 x.toInt64) rfl ?_
    refine Ev.sg hX sL_connect_25 (pc' := 26) (ls' := [some (.ref 0), some (.int a0), some (.int a1), some (.ref 405), none]) (st' := [.int 0]) (h' := setL h9 405 0 x.toInt64) rfl ?_
    refine Ev.iret dL_connect_26 rfl ?_
    exact Or.inl ⟨_, _, _, e9, ⟨_, rfl, rfl⟩, rfl⟩
  · rcases hx _ _ e9 with rfl | rfl | rfl
    · refine EvX.catch (E := "java/lang/IndexOutOfBoundsException") (i := 4) (by decide +kernel) [] (0, 10, 13, 20) [(0, 10, 17, 13), (0, 10, 21, 15)] rfl (List.mem_filter.mpr ⟨List.mem_of_getElem? (show tables_1[441]? = some _ by decide +kernel), by decide +kernel⟩) (fun _ h => absurd h List.not_mem_nil) ⟨by decide, by decide⟩ (by decide) (bw_of 592 (by decide +kernel) (by decide +kernel)) rfl (sL_connect_13.dc 0 (q := (13, .astore 4, 0, 0)) rfl) ?_
      show Ev _ _ _ _ _ _ 15 [some (.ref 0), some (.int a0), some (.int a1), some (.ref 405), none] [] h9
      refine Ev.sg hX (sL_connect_13.sub 1 1) (pc' := 16) (ls' := [some (.ref 0), some (.int a0), some (.int a1), some (.ref 405), none]) (st' := [.int 1]) (h' := h9) rfl ?_
      refine Ev.iret dL_connect_16 rfl ?_
      exact Or.inr ⟨_, _, e9, by rw [show cdL_connect "java/lang/IndexOutOfBoundsException" = 1 by decide +kernel]⟩
    · refine EvX.catch (E := "java/lang/IllegalArgumentException") (i := 4) (by decide +kernel) [(0, 10, 13, 20)] (0, 10, 17, 13) [(0, 10, 21, 15)] rfl (List.mem_filter.mpr ⟨List.mem_of_getElem? (show tables_1[513]? = some _ by decide +kernel), by decide +kernel⟩) (List.forall_mem_cons.mpr ⟨⟨by decide, "java/lang/IndexOutOfBoundsException", by decide +kernel, by decide +kernel, (bw_of 592 (by decide +kernel) (by decide +kernel))⟩, fun _ h => absurd h List.not_mem_nil⟩) ⟨by decide, by decide⟩ (by decide) (bw_of 423 (by decide +kernel) (by decide +kernel)) rfl (sL_connect_17.dc 0 (q := (17, .astore 4, 0, 0)) rfl) ?_
      show Ev _ _ _ _ _ _ 19 [some (.ref 0), some (.int a0), some (.int a1), some (.ref 405), none] [] h9
      refine Ev.sg hX (sL_connect_17.sub 1 1) (pc' := 20) (ls' := [some (.ref 0), some (.int a0), some (.int a1), some (.ref 405), none]) (st' := [.int 2]) (h' := h9) rfl ?_
      refine Ev.iret dL_connect_20 rfl ?_
      exact Or.inr ⟨_, _, e9, by rw [show cdL_connect "java/lang/IllegalArgumentException" = 2 by decide +kernel]⟩
    · refine EvX.catch (E := "java/lang/IllegalStateException") (i := 4) (by decide +kernel) [(0, 10, 13, 20), (0, 10, 17, 13)] (0, 10, 21, 15) [] rfl (List.mem_filter.mpr ⟨List.mem_of_getElem? (show tables_1[529]? = some _ by decide +kernel), by decide +kernel⟩) (List.forall_mem_cons.mpr ⟨⟨by decide, "java/lang/IndexOutOfBoundsException", by decide +kernel, by decide +kernel, (bw_of 592 (by decide +kernel) (by decide +kernel))⟩, List.forall_mem_cons.mpr ⟨⟨by decide, "java/lang/IllegalArgumentException", by decide +kernel, by decide +kernel, (bw_of 423 (by decide +kernel) (by decide +kernel))⟩, fun _ h => absurd h List.not_mem_nil⟩⟩) ⟨by decide, by decide⟩ (by decide) (bw_of 424 (by decide +kernel) (by decide +kernel)) rfl (sL_connect_21.dc 0 (q := (21, .astore 4, 0, 0)) rfl) ?_
      show Ev _ _ _ _ _ _ 23 [some (.ref 0), some (.int a0), some (.int a1), some (.ref 405), none] [] h9
      refine Ev.sg hX (sL_connect_21.sub 1 1) (pc' := 24) (ls' := [some (.ref 0), some (.int a0), some (.int a1), some (.ref 405), none]) (st' := [.int 3]) (h' := h9) rfl ?_
      refine Ev.iret dL_connect_24 rfl ?_
      exact Or.inr ⟨_, _, e9, by rw [show cdL_connect "java/lang/IllegalStateException" = 3 by decide +kernel]⟩
abbrev cdL_disconnect : String → Int32 := cdE ["java/lang/IndexOutOfBoundsException", "java/lang/IllegalStateException"]
theorem wL_disconnect {a0 : Int32} {a1 : Int32} (hX : JXok X) (h0 : zS h 0 = some (.inr (6, fs9))) (hm : MT X d mc ms jdX6_disconnect [.ref 0, .int a0, .int a1] h Q') (hq : ∀ v h', Q' (.inl (v, h')) → ∃ x, v = some (.int x) ∧ zS h' 405 = some (.inl (.long, 1))) (hx : ∀ E h', Q' (.inr (E, h')) → E = "java/lang/IndexOutOfBoundsException" ∨ E = "java/lang/IllegalStateException") : MTH X (d + 1) mc ms jdL_disconnect hhL_disconnect [.ref 0, .int a0, .int a1, .ref 405] h (wQ cdL_disconnect wI Q') := by
  refine MTH.mk dhL_disconnect ?_
  refine Ev.sg hX sL_disconnect_0 (pc' := 5) (ls' := [some (.ref 0), some (.int a0), some (.int a1), some (.ref 405), none]) (st' := [.int a1, .int a0, .ref 0, .int 0, .ref 405]) (h' := h) rfl ?_
  refine Ev.callV (As := [.int a0, .int a1]) (rest := [.int 0, .ref 405]) dvX6_disconnect mkL_22 h0 rfl dL_disconnect_5 hm ⟨Nat.le_refl _, by show 3 + 19 + 40 * _ ≤ 40 * _; omega⟩ ⟨Nat.le_refl _, Nat.le_refl _⟩ rfl (Nat.le_of_ble_eq_true rfl) (fun v9 h9 e9 => ?_) (fun E9 h9 e9 => ?_)
  · obtain ⟨x, rfl, hsh⟩ := hq _ _ e9
    show Ev _ _ _ _ _ _ 8 [some (.ref 0), some (.int a0), some (.int a1), some (.ref 405), none] [.int x, .int 0, .ref 405] h9
    refine Ev.sg hX sL_disconnect_8 (pc' := 9) (ls' := [some (.ref 0), some (.int a0), some (.int a1), some (.ref 405), none]) (st' := [.long x.toInt64, .int 0, .ref 405]) (h' := h9) rfl ?_
    refine Ev.last hX hsh (vp_in_nI (n := 0) (N := 1) (by decide) (by decide)) dL_disconnect_9 ?_
    show Ev _ _ _ _ _ _ 10 [some (.ref 0), some (.int a0), some (.int a1), some (.ref 405), none] [] (setL h9 405 0 x.toInt64)
    refine Ev.sg hX sL_disconnect_10 (pc' := 21) (ls' := [some (.ref 0), some (.int a0), some (.int a1), some (.ref 405), none]) (st' := []) (h' := setL h9 405 0 x.toInt64) rfl ?_
    refine Ev.sg hX sL_disconnect_21 (pc' := 22) (ls' := [some (.ref 0), some (.int a0), some (.int a1), some (.ref 405), none]) (st' := [.int 0]) (h' := setL h9 405 0 x.toInt64) rfl ?_
    refine Ev.iret dL_disconnect_22 rfl ?_
    exact Or.inl ⟨_, _, _, e9, ⟨_, rfl, rfl⟩, rfl⟩
  · rcases hx _ _ e9 with rfl | rfl
    · refine EvX.catch (E := "java/lang/IndexOutOfBoundsException") (i := 4) (by decide +kernel) [] (0, 10, 13, 20) [(0, 10, 17, 15)] rfl (List.mem_filter.mpr ⟨List.mem_of_getElem? (show tables_1[441]? = some _ by decide +kernel), by decide +kernel⟩) (fun _ h => absurd h List.not_mem_nil) ⟨by decide, by decide⟩ (by decide) (bw_of 592 (by decide +kernel) (by decide +kernel)) rfl (sL_disconnect_13.dc 0 (q := (13, .astore 4, 0, 0)) rfl) ?_
      show Ev _ _ _ _ _ _ 15 [some (.ref 0), some (.int a0), some (.int a1), some (.ref 405), none] [] h9
      refine Ev.sg hX (sL_disconnect_13.sub 1 1) (pc' := 16) (ls' := [some (.ref 0), some (.int a0), some (.int a1), some (.ref 405), none]) (st' := [.int 1]) (h' := h9) rfl ?_
      refine Ev.iret dL_disconnect_16 rfl ?_
      exact Or.inr ⟨_, _, e9, by rw [show cdL_disconnect "java/lang/IndexOutOfBoundsException" = 1 by decide +kernel]⟩
    · refine EvX.catch (E := "java/lang/IllegalStateException") (i := 4) (by decide +kernel) [(0, 10, 13, 20)] (0, 10, 17, 15) [] rfl (List.mem_filter.mpr ⟨List.mem_of_getElem? (show tables_1[529]? = some _ by decide +kernel), by decide +kernel⟩) (List.forall_mem_cons.mpr ⟨⟨by decide, "java/lang/IndexOutOfBoundsException", by decide +kernel, by decide +kernel, (bw_of 592 (by decide +kernel) (by decide +kernel))⟩, fun _ h => absurd h List.not_mem_nil⟩) ⟨by decide, by decide⟩ (by decide) (bw_of 424 (by decide +kernel) (by decide +kernel)) rfl (sL_disconnect_17.dc 0 (q := (17, .astore 4, 0, 0)) rfl) ?_
      show Ev _ _ _ _ _ _ 19 [some (.ref 0), some (.int a0), some (.int a1), some (.ref 405), none] [] h9
      refine Ev.sg hX (sL_disconnect_17.sub 1 1) (pc' := 20) (ls' := [some (.ref 0), some (.int a0), some (.int a1), some (.ref 405), none]) (st' := [.int 2]) (h' := h9) rfl ?_
      refine Ev.iret dL_disconnect_20 rfl ?_
      exact Or.inr ⟨_, _, e9, by rw [show cdL_disconnect "java/lang/IllegalStateException" = 2 by decide +kernel]⟩
abbrev cdL_addCar : String → Int32 := cdE ["java/lang/IndexOutOfBoundsException", "java/lang/IllegalArgumentException", "java/lang/IllegalStateException", "java/lang/UnsupportedOperationException"]
theorem wL_addCar {a0 : Int32} {a1 : Int32} {a2 : Int32} {a3 : Int32} {a4 : Int32} (hX : JXok X) (h0 : zS h 0 = some (.inr (6, fs9))) (hm : MT X d mc ms jdX6_addCar [.ref 0, .int a0, .int a1, .int a2, .int a3, .int a4] h Q') (hq : ∀ v h', Q' (.inl (v, h')) → ∃ x, v = some (.int x) ∧ zS h' 405 = some (.inl (.long, 1))) (hx : ∀ E h', Q' (.inr (E, h')) → E = "java/lang/IndexOutOfBoundsException" ∨ E = "java/lang/IllegalArgumentException" ∨ E = "java/lang/IllegalStateException" ∨ E = "java/lang/UnsupportedOperationException") : MTH X (d + 1) mc ms jdL_addCar hhL_addCar [.ref 0, .int a0, .int a1, .int a2, .int a3, .int a4, .ref 405] h (wQ cdL_addCar wI Q') := by
  refine MTH.mk dhL_addCar ?_
  refine Ev.sg hX sL_addCar_0 (pc' := 11) (ls' := [some (.ref 0), some (.int a0), some (.int a1), some (.int a2), some (.int a3), some (.int a4), some (.ref 405), none]) (st' := [.int a4, .int a3, .int a2, .int a1, .int a0, .ref 0, .int 0, .ref 405]) (h' := h) rfl ?_
  refine Ev.callV (As := [.int a0, .int a1, .int a2, .int a3, .int a4]) (rest := [.int 0, .ref 405]) dvX6_addCar mkL_25 h0 rfl dL_addCar_11 hm ⟨Nat.le_refl _, by show 6 + 19 + 40 * _ ≤ 40 * _; omega⟩ ⟨Nat.le_refl _, Nat.le_refl _⟩ rfl (Nat.le_of_ble_eq_true rfl) (fun v9 h9 e9 => ?_) (fun E9 h9 e9 => ?_)
  · obtain ⟨x, rfl, hsh⟩ := hq _ _ e9
    show Ev _ _ _ _ _ _ 14 [some (.ref 0), some (.int a0), some (.int a1), some (.int a2), some (.int a3), some (.int a4), some (.ref 405), none] [.int x, .int 0, .ref 405] h9
    refine Ev.sg hX sL_addCar_14 (pc' := 15) (ls' := [some (.ref 0), some (.int a0), some (.int a1), some (.int a2), some (.int a3), some (.int a4), some (.ref 405), none]) (st' := [.long x.toInt64, .int 0, .ref 405]) (h' := h9) rfl ?_
    refine Ev.last hX hsh (vp_in_nI (n := 0) (N := 1) (by decide) (by decide)) dL_addCar_15 ?_
    show Ev _ _ _ _ _ _ 16 [some (.ref 0), some (.int a0), some (.int a1), some (.int a2), some (.int a3), some (.int a4), some (.ref 405), none] [] (setL h9 405 0 x.toInt64)
    refine Ev.sg hX sL_addCar_16 (pc' := 35) (ls' := [some (.ref 0), some (.int a0), some (.int a1), some (.int a2), some (.int a3), some (.int a4), some (.ref 405), none]) (st' := []) (h' := setL h9 405 0 x.toInt64) rfl ?_
    refine Ev.sg hX sL_addCar_35 (pc' := 36) (ls' := [some (.ref 0), some (.int a0), some (.int a1), some (.int a2), some (.int a3), some (.int a4), some (.ref 405), none]) (st' := [.int 0]) (h' := setL h9 405 0 x.toInt64) rfl ?_
    refine Ev.iret dL_addCar_36 rfl ?_
    exact Or.inl ⟨_, _, _, e9, ⟨_, rfl, rfl⟩, rfl⟩
  · rcases hx _ _ e9 with rfl | rfl | rfl | rfl
    · refine EvX.catch (E := "java/lang/IndexOutOfBoundsException") (i := 7) (by decide +kernel) [] (0, 16, 19, 20) [(0, 16, 23, 13), (0, 16, 27, 15), (0, 16, 31, 29)] rfl (List.mem_filter.mpr ⟨List.mem_of_getElem? (show tables_1[441]? = some _ by decide +kernel), by decide +kernel⟩) (fun _ h => absurd h List.not_mem_nil) ⟨by decide, by decide⟩ (by decide) (bw_of 592 (by decide +kernel) (by decide +kernel)) rfl (sL_addCar_19.dc 0 (q := (19, .astore 7, 0, 0)) rfl) ?_
      show Ev _ _ _ _ _ _ 21 [some (.ref 0), some (.int a0), some (.int a1), some (.int a2), some (.int a3), some (.int a4), some (.ref 405), none] [] h9
      refine Ev.sg hX (sL_addCar_19.sub 1 1) (pc' := 22) (ls' := [some (.ref 0), some (.int a0), some (.int a1), some (.int a2), some (.int a3), some (.int a4), some (.ref 405), none]) (st' := [.int 1]) (h' := h9) rfl ?_
      refine Ev.iret dL_addCar_22 rfl ?_
      exact Or.inr ⟨_, _, e9, by rw [show cdL_addCar "java/lang/IndexOutOfBoundsException" = 1 by decide +kernel]⟩
    · refine EvX.catch (E := "java/lang/IllegalArgumentException") (i := 7) (by decide +kernel) [(0, 16, 19, 20)] (0, 16, 23, 13) [(0, 16, 27, 15), (0, 16, 31, 29)] rfl (List.mem_filter.mpr ⟨List.mem_of_getElem? (show tables_1[513]? = some _ by decide +kernel), by decide +kernel⟩) (List.forall_mem_cons.mpr ⟨⟨by decide, "java/lang/IndexOutOfBoundsException", by decide +kernel, by decide +kernel, (bw_of 592 (by decide +kernel) (by decide +kernel))⟩, fun _ h => absurd h List.not_mem_nil⟩) ⟨by decide, by decide⟩ (by decide) (bw_of 423 (by decide +kernel) (by decide +kernel)) rfl (sL_addCar_23.dc 0 (q := (23, .astore 7, 0, 0)) rfl) ?_
      show Ev _ _ _ _ _ _ 25 [some (.ref 0), some (.int a0), some (.int a1), some (.int a2), some (.int a3), some (.int a4), some (.ref 405), none] [] h9
      refine Ev.sg hX (sL_addCar_23.sub 1 1) (pc' := 26) (ls' := [some (.ref 0), some (.int a0), some (.int a1), some (.int a2), some (.int a3), some (.int a4), some (.ref 405), none]) (st' := [.int 2]) (h' := h9) rfl ?_
      refine Ev.iret dL_addCar_26 rfl ?_
      exact Or.inr ⟨_, _, e9, by rw [show cdL_addCar "java/lang/IllegalArgumentException" = 2 by decide +kernel]⟩
    · refine EvX.catch (E := "java/lang/IllegalStateException") (i := 7) (by decide +kernel) [(0, 16, 19, 20), (0, 16, 23, 13)] (0, 16, 27, 15) [(0, 16, 31, 29)] rfl (List.mem_filter.mpr ⟨List.mem_of_getElem? (show tables_1[529]? = some _ by decide +kernel), by decide +kernel⟩) (List.forall_mem_cons.mpr ⟨⟨by decide, "java/lang/IndexOutOfBoundsException", by decide +kernel, by decide +kernel, (bw_of 592 (by decide +kernel) (by decide +kernel))⟩, List.forall_mem_cons.mpr ⟨⟨by decide, "java/lang/IllegalArgumentException", by decide +kernel, by decide +kernel, (bw_of 423 (by decide +kernel) (by decide +kernel))⟩, fun _ h => absurd h List.not_mem_nil⟩⟩) ⟨by decide, by decide⟩ (by decide) (bw_of 424 (by decide +kernel) (by decide +kernel)) rfl (sL_addCar_27.dc 0 (q := (27, .astore 7, 0, 0)) rfl) ?_
      show Ev _ _ _ _ _ _ 29 [some (.ref 0), some (.int a0), some (.int a1), some (.int a2), some (.int a3), some (.int a4), some (.ref 405), none] [] h9
      refine Ev.sg hX (sL_addCar_27.sub 1 1) (pc' := 30) (ls' := [some (.ref 0), some (.int a0), some (.int a1), some (.int a2), some (.int a3), some (.int a4), some (.ref 405), none]) (st' := [.int 3]) (h' := h9) rfl ?_
      refine Ev.iret dL_addCar_30 rfl ?_
      exact Or.inr ⟨_, _, e9, by rw [show cdL_addCar "java/lang/IllegalStateException" = 3 by decide +kernel]⟩
    · refine EvX.catch (E := "java/lang/UnsupportedOperationException") (i := 7) (by decide +kernel) [(0, 16, 19, 20), (0, 16, 23, 13), (0, 16, 27, 15)] (0, 16, 31, 29) [] rfl (List.mem_filter.mpr ⟨List.mem_of_getElem? (show tables_1[561]? = some _ by decide +kernel), by decide +kernel⟩) (List.forall_mem_cons.mpr ⟨⟨by decide, "java/lang/IndexOutOfBoundsException", by decide +kernel, by decide +kernel, (bw_of 592 (by decide +kernel) (by decide +kernel))⟩, List.forall_mem_cons.mpr ⟨⟨by decide, "java/lang/IllegalArgumentException", by decide +kernel, by decide +kernel, (bw_of 423 (by decide +kernel) (by decide +kernel))⟩, List.forall_mem_cons.mpr ⟨⟨by decide, "java/lang/IllegalStateException", by decide +kernel, by decide +kernel, (bw_of 424 (by decide +kernel) (by decide +kernel))⟩, fun _ h => absurd h List.not_mem_nil⟩⟩⟩) ⟨by decide, by decide⟩ (by decide) (bw_of 648 (by decide +kernel) (by decide +kernel)) rfl (sL_addCar_31.dc 0 (q := (31, .astore 7, 0, 0)) rfl) ?_
      show Ev _ _ _ _ _ _ 33 [some (.ref 0), some (.int a0), some (.int a1), some (.int a2), some (.int a3), some (.int a4), some (.ref 405), none] [] h9
      refine Ev.sg hX (sL_addCar_31.sub 1 1) (pc' := 34) (ls' := [some (.ref 0), some (.int a0), some (.int a1), some (.int a2), some (.int a3), some (.int a4), some (.ref 405), none]) (st' := [.int 4]) (h' := h9) rfl ?_
      refine Ev.iret dL_addCar_34 rfl ?_
      exact Or.inr ⟨_, _, e9, by rw [show cdL_addCar "java/lang/UnsupportedOperationException" = 4 by decide +kernel]⟩
abbrev cdL_shunt : String → Int32 := cdE ["java/lang/IndexOutOfBoundsException", "java/lang/IllegalArgumentException", "java/lang/IllegalStateException", "java/util/NoSuchElementException", "java/lang/UnsupportedOperationException"]
theorem wL_shunt {a0 : Int32} {a1 : Int32} {a2 : Int32} (hX : JXok X) (h0 : zS h 0 = some (.inr (6, fs9))) (hm : MT X d mc ms jdX6_shunt [.ref 0, .int a0, .int a1, .int a2] h Q') (hq : ∀ v h', Q' (.inl (v, h')) → ∃ x, v = some (.int x) ∧ zS h' 405 = some (.inl (.long, 1))) (hx : ∀ E h', Q' (.inr (E, h')) → E = "java/lang/IndexOutOfBoundsException" ∨ E = "java/lang/IllegalArgumentException" ∨ E = "java/lang/IllegalStateException" ∨ E = "java/util/NoSuchElementException" ∨ E = "java/lang/UnsupportedOperationException") : MTH X (d + 1) mc ms jdL_shunt hhL_shunt [.ref 0, .int a0, .int a1, .int a2, .ref 405] h (wQ cdL_shunt wI Q') := by
  refine MTH.mk dhL_shunt ?_
  refine Ev.sg hX sL_shunt_0 (pc' := 7) (ls' := [some (.ref 0), some (.int a0), some (.int a1), some (.int a2), some (.ref 405), none]) (st' := [.int a2, .int a1, .int a0, .ref 0, .int 0, .ref 405]) (h' := h) rfl ?_
  refine Ev.callV (As := [.int a0, .int a1, .int a2]) (rest := [.int 0, .ref 405]) dvX6_shunt mkL_31 h0 rfl dL_shunt_7 hm ⟨Nat.le_refl _, by show 4 + 19 + 40 * _ ≤ 40 * _; omega⟩ ⟨Nat.le_refl _, Nat.le_refl _⟩ rfl (Nat.le_of_ble_eq_true rfl) (fun v9 h9 e9 => ?_) (fun E9 h9 e9 => ?_)
  · obtain ⟨x, rfl, hsh⟩ := hq _ _ e9
    show Ev _ _ _ _ _ _ 10 [some (.ref 0), some (.int a0), some (.int a1), some (.int a2), some (.ref 405), none] [.int x, .int 0, .ref 405] h9
    refine Ev.sg hX sL_shunt_10 (pc' := 11) (ls' := [some (.ref 0), some (.int a0), some (.int a1), some (.int a2), some (.ref 405), none]) (st' := [.long x.toInt64, .int 0, .ref 405]) (h' := h9) rfl ?_
    refine Ev.last hX hsh (vp_in_nI (n := 0) (N := 1) (by decide) (by decide)) dL_shunt_11 ?_
    show Ev _ _ _ _ _ _ 12 [some (.ref 0), some (.int a0), some (.int a1), some (.int a2), some (.ref 405), none] [] (setL h9 405 0 x.toInt64)
    refine Ev.sg hX sL_shunt_12 (pc' := 35) (ls' := [some (.ref 0), some (.int a0), some (.int a1), some (.int a2), some (.ref 405), none]) (st' := []) (h' := setL h9 405 0 x.toInt64) rfl ?_
    refine Ev.sg hX sL_shunt_35 (pc' := 36) (ls' := [some (.ref 0), some (.int a0), some (.int a1), some (.int a2), some (.ref 405), none]) (st' := [.int 0]) (h' := setL h9 405 0 x.toInt64) rfl ?_
    refine Ev.iret dL_shunt_36 rfl ?_
    exact Or.inl ⟨_, _, _, e9, ⟨_, rfl, rfl⟩, rfl⟩
  · rcases hx _ _ e9 with rfl | rfl | rfl | rfl | rfl
    · refine EvX.catch (E := "java/lang/IndexOutOfBoundsException") (i := 5) (by decide +kernel) [] (0, 12, 15, 20) [(0, 12, 19, 13), (0, 12, 23, 15), (0, 12, 27, 35), (0, 12, 31, 29)] rfl (List.mem_filter.mpr ⟨List.mem_of_getElem? (show tables_1[441]? = some _ by decide +kernel), by decide +kernel⟩) (fun _ h => absurd h List.not_mem_nil) ⟨by decide, by decide⟩ (by decide) (bw_of 592 (by decide +kernel) (by decide +kernel)) rfl (sL_shunt_15.dc 0 (q := (15, .astore 5, 0, 0)) rfl) ?_
      show Ev _ _ _ _ _ _ 17 [some (.ref 0), some (.int a0), some (.int a1), some (.int a2), some (.ref 405), none] [] h9
      refine Ev.sg hX (sL_shunt_15.sub 1 1) (pc' := 18) (ls' := [some (.ref 0), some (.int a0), some (.int a1), some (.int a2), some (.ref 405), none]) (st' := [.int 1]) (h' := h9) rfl ?_
      refine Ev.iret dL_shunt_18 rfl ?_
      exact Or.inr ⟨_, _, e9, by rw [show cdL_shunt "java/lang/IndexOutOfBoundsException" = 1 by decide +kernel]⟩
    · refine EvX.catch (E := "java/lang/IllegalArgumentException") (i := 5) (by decide +kernel) [(0, 12, 15, 20)] (0, 12, 19, 13) [(0, 12, 23, 15), (0, 12, 27, 35), (0, 12, 31, 29)] rfl (List.mem_filter.mpr ⟨List.mem_of_getElem? (show tables_1[513]? = some _ by decide +kernel), by decide +kernel⟩) (List.forall_mem_cons.mpr ⟨⟨by decide, "java/lang/IndexOutOfBoundsException", by decide +kernel, by decide +kernel, (bw_of 592 (by decide +kernel) (by decide +kernel))⟩, fun _ h => absurd h List.not_mem_nil⟩) ⟨by decide, by decide⟩ (by decide) (bw_of 423 (by decide +kernel) (by decide +kernel)) rfl (sL_shunt_19.dc 0 (q := (19, .astore 5, 0, 0)) rfl) ?_
      show Ev _ _ _ _ _ _ 21 [some (.ref 0), some (.int a0), some (.int a1), some (.int a2), some (.ref 405), none] [] h9
      refine Ev.sg hX (sL_shunt_19.sub 1 1) (pc' := 22) (ls' := [some (.ref 0), some (.int a0), some (.int a1), some (.int a2), some (.ref 405), none]) (st' := [.int 2]) (h' := h9) rfl ?_
      refine Ev.iret dL_shunt_22 rfl ?_
      exact Or.inr ⟨_, _, e9, by rw [show cdL_shunt "java/lang/IllegalArgumentException" = 2 by decide +kernel]⟩
    · refine EvX.catch (E := "java/lang/IllegalStateException") (i := 5) (by decide +kernel) [(0, 12, 15, 20), (0, 12, 19, 13)] (0, 12, 23, 15) [(0, 12, 27, 35), (0, 12, 31, 29)] rfl (List.mem_filter.mpr ⟨List.mem_of_getElem? (show tables_1[529]? = some _ by decide +kernel), by decide +kernel⟩) (List.forall_mem_cons.mpr ⟨⟨by decide, "java/lang/IndexOutOfBoundsException", by decide +kernel, by decide +kernel, (bw_of 592 (by decide +kernel) (by decide +kernel))⟩, List.forall_mem_cons.mpr ⟨⟨by decide, "java/lang/IllegalArgumentException", by decide +kernel, by decide +kernel, (bw_of 423 (by decide +kernel) (by decide +kernel))⟩, fun _ h => absurd h List.not_mem_nil⟩⟩) ⟨by decide, by decide⟩ (by decide) (bw_of 424 (by decide +kernel) (by decide +kernel)) rfl (sL_shunt_23.dc 0 (q := (23, .astore 5, 0, 0)) rfl) ?_
      show Ev _ _ _ _ _ _ 25 [some (.ref 0), some (.int a0), some (.int a1), some (.int a2), some (.ref 405), none] [] h9
      refine Ev.sg hX (sL_shunt_23.sub 1 1) (pc' := 26) (ls' := [some (.ref 0), some (.int a0), some (.int a1), some (.int a2), some (.ref 405), none]) (st' := [.int 3]) (h' := h9) rfl ?_
      refine Ev.iret dL_shunt_26 rfl ?_
      exact Or.inr ⟨_, _, e9, by rw [show cdL_shunt "java/lang/IllegalStateException" = 3 by decide +kernel]⟩
    · refine EvX.catch (E := "java/util/NoSuchElementException") (i := 5) (by decide +kernel) [(0, 12, 15, 20), (0, 12, 19, 13), (0, 12, 23, 15)] (0, 12, 27, 35) [(0, 12, 31, 29)] rfl (List.mem_filter.mpr ⟨List.mem_of_getElem? (show tables_1[545]? = some _ by decide +kernel), by decide +kernel⟩) (List.forall_mem_cons.mpr ⟨⟨by decide, "java/lang/IndexOutOfBoundsException", by decide +kernel, by decide +kernel, (bw_of 592 (by decide +kernel) (by decide +kernel))⟩, List.forall_mem_cons.mpr ⟨⟨by decide, "java/lang/IllegalArgumentException", by decide +kernel, by decide +kernel, (bw_of 423 (by decide +kernel) (by decide +kernel))⟩, List.forall_mem_cons.mpr ⟨⟨by decide, "java/lang/IllegalStateException", by decide +kernel, by decide +kernel, (bw_of 424 (by decide +kernel) (by decide +kernel))⟩, fun _ h => absurd h List.not_mem_nil⟩⟩⟩) ⟨by decide, by decide⟩ (by decide) (bw_of 686 (by decide +kernel) (by decide +kernel)) rfl (sL_shunt_27.dc 0 (q := (27, .astore 5, 0, 0)) rfl) ?_
      show Ev _ _ _ _ _ _ 29 [some (.ref 0), some (.int a0), some (.int a1), some (.int a2), some (.ref 405), none] [] h9
      refine Ev.sg hX (sL_shunt_27.sub 1 1) (pc' := 30) (ls' := [some (.ref 0), some (.int a0), some (.int a1), some (.int a2), some (.ref 405), none]) (st' := [.int 4]) (h' := h9) rfl ?_
      refine Ev.iret dL_shunt_30 rfl ?_
      exact Or.inr ⟨_, _, e9, by rw [show cdL_shunt "java/util/NoSuchElementException" = 4 by decide +kernel]⟩
    · refine EvX.catch (E := "java/lang/UnsupportedOperationException") (i := 5) (by decide +kernel) [(0, 12, 15, 20), (0, 12, 19, 13), (0, 12, 23, 15), (0, 12, 27, 35)] (0, 12, 31, 29) [] rfl (List.mem_filter.mpr ⟨List.mem_of_getElem? (show tables_1[561]? = some _ by decide +kernel), by decide +kernel⟩) (List.forall_mem_cons.mpr ⟨⟨by decide, "java/lang/IndexOutOfBoundsException", by decide +kernel, by decide +kernel, (bw_of 592 (by decide +kernel) (by decide +kernel))⟩, List.forall_mem_cons.mpr ⟨⟨by decide, "java/lang/IllegalArgumentException", by decide +kernel, by decide +kernel, (bw_of 423 (by decide +kernel) (by decide +kernel))⟩, List.forall_mem_cons.mpr ⟨⟨by decide, "java/lang/IllegalStateException", by decide +kernel, by decide +kernel, (bw_of 424 (by decide +kernel) (by decide +kernel))⟩, List.forall_mem_cons.mpr ⟨⟨by decide, "java/util/NoSuchElementException", by decide +kernel, by decide +kernel, (bw_of 686 (by decide +kernel) (by decide +kernel))⟩, fun _ h => absurd h List.not_mem_nil⟩⟩⟩⟩) ⟨by decide, by decide⟩ (by decide) (bw_of 648 (by decide +kernel) (by decide +kernel)) rfl (sL_shunt_31.dc 0 (q := (31, .astore 5, 0, 0)) rfl) ?_
      show Ev _ _ _ _ _ _ 33 [some (.ref 0), some (.int a0), some (.int a1), some (.int a2), some (.ref 405), none] [] h9
      refine Ev.sg hX (sL_shunt_31.sub 1 1) (pc' := 34) (ls' := [some (.ref 0), some (.int a0), some (.int a1), some (.int a2), some (.ref 405), none]) (st' := [.int 5]) (h' := h9) rfl ?_
      refine Ev.iret dL_shunt_34 rfl ?_
      exact Or.inr ⟨_, _, e9, by rw [show cdL_shunt "java/lang/UnsupportedOperationException" = 5 by decide +kernel]⟩
abbrev cdL_repair : String → Int32 := cdE ["java/util/NoSuchElementException", "java/lang/IllegalStateException"]
theorem wL_repair {a0 : Int32} (hX : JXok X) (h0 : zS h 0 = some (.inr (6, fs9))) (hm : MT X d mc ms jdX6_repair [.ref 0, .int a0] h Q') (hq : ∀ v h', Q' (.inl (v, h')) → ∃ x, v = some (.int x) ∧ zS h' 405 = some (.inl (.long, 1))) (hx : ∀ E h', Q' (.inr (E, h')) → E = "java/util/NoSuchElementException" ∨ E = "java/lang/IllegalStateException") : MTH X (d + 1) mc ms jdL_repair hhL_repair [.ref 0, .int a0, .ref 405] h (wQ cdL_repair wI Q') := by
  refine MTH.mk dhL_repair ?_
  refine Ev.sg hX sL_repair_0 (pc' := 4) (ls' := [some (.ref 0), some (.int a0), some (.ref 405), none]) (st' := [.int a0, .ref 0, .int 0, .ref 405]) (h' := h) rfl ?_
  refine Ev.callV (As := [.int a0]) (rest := [.int 0, .ref 405]) dvX6_repair mkL_37 h0 rfl dL_repair_4 hm ⟨Nat.le_refl _, by show 2 + 19 + 40 * _ ≤ 40 * _; omega⟩ ⟨Nat.le_refl _, Nat.le_refl _⟩ rfl (Nat.le_of_ble_eq_true rfl) (fun v9 h9 e9 => ?_) (fun E9 h9 e9 => ?_)
  · obtain ⟨x, rfl, hsh⟩ := hq _ _ e9
    show Ev _ _ _ _ _ _ 7 [some (.ref 0), some (.int a0), some (.ref 405), none] [.int x, .int 0, .ref 405] h9
    refine Ev.sg hX sL_repair_7 (pc' := 8) (ls' := [some (.ref 0), some (.int a0), some (.ref 405), none]) (st' := [.long x.toInt64, .int 0, .ref 405]) (h' := h9) rfl ?_
    refine Ev.last hX hsh (vp_in_nI (n := 0) (N := 1) (by decide) (by decide)) dL_repair_8 ?_
    show Ev _ _ _ _ _ _ 9 [some (.ref 0), some (.int a0), some (.ref 405), none] [] (setL h9 405 0 x.toInt64)
    refine Ev.sg hX sL_repair_9 (pc' := 18) (ls' := [some (.ref 0), some (.int a0), some (.ref 405), none]) (st' := []) (h' := setL h9 405 0 x.toInt64) rfl ?_
    refine Ev.sg hX sL_repair_18 (pc' := 19) (ls' := [some (.ref 0), some (.int a0), some (.ref 405), none]) (st' := [.int 0]) (h' := setL h9 405 0 x.toInt64) rfl ?_
    refine Ev.iret dL_repair_19 rfl ?_
    exact Or.inl ⟨_, _, _, e9, ⟨_, rfl, rfl⟩, rfl⟩
  · rcases hx _ _ e9 with rfl | rfl
    · refine EvX.catchN (E := "java/util/NoSuchElementException") (i := 3) (by decide +kernel) [] (0, 9, 12, 35) [(0, 9, 15, 15)] rfl (List.mem_filter.mpr ⟨List.mem_of_getElem? (show tables_1[545]? = some _ by decide +kernel), by decide +kernel⟩) (fun _ h => absurd h List.not_mem_nil) ⟨by decide, by decide⟩ (by decide) (bw_of 686 (by decide +kernel) (by decide +kernel)) rfl (sL_repair_12.dc 0 (q := (12, .astore_n 3, 0, 0)) rfl) ?_
      show Ev _ _ _ _ _ _ 13 [some (.ref 0), some (.int a0), some (.ref 405), none] [] h9
      refine Ev.sg hX (sL_repair_12.sub 1 1) (pc' := 14) (ls' := [some (.ref 0), some (.int a0), some (.ref 405), none]) (st' := [.int 1]) (h' := h9) rfl ?_
      refine Ev.iret dL_repair_14 rfl ?_
      exact Or.inr ⟨_, _, e9, by rw [show cdL_repair "java/util/NoSuchElementException" = 1 by decide +kernel]⟩
    · refine EvX.catchN (E := "java/lang/IllegalStateException") (i := 3) (by decide +kernel) [(0, 9, 12, 35)] (0, 9, 15, 15) [] rfl (List.mem_filter.mpr ⟨List.mem_of_getElem? (show tables_1[529]? = some _ by decide +kernel), by decide +kernel⟩) (List.forall_mem_cons.mpr ⟨⟨by decide, "java/util/NoSuchElementException", by decide +kernel, by decide +kernel, (bw_of 686 (by decide +kernel) (by decide +kernel))⟩, fun _ h => absurd h List.not_mem_nil⟩) ⟨by decide, by decide⟩ (by decide) (bw_of 424 (by decide +kernel) (by decide +kernel)) rfl (sL_repair_15.dc 0 (q := (15, .astore_n 3, 0, 0)) rfl) ?_
      show Ev _ _ _ _ _ _ 16 [some (.ref 0), some (.int a0), some (.ref 405), none] [] h9
      refine Ev.sg hX (sL_repair_15.sub 1 1) (pc' := 17) (ls' := [some (.ref 0), some (.int a0), some (.ref 405), none]) (st' := [.int 2]) (h' := h9) rfl ?_
      refine Ev.iret dL_repair_17 rfl ?_
      exact Or.inr ⟨_, _, e9, by rw [show cdL_repair "java/lang/IllegalStateException" = 2 by decide +kernel]⟩
abbrev cdL_depart : String → Int32 := cdE ["java/lang/IndexOutOfBoundsException", "java/lang/IllegalArgumentException", "java/lang/IllegalStateException", "java/lang/UnsupportedOperationException"]
theorem wL_depart {a0 : Int32} {a1 : Int32} (hX : JXok X) (h0 : zS h 0 = some (.inr (6, fs9))) (hm : MT X d mc ms jdX6_depart [.ref 0, .int a0, .int a1] h Q') (hq : ∀ v h', Q' (.inl (v, h')) → ∃ x, v = some (.int x) ∧ zS h' 405 = some (.inl (.long, 1))) (hx : ∀ E h', Q' (.inr (E, h')) → E = "java/lang/IndexOutOfBoundsException" ∨ E = "java/lang/IllegalArgumentException" ∨ E = "java/lang/IllegalStateException" ∨ E = "java/lang/UnsupportedOperationException") : MTH X (d + 1) mc ms jdL_depart hhL_depart [.ref 0, .int a0, .int a1, .ref 405] h (wQ cdL_depart wI Q') := by
  refine MTH.mk dhL_depart ?_
  refine Ev.sg hX sL_depart_0 (pc' := 5) (ls' := [some (.ref 0), some (.int a0), some (.int a1), some (.ref 405), none]) (st' := [.int a1, .int a0, .ref 0, .int 0, .ref 405]) (h' := h) rfl ?_
  refine Ev.callV (As := [.int a0, .int a1]) (rest := [.int 0, .ref 405]) dvX6_depart mkL_41 h0 rfl dL_depart_5 hm ⟨Nat.le_refl _, by show 3 + 19 + 40 * _ ≤ 40 * _; omega⟩ ⟨Nat.le_refl _, Nat.le_refl _⟩ rfl (Nat.le_of_ble_eq_true rfl) (fun v9 h9 e9 => ?_) (fun E9 h9 e9 => ?_)
  · obtain ⟨x, rfl, hsh⟩ := hq _ _ e9
    show Ev _ _ _ _ _ _ 8 [some (.ref 0), some (.int a0), some (.int a1), some (.ref 405), none] [.int x, .int 0, .ref 405] h9
    refine Ev.sg hX sL_depart_8 (pc' := 9) (ls' := [some (.ref 0), some (.int a0), some (.int a1), some (.ref 405), none]) (st' := [.long x.toInt64, .int 0, .ref 405]) (h' := h9) rfl ?_
    refine Ev.last hX hsh (vp_in_nI (n := 0) (N := 1) (by decide) (by decide)) dL_depart_9 ?_
    show Ev _ _ _ _ _ _ 10 [some (.ref 0), some (.int a0), some (.int a1), some (.ref 405), none] [] (setL h9 405 0 x.toInt64)
    refine Ev.sg hX sL_depart_10 (pc' := 29) (ls' := [some (.ref 0), some (.int a0), some (.int a1), some (.ref 405), none]) (st' := []) (h' := setL h9 405 0 x.toInt64) rfl ?_
    refine Ev.sg hX sL_depart_29 (pc' := 30) (ls' := [some (.ref 0), some (.int a0), some (.int a1), some (.ref 405), none]) (st' := [.int 0]) (h' := setL h9 405 0 x.toInt64) rfl ?_
    refine Ev.iret dL_depart_30 rfl ?_
    exact Or.inl ⟨_, _, _, e9, ⟨_, rfl, rfl⟩, rfl⟩
  · rcases hx _ _ e9 with rfl | rfl | rfl | rfl
    · refine EvX.catch (E := "java/lang/IndexOutOfBoundsException") (i := 4) (by decide +kernel) [] (0, 10, 13, 20) [(0, 10, 17, 13), (0, 10, 21, 15), (0, 10, 25, 29)] rfl (List.mem_filter.mpr ⟨List.mem_of_getElem? (show tables_1[441]? = some _ by decide +kernel), by decide +kernel⟩) (fun _ h => absurd h List.not_mem_nil) ⟨by decide, by decide⟩ (by decide) (bw_of 592 (by decide +kernel) (by decide +kernel)) rfl (sL_depart_13.dc 0 (q := (13, .astore 4, 0, 0)) rfl) ?_
      show Ev _ _ _ _ _ _ 15 [some (.ref 0), some (.int a0), some (.int a1), some (.ref 405), none] [] h9
      refine Ev.sg hX (sL_depart_13.sub 1 1) (pc' := 16) (ls' := [some (.ref 0), some (.int a0), some (.int a1), some (.ref 405), none]) (st' := [.int 1]) (h' := h9) rfl ?_
      refine Ev.iret dL_depart_16 rfl ?_
      exact Or.inr ⟨_, _, e9, by rw [show cdL_depart "java/lang/IndexOutOfBoundsException" = 1 by decide +kernel]⟩
    · refine EvX.catch (E := "java/lang/IllegalArgumentException") (i := 4) (by decide +kernel) [(0, 10, 13, 20)] (0, 10, 17, 13) [(0, 10, 21, 15), (0, 10, 25, 29)] rfl (List.mem_filter.mpr ⟨List.mem_of_getElem? (show tables_1[513]? = some _ by decide +kernel), by decide +kernel⟩) (List.forall_mem_cons.mpr ⟨⟨by decide, "java/lang/IndexOutOfBoundsException", by decide +kernel, by decide +kernel, (bw_of 592 (by decide +kernel) (by decide +kernel))⟩, fun _ h => absurd h List.not_mem_nil⟩) ⟨by decide, by decide⟩ (by decide) (bw_of 423 (by decide +kernel) (by decide +kernel)) rfl (sL_depart_17.dc 0 (q := (17, .astore 4, 0, 0)) rfl) ?_
      show Ev _ _ _ _ _ _ 19 [some (.ref 0), some (.int a0), some (.int a1), some (.ref 405), none] [] h9
      refine Ev.sg hX (sL_depart_17.sub 1 1) (pc' := 20) (ls' := [some (.ref 0), some (.int a0), some (.int a1), some (.ref 405), none]) (st' := [.int 2]) (h' := h9) rfl ?_
      refine Ev.iret dL_depart_20 rfl ?_
      exact Or.inr ⟨_, _, e9, by rw [show cdL_depart "java/lang/IllegalArgumentException" = 2 by decide +kernel]⟩
    · refine EvX.catch (E := "java/lang/IllegalStateException") (i := 4) (by decide +kernel) [(0, 10, 13, 20), (0, 10, 17, 13)] (0, 10, 21, 15) [(0, 10, 25, 29)] rfl (List.mem_filter.mpr ⟨List.mem_of_getElem? (show tables_1[529]? = some _ by decide +kernel), by decide +kernel⟩) (List.forall_mem_cons.mpr ⟨⟨by decide, "java/lang/IndexOutOfBoundsException", by decide +kernel, by decide +kernel, (bw_of 592 (by decide +kernel) (by decide +kernel))⟩, List.forall_mem_cons.mpr ⟨⟨by decide, "java/lang/IllegalArgumentException", by decide +kernel, by decide +kernel, (bw_of 423 (by decide +kernel) (by decide +kernel))⟩, fun _ h => absurd h List.not_mem_nil⟩⟩) ⟨by decide, by decide⟩ (by decide) (bw_of 424 (by decide +kernel) (by decide +kernel)) rfl (sL_depart_21.dc 0 (q := (21, .astore 4, 0, 0)) rfl) ?_
      show Ev _ _ _ _ _ _ 23 [some (.ref 0), some (.int a0), some (.int a1), some (.ref 405), none] [] h9
      refine Ev.sg hX (sL_depart_21.sub 1 1) (pc' := 24) (ls' := [some (.ref 0), some (.int a0), some (.int a1), some (.ref 405), none]) (st' := [.int 3]) (h' := h9) rfl ?_
      refine Ev.iret dL_depart_24 rfl ?_
      exact Or.inr ⟨_, _, e9, by rw [show cdL_depart "java/lang/IllegalStateException" = 3 by decide +kernel]⟩
    · refine EvX.catch (E := "java/lang/UnsupportedOperationException") (i := 4) (by decide +kernel) [(0, 10, 13, 20), (0, 10, 17, 13), (0, 10, 21, 15)] (0, 10, 25, 29) [] rfl (List.mem_filter.mpr ⟨List.mem_of_getElem? (show tables_1[561]? = some _ by decide +kernel), by decide +kernel⟩) (List.forall_mem_cons.mpr ⟨⟨by decide, "java/lang/IndexOutOfBoundsException", by decide +kernel, by decide +kernel, (bw_of 592 (by decide +kernel) (by decide +kernel))⟩, List.forall_mem_cons.mpr ⟨⟨by decide, "java/lang/IllegalArgumentException", by decide +kernel, by decide +kernel, (bw_of 423 (by decide +kernel) (by decide +kernel))⟩, List.forall_mem_cons.mpr ⟨⟨by decide, "java/lang/IllegalStateException", by decide +kernel, by decide +kernel, (bw_of 424 (by decide +kernel) (by decide +kernel))⟩, fun _ h => absurd h List.not_mem_nil⟩⟩⟩) ⟨by decide, by decide⟩ (by decide) (bw_of 648 (by decide +kernel) (by decide +kernel)) rfl (sL_depart_25.dc 0 (q := (25, .astore 4, 0, 0)) rfl) ?_
      show Ev _ _ _ _ _ _ 27 [some (.ref 0), some (.int a0), some (.int a1), some (.ref 405), none] [] h9
      refine Ev.sg hX (sL_depart_25.sub 1 1) (pc' := 28) (ls' := [some (.ref 0), some (.int a0), some (.int a1), some (.ref 405), none]) (st' := [.int 4]) (h' := h9) rfl ?_
      refine Ev.iret dL_depart_28 rfl ?_
      exact Or.inr ⟨_, _, e9, by rw [show cdL_depart "java/lang/UnsupportedOperationException" = 4 by decide +kernel]⟩
abbrev cdL_freeLength : String → Int32 := cdE ["java/lang/IndexOutOfBoundsException"]
theorem wL_freeLength {a0 : Int32} (hX : JXok X) (h0 : zS h 0 = some (.inr (6, fs9))) (hm : MT X d mc ms jdX6_freeLength [.ref 0, .int a0] h Q') (hq : ∀ v h', Q' (.inl (v, h')) → ∃ x, v = some (.int x) ∧ zS h' 405 = some (.inl (.long, 1))) (hx : ∀ E h', Q' (.inr (E, h')) → E = "java/lang/IndexOutOfBoundsException") : MTH X (d + 1) mc ms jdL_freeLength hhL_freeLength [.ref 0, .int a0, .ref 405] h (wQ cdL_freeLength wI Q') := by
  refine MTH.mk dhL_freeLength ?_
  refine Ev.sg hX sL_freeLength_0 (pc' := 4) (ls' := [some (.ref 0), some (.int a0), some (.ref 405), none]) (st' := [.int a0, .ref 0, .int 0, .ref 405]) (h' := h) rfl ?_
  refine Ev.callV (As := [.int a0]) (rest := [.int 0, .ref 405]) dvX6_freeLength mkL_44 h0 rfl dL_freeLength_4 hm ⟨Nat.le_refl _, by show 2 + 19 + 40 * _ ≤ 40 * _; omega⟩ ⟨Nat.le_refl _, Nat.le_refl _⟩ rfl (Nat.le_of_ble_eq_true rfl) (fun v9 h9 e9 => ?_) (fun E9 h9 e9 => ?_)
  · obtain ⟨x, rfl, hsh⟩ := hq _ _ e9
    show Ev _ _ _ _ _ _ 7 [some (.ref 0), some (.int a0), some (.ref 405), none] [.int x, .int 0, .ref 405] h9
    refine Ev.sg hX sL_freeLength_7 (pc' := 8) (ls' := [some (.ref 0), some (.int a0), some (.ref 405), none]) (st' := [.long x.toInt64, .int 0, .ref 405]) (h' := h9) rfl ?_
    refine Ev.last hX hsh (vp_in_nI (n := 0) (N := 1) (by decide) (by decide)) dL_freeLength_8 ?_
    show Ev _ _ _ _ _ _ 9 [some (.ref 0), some (.int a0), some (.ref 405), none] [] (setL h9 405 0 x.toInt64)
    refine Ev.sg hX sL_freeLength_9 (pc' := 15) (ls' := [some (.ref 0), some (.int a0), some (.ref 405), none]) (st' := []) (h' := setL h9 405 0 x.toInt64) rfl ?_
    refine Ev.sg hX sL_freeLength_15 (pc' := 16) (ls' := [some (.ref 0), some (.int a0), some (.ref 405), none]) (st' := [.int 0]) (h' := setL h9 405 0 x.toInt64) rfl ?_
    refine Ev.iret dL_freeLength_16 rfl ?_
    exact Or.inl ⟨_, _, _, e9, ⟨_, rfl, rfl⟩, rfl⟩
  · rcases hx _ _ e9 with rfl
    · refine EvX.catchN (E := "java/lang/IndexOutOfBoundsException") (i := 3) (by decide +kernel) [] (0, 9, 12, 20) [] rfl (List.mem_filter.mpr ⟨List.mem_of_getElem? (show tables_1[441]? = some _ by decide +kernel), by decide +kernel⟩) (fun _ h => absurd h List.not_mem_nil) ⟨by decide, by decide⟩ (by decide) (bw_of 592 (by decide +kernel) (by decide +kernel)) rfl (sL_freeLength_12.dc 0 (q := (12, .astore_n 3, 0, 0)) rfl) ?_
      show Ev _ _ _ _ _ _ 13 [some (.ref 0), some (.int a0), some (.ref 405), none] [] h9
      refine Ev.sg hX (sL_freeLength_12.sub 1 1) (pc' := 14) (ls' := [some (.ref 0), some (.int a0), some (.ref 405), none]) (st' := [.int 1]) (h' := h9) rfl ?_
      refine Ev.iret dL_freeLength_14 rfl ?_
      exact Or.inr ⟨_, _, e9, by rw [show cdL_freeLength "java/lang/IndexOutOfBoundsException" = 1 by decide +kernel]⟩
abbrev cdL_carsOn : String → Int32 := cdE ["java/lang/IndexOutOfBoundsException"]
theorem wL_carsOn {a0 : Int32} (hX : JXok X) (h0 : zS h 0 = some (.inr (6, fs9))) (hm : MT X d mc ms jdX6_carsOn [.ref 0, .int a0] h Q') (hq : ∀ v h', Q' (.inl (v, h')) → ∃ x, v = some (.int x) ∧ zS h' 405 = some (.inl (.long, 1))) (hx : ∀ E h', Q' (.inr (E, h')) → E = "java/lang/IndexOutOfBoundsException") : MTH X (d + 1) mc ms jdL_carsOn hhL_carsOn [.ref 0, .int a0, .ref 405] h (wQ cdL_carsOn wI Q') := by
  refine MTH.mk dhL_carsOn ?_
  refine Ev.sg hX sL_carsOn_0 (pc' := 4) (ls' := [some (.ref 0), some (.int a0), some (.ref 405), none]) (st' := [.int a0, .ref 0, .int 0, .ref 405]) (h' := h) rfl ?_
  refine Ev.callV (As := [.int a0]) (rest := [.int 0, .ref 405]) dvX6_carsOn mkL_47 h0 rfl dL_carsOn_4 hm ⟨Nat.le_refl _, by show 2 + 19 + 40 * _ ≤ 40 * _; omega⟩ ⟨Nat.le_refl _, Nat.le_refl _⟩ rfl (Nat.le_of_ble_eq_true rfl) (fun v9 h9 e9 => ?_) (fun E9 h9 e9 => ?_)
  · obtain ⟨x, rfl, hsh⟩ := hq _ _ e9
    show Ev _ _ _ _ _ _ 7 [some (.ref 0), some (.int a0), some (.ref 405), none] [.int x, .int 0, .ref 405] h9
    refine Ev.sg hX sL_carsOn_7 (pc' := 8) (ls' := [some (.ref 0), some (.int a0), some (.ref 405), none]) (st' := [.long x.toInt64, .int 0, .ref 405]) (h' := h9) rfl ?_
    refine Ev.last hX hsh (vp_in_nI (n := 0) (N := 1) (by decide) (by decide)) dL_carsOn_8 ?_
    show Ev _ _ _ _ _ _ 9 [some (.ref 0), some (.int a0), some (.ref 405), none] [] (setL h9 405 0 x.toInt64)
    refine Ev.sg hX sL_carsOn_9 (pc' := 15) (ls' := [some (.ref 0), some (.int a0), some (.ref 405), none]) (st' := []) (h' := setL h9 405 0 x.toInt64) rfl ?_
    refine Ev.sg hX sL_carsOn_15 (pc' := 16) (ls' := [some (.ref 0), some (.int a0), some (.ref 405), none]) (st' := [.int 0]) (h' := setL h9 405 0 x.toInt64) rfl ?_
    refine Ev.iret dL_carsOn_16 rfl ?_
    exact Or.inl ⟨_, _, _, e9, ⟨_, rfl, rfl⟩, rfl⟩
  · rcases hx _ _ e9 with rfl
    · refine EvX.catchN (E := "java/lang/IndexOutOfBoundsException") (i := 3) (by decide +kernel) [] (0, 9, 12, 20) [] rfl (List.mem_filter.mpr ⟨List.mem_of_getElem? (show tables_1[441]? = some _ by decide +kernel), by decide +kernel⟩) (fun _ h => absurd h List.not_mem_nil) ⟨by decide, by decide⟩ (by decide) (bw_of 592 (by decide +kernel) (by decide +kernel)) rfl (sL_carsOn_12.dc 0 (q := (12, .astore_n 3, 0, 0)) rfl) ?_
      show Ev _ _ _ _ _ _ 13 [some (.ref 0), some (.int a0), some (.ref 405), none] [] h9
      refine Ev.sg hX (sL_carsOn_12.sub 1 1) (pc' := 14) (ls' := [some (.ref 0), some (.int a0), some (.ref 405), none]) (st' := [.int 1]) (h' := h9) rfl ?_
      refine Ev.iret dL_carsOn_14 rfl ?_
      exact Or.inr ⟨_, _, e9, by rw [show cdL_carsOn "java/lang/IndexOutOfBoundsException" = 1 by decide +kernel]⟩
end LWM
