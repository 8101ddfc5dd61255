/-! the law's methods: one call of the class, with handlers -/
abbrev JHs : Type := List (Nat × Nat × Nat × Nat)
def DSH (q : JD) (hh : JHs) : Prop := (Cond.codeWith q.1 q.2.1 q.2.2.1 q.2.2.2.1 hh ∈ BW ∧ Cond.initialized q.1.cls ∈ BW ∧ (q.1.cls ≠ "java/lang/invoke/MethodHandle" ∧ q.1.cls ≠ "java/lang/invoke/VarHandle" ∧ (parseMethodDescriptor q.1.desc).map (fun d => d.parameters.length) = some q.2.2.2.2) ∧ plainName q.1.cls = true) ∧ Cond.static q.1 ∈ BW
abbrev jmH (q : JD) (hh : JHs) : JM := (q.1, q.2.1, q.2.2.1, q.2.2.2.1, hh)
def MTH (X : JX) (d mc ms : Nat) (q : JD) (hh : JHs) (av : List Value) (h : MH) (Q : JR → Prop) : Prop :=
  vx_Met X.1 q.1 [Cond.codeWith q.1 q.2.1 q.2.2.1 q.2.2.2.1 hh] ({ frames := d, cells := mc, slots := ms, locals := 40 * d } : Room) (va_Pc (av.map (trV X)) (fun U => Hd X h U.heap ∧ KK X U)) (JQ X Q) (JXc X Q) mc ms (jF X)
theorem MTH.of {X : JX} {d mc ms : Nat} {q : JD} {hh : JHs} {av : List Value} {h : MH} {Q : JR → Prop} (hb : DSH q hh) (hc : ∀ v ∈ av, v.category = 1) (hn : av.length ≤ q.2.2.1)
    (k : Ev X (jmH q hh) d mc ms Q 0 (entL q.2.2.1 av) [] h) : MTH X d mc ms q hh av h Q := by
  refine vx_ofWH (cc := q.2.1) (maxL := q.2.2.1) (ret := q.2.2.2.1) (hh := hh) hb.1.2.2.2 rfl ?_
  intro p e s m args below meth c s₁ B hml hv
  obtain ⟨rfl, hH, hK⟩ := hv
  have hown : s.vm.findClass q.1.cls = some m.cls := findClass_of_methodNamed B.named
  have htab : c.exceptionTable.toList = tableOf hh := vx_table (x := q.1) B (atoms_spec B.pre _ List.mem_cons_self)
  rw [lg_entry_eq]
  exact k p e _ s m _ below meth c s.heap [] 0 0 _ ⟨B.exec, B.bytes, hml, hown, B.returns, B.notSynchronized, htab, (name_of_methodNamed B.named B.method).1⟩ hK hH va_S.rf (LH.entry hc hn) ⟨Nat.le_refl _, Nat.le_refl _, Nat.le_of_eq (Nat.zero_add _), Nat.le_of_eq (Nat.zero_add _)⟩
theorem MTH.mk {X : JX} {d mc ms : Nat} {q : JD} {hh : JHs} {av : List Value} {h : MH} {Q : JR → Prop} (hb : DSH q hh) (k : Ev X (jmH q hh) d mc ms Q 0 (entL q.2.2.1 av) [] h) (hc : av.all (fun v => v.category == 1) = true := by rfl) (hn : Nat.ble av.length q.2.2.1 = true := by rfl) : MTH X d mc ms q hh av h Q :=
  MTH.of hb (fun v hv => by have := List.all_eq_true.mp hc v hv; simpa using this) (Nat.le_of_ble_eq_true hn) k
section CXH
variable {X : JX} {M : JM} {d mc ms : Nat} {Q : JR → Prop} {pc : Nat} {ls : List (Option Value)} {st : List Value} {h : MH}
theorem Ev.callSX {q : JD} {hh : JHs} {idx d' mc1 ms1 : Nat} {As rest : List Value} {Q' : JR → Prop} (hq : DSH q hh) (hl : Cond.methodLink M.1.cls idx q.1 ∈ BW) (hdg : decode M.2.1 pc = .ok (.invokestatic idx, 3)) (hm : MTH X d' mc1 ms1 q hh As h Q') (hd : d' + 1 ≤ d ∧ q.2.2.1 + 19 + 40 * d' ≤ 40 * d) (hc : mc1 ≤ mc ∧ ms1 ≤ ms) (hn : As.length = q.2.2.2.2) (hw : (rest.map fun v => v.category).sum ≤ 8) (kk : ∀ v h', Q' (.inl (v, h')) → Ev X M d (mc - mc1) (ms - ms1) Q (pc + 3) ls (v.toList ++ rest) h') (kx : ∀ E h', Q' (.inr (E, h')) → EvX X M d (mc - mc1) (ms - ms1) Q pc ls E h') : Ev X M d mc ms Q pc ls (As.reverse ++ rest) h := by
  intro p ev R s m args below meth c H locs cells slots lsA hB hK hH hS hL hR
  obtain ⟨⟨q1, q2, q3, q4⟩, q5⟩ := hq
  have hcw : vx_CSW R s args M.1.cls idx q.1 q.2.1 q.2.2.1 q.2.2.2.1 hh [Cond.codeWith q.1 q.2.1 q.2.2.1 q.2.2.2.1 hh] ({ frames := d', cells := mc1, slots := ms1, locals := 40 * d' } : Room) mc1 ms1 q.2.2.2.2 := by
    refine ⟨⟨rfl, rfl, by show d' + 1 ≤ R.frames; omega, by show 8 + (q.2.2.1 + 11) + 40 * d' ≤ R.locals; omega, fun w hw a' U hW => ?_, List.mem_cons_self⟩, hK.word q1 args, hK.word q2 args, ⟨q3.1, q3.2.1⟩, fun sig hs => ?_, hK.word hl args, hK.word q5 args⟩
    · rw [List.mem_singleton.mp hw]
      exact word_at hW (bw_good q1) (hK.word q1 args)
    · have h9 := q3.2.2
      rw [hs] at h9
      exact (Option.some.inj h9).symm
  refine ev_run (a := _) (vx_runSX (hh := hh) (Ts := BW) (As := As.map (trV X)) ⟨hB.1, hB.2.1, hB.2.2.1, hB.2.2.2.1, fun w hw => hK.word hw args⟩ hm hcw ⟨fb_MT, fun U hU hW => ⟨rfl, by rw [hU]; exact hH, hK.call hS hU hW⟩⟩ rfl (by rw [List.length_map]; exact hn) (hL.1) (by simp [trV]) (lv_room (by rw [List.map_map]; simpa [Function.comp_def, trV_cat] using hw)) hdg (by omega)) hB hK hS hL hR hc kk kx
end CXH
abbrev jdL_act : JD := (yL_act, cL_act, 6, some .int, 5)
abbrev hhL_act : JHs := [(0, 46, 92, 65), (47, 53, 92, 65), (54, 60, 92, 65), (61, 69, 92, 65), (70, 75, 92, 65), (76, 82, 92, 65), (83, 91, 92, 65), (0, 46, 96, 67), (47, 53, 96, 67), (54, 60, 96, 67), (61, 69, 96, 67), (70, 75, 96, 67), (76, 82, 96, 67), (83, 91, 96, 67), (0, 46, 101, 69), (47, 53, 101, 69), (54, 60, 101, 69), (61, 69, 101, 69), (70, 75, 101, 69), (76, 82, 101, 69), (83, 91, 101, 69), (0, 46, 106, 71), (47, 53, 106, 71), (54, 60, 106, 71), (61, 69, 106, 71), (70, 75, 106, 71), (76, 82, 106, 71), (83, 91, 106, 71), (0, 46, 111, 73), (47, 53, 111, 73), (54, 60, 111, 73), (61, 69, 111, 73), (70, 75, 111, 73), (76, 82, 111, 73), (83, 91, 111, 73)]
theorem dhL_act : DSH jdL_act hhL_act := ⟨⟨(bw_of 1316 (by decide +kernel) (by decide +kernel)), (bw_of 0 (by decide +kernel) (by decide +kernel)), by decide +kernel, by decide +kernel⟩, (bw_of 1315 (by decide +kernel) (by decide +kernel))⟩
abbrev jdL_car : JD := (yL_car, cL_car, 7, some .int, 6)
abbrev hhL_car : JHs := [(0, 11, 12, 65), (0, 11, 16, 67), (0, 11, 21, 69), (0, 11, 26, 73)]
theorem dhL_car : DSH jdL_car hhL_car := ⟨⟨(bw_of 1326 (by decide +kernel) (by decide +kernel)), (bw_of 0 (by decide +kernel) (by decide +kernel)), by decide +kernel, by decide +kernel⟩, (bw_of 1325 (by decide +kernel) (by decide +kernel))⟩
abbrev jdL_runs : JD := (yL_runs, cL_runs, 2, some .int, 1)
abbrev hhL_runs : JHs := [(0, 4, 5, 67), (0, 4, 8, 73)]
theorem dhL_runs : DSH jdL_runs hhL_runs := ⟨⟨(bw_of 1382 (by decide +kernel) (by decide +kernel)), (bw_of 0 (by decide +kernel) (by decide +kernel)), by decide +kernel, by decide +kernel⟩, (bw_of 1381 (by decide +kernel) (by decide +kernel))⟩
theorem sL_at_0 : JSeg (jm jdL_at) [(0, .iload_n 1, 0, 0), (1, .aload_n 0, 0, 0), (2, .arraylength, 0, 0)] := ⟨by decide +kernel, trivial, trivial, trivial, trivial⟩
theorem sL_at_6 : JSeg (jm jdL_at) [(6, .aload_n 0, 0, 0), (7, .iload_n 1, 0, 0)] := ⟨by decide +kernel, trivial, trivial, trivial⟩
theorem sL_at_9 : JSeg (jm jdL_at) [(9, .goto 4, 0, 0)] := ⟨by decide +kernel, trivial, trivial⟩
theorem sL_at_12 : JSeg (jm jdL_at) [(12, .iconst 0, 0, 0)] := ⟨by decide +kernel, trivial, trivial⟩
theorem dL_at_3 : decode cL_at 3 = .ok (.if_icmp .ge 9, 3) := by decide +kernel
theorem dL_at_8 : decode cL_at 8 = .ok (.iaload, 1) := by decide +kernel
theorem dL_at_13 : decode cL_at 13 = .ok (.ireturn, 1) := by decide +kernel
theorem sL_put_0 : JSeg (jm jdL_put) [(0, .iconst 0, 0, 0), (1, .istore_n 2, 0, 0)] := ⟨by decide +kernel, trivial, trivial, trivial⟩
theorem sL_put_2 : JSeg (jm jdL_put) [(2, .iload_n 2, 0, 0), (3, .aload_n 1, 0, 0)] := ⟨by decide +kernel, trivial, trivial, trivial⟩
theorem sL_put_10 : JSeg (jm jdL_put) [(10, .aload_n 0, 0, 0), (11, .aload_n 1, 0, 0), (12, .iload_n 2, 0, 0)] := ⟨by decide +kernel, trivial, trivial, trivial, trivial⟩
theorem sL_put_19 : JSeg (jm jdL_put) [(19, .pop, 0, 0), (20, .iinc 2 1, 0, 0), (23, .goto (-21), 0, 0)] := ⟨by decide +kernel, trivial, trivial, trivial, trivial⟩
theorem dL_put_4 : decode cL_put 4 = .ok (.invokevirtual 7, 3) := by decide +kernel
theorem dL_put_7 : decode cL_put 7 = .ok (.if_icmp .ge 19, 3) := by decide +kernel
theorem dL_put_13 : decode cL_put 13 = .ok (.invokevirtual 13, 3) := by decide +kernel
theorem dL_put_16 : decode cL_put 16 = .ok (.invokevirtual 17, 3) := by decide +kernel
theorem dL_put_26 : decode cL_put 26 = .ok (.return_, 1) := by decide +kernel
theorem sL_build_3 : JSeg (jm jdL_build) [(3, .dup, 0, 0)] := ⟨by decide +kernel, trivial, trivial⟩
theorem sL_build_7 : JSeg (jm jdL_build) [(7, .astore_n 1, 0, 0), (8, .aload_n 0, 0, 0), (9, .iconst 0, 0, 0)] := ⟨by decide +kernel, trivial, trivial, trivial, trivial⟩
theorem sL_build_13 : JSeg (jm jdL_build) [(13, .istore_n 2, 0, 0), (14, .iconst 0, 0, 0), (15, .istore_n 3, 0, 0)] := ⟨by decide +kernel, trivial, trivial, trivial, trivial⟩
theorem sL_build_16 : JSeg (jm jdL_build) [(16, .iload_n 3, 0, 0), (17, .iconst 3, 0, 0), (18, .iload_n 2, 0, 0), (19, .iconst 3, 0, 0), (20, .iand, 0, 0), (21, .iadd, 0, 0)] := ⟨by decide +kernel, trivial, trivial, trivial, trivial, trivial, trivial, trivial⟩
theorem sL_build_25 : JSeg (jm jdL_build) [(25, .aload_n 1, 0, 0), (26, .iconst 0, 0, 0), (27, .bipush 30, 0, 0), (29, .iload_n 2, 0, 0), (30, .iconst 2, 0, 0), (31, .iconst 3, 0, 0), (32, .iload_n 3, 0, 0), (33, .imul, 0, 0), (34, .iadd, 0, 0), (35, .ishr, 0, 0), (36, .bipush 127, 0, 0), (38, .iand, 0, 0), (39, .iadd, 0, 0), (40, .iload_n 2, 0, 0), (41, .iconst 5, 0, 0), (42, .iload_n 3, 0, 0), (43, .iadd, 0, 0), (44, .ishr, 0, 0), (45, .bipush 7, 0, 0), (47, .iand, 0, 0), (48, .bipush 6, 0, 0)] := ⟨by decide +kernel, trivial, trivial, trivial, trivial, trivial, trivial, trivial, trivial, trivial, trivial, trivial, trivial, trivial, trivial, trivial, trivial, trivial, trivial, trivial, trivial, trivial, trivial⟩
theorem sL_build_51 : JSeg (jm jdL_build) [(51, .iconst 0, 0, 0)] := ⟨by decide +kernel, trivial, trivial⟩
theorem sL_build_55 : JSeg (jm jdL_build) [(55, .pop, 0, 0), (56, .iload_n 3, 0, 0)] := ⟨by decide +kernel, trivial, trivial, trivial⟩
theorem sL_build_60 : JSeg (jm jdL_build) [(60, .aload_n 1, 0, 0), (61, .iconst 1, 0, 0), (62, .iload_n 2, 0, 0), (63, .bipush 9, 0, 0), (65, .iload_n 3, 0, 0), (66, .iadd, 0, 0), (67, .ishr, 0, 0), (68, .bipush 7, 0, 0), (70, .iand, 0, 0), (71, .iload_n 3, 0, 0)] := ⟨by decide +kernel, trivial, trivial, trivial, trivial, trivial, trivial, trivial, trivial, trivial, trivial, trivial⟩
theorem sL_build_73 : JSeg (jm jdL_build) [(73, .iload_n 3, 0, 0), (74, .iconst 0, 0, 0)] := ⟨by decide +kernel, trivial, trivial, trivial⟩
theorem sL_build_78 : JSeg (jm jdL_build) [(78, .pop, 0, 0)] := ⟨by decide +kernel, trivial, trivial⟩
theorem sL_build_79 : JSeg (jm jdL_build) [(79, .iinc 3 1, 0, 0), (82, .goto (-66), 0, 0)] := ⟨by decide +kernel, trivial, trivial, trivial⟩
theorem sL_build_85 : JSeg (jm jdL_build) [(85, .iconst 1, 0, 0), (86, .istore_n 3, 0, 0)] := ⟨by decide +kernel, trivial, trivial, trivial⟩
theorem sL_build_87 : JSeg (jm jdL_build) [(87, .iload_n 3, 0, 0), (88, .bipush 13, 0, 0)] := ⟨by decide +kernel, trivial, trivial, trivial⟩
theorem sL_build_93 : JSeg (jm jdL_build) [(93, .aload_n 0, 0, 0), (94, .iload_n 3, 0, 0)] := ⟨by decide +kernel, trivial, trivial, trivial⟩
theorem sL_build_98 : JSeg (jm jdL_build) [(98, .istore 4, 0, 0), (100, .aload_n 1, 0, 0)] := ⟨by decide +kernel, trivial, trivial, trivial⟩
theorem sL_build_104 : JSeg (jm jdL_build) [(104, .istore 5, 0, 0), (106, .iload 4, 0, 0), (108, .bipush 7, 0, 0), (110, .iand, 0, 0), (111, .iload 5, 0, 0)] := ⟨by decide +kernel, trivial, trivial, trivial, trivial, trivial, trivial⟩
theorem sL_build_114 : JSeg (jm jdL_build) [(114, .istore 6, 0, 0), (116, .aload_n 1, 0, 0), (117, .iload 6, 0, 0), (119, .iconst 5, 0, 0), (120, .iload 4, 0, 0), (122, .iconst 3, 0, 0), (123, .ishr, 0, 0), (124, .bipush 15, 0, 0), (126, .iand, 0, 0), (127, .iadd, 0, 0), (128, .bipush 10, 0, 0), (130, .iload 4, 0, 0), (132, .bipush 7, 0, 0), (134, .ishr, 0, 0), (135, .bipush 63, 0, 0), (137, .iand, 0, 0), (138, .iadd, 0, 0), (139, .iload 4, 0, 0), (141, .bipush 13, 0, 0), (143, .ishr, 0, 0), (144, .iconst 3, 0, 0), (145, .iand, 0, 0), (146, .iload 4, 0, 0), (148, .bipush 15, 0, 0), (150, .ishr, 0, 0), (151, .iconst 1, 0, 0), (152, .iand, 0, 0), (153, .iconst 3, 0, 0), (154, .imul, 0, 0), (155, .iadd, 0, 0), (156, .iload 4, 0, 0), (158, .bipush 16, 0, 0), (160, .ishr, 0, 0), (161, .iconst 3, 0, 0), (162, .iand, 0, 0)] := ⟨by decide +kernel, trivial, trivial, trivial, trivial, trivial, trivial, trivial, trivial, trivial, trivial, trivial, trivial, trivial, trivial, trivial, trivial, trivial, trivial, trivial, trivial, trivial, trivial, trivial, trivial, trivial, trivial, trivial, trivial, trivial, trivial, trivial, trivial, trivial, trivial, trivial, trivial⟩
theorem sL_build_166 : JSeg (jm jdL_build) [(166, .iconst 1, 0, 0), (167, .goto 4, 0, 0)] := ⟨by decide +kernel, trivial, trivial, trivial⟩
theorem sL_build_170 : JSeg (jm jdL_build) [(170, .iconst 0, 0, 0)] := ⟨by decide +kernel, trivial, trivial⟩
theorem sL_build_174 : JSeg (jm jdL_build) [(174, .pop, 0, 0), (175, .aload_n 1, 0, 0), (176, .iload 6, 0, 0), (178, .iconst 1, 0, 0), (179, .iadd, 0, 0), (180, .iload 5, 0, 0)] := ⟨by decide +kernel, trivial, trivial, trivial, trivial, trivial, trivial, trivial⟩
theorem sL_build_183 : JSeg (jm jdL_build) [(183, .iconst 5, 0, 0), (184, .iload 4, 0, 0), (186, .iconst 5, 0, 0), (187, .ishr, 0, 0), (188, .bipush 15, 0, 0), (190, .iand, 0, 0), (191, .iadd, 0, 0), (192, .bipush 10, 0, 0), (194, .iload 4, 0, 0), (196, .bipush 9, 0, 0), (198, .ishr, 0, 0), (199, .bipush 63, 0, 0), (201, .iand, 0, 0), (202, .iadd, 0, 0), (203, .iload 4, 0, 0), (205, .bipush 12, 0, 0), (207, .ishr, 0, 0), (208, .iconst 3, 0, 0), (209, .iand, 0, 0), (210, .iload 4, 0, 0), (212, .bipush 17, 0, 0), (214, .ishr, 0, 0), (215, .iconst 3, 0, 0), (216, .iand, 0, 0)] := ⟨by decide +kernel, trivial, trivial, trivial, trivial, trivial, trivial, trivial, trivial, trivial, trivial, trivial, trivial, trivial, trivial, trivial, trivial, trivial, trivial, trivial, trivial, trivial, trivial, trivial, trivial, trivial⟩
theorem sL_build_220 : JSeg (jm jdL_build) [(220, .iconst 1, 0, 0), (221, .goto 4, 0, 0)] := ⟨by decide +kernel, trivial, trivial, trivial⟩
theorem sL_build_224 : JSeg (jm jdL_build) [(224, .iconst 0, 0, 0)] := ⟨by decide +kernel, trivial, trivial⟩
theorem sL_build_228 : JSeg (jm jdL_build) [(228, .pop, 0, 0), (229, .iload 4, 0, 0), (231, .bipush 18, 0, 0), (233, .ishr, 0, 0), (234, .iconst 1, 0, 0), (235, .iand, 0, 0)] := ⟨by decide +kernel, trivial, trivial, trivial, trivial, trivial, trivial, trivial⟩
theorem sL_build_239 : JSeg (jm jdL_build) [(239, .aload_n 1, 0, 0), (240, .iconst 3, 0, 0), (241, .iload 6, 0, 0), (243, .iload 4, 0, 0), (245, .bipush 19, 0, 0), (247, .ishr, 0, 0), (248, .bipush 7, 0, 0), (250, .iand, 0, 0), (251, .iload 5, 0, 0)] := ⟨by decide +kernel, trivial, trivial, trivial, trivial, trivial, trivial, trivial, trivial, trivial, trivial⟩
theorem sL_build_254 : JSeg (jm jdL_build) [(254, .iconst 1, 0, 0), (255, .iload 4, 0, 0), (257, .bipush 22, 0, 0), (259, .ishr, 0, 0), (260, .iconst 3, 0, 0), (261, .iand, 0, 0), (262, .iadd, 0, 0)] := ⟨by decide +kernel, trivial, trivial, trivial, trivial, trivial, trivial, trivial, trivial⟩
theorem sL_build_266 : JSeg (jm jdL_build) [(266, .pop, 0, 0)] := ⟨by decide +kernel, trivial, trivial⟩
theorem sL_build_267 : JSeg (jm jdL_build) [(267, .iload 4, 0, 0), (269, .bipush 24, 0, 0), (271, .ishr, 0, 0), (272, .iconst 3, 0, 0), (273, .iand, 0, 0)] := ⟨by decide +kernel, trivial, trivial, trivial, trivial, trivial, trivial⟩
theorem sL_build_277 : JSeg (jm jdL_build) [(277, .aload_n 1, 0, 0), (278, .iconst 1, 0, 0), (279, .iload 6, 0, 0), (281, .iload 4, 0, 0), (283, .bipush 26, 0, 0), (285, .ishr, 0, 0), (286, .bipush 7, 0, 0), (288, .iand, 0, 0), (289, .iload 5, 0, 0)] := ⟨by decide +kernel, trivial, trivial, trivial, trivial, trivial, trivial, trivial, trivial, trivial, trivial⟩
theorem sL_build_292 : JSeg (jm jdL_build) [(292, .iconst 0, 0, 0)] := ⟨by decide +kernel, trivial, trivial⟩
theorem sL_build_296 : JSeg (jm jdL_build) [(296, .pop, 0, 0)] := ⟨by decide +kernel, trivial, trivial⟩
theorem sL_build_297 : JSeg (jm jdL_build) [(297, .iload 4, 0, 0), (299, .bipush 24, 0, 0), (301, .ishr, 0, 0), (302, .bipush 7, 0, 0), (304, .iand, 0, 0), (305, .iconst 1, 0, 0)] := ⟨by decide +kernel, trivial, trivial, trivial, trivial, trivial, trivial, trivial⟩
theorem sL_build_309 : JSeg (jm jdL_build) [(309, .aload_n 1, 0, 0), (310, .iconst 2, 0, 0), (311, .iload 6, 0, 0), (313, .iload 4, 0, 0), (315, .bipush 27, 0, 0), (317, .ishr, 0, 0), (318, .bipush 7, 0, 0), (320, .iand, 0, 0), (321, .iload 5, 0, 0)] := ⟨by decide +kernel, trivial, trivial, trivial, trivial, trivial, trivial, trivial, trivial, trivial, trivial⟩
theorem sL_build_324 : JSeg (jm jdL_build) [(324, .iconst 0, 0, 0)] := ⟨by decide +kernel, trivial, trivial⟩
theorem sL_build_328 : JSeg (jm jdL_build) [(328, .pop, 0, 0)] := ⟨by decide +kernel, trivial, trivial⟩
theorem sL_build_329 : JSeg (jm jdL_build) [(329, .iload 4, 0, 0), (331, .bipush 24, 0, 0), (333, .ishr, 0, 0), (334, .iconst 3, 0, 0), (335, .iand, 0, 0), (336, .iconst 2, 0, 0)] := ⟨by decide +kernel, trivial, trivial, trivial, trivial, trivial, trivial, trivial⟩
theorem sL_build_340 : JSeg (jm jdL_build) [(340, .aload_n 1, 0, 0), (341, .iconst 4, 0, 0), (342, .iconst 1, 0, 0), (343, .iload 4, 0, 0), (345, .bipush 26, 0, 0), (347, .ishr, 0, 0), (348, .bipush 31, 0, 0), (350, .iand, 0, 0), (351, .iadd, 0, 0), (352, .iconst 0, 0, 0), (353, .iconst 0, 0, 0)] := ⟨by decide +kernel, trivial, trivial, trivial, trivial, trivial, trivial, trivial, trivial, trivial, trivial, trivial, trivial⟩
theorem sL_build_357 : JSeg (jm jdL_build) [(357, .pop, 0, 0)] := ⟨by decide +kernel, trivial, trivial⟩
theorem sL_build_358 : JSeg (jm jdL_build) [(358, .iload 4, 0, 0), (360, .bipush 24, 0, 0), (362, .ishr, 0, 0), (363, .bipush 7, 0, 0), (365, .iand, 0, 0), (366, .iconst 3, 0, 0)] := ⟨by decide +kernel, trivial, trivial, trivial, trivial, trivial, trivial, trivial⟩
theorem sL_build_370 : JSeg (jm jdL_build) [(370, .aload_n 1, 0, 0), (371, .iconst 5, 0, 0), (372, .iload 4, 0, 0), (374, .bipush 27, 0, 0), (376, .ishr, 0, 0), (377, .bipush 7, 0, 0), (379, .iand, 0, 0), (380, .iload 5, 0, 0)] := ⟨by decide +kernel, trivial, trivial, trivial, trivial, trivial, trivial, trivial, trivial, trivial⟩
theorem sL_build_383 : JSeg (jm jdL_build) [(383, .iload 4, 0, 0), (385, .bipush 12, 0, 0), (387, .ishr, 0, 0), (388, .iconst 3, 0, 0), (389, .iand, 0, 0), (390, .iconst 0, 0, 0)] := ⟨by decide +kernel, trivial, trivial, trivial, trivial, trivial, trivial, trivial⟩
theorem sL_build_394 : JSeg (jm jdL_build) [(394, .pop, 0, 0)] := ⟨by decide +kernel, trivial, trivial⟩
theorem sL_build_395 : JSeg (jm jdL_build) [(395, .iload 4, 0, 0), (397, .bipush 21, 0, 0), (399, .ishr, 0, 0), (400, .bipush 15, 0, 0), (402, .iand, 0, 0), (403, .iconst 5, 0, 0)] := ⟨by decide +kernel, trivial, trivial, trivial, trivial, trivial, trivial, trivial⟩
theorem sL_build_407 : JSeg (jm jdL_build) [(407, .aload_n 1, 0, 0), (408, .iconst 0, 0, 0), (409, .bipush 20, 0, 0), (411, .iload 4, 0, 0), (413, .bipush 63, 0, 0), (415, .iand, 0, 0), (416, .iadd, 0, 0), (417, .iload 4, 0, 0), (419, .iconst 3, 0, 0), (420, .iand, 0, 0), (421, .iconst 0, 0, 0)] := ⟨by decide +kernel, trivial, trivial, trivial, trivial, trivial, trivial, trivial, trivial, trivial, trivial, trivial, trivial⟩
theorem sL_build_425 : JSeg (jm jdL_build) [(425, .pop, 0, 0)] := ⟨by decide +kernel, trivial, trivial⟩
theorem sL_build_426 : JSeg (jm jdL_build) [(426, .iinc 3 1, 0, 0), (429, .goto (-342), 0, 0)] := ⟨by decide +kernel, trivial, trivial, trivial⟩
theorem sL_build_432 : JSeg (jm jdL_build) [(432, .aload_n 1, 0, 0)] := ⟨by decide +kernel, trivial, trivial⟩
theorem dL_build_0 : decode cL_build 0 = .ok (.new 18, 3) := by decide +kernel
theorem dL_build_4 : decode cL_build 4 = .ok (.invokespecial 23, 3) := by decide +kernel
theorem dL_build_10 : decode cL_build 10 = .ok (.invokestatic 24, 3) := by decide +kernel
theorem dL_build_22 : decode cL_build 22 = .ok (.if_icmp .ge 63, 3) := by decide +kernel
theorem dL_build_50 : decode cL_build 50 = .ok (.irem, 1) := by decide +kernel
theorem dL_build_52 : decode cL_build 52 = .ok (.invokestatic 30, 3) := by decide +kernel
theorem dL_build_57 : decode cL_build 57 = .ok (.ifCond .le 22, 3) := by decide +kernel
theorem dL_build_72 : decode cL_build 72 = .ok (.irem, 1) := by decide +kernel
theorem dL_build_75 : decode cL_build 75 = .ok (.invokestatic 30, 3) := by decide +kernel
theorem dL_build_90 : decode cL_build 90 = .ok (.if_icmp .ge 342, 3) := by decide +kernel
theorem dL_build_95 : decode cL_build 95 = .ok (.invokestatic 24, 3) := by decide +kernel
theorem dL_build_101 : decode cL_build 101 = .ok (.invokevirtual 34, 3) := by decide +kernel
theorem dL_build_113 : decode cL_build 113 = .ok (.irem, 1) := by decide +kernel
theorem dL_build_163 : decode cL_build 163 = .ok (.ifCond .ne 7, 3) := by decide +kernel
theorem dL_build_171 : decode cL_build 171 = .ok (.invokestatic 37, 3) := by decide +kernel
theorem dL_build_182 : decode cL_build 182 = .ok (.irem, 1) := by decide +kernel
theorem dL_build_217 : decode cL_build 217 = .ok (.ifCond .ne 7, 3) := by decide +kernel
theorem dL_build_225 : decode cL_build 225 = .ok (.invokestatic 37, 3) := by decide +kernel
theorem dL_build_236 : decode cL_build 236 = .ok (.ifCond .ne 31, 3) := by decide +kernel
theorem dL_build_253 : decode cL_build 253 = .ok (.irem, 1) := by decide +kernel
theorem dL_build_263 : decode cL_build 263 = .ok (.invokestatic 30, 3) := by decide +kernel
theorem dL_build_274 : decode cL_build 274 = .ok (.ifCond .ne 23, 3) := by decide +kernel
theorem dL_build_291 : decode cL_build 291 = .ok (.irem, 1) := by decide +kernel
theorem dL_build_293 : decode cL_build 293 = .ok (.invokestatic 30, 3) := by decide +kernel
theorem dL_build_306 : decode cL_build 306 = .ok (.if_icmp .ne 23, 3) := by decide +kernel
theorem dL_build_323 : decode cL_build 323 = .ok (.irem, 1) := by decide +kernel
theorem dL_build_325 : decode cL_build 325 = .ok (.invokestatic 30, 3) := by decide +kernel
theorem dL_build_337 : decode cL_build 337 = .ok (.if_icmp .ne 21, 3) := by decide +kernel
theorem dL_build_354 : decode cL_build 354 = .ok (.invokestatic 30, 3) := by decide +kernel
theorem dL_build_367 : decode cL_build 367 = .ok (.if_icmp .ne 28, 3) := by decide +kernel
theorem dL_build_382 : decode cL_build 382 = .ok (.irem, 1) := by decide +kernel
theorem dL_build_391 : decode cL_build 391 = .ok (.invokestatic 30, 3) := by decide +kernel
theorem dL_build_404 : decode cL_build 404 = .ok (.if_icmp .ne 22, 3) := by decide +kernel
theorem dL_build_422 : decode cL_build 422 = .ok (.invokestatic 30, 3) := by decide +kernel
theorem dL_build_433 : decode cL_build 433 = .ok (.areturn, 1) := by decide +kernel
theorem sL_act_0 : JSeg (jmH jdL_act hhL_act) [(0, .iload_n 1, 0, 0)] := ⟨by decide +kernel, trivial, trivial⟩
theorem sL_act_40 : JSeg (jmH jdL_act hhL_act) [(40, .aload_n 0, 0, 0), (41, .iload_n 2, 0, 0), (42, .iload_n 3, 0, 0)] := ⟨by decide +kernel, trivial, trivial, trivial, trivial⟩
theorem sL_act_47 : JSeg (jmH jdL_act hhL_act) [(47, .aload_n 0, 0, 0), (48, .iload_n 2, 0, 0), (49, .iload_n 3, 0, 0)] := ⟨by decide +kernel, trivial, trivial, trivial, trivial⟩
theorem sL_act_54 : JSeg (jmH jdL_act hhL_act) [(54, .aload_n 0, 0, 0), (55, .iload_n 2, 0, 0), (56, .iload_n 3, 0, 0)] := ⟨by decide +kernel, trivial, trivial, trivial, trivial⟩
theorem sL_act_61 : JSeg (jmH jdL_act hhL_act) [(61, .aload_n 0, 0, 0), (62, .iload_n 2, 0, 0), (63, .iload_n 3, 0, 0), (64, .iload 4, 0, 0)] := ⟨by decide +kernel, trivial, trivial, trivial, trivial, trivial⟩
theorem sL_act_70 : JSeg (jmH jdL_act hhL_act) [(70, .aload_n 0, 0, 0), (71, .iload_n 2, 0, 0)] := ⟨by decide +kernel, trivial, trivial, trivial⟩
theorem sL_act_76 : JSeg (jmH jdL_act hhL_act) [(76, .aload_n 0, 0, 0), (77, .iload_n 2, 0, 0), (78, .iload_n 3, 0, 0)] := ⟨by decide +kernel, trivial, trivial, trivial, trivial⟩
theorem sL_act_83 : JSeg (jmH jdL_act hhL_act) [(83, .aload_n 0, 0, 0), (84, .iload_n 2, 0, 0), (85, .iload_n 3, 0, 0), (86, .iload 4, 0, 0)] := ⟨by decide +kernel, trivial, trivial, trivial, trivial, trivial⟩
theorem sL_act_92 : JSeg (jmH jdL_act hhL_act) [(92, .astore 5, 0, 0), (94, .iconst (-1), 0, 0)] := ⟨by decide +kernel, trivial, trivial, trivial⟩
theorem sL_act_96 : JSeg (jmH jdL_act hhL_act) [(96, .astore 5, 0, 0), (98, .bipush (-2), 0, 0)] := ⟨by decide +kernel, trivial, trivial, trivial⟩
theorem sL_act_101 : JSeg (jmH jdL_act hhL_act) [(101, .astore 5, 0, 0), (103, .bipush (-3), 0, 0)] := ⟨by decide +kernel, trivial, trivial, trivial⟩
theorem sL_act_106 : JSeg (jmH jdL_act hhL_act) [(106, .astore 5, 0, 0), (108, .bipush (-4), 0, 0)] := ⟨by decide +kernel, trivial, trivial, trivial⟩
theorem sL_act_111 : JSeg (jmH jdL_act hhL_act) [(111, .astore 5, 0, 0), (113, .bipush (-5), 0, 0)] := ⟨by decide +kernel, trivial, trivial, trivial⟩
theorem dL_act_1 : decode cL_act 1 = .ok (.tableswitch 82 0 5 #[39, 46, 53, 60, 69, 75], 39) := by decide +kernel
theorem dL_act_43 : decode cL_act 43 = .ok (.invokevirtual 41, 3) := by decide +kernel
theorem dL_act_46 : decode cL_act 46 = .ok (.ireturn, 1) := by decide +kernel
theorem dL_act_50 : decode cL_act 50 = .ok (.invokevirtual 45, 3) := by decide +kernel
theorem dL_act_53 : decode cL_act 53 = .ok (.ireturn, 1) := by decide +kernel
theorem dL_act_57 : decode cL_act 57 = .ok (.invokevirtual 48, 3) := by decide +kernel
theorem dL_act_60 : decode cL_act 60 = .ok (.ireturn, 1) := by decide +kernel
theorem dL_act_66 : decode cL_act 66 = .ok (.invokevirtual 51, 3) := by decide +kernel
theorem dL_act_69 : decode cL_act 69 = .ok (.ireturn, 1) := by decide +kernel
theorem dL_act_72 : decode cL_act 72 = .ok (.invokevirtual 55, 3) := by decide +kernel
theorem dL_act_75 : decode cL_act 75 = .ok (.ireturn, 1) := by decide +kernel
theorem dL_act_79 : decode cL_act 79 = .ok (.invokevirtual 59, 3) := by decide +kernel
theorem dL_act_82 : decode cL_act 82 = .ok (.ireturn, 1) := by decide +kernel
theorem dL_act_88 : decode cL_act 88 = .ok (.invokevirtual 62, 3) := by decide +kernel
theorem dL_act_91 : decode cL_act 91 = .ok (.ireturn, 1) := by decide +kernel
theorem dL_act_95 : decode cL_act 95 = .ok (.ireturn, 1) := by decide +kernel
theorem dL_act_100 : decode cL_act 100 = .ok (.ireturn, 1) := by decide +kernel
theorem dL_act_105 : decode cL_act 105 = .ok (.ireturn, 1) := by decide +kernel
theorem dL_act_110 : decode cL_act 110 = .ok (.ireturn, 1) := by decide +kernel
theorem dL_act_115 : decode cL_act 115 = .ok (.ireturn, 1) := by decide +kernel
theorem sL_car_0 : JSeg (jmH jdL_car hhL_car) [(0, .aload_n 0, 0, 0), (1, .iload_n 1, 0, 0), (2, .iload_n 2, 0, 0), (3, .iload_n 3, 0, 0), (4, .iload 4, 0, 0), (6, .iload 5, 0, 0)] := ⟨by decide +kernel, trivial, trivial, trivial, trivial, trivial, trivial, trivial⟩
theorem sL_car_12 : JSeg (jmH jdL_car hhL_car) [(12, .astore 6, 0, 0), (14, .iconst (-1), 0, 0)] := ⟨by decide +kernel, trivial, trivial, trivial⟩
theorem sL_car_16 : JSeg (jmH jdL_car hhL_car) [(16, .astore 6, 0, 0), (18, .bipush (-2), 0, 0)] := ⟨by decide +kernel, trivial, trivial, trivial⟩
theorem sL_car_21 : JSeg (jmH jdL_car hhL_car) [(21, .astore 6, 0, 0), (23, .bipush (-3), 0, 0)] := ⟨by decide +kernel, trivial, trivial, trivial⟩
theorem sL_car_26 : JSeg (jmH jdL_car hhL_car) [(26, .astore 6, 0, 0), (28, .bipush (-5), 0, 0)] := ⟨by decide +kernel, trivial, trivial, trivial⟩
theorem dL_car_8 : decode cL_car 8 = .ok (.invokevirtual 75, 3) := by decide +kernel
theorem dL_car_11 : decode cL_car 11 = .ok (.ireturn, 1) := by decide +kernel
theorem dL_car_15 : decode cL_car 15 = .ok (.ireturn, 1) := by decide +kernel
theorem dL_car_20 : decode cL_car 20 = .ok (.ireturn, 1) := by decide +kernel
theorem dL_car_25 : decode cL_car 25 = .ok (.ireturn, 1) := by decide +kernel
theorem dL_car_30 : decode cL_car 30 = .ok (.ireturn, 1) := by decide +kernel
theorem sL_cars_0 : JSeg (jm jdL_cars) [(0, .aload_n 0, 0, 0), (1, .iload_n 1, 0, 0)] := ⟨by decide +kernel, trivial, trivial, trivial⟩
theorem sL_cars_7 : JSeg (jm jdL_cars) [(7, .astore_n 2, 0, 0), (8, .iconst 0, 0, 0), (9, .istore_n 3, 0, 0)] := ⟨by decide +kernel, trivial, trivial, trivial, trivial⟩
theorem sL_cars_10 : JSeg (jm jdL_cars) [(10, .iload_n 3, 0, 0), (11, .aload_n 2, 0, 0), (12, .arraylength, 0, 0)] := ⟨by decide +kernel, trivial, trivial, trivial, trivial⟩
theorem sL_cars_16 : JSeg (jm jdL_cars) [(16, .aload_n 2, 0, 0), (17, .iload_n 3, 0, 0), (18, .aload_n 0, 0, 0), (19, .iload_n 1, 0, 0), (20, .iload_n 3, 0, 0)] := ⟨by decide +kernel, trivial, trivial, trivial, trivial, trivial, trivial⟩
theorem sL_cars_25 : JSeg (jm jdL_cars) [(25, .iinc 3 1, 0, 0), (28, .goto (-18), 0, 0)] := ⟨by decide +kernel, trivial, trivial, trivial⟩
theorem sL_cars_31 : JSeg (jm jdL_cars) [(31, .aload_n 2, 0, 0)] := ⟨by decide +kernel, trivial, trivial⟩
theorem dL_cars_2 : decode cL_cars 2 = .ok (.invokevirtual 79, 3) := by decide +kernel
theorem dL_cars_5 : decode cL_cars 5 = .ok (.newarray .int, 2) := by decide +kernel
theorem dL_cars_13 : decode cL_cars 13 = .ok (.if_icmp .ge 18, 3) := by decide +kernel
theorem dL_cars_21 : decode cL_cars 21 = .ok (.invokevirtual 82, 3) := by decide +kernel
theorem dL_cars_24 : decode cL_cars 24 = .ok (.iastore, 1) := by decide +kernel
theorem dL_cars_32 : decode cL_cars 32 = .ok (.areturn, 1) := by decide +kernel
theorem sL_state_0 : JSeg (jm jdL_state) [(0, .bipush 31, 0, 0), (2, .bipush 31, 0, 0), (4, .bipush 31, 0, 0), (6, .aload_n 0, 0, 0)] := ⟨by decide +kernel, trivial, trivial, trivial, trivial, trivial⟩
theorem sL_state_10 : JSeg (jm jdL_state) [(10, .imul, 0, 0), (11, .aload_n 0, 0, 0)] := ⟨by decide +kernel, trivial, trivial, trivial⟩
theorem sL_state_16 : JSeg (jm jdL_state) [(16, .iadd, 0, 0), (17, .imul, 0, 0), (18, .aload_n 0, 0, 0)] := ⟨by decide +kernel, trivial, trivial, trivial, trivial⟩
theorem sL_state_22 : JSeg (jm jdL_state) [(22, .iadd, 0, 0), (23, .imul, 0, 0), (24, .aload_n 0, 0, 0)] := ⟨by decide +kernel, trivial, trivial, trivial, trivial⟩
theorem sL_state_29 : JSeg (jm jdL_state) [(29, .iadd, 0, 0), (30, .istore_n 1, 0, 0), (31, .iconst 0, 0, 0), (32, .istore_n 2, 0, 0)] := ⟨by decide +kernel, trivial, trivial, trivial, trivial, trivial⟩
theorem sL_state_33 : JSeg (jm jdL_state) [(33, .iload_n 2, 0, 0), (34, .aload_n 0, 0, 0)] := ⟨by decide +kernel, trivial, trivial, trivial⟩
theorem sL_state_41 : JSeg (jm jdL_state) [(41, .bipush 31, 0, 0), (43, .bipush 31, 0, 0), (45, .iload_n 1, 0, 0), (46, .imul, 0, 0), (47, .aload_n 0, 0, 0), (48, .iload_n 2, 0, 0)] := ⟨by decide +kernel, trivial, trivial, trivial, trivial, trivial, trivial, trivial⟩
theorem sL_state_52 : JSeg (jm jdL_state) [(52, .iadd, 0, 0), (53, .imul, 0, 0), (54, .aload_n 0, 0, 0), (55, .iload_n 2, 0, 0)] := ⟨by decide +kernel, trivial, trivial, trivial, trivial, trivial⟩
theorem sL_state_59 : JSeg (jm jdL_state) [(59, .iadd, 0, 0), (60, .istore_n 1, 0, 0), (61, .aload_n 0, 0, 0), (62, .iload_n 2, 0, 0)] := ⟨by decide +kernel, trivial, trivial, trivial, trivial, trivial⟩
theorem sL_state_66 : JSeg (jm jdL_state) [(66, .astore_n 3, 0, 0), (67, .aload_n 3, 0, 0), (68, .arraylength, 0, 0), (69, .istore 4, 0, 0), (71, .iconst 0, 0, 0), (72, .istore 5, 0, 0)] := ⟨by decide +kernel, trivial, trivial, trivial, trivial, trivial, trivial, trivial⟩
theorem sL_state_74 : JSeg (jm jdL_state) [(74, .iload 5, 0, 0), (76, .iload 4, 0, 0)] := ⟨by decide +kernel, trivial, trivial, trivial⟩
theorem sL_state_81 : JSeg (jm jdL_state) [(81, .aload_n 3, 0, 0), (82, .iload 5, 0, 0)] := ⟨by decide +kernel, trivial, trivial, trivial⟩
theorem sL_state_85 : JSeg (jm jdL_state) [(85, .istore 6, 0, 0), (87, .bipush 31, 0, 0), (89, .bipush 31, 0, 0), (91, .iload_n 1, 0, 0), (92, .imul, 0, 0), (93, .iload 6, 0, 0), (95, .iadd, 0, 0), (96, .imul, 0, 0), (97, .aload_n 0, 0, 0), (98, .iload 6, 0, 0)] := ⟨by decide +kernel, trivial, trivial, trivial, trivial, trivial, trivial, trivial, trivial, trivial, trivial, trivial⟩
theorem sL_state_103 : JSeg (jm jdL_state) [(103, .iadd, 0, 0), (104, .aload_n 0, 0, 0), (105, .iload 6, 0, 0)] := ⟨by decide +kernel, trivial, trivial, trivial, trivial⟩
theorem sL_state_113 : JSeg (jm jdL_state) [(113, .bipush 10, 0, 0), (115, .goto 4, 0, 0)] := ⟨by decide +kernel, trivial, trivial, trivial⟩
theorem sL_state_118 : JSeg (jm jdL_state) [(118, .iconst 0, 0, 0)] := ⟨by decide +kernel, trivial, trivial⟩
theorem sL_state_119 : JSeg (jm jdL_state) [(119, .iadd, 0, 0), (120, .istore_n 1, 0, 0), (121, .iinc 5 1, 0, 0), (124, .goto (-50), 0, 0)] := ⟨by decide +kernel, trivial, trivial, trivial, trivial, trivial⟩
theorem sL_state_127 : JSeg (jm jdL_state) [(127, .iconst 0, 0, 0), (128, .istore_n 3, 0, 0)] := ⟨by decide +kernel, trivial, trivial, trivial⟩
theorem sL_state_129 : JSeg (jm jdL_state) [(129, .iload_n 3, 0, 0), (130, .iload_n 2, 0, 0)] := ⟨by decide +kernel, trivial, trivial, trivial⟩
theorem sL_state_134 : JSeg (jm jdL_state) [(134, .iconst 2, 0, 0), (135, .iload_n 1, 0, 0), (136, .imul, 0, 0), (137, .aload_n 0, 0, 0), (138, .iload_n 2, 0, 0), (139, .iload_n 3, 0, 0)] := ⟨by decide +kernel, trivial, trivial, trivial, trivial, trivial, trivial, trivial⟩
theorem sL_state_146 : JSeg (jm jdL_state) [(146, .iconst 1, 0, 0), (147, .goto 4, 0, 0)] := ⟨by decide +kernel, trivial, trivial, trivial⟩
theorem sL_state_150 : JSeg (jm jdL_state) [(150, .iconst 0, 0, 0)] := ⟨by decide +kernel, trivial, trivial⟩
theorem sL_state_151 : JSeg (jm jdL_state) [(151, .iadd, 0, 0), (152, .istore_n 1, 0, 0), (153, .iinc 3 1, 0, 0), (156, .goto (-27), 0, 0)] := ⟨by decide +kernel, trivial, trivial, trivial, trivial, trivial⟩
theorem sL_state_159 : JSeg (jm jdL_state) [(159, .iinc 2 1, 0, 0), (162, .goto (-129), 0, 0)] := ⟨by decide +kernel, trivial, trivial, trivial⟩
theorem sL_state_165 : JSeg (jm jdL_state) [(165, .bipush 31, 0, 0), (167, .iload_n 1, 0, 0), (168, .imul, 0, 0), (169, .aload_n 0, 0, 0)] := ⟨by decide +kernel, trivial, trivial, trivial, trivial, trivial⟩
theorem sL_state_173 : JSeg (jm jdL_state) [(173, .iadd, 0, 0)] := ⟨by decide +kernel, trivial, trivial⟩
theorem dL_state_7 : decode cL_state 7 = .ok (.invokevirtual 85, 3) := by decide +kernel
theorem dL_state_12 : decode cL_state 12 = .ok (.invokevirtual 88, 3) := by decide +kernel
theorem dL_state_15 : decode cL_state 15 = .ok (.l2i, 1) := by decide +kernel
theorem dL_state_19 : decode cL_state 19 = .ok (.invokevirtual 92, 3) := by decide +kernel
theorem dL_state_25 : decode cL_state 25 = .ok (.invokevirtual 95, 3) := by decide +kernel
theorem dL_state_28 : decode cL_state 28 = .ok (.l2i, 1) := by decide +kernel
theorem dL_state_35 : decode cL_state 35 = .ok (.invokevirtual 34, 3) := by decide +kernel
theorem dL_state_38 : decode cL_state 38 = .ok (.if_icmp .ge 127, 3) := by decide +kernel
theorem dL_state_49 : decode cL_state 49 = .ok (.invokevirtual 98, 3) := by decide +kernel
theorem dL_state_56 : decode cL_state 56 = .ok (.invokevirtual 101, 3) := by decide +kernel
theorem dL_state_63 : decode cL_state 63 = .ok (.invokestatic 104, 3) := by decide +kernel
theorem dL_state_78 : decode cL_state 78 = .ok (.if_icmp .ge 49, 3) := by decide +kernel
theorem dL_state_84 : decode cL_state 84 = .ok (.iaload, 1) := by decide +kernel
theorem dL_state_100 : decode cL_state 100 = .ok (.invokevirtual 108, 3) := by decide +kernel
theorem dL_state_107 : decode cL_state 107 = .ok (.invokevirtual 111, 3) := by decide +kernel
theorem dL_state_110 : decode cL_state 110 = .ok (.ifCond .eq 8, 3) := by decide +kernel
theorem dL_state_131 : decode cL_state 131 = .ok (.if_icmp .ge 28, 3) := by decide +kernel
theorem dL_state_140 : decode cL_state 140 = .ok (.invokevirtual 115, 3) := by decide +kernel
theorem dL_state_143 : decode cL_state 143 = .ok (.ifCond .eq 7, 3) := by decide +kernel
theorem dL_state_170 : decode cL_state 170 = .ok (.invokevirtual 34, 3) := by decide +kernel
theorem dL_state_174 : decode cL_state 174 = .ok (.ireturn, 1) := by decide +kernel
theorem sL_isLine_0 : JSeg (jm jdL_isLine) [(0, .iload_n 1, 0, 0), (1, .aload_n 2, 0, 0)] := ⟨by decide +kernel, trivial, trivial, trivial⟩
theorem sL_isLine_8 : JSeg (jm jdL_isLine) [(8, .iconst 0, 0, 0)] := ⟨by decide +kernel, trivial, trivial⟩
theorem sL_isLine_10 : JSeg (jm jdL_isLine) [(10, .iconst 0, 0, 0), (11, .istore_n 3, 0, 0)] := ⟨by decide +kernel, trivial, trivial, trivial⟩
theorem sL_isLine_12 : JSeg (jm jdL_isLine) [(12, .iload_n 3, 0, 0), (13, .iload_n 1, 0, 0)] := ⟨by decide +kernel, trivial, trivial, trivial⟩
theorem sL_isLine_17 : JSeg (jm jdL_isLine) [(17, .aload_n 0, 0, 0), (18, .iload_n 3, 0, 0)] := ⟨by decide +kernel, trivial, trivial, trivial⟩
theorem sL_isLine_22 : JSeg (jm jdL_isLine) [(22, .aload_n 2, 0, 0), (23, .iload_n 3, 0, 0)] := ⟨by decide +kernel, trivial, trivial, trivial⟩
theorem sL_isLine_30 : JSeg (jm jdL_isLine) [(30, .iconst 0, 0, 0)] := ⟨by decide +kernel, trivial, trivial⟩
theorem sL_isLine_32 : JSeg (jm jdL_isLine) [(32, .iinc 3 1, 0, 0), (35, .goto (-23), 0, 0)] := ⟨by decide +kernel, trivial, trivial, trivial⟩
theorem sL_isLine_38 : JSeg (jm jdL_isLine) [(38, .iconst 1, 0, 0)] := ⟨by decide +kernel, trivial, trivial⟩
theorem dL_isLine_2 : decode cL_isLine 2 = .ok (.invokevirtual 7, 3) := by decide +kernel
theorem dL_isLine_5 : decode cL_isLine 5 = .ok (.if_icmp .eq 5, 3) := by decide +kernel
theorem dL_isLine_9 : decode cL_isLine 9 = .ok (.ireturn, 1) := by decide +kernel
theorem dL_isLine_14 : decode cL_isLine 14 = .ok (.if_icmp .ge 24, 3) := by decide +kernel
theorem dL_isLine_19 : decode cL_isLine 19 = .ok (.invokevirtual 277, 3) := by decide +kernel
theorem dL_isLine_24 : decode cL_isLine 24 = .ok (.invokevirtual 13, 3) := by decide +kernel
theorem dL_isLine_27 : decode cL_isLine 27 = .ok (.if_icmp .eq 5, 3) := by decide +kernel
theorem dL_isLine_31 : decode cL_isLine 31 = .ok (.ireturn, 1) := by decide +kernel
theorem dL_isLine_39 : decode cL_isLine 39 = .ok (.ireturn, 1) := by decide +kernel
theorem sL_runs_0 : JSeg (jmH jdL_runs hhL_runs) [(0, .aload_n 0, 0, 0)] := ⟨by decide +kernel, trivial, trivial⟩
theorem sL_runs_5 : JSeg (jmH jdL_runs hhL_runs) [(5, .astore_n 1, 0, 0), (6, .iconst (-1), 0, 0)] := ⟨by decide +kernel, trivial, trivial, trivial⟩
theorem sL_runs_8 : JSeg (jmH jdL_runs hhL_runs) [(8, .astore_n 1, 0, 0), (9, .bipush (-2), 0, 0)] := ⟨by decide +kernel, trivial, trivial, trivial⟩
theorem dL_runs_1 : decode cL_runs 1 = .ok (.invokevirtual 164, 3) := by decide +kernel
theorem dL_runs_4 : decode cL_runs 4 = .ok (.ireturn, 1) := by decide +kernel
theorem dL_runs_7 : decode cL_runs 7 = .ok (.ireturn, 1) := by decide +kernel
theorem dL_runs_11 : decode cL_runs 11 = .ok (.ireturn, 1) := by decide +kernel
theorem sL_fails_0 : JSeg (jm jdL_fails) [(0, .aload_n 0, 0, 0), (1, .aload_n 1, 0, 0)] := ⟨by decide +kernel, trivial, trivial, trivial⟩
theorem sL_fails_5 : JSeg (jm jdL_fails) [(5, .aload_n 0, 0, 0)] := ⟨by decide +kernel, trivial, trivial⟩
theorem sL_fails_9 : JSeg (jm jdL_fails) [(9, .iconst (-1), 0, 0)] := ⟨by decide +kernel, trivial, trivial⟩
theorem sL_fails_13 : JSeg (jm jdL_fails) [(13, .aload_n 0, 0, 0)] := ⟨by decide +kernel, trivial, trivial⟩
theorem sL_fails_17 : JSeg (jm jdL_fails) [(17, .iload_n 2, 0, 0)] := ⟨by decide +kernel, trivial, trivial⟩
theorem sL_fails_21 : JSeg (jm jdL_fails) [(21, .iconst 1, 0, 0), (22, .goto 4, 0, 0)] := ⟨by decide +kernel, trivial, trivial, trivial⟩
theorem sL_fails_25 : JSeg (jm jdL_fails) [(25, .iconst 0, 0, 0)] := ⟨by decide +kernel, trivial, trivial⟩
theorem dL_fails_2 : decode cL_fails 2 = .ok (.invokestatic 160, 3) := by decide +kernel
theorem dL_fails_6 : decode cL_fails 6 = .ok (.invokestatic 172, 3) := by decide +kernel
theorem dL_fails_10 : decode cL_fails 10 = .ok (.if_icmp .ne 15, 3) := by decide +kernel
theorem dL_fails_14 : decode cL_fails 14 = .ok (.invokevirtual 280, 3) := by decide +kernel
theorem dL_fails_18 : decode cL_fails 18 = .ok (.if_icmp .ne 7, 3) := by decide +kernel
theorem dL_fails_26 : decode cL_fails 26 = .ok (.ireturn, 1) := by decide +kernel
