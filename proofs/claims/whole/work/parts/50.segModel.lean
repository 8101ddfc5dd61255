theorem fpX7_26 : FP0 RX7 26 7 8 := ⟨_, _, _, _, ci_X7, by decide, bw_of 1494 (by decide +kernel) (by decide +kernel), rfl, rfl⟩
theorem fpX7_30 : FP0 RX7 30 7 9 := ⟨_, _, _, _, ci_X7, by decide, bw_of 1495 (by decide +kernel) (by decide +kernel), rfl, rfl⟩
theorem sX7_init_0 : JSeg (jm jdX7_init) [(0, .aload_n 0, 0, 0)] := ⟨by decide +kernel, trivial, trivial⟩
theorem sX7_init_4 : JSeg (jm jdX7_init) [(4, .aload_n 0, 0, 0), (5, .sipush 179, 0, 0)] := ⟨by decide +kernel, trivial, trivial, trivial⟩
theorem sX7_init_13 : JSeg (jm jdX7_init) [(13, .aload_n 0, 0, 0), (14, .sipush 179, 0, 0)] := ⟨by decide +kernel, trivial, trivial, trivial⟩
theorem sX7_init_22 : JSeg (jm jdX7_init) [(22, .aload_n 0, 0, 0), (23, .sipush 1432, 0, 0)] := ⟨by decide +kernel, trivial, trivial, trivial⟩
theorem sX7_init_31 : JSeg (jm jdX7_init) [(31, .aload_n 0, 0, 0), (32, .sipush 179, 0, 0)] := ⟨by decide +kernel, trivial, trivial, trivial⟩
theorem sX7_init_40 : JSeg (jm jdX7_init) [(40, .aload_n 0, 0, 0), (41, .bipush 60, 0, 0)] := ⟨by decide +kernel, trivial, trivial, trivial⟩
theorem sX7_init_48 : JSeg (jm jdX7_init) [(48, .aload_n 0, 0, 0), (49, .iconst (-1), 0, 0), (50, .putfield 26, 7, 8), (53, .aload_n 0, 0, 0), (54, .iconst (-1), 0, 0), (55, .putfield 30, 7, 9), (58, .aload_n 0, 0, 0), (59, .sipush 300, 0, 0)] := ⟨by decide +kernel, trivial, trivial, fpX7_26, trivial, trivial, fpX7_30, trivial, trivial, trivial⟩
theorem sX7_init_67 : JSeg (jm jdX7_init) [(67, .aload_n 0, 0, 0), (68, .bipush 8, 0, 0)] := ⟨by decide +kernel, trivial, trivial, trivial⟩
theorem sX7_init_75 : JSeg (jm jdX7_init) [(75, .aload_n 0, 0, 0), (76, .sipush 360, 0, 0)] := ⟨by decide +kernel, trivial, trivial, trivial⟩
theorem sX7_init_84 : JSeg (jm jdX7_init) [(84, .aload_n 0, 0, 0), (85, .getfield 7, 7, 0), (88, .iconst 2, 0, 0), (89, .iconst 1, 0, 0)] := ⟨by decide +kernel, trivial, fkX7_7, trivial, trivial, trivial⟩
theorem dX7_init_1 : decode cX7_init 1 = .ok (.invokespecial 1, 3) := by decide +kernel
theorem dX7_init_8 : decode cX7_init 8 = .ok (.newarray .int, 2) := by decide +kernel
theorem dX7_init_10 : decode cX7_init 10 = .ok (.putfield 7, 3) := by decide +kernel
theorem dX7_init_17 : decode cX7_init 17 = .ok (.newarray .int, 2) := by decide +kernel
theorem dX7_init_19 : decode cX7_init 19 = .ok (.putfield 13, 3) := by decide +kernel
theorem dX7_init_26 : decode cX7_init 26 = .ok (.newarray .int, 2) := by decide +kernel
theorem dX7_init_28 : decode cX7_init 28 = .ok (.putfield 16, 3) := by decide +kernel
theorem dX7_init_35 : decode cX7_init 35 = .ok (.newarray .int, 2) := by decide +kernel
theorem dX7_init_37 : decode cX7_init 37 = .ok (.putfield 19, 3) := by decide +kernel
theorem dX7_init_43 : decode cX7_init 43 = .ok (.newarray .char, 2) := by decide +kernel
theorem dX7_init_45 : decode cX7_init 45 = .ok (.putfield 22, 3) := by decide +kernel
theorem dX7_init_62 : decode cX7_init 62 = .ok (.newarray .char, 2) := by decide +kernel
theorem dX7_init_64 : decode cX7_init 64 = .ok (.putfield 33, 3) := by decide +kernel
theorem dX7_init_70 : decode cX7_init 70 = .ok (.newarray .int, 2) := by decide +kernel
theorem dX7_init_72 : decode cX7_init 72 = .ok (.putfield 36, 3) := by decide +kernel
theorem dX7_init_79 : decode cX7_init 79 = .ok (.newarray .int, 2) := by decide +kernel
theorem dX7_init_81 : decode cX7_init 81 = .ok (.putfield 39, 3) := by decide +kernel
theorem dX7_init_90 : decode cX7_init 90 = .ok (.iastore, 1) := by decide +kernel
theorem dX7_init_91 : decode cX7_init 91 = .ok (.return_, 1) := by decide +kernel
theorem sX7_thrown_0 : JSeg (jm jdX7_thrown) [(0, .aload_n 0, 0, 0), (1, .getfield 42, 7, 12)] := ⟨by decide +kernel, trivial, fkX7_42, trivial⟩
theorem dX7_thrown_4 : decode cX7_thrown 4 = .ok (.ireturn, 1) := by decide +kernel
theorem sX7_in_0 : JSeg (jm jdX7_in) [(0, .iload_n 0, 0, 0), (1, .iload_n 1, 0, 0)] := ⟨by decide +kernel, trivial, trivial, trivial⟩
theorem sX7_in_5 : JSeg (jm jdX7_in) [(5, .iload_n 0, 0, 0), (6, .iload_n 2, 0, 0)] := ⟨by decide +kernel, trivial, trivial, trivial⟩
theorem sX7_in_10 : JSeg (jm jdX7_in) [(10, .iconst 1, 0, 0), (11, .goto 4, 0, 0)] := ⟨by decide +kernel, trivial, trivial, trivial⟩
theorem sX7_in_14 : JSeg (jm jdX7_in) [(14, .iconst 0, 0, 0)] := ⟨by decide +kernel, trivial, trivial⟩
theorem dX7_in_2 : decode cX7_in 2 = .ok (.if_icmp .lt 12, 3) := by decide +kernel
theorem dX7_in_7 : decode cX7_in 7 = .ok (.if_icmp .gt 7, 3) := by decide +kernel
theorem dX7_in_15 : decode cX7_in 15 = .ok (.ireturn, 1) := by decide +kernel
theorem fpX7_42 : FP0 RX7 42 7 12 := ⟨_, _, _, _, ci_X7, by decide, bw_of 1498 (by decide +kernel) (by decide +kernel), rfl, rfl⟩
theorem sX7_done_0 : JSeg (jm jdX7_done) [(0, .aload_n 0, 0, 0), (1, .iconst 0, 0, 0), (2, .putfield 42, 7, 12), (5, .iload_n 1, 0, 0)] := ⟨by decide +kernel, trivial, trivial, fpX7_42, trivial, trivial⟩
theorem dX7_done_6 : decode cX7_done 6 = .ok (.ireturn, 1) := by decide +kernel
theorem sX7_fails_0 : JSeg (jm jdX7_fails) [(0, .aload_n 0, 0, 0), (1, .iload_n 1, 0, 0), (2, .putfield 42, 7, 12), (5, .iconst 0, 0, 0)] := ⟨by decide +kernel, trivial, trivial, fpX7_42, trivial, trivial⟩
theorem dX7_fails_6 : decode cX7_fails 6 = .ok (.ireturn, 1) := by decide +kernel
theorem sX7_copy_0 : JSeg (jm jdX7_copy) [(0, .iconst 0, 0, 0), (1, .istore 4, 0, 0)] := ⟨by decide +kernel, trivial, trivial, trivial⟩
theorem sX7_copy_3 : JSeg (jm jdX7_copy) [(3, .iload 4, 0, 0), (5, .sipush 179, 0, 0)] := ⟨by decide +kernel, trivial, trivial, trivial⟩
theorem sX7_copy_11 : JSeg (jm jdX7_copy) [(11, .aload_n 2, 0, 0), (12, .iload_n 3, 0, 0), (13, .iload 4, 0, 0), (15, .iadd, 0, 0), (16, .aload_n 0, 0, 0), (17, .iload_n 1, 0, 0), (18, .iload 4, 0, 0), (20, .iadd, 0, 0)] := ⟨by decide +kernel, trivial, trivial, trivial, trivial, trivial, trivial, trivial, trivial, trivial⟩
theorem sX7_copy_23 : JSeg (jm jdX7_copy) [(23, .iinc 4 1, 0, 0), (26, .goto (-23), 0, 0)] := ⟨by decide +kernel, trivial, trivial, trivial⟩
theorem dX7_copy_8 : decode cX7_copy 8 = .ok (.if_icmp .ge 21, 3) := by decide +kernel
theorem dX7_copy_21 : decode cX7_copy 21 = .ok (.iaload, 1) := by decide +kernel
theorem dX7_copy_22 : decode cX7_copy 22 = .ok (.iastore, 1) := by decide +kernel
theorem dX7_copy_29 : decode cX7_copy 29 = .ok (.return_, 1) := by decide +kernel
theorem sX7_begin_0 : JSeg (jm jdX7_begin) [(0, .aload_n 0, 0, 0), (1, .getfield 7, 7, 0), (4, .iconst 0, 0, 0), (5, .aload_n 0, 0, 0), (6, .getfield 13, 7, 1), (9, .iconst 0, 0, 0)] := ⟨by decide +kernel, trivial, fkX7_7, trivial, trivial, fkX7_13, trivial, trivial⟩
theorem dX7_begin_10 : decode cX7_begin 10 = .ok (.invokestatic 45, 3) := by decide +kernel
theorem dX7_begin_13 : decode cX7_begin 13 = .ok (.return_, 1) := by decide +kernel
theorem fpX7_49 : FP0 RX7 49 7 3 := ⟨_, _, _, _, ci_X7, by decide, bw_of 1489 (by decide +kernel) (by decide +kernel), rfl, rfl⟩
theorem sX7_kept_0 : JSeg (jm jdX7_kept) [(0, .aload_n 0, 0, 0), (1, .getfield 42, 7, 12)] := ⟨by decide +kernel, trivial, fkX7_42, trivial⟩
theorem sX7_kept_7 : JSeg (jm jdX7_kept) [(7, .aload_n 0, 0, 0), (8, .getfield 13, 7, 1), (11, .iconst 0, 0, 0), (12, .aload_n 0, 0, 0), (13, .getfield 7, 7, 0), (16, .iconst 0, 0, 0)] := ⟨by decide +kernel, trivial, fkX7_13, trivial, trivial, fkX7_7, trivial, trivial⟩
theorem sX7_kept_20 : JSeg (jm jdX7_kept) [(20, .iconst 0, 0, 0)] := ⟨by decide +kernel, trivial, trivial⟩
theorem sX7_kept_22 : JSeg (jm jdX7_kept) [(22, .aload_n 0, 0, 0), (23, .getfield 49, 7, 3), (26, .bipush 8, 0, 0)] := ⟨by decide +kernel, trivial, fkX7_49, trivial, trivial⟩
theorem sX7_kept_31 : JSeg (jm jdX7_kept) [(31, .iconst 0, 0, 0), (32, .istore_n 2, 0, 0)] := ⟨by decide +kernel, trivial, trivial, trivial⟩
theorem sX7_kept_33 : JSeg (jm jdX7_kept) [(33, .iload_n 2, 0, 0), (34, .sipush 1253, 0, 0)] := ⟨by decide +kernel, trivial, trivial, trivial⟩
theorem sX7_kept_40 : JSeg (jm jdX7_kept) [(40, .aload_n 0, 0, 0), (41, .getfield 16, 7, 2), (44, .iload_n 2, 0, 0), (45, .aload_n 0, 0, 0), (46, .getfield 16, 7, 2), (49, .iload_n 2, 0, 0), (50, .sipush 179, 0, 0), (53, .iadd, 0, 0)] := ⟨by decide +kernel, trivial, fkX7_16, trivial, trivial, fkX7_16, trivial, trivial, trivial, trivial⟩
theorem sX7_kept_56 : JSeg (jm jdX7_kept) [(56, .iinc 2 1, 0, 0), (59, .goto (-26), 0, 0)] := ⟨by decide +kernel, trivial, trivial, trivial⟩
theorem sX7_kept_62 : JSeg (jm jdX7_kept) [(62, .aload_n 0, 0, 0), (63, .dup, 0, 0), (64, .getfield 49, 7, 3), (67, .iconst 1, 0, 0), (68, .isub, 0, 0), (69, .putfield 49, 7, 3)] := ⟨by decide +kernel, trivial, trivial, fkX7_49, trivial, trivial, fpX7_49, trivial⟩
theorem sX7_kept_72 : JSeg (jm jdX7_kept) [(72, .aload_n 0, 0, 0), (73, .getfield 13, 7, 1), (76, .iconst 0, 0, 0), (77, .aload_n 0, 0, 0), (78, .getfield 16, 7, 2), (81, .aload_n 0, 0, 0), (82, .getfield 49, 7, 3), (85, .sipush 179, 0, 0), (88, .imul, 0, 0)] := ⟨by decide +kernel, trivial, fkX7_13, trivial, trivial, fkX7_16, trivial, fkX7_49, trivial, trivial, trivial⟩
theorem sX7_kept_92 : JSeg (jm jdX7_kept) [(92, .aload_n 0, 0, 0), (93, .dup, 0, 0), (94, .getfield 49, 7, 3), (97, .iconst 1, 0, 0), (98, .iadd, 0, 0), (99, .putfield 49, 7, 3), (102, .iload_n 1, 0, 0)] := ⟨by decide +kernel, trivial, trivial, fkX7_49, trivial, trivial, fpX7_49, trivial, trivial⟩
theorem dX7_kept_4 : decode cX7_kept 4 = .ok (.ifCond .eq 18, 3) := by decide +kernel
theorem dX7_kept_17 : decode cX7_kept 17 = .ok (.invokestatic 45, 3) := by decide +kernel
theorem dX7_kept_21 : decode cX7_kept 21 = .ok (.ireturn, 1) := by decide +kernel
theorem dX7_kept_28 : decode cX7_kept 28 = .ok (.if_icmp .ne 44, 3) := by decide +kernel
theorem dX7_kept_37 : decode cX7_kept 37 = .ok (.if_icmp .ge 25, 3) := by decide +kernel
theorem dX7_kept_54 : decode cX7_kept 54 = .ok (.iaload, 1) := by decide +kernel
theorem dX7_kept_55 : decode cX7_kept 55 = .ok (.iastore, 1) := by decide +kernel
theorem dX7_kept_89 : decode cX7_kept 89 = .ok (.invokestatic 45, 3) := by decide +kernel
theorem dX7_kept_103 : decode cX7_kept 103 = .ok (.ireturn, 1) := by decide +kernel
theorem sX7_isTrack_0 : JSeg (jm jdX7_isTrack) [(0, .iload_n 1, 0, 0), (1, .iconst 0, 0, 0), (2, .aload_n 0, 0, 0), (3, .getfield 7, 7, 0), (6, .iconst 0, 0, 0), (7, .iaload, 0, 0), (8, .iconst 1, 0, 0), (9, .isub, 0, 0)] := ⟨by decide +kernel, trivial, trivial, trivial, fkX7_7, trivial, trivial, trivial, trivial, trivial⟩
theorem dX7_isTrack_10 : decode cX7_isTrack 10 = .ok (.invokestatic 52, 3) := by decide +kernel
theorem dX7_isTrack_13 : decode cX7_isTrack 13 = .ok (.ireturn, 1) := by decide +kernel
theorem sX7_areTracks_0 : JSeg (jm jdX7_areTracks) [(0, .aload_n 0, 0, 0), (1, .iload_n 1, 0, 0)] := ⟨by decide +kernel, trivial, trivial, trivial⟩
theorem sX7_areTracks_8 : JSeg (jm jdX7_areTracks) [(8, .aload_n 0, 0, 0), (9, .iload_n 2, 0, 0)] := ⟨by decide +kernel, trivial, trivial, trivial⟩
theorem sX7_areTracks_16 : JSeg (jm jdX7_areTracks) [(16, .iconst 1, 0, 0), (17, .goto 4, 0, 0)] := ⟨by decide +kernel, trivial, trivial, trivial⟩
theorem sX7_areTracks_20 : JSeg (jm jdX7_areTracks) [(20, .iconst 0, 0, 0)] := ⟨by decide +kernel, trivial, trivial⟩
theorem dX7_areTracks_2 : decode cX7_areTracks 2 = .ok (.invokevirtual 56, 3) := by decide +kernel
theorem dX7_areTracks_5 : decode cX7_areTracks 5 = .ok (.ifCond .eq 15, 3) := by decide +kernel
theorem dX7_areTracks_10 : decode cX7_areTracks 10 = .ok (.invokevirtual 56, 3) := by decide +kernel
theorem dX7_areTracks_13 : decode cX7_areTracks 13 = .ok (.ifCond .eq 7, 3) := by decide +kernel
theorem dX7_areTracks_21 : decode cX7_areTracks 21 = .ok (.ireturn, 1) := by decide +kernel
theorem sX7_isLinked_0 : JSeg (jm jdX7_isLinked) [(0, .aload_n 0, 0, 0), (1, .getfield 7, 7, 0), (4, .bipush 23, 0, 0), (6, .iload_n 1, 0, 0), (7, .iadd, 0, 0)] := ⟨by decide +kernel, trivial, fkX7_7, trivial, trivial, trivial, trivial⟩
theorem sX7_isLinked_9 : JSeg (jm jdX7_isLinked) [(9, .iload_n 2, 0, 0), (10, .ishr, 0, 0), (11, .iconst 1, 0, 0), (12, .iand, 0, 0), (13, .iconst 1, 0, 0)] := ⟨by decide +kernel, trivial, trivial, trivial, trivial, trivial, trivial⟩
theorem sX7_isLinked_17 : JSeg (jm jdX7_isLinked) [(17, .iconst 1, 0, 0), (18, .goto 4, 0, 0)] := ⟨by decide +kernel, trivial, trivial, trivial⟩
theorem sX7_isLinked_21 : JSeg (jm jdX7_isLinked) [(21, .iconst 0, 0, 0)] := ⟨by decide +kernel, trivial, trivial⟩
theorem dX7_isLinked_8 : decode cX7_isLinked 8 = .ok (.iaload, 1) := by decide +kernel
theorem dX7_isLinked_14 : decode cX7_isLinked 14 = .ok (.if_icmp .ne 7, 3) := by decide +kernel
theorem dX7_isLinked_22 : decode cX7_isLinked 22 = .ok (.ireturn, 1) := by decide +kernel
theorem sX7_slotOf_0 : JSeg (jm jdX7_slotOf) [(0, .iconst 0, 0, 0), (1, .istore_n 2, 0, 0)] := ⟨by decide +kernel, trivial, trivial, trivial⟩
theorem sX7_slotOf_2 : JSeg (jm jdX7_slotOf) [(2, .iload_n 2, 0, 0), (3, .aload_n 0, 0, 0), (4, .getfield 7, 7, 0), (7, .iconst 1, 0, 0), (8, .iaload, 0, 0)] := ⟨by decide +kernel, trivial, trivial, fkX7_7, trivial, trivial, trivial⟩
theorem sX7_slotOf_12 : JSeg (jm jdX7_slotOf) [(12, .aload_n 0, 0, 0), (13, .getfield 7, 7, 0), (16, .bipush 39, 0, 0), (18, .iload_n 2, 0, 0), (19, .iadd, 0, 0)] := ⟨by decide +kernel, trivial, fkX7_7, trivial, trivial, trivial, trivial⟩
theorem sX7_slotOf_21 : JSeg (jm jdX7_slotOf) [(21, .iload_n 1, 0, 0)] := ⟨by decide +kernel, trivial, trivial⟩
theorem sX7_slotOf_25 : JSeg (jm jdX7_slotOf) [(25, .iload_n 2, 0, 0)] := ⟨by decide +kernel, trivial, trivial⟩
theorem sX7_slotOf_27 : JSeg (jm jdX7_slotOf) [(27, .iinc 2 1, 0, 0), (30, .goto (-28), 0, 0)] := ⟨by decide +kernel, trivial, trivial, trivial⟩
theorem sX7_slotOf_33 : JSeg (jm jdX7_slotOf) [(33, .iconst (-1), 0, 0)] := ⟨by decide +kernel, trivial, trivial⟩
theorem dX7_slotOf_9 : decode cX7_slotOf 9 = .ok (.if_icmp .ge 24, 3) := by decide +kernel
theorem dX7_slotOf_20 : decode cX7_slotOf 20 = .ok (.iaload, 1) := by decide +kernel
theorem dX7_slotOf_22 : decode cX7_slotOf 22 = .ok (.if_icmp .ne 5, 3) := by decide +kernel
theorem dX7_slotOf_26 : decode cX7_slotOf 26 = .ok (.ireturn, 1) := by decide +kernel
theorem dX7_slotOf_34 : decode cX7_slotOf 34 = .ok (.ireturn, 1) := by decide +kernel
theorem sX7_slotAt_0 : JSeg (jm jdX7_slotAt) [(0, .iconst 0, 0, 0), (1, .istore_n 3, 0, 0)] := ⟨by decide +kernel, trivial, trivial, trivial⟩
theorem sX7_slotAt_2 : JSeg (jm jdX7_slotAt) [(2, .iload_n 3, 0, 0), (3, .aload_n 0, 0, 0), (4, .getfield 7, 7, 0), (7, .iconst 1, 0, 0), (8, .iaload, 0, 0)] := ⟨by decide +kernel, trivial, trivial, fkX7_7, trivial, trivial, trivial⟩
theorem sX7_slotAt_12 : JSeg (jm jdX7_slotAt) [(12, .aload_n 0, 0, 0), (13, .getfield 7, 7, 0), (16, .sipush 139, 0, 0), (19, .iload_n 3, 0, 0), (20, .iadd, 0, 0)] := ⟨by decide +kernel, trivial, fkX7_7, trivial, trivial, trivial, trivial⟩
theorem sX7_slotAt_22 : JSeg (jm jdX7_slotAt) [(22, .iload_n 1, 0, 0)] := ⟨by decide +kernel, trivial, trivial⟩
theorem sX7_slotAt_26 : JSeg (jm jdX7_slotAt) [(26, .aload_n 0, 0, 0), (27, .getfield 7, 7, 0), (30, .sipush 159, 0, 0), (33, .iload_n 3, 0, 0), (34, .iadd, 0, 0)] := ⟨by decide +kernel, trivial, fkX7_7, trivial, trivial, trivial, trivial⟩
theorem sX7_slotAt_36 : JSeg (jm jdX7_slotAt) [(36, .iload_n 2, 0, 0)] := ⟨by decide +kernel, trivial, trivial⟩
theorem sX7_slotAt_40 : JSeg (jm jdX7_slotAt) [(40, .iload_n 3, 0, 0)] := ⟨by decide +kernel, trivial, trivial⟩
theorem sX7_slotAt_42 : JSeg (jm jdX7_slotAt) [(42, .iinc 3 1, 0, 0), (45, .goto (-43), 0, 0)] := ⟨by decide +kernel, trivial, trivial, trivial⟩
theorem sX7_slotAt_48 : JSeg (jm jdX7_slotAt) [(48, .iconst (-1), 0, 0)] := ⟨by decide +kernel, trivial, trivial⟩
theorem dX7_slotAt_9 : decode cX7_slotAt 9 = .ok (.if_icmp .ge 39, 3) := by decide +kernel
theorem dX7_slotAt_21 : decode cX7_slotAt 21 = .ok (.iaload, 1) := by decide +kernel
theorem dX7_slotAt_23 : decode cX7_slotAt 23 = .ok (.if_icmp .ne 19, 3) := by decide +kernel
theorem dX7_slotAt_35 : decode cX7_slotAt 35 = .ok (.iaload, 1) := by decide +kernel
theorem dX7_slotAt_37 : decode cX7_slotAt 37 = .ok (.if_icmp .ne 5, 3) := by decide +kernel
theorem dX7_slotAt_41 : decode cX7_slotAt 41 = .ok (.ireturn, 1) := by decide +kernel
theorem dX7_slotAt_49 : decode cX7_slotAt 49 = .ok (.ireturn, 1) := by decide +kernel
theorem sX7_fromEnd_0 : JSeg (jm jdX7_fromEnd) [(0, .aload_n 0, 0, 0), (1, .iload_n 1, 0, 0), (2, .aload_n 0, 0, 0), (3, .getfield 7, 7, 0), (6, .bipush 31, 0, 0), (8, .iload_n 1, 0, 0), (9, .iadd, 0, 0)] := ⟨by decide +kernel, trivial, trivial, trivial, fkX7_7, trivial, trivial, trivial, trivial⟩
theorem sX7_fromEnd_11 : JSeg (jm jdX7_fromEnd) [(11, .iconst 1, 0, 0), (12, .isub, 0, 0), (13, .iload_n 2, 0, 0), (14, .isub, 0, 0)] := ⟨by decide +kernel, trivial, trivial, trivial, trivial, trivial⟩
theorem dX7_fromEnd_10 : decode cX7_fromEnd 10 = .ok (.iaload, 1) := by decide +kernel
theorem dX7_fromEnd_15 : decode cX7_fromEnd 15 = .ok (.invokevirtual 60, 3) := by decide +kernel
theorem dX7_fromEnd_18 : decode cX7_fromEnd 18 = .ok (.ireturn, 1) := by decide +kernel
theorem sX7_sumOn_0 : JSeg (jm jdX7_sumOn) [(0, .iconst 0, 0, 0), (1, .istore_n 3, 0, 0), (2, .iconst 0, 0, 0), (3, .istore 4, 0, 0)] := ⟨by decide +kernel, trivial, trivial, trivial, trivial, trivial⟩
theorem sX7_sumOn_5 : JSeg (jm jdX7_sumOn) [(5, .iload 4, 0, 0), (7, .aload_n 0, 0, 0), (8, .getfield 7, 7, 0), (11, .iconst 1, 0, 0), (12, .iaload, 0, 0)] := ⟨by decide +kernel, trivial, trivial, fkX7_7, trivial, trivial, trivial⟩
theorem sX7_sumOn_16 : JSeg (jm jdX7_sumOn) [(16, .iload_n 3, 0, 0), (17, .aload_n 0, 0, 0), (18, .getfield 7, 7, 0), (21, .sipush 139, 0, 0), (24, .iload 4, 0, 0), (26, .iadd, 0, 0)] := ⟨by decide +kernel, trivial, trivial, fkX7_7, trivial, trivial, trivial, trivial⟩
theorem sX7_sumOn_28 : JSeg (jm jdX7_sumOn) [(28, .iload_n 1, 0, 0)] := ⟨by decide +kernel, trivial, trivial⟩
theorem sX7_sumOn_32 : JSeg (jm jdX7_sumOn) [(32, .aload_n 0, 0, 0), (33, .getfield 7, 7, 0), (36, .iload_n 2, 0, 0), (37, .iload 4, 0, 0), (39, .iadd, 0, 0)] := ⟨by decide +kernel, trivial, fkX7_7, trivial, trivial, trivial, trivial⟩
theorem sX7_sumOn_41 : JSeg (jm jdX7_sumOn) [(41, .goto 4, 0, 0)] := ⟨by decide +kernel, trivial, trivial⟩
theorem sX7_sumOn_44 : JSeg (jm jdX7_sumOn) [(44, .iconst 0, 0, 0)] := ⟨by decide +kernel, trivial, trivial⟩
theorem sX7_sumOn_45 : JSeg (jm jdX7_sumOn) [(45, .iadd, 0, 0), (46, .istore_n 3, 0, 0), (47, .iinc 4 1, 0, 0), (50, .goto (-45), 0, 0)] := ⟨by decide +kernel, trivial, trivial, trivial, trivial, trivial⟩
theorem sX7_sumOn_53 : JSeg (jm jdX7_sumOn) [(53, .iload_n 3, 0, 0)] := ⟨by decide +kernel, trivial, trivial⟩
theorem dX7_sumOn_13 : decode cX7_sumOn 13 = .ok (.if_icmp .ge 40, 3) := by decide +kernel
theorem dX7_sumOn_27 : decode cX7_sumOn 27 = .ok (.iaload, 1) := by decide +kernel
theorem dX7_sumOn_29 : decode cX7_sumOn 29 = .ok (.if_icmp .ne 15, 3) := by decide +kernel
theorem dX7_sumOn_40 : decode cX7_sumOn 40 = .ok (.iaload, 1) := by decide +kernel
theorem dX7_sumOn_54 : decode cX7_sumOn 54 = .ok (.ireturn, 1) := by decide +kernel
theorem sX7_room_0 : JSeg (jm jdX7_room) [(0, .aload_n 0, 0, 0), (1, .getfield 7, 7, 0), (4, .bipush 7, 0, 0), (6, .iload_n 1, 0, 0), (7, .iadd, 0, 0)] := ⟨by decide +kernel, trivial, fkX7_7, trivial, trivial, trivial, trivial⟩
theorem sX7_room_9 : JSeg (jm jdX7_room) [(9, .aload_n 0, 0, 0), (10, .iload_n 1, 0, 0), (11, .bipush 59, 0, 0)] := ⟨by decide +kernel, trivial, trivial, trivial, trivial⟩
theorem sX7_room_16 : JSeg (jm jdX7_room) [(16, .isub, 0, 0)] := ⟨by decide +kernel, trivial, trivial⟩
theorem dX7_room_8 : decode cX7_room 8 = .ok (.iaload, 1) := by decide +kernel
theorem dX7_room_13 : decode cX7_room 13 = .ok (.invokevirtual 64, 3) := by decide +kernel
theorem dX7_room_17 : decode cX7_room 17 = .ok (.ireturn, 1) := by decide +kernel
theorem sX7_explores_0 : JSeg (jm jdX7_explores) [(0, .iconst 0, 0, 0), (1, .istore_n 2, 0, 0)] := ⟨by decide +kernel, trivial, trivial, trivial⟩
theorem sX7_explores_2 : JSeg (jm jdX7_explores) [(2, .iload_n 2, 0, 0), (3, .bipush 8, 0, 0)] := ⟨by decide +kernel, trivial, trivial, trivial⟩
theorem sX7_explores_8 : JSeg (jm jdX7_explores) [(8, .aload_n 0, 0, 0), (9, .getfield 36, 7, 13), (12, .iload_n 2, 0, 0), (13, .iload_n 2, 0, 0), (14, .iload_n 1, 0, 0)] := ⟨by decide +kernel, trivial, fkX7_36, trivial, trivial, trivial, trivial⟩
theorem sX7_explores_18 : JSeg (jm jdX7_explores) [(18, .iconst 0, 0, 0), (19, .goto 5, 0, 0)] := ⟨by decide +kernel, trivial, trivial, trivial⟩
theorem sX7_explores_22 : JSeg (jm jdX7_explores) [(22, .bipush 100, 0, 0)] := ⟨by decide +kernel, trivial, trivial⟩
theorem sX7_explores_25 : JSeg (jm jdX7_explores) [(25, .iinc 2 1, 0, 0), (28, .goto (-26), 0, 0)] := ⟨by decide +kernel, trivial, trivial, trivial⟩
theorem sX7_explores_31 : JSeg (jm jdX7_explores) [(31, .iconst 0, 0, 0), (32, .istore_n 2, 0, 0)] := ⟨by decide +kernel, trivial, trivial, trivial⟩
theorem sX7_explores_33 : JSeg (jm jdX7_explores) [(33, .iload_n 2, 0, 0), (34, .bipush 8, 0, 0)] := ⟨by decide +kernel, trivial, trivial, trivial⟩
theorem sX7_explores_39 : JSeg (jm jdX7_explores) [(39, .iconst 0, 0, 0), (40, .istore_n 3, 0, 0)] := ⟨by decide +kernel, trivial, trivial, trivial⟩
theorem sX7_explores_41 : JSeg (jm jdX7_explores) [(41, .iload_n 3, 0, 0), (42, .aload_n 0, 0, 0), (43, .getfield 7, 7, 0), (46, .iconst 0, 0, 0), (47, .iaload, 0, 0)] := ⟨by decide +kernel, trivial, trivial, fkX7_7, trivial, trivial, trivial⟩
theorem sX7_explores_51 : JSeg (jm jdX7_explores) [(51, .iconst 0, 0, 0), (52, .istore 4, 0, 0)] := ⟨by decide +kernel, trivial, trivial, trivial⟩
theorem sX7_explores_54 : JSeg (jm jdX7_explores) [(54, .iload 4, 0, 0), (56, .aload_n 0, 0, 0), (57, .getfield 7, 7, 0), (60, .iconst 0, 0, 0), (61, .iaload, 0, 0)] := ⟨by decide +kernel, trivial, trivial, fkX7_7, trivial, trivial, trivial⟩
theorem sX7_explores_65 : JSeg (jm jdX7_explores) [(65, .aload_n 0, 0, 0), (66, .iload_n 3, 0, 0), (67, .iload 4, 0, 0)] := ⟨by decide +kernel, trivial, trivial, trivial, trivial⟩
theorem sX7_explores_75 : JSeg (jm jdX7_explores) [(75, .aload_n 0, 0, 0), (76, .getfield 36, 7, 13), (79, .iload 4, 0, 0)] := ⟨by decide +kernel, trivial, fkX7_36, trivial, trivial⟩
theorem sX7_explores_82 : JSeg (jm jdX7_explores) [(82, .iconst 1, 0, 0), (83, .iadd, 0, 0), (84, .aload_n 0, 0, 0), (85, .getfield 36, 7, 13), (88, .iload_n 3, 0, 0)] := ⟨by decide +kernel, trivial, trivial, trivial, fkX7_36, trivial, trivial⟩
theorem sX7_explores_93 : JSeg (jm jdX7_explores) [(93, .iconst 1, 0, 0), (94, .goto 4, 0, 0)] := ⟨by decide +kernel, trivial, trivial, trivial⟩
theorem sX7_explores_97 : JSeg (jm jdX7_explores) [(97, .iconst 0, 0, 0)] := ⟨by decide +kernel, trivial, trivial⟩
theorem sX7_explores_98 : JSeg (jm jdX7_explores) [(98, .istore 5, 0, 0), (100, .aload_n 0, 0, 0), (101, .getfield 36, 7, 13), (104, .iload_n 3, 0, 0), (105, .iload 5, 0, 0)] := ⟨by decide +kernel, trivial, trivial, fkX7_36, trivial, trivial, trivial⟩
theorem sX7_explores_110 : JSeg (jm jdX7_explores) [(110, .aload_n 0, 0, 0), (111, .getfield 36, 7, 13), (114, .iload 4, 0, 0)] := ⟨by decide +kernel, trivial, fkX7_36, trivial, trivial⟩
theorem sX7_explores_117 : JSeg (jm jdX7_explores) [(117, .iconst 1, 0, 0), (118, .iadd, 0, 0), (119, .goto 9, 0, 0)] := ⟨by decide +kernel, trivial, trivial, trivial, trivial⟩
theorem sX7_explores_122 : JSeg (jm jdX7_explores) [(122, .aload_n 0, 0, 0), (123, .getfield 36, 7, 13), (126, .iload_n 3, 0, 0)] := ⟨by decide +kernel, trivial, fkX7_36, trivial, trivial⟩
theorem sX7_explores_129 : JSeg (jm jdX7_explores) [(129, .iinc 4 1, 0, 0), (132, .goto (-78), 0, 0)] := ⟨by decide +kernel, trivial, trivial, trivial⟩
theorem sX7_explores_135 : JSeg (jm jdX7_explores) [(135, .iinc 3 1, 0, 0), (138, .goto (-97), 0, 0)] := ⟨by decide +kernel, trivial, trivial, trivial⟩
theorem sX7_explores_141 : JSeg (jm jdX7_explores) [(141, .iinc 2 1, 0, 0), (144, .goto (-111), 0, 0)] := ⟨by decide +kernel, trivial, trivial, trivial⟩
theorem dX7_explores_5 : decode cX7_explores 5 = .ok (.if_icmp .ge 26, 3) := by decide +kernel
theorem dX7_explores_15 : decode cX7_explores 15 = .ok (.if_icmp .ne 7, 3) := by decide +kernel
theorem dX7_explores_24 : decode cX7_explores 24 = .ok (.iastore, 1) := by decide +kernel
theorem dX7_explores_36 : decode cX7_explores 36 = .ok (.if_icmp .ge 111, 3) := by decide +kernel
theorem dX7_explores_48 : decode cX7_explores 48 = .ok (.if_icmp .ge 93, 3) := by decide +kernel
theorem dX7_explores_62 : decode cX7_explores 62 = .ok (.if_icmp .ge 73, 3) := by decide +kernel
theorem dX7_explores_69 : decode cX7_explores 69 = .ok (.invokevirtual 67, 3) := by decide +kernel
theorem dX7_explores_72 : decode cX7_explores 72 = .ok (.ifCond .eq 25, 3) := by decide +kernel
theorem dX7_explores_81 : decode cX7_explores 81 = .ok (.iaload, 1) := by decide +kernel
theorem dX7_explores_89 : decode cX7_explores 89 = .ok (.iaload, 1) := by decide +kernel
theorem dX7_explores_90 : decode cX7_explores 90 = .ok (.if_icmp .ge 7, 3) := by decide +kernel
theorem dX7_explores_107 : decode cX7_explores 107 = .ok (.ifCond .eq 15, 3) := by decide +kernel
theorem dX7_explores_116 : decode cX7_explores 116 = .ok (.iaload, 1) := by decide +kernel
theorem dX7_explores_127 : decode cX7_explores 127 = .ok (.iaload, 1) := by decide +kernel
theorem dX7_explores_128 : decode cX7_explores 128 = .ok (.iastore, 1) := by decide +kernel
theorem dX7_explores_147 : decode cX7_explores 147 = .ok (.return_, 1) := by decide +kernel
theorem sX7_lengthOf_0 : JSeg (jm jdX7_lengthOf) [(0, .aload_n 0, 0, 0), (1, .iload_n 2, 0, 0)] := ⟨by decide +kernel, trivial, trivial, trivial⟩
theorem sX7_lengthOf_5 : JSeg (jm jdX7_lengthOf) [(5, .aload_n 0, 0, 0), (6, .getfield 36, 7, 13), (9, .iload_n 1, 0, 0)] := ⟨by decide +kernel, trivial, fkX7_36, trivial, trivial⟩
theorem dX7_lengthOf_2 : decode cX7_lengthOf 2 = .ok (.invokevirtual 71, 3) := by decide +kernel
theorem dX7_lengthOf_10 : decode cX7_lengthOf 10 = .ok (.iaload, 1) := by decide +kernel
theorem dX7_lengthOf_11 : decode cX7_lengthOf 11 = .ok (.ireturn, 1) := by decide +kernel
theorem sX7_addsTrack_0 : JSeg (jm jdX7_addsTrack) [(0, .iload_n 1, 0, 0), (1, .bipush 10, 0, 0), (3, .sipush 200, 0, 0)] := ⟨by decide +kernel, trivial, trivial, trivial, trivial⟩
theorem sX7_addsTrack_12 : JSeg (jm jdX7_addsTrack) [(12, .iload_n 2, 0, 0), (13, .iconst 0, 0, 0), (14, .iconst 5, 0, 0)] := ⟨by decide +kernel, trivial, trivial, trivial, trivial⟩
theorem sX7_addsTrack_21 : JSeg (jm jdX7_addsTrack) [(21, .aload_n 0, 0, 0), (22, .iconst 1, 0, 0)] := ⟨by decide +kernel, trivial, trivial, trivial⟩
theorem sX7_addsTrack_27 : JSeg (jm jdX7_addsTrack) [(27, .aload_n 0, 0, 0), (28, .getfield 7, 7, 0), (31, .iconst 0, 0, 0), (32, .iaload, 0, 0), (33, .istore_n 3, 0, 0), (34, .iload_n 3, 0, 0), (35, .bipush 8, 0, 0)] := ⟨by decide +kernel, trivial, fkX7_7, trivial, trivial, trivial, trivial, trivial, trivial⟩
theorem sX7_addsTrack_40 : JSeg (jm jdX7_addsTrack) [(40, .aload_n 0, 0, 0), (41, .iconst 2, 0, 0)] := ⟨by decide +kernel, trivial, trivial, trivial⟩
theorem sX7_addsTrack_46 : JSeg (jm jdX7_addsTrack) [(46, .aload_n 0, 0, 0), (47, .getfield 7, 7, 0), (50, .bipush 7, 0, 0), (52, .iload_n 3, 0, 0), (53, .iadd, 0, 0), (54, .iload_n 1, 0, 0)] := ⟨by decide +kernel, trivial, fkX7_7, trivial, trivial, trivial, trivial, trivial⟩
theorem sX7_addsTrack_56 : JSeg (jm jdX7_addsTrack) [(56, .aload_n 0, 0, 0), (57, .getfield 7, 7, 0), (60, .bipush 15, 0, 0), (62, .iload_n 3, 0, 0), (63, .iadd, 0, 0), (64, .iload_n 2, 0, 0)] := ⟨by decide +kernel, trivial, fkX7_7, trivial, trivial, trivial, trivial, trivial⟩
theorem sX7_addsTrack_66 : JSeg (jm jdX7_addsTrack) [(66, .aload_n 0, 0, 0), (67, .getfield 7, 7, 0), (70, .iconst 0, 0, 0), (71, .dup2, 0, 0)] := ⟨by decide +kernel, trivial, fkX7_7, trivial, trivial, trivial⟩
theorem sX7_addsTrack_73 : JSeg (jm jdX7_addsTrack) [(73, .iconst 1, 0, 0), (74, .iadd, 0, 0)] := ⟨by decide +kernel, trivial, trivial, trivial⟩
theorem sX7_addsTrack_76 : JSeg (jm jdX7_addsTrack) [(76, .aload_n 0, 0, 0), (77, .iload_n 3, 0, 0)] := ⟨by decide +kernel, trivial, trivial, trivial⟩
theorem dX7_addsTrack_6 : decode cX7_addsTrack 6 = .ok (.invokestatic 52, 3) := by decide +kernel
theorem dX7_addsTrack_9 : decode cX7_addsTrack 9 = .ok (.ifCond .eq 12, 3) := by decide +kernel
theorem dX7_addsTrack_15 : decode cX7_addsTrack 15 = .ok (.invokestatic 52, 3) := by decide +kernel
theorem dX7_addsTrack_18 : decode cX7_addsTrack 18 = .ok (.ifCond .ne 9, 3) := by decide +kernel
theorem dX7_addsTrack_23 : decode cX7_addsTrack 23 = .ok (.invokevirtual 75, 3) := by decide +kernel
theorem dX7_addsTrack_26 : decode cX7_addsTrack 26 = .ok (.ireturn, 1) := by decide +kernel
theorem dX7_addsTrack_37 : decode cX7_addsTrack 37 = .ok (.if_icmp .ne 9, 3) := by decide +kernel
theorem dX7_addsTrack_42 : decode cX7_addsTrack 42 = .ok (.invokevirtual 75, 3) := by decide +kernel
theorem dX7_addsTrack_45 : decode cX7_addsTrack 45 = .ok (.ireturn, 1) := by decide +kernel
theorem dX7_addsTrack_55 : decode cX7_addsTrack 55 = .ok (.iastore, 1) := by decide +kernel
theorem dX7_addsTrack_65 : decode cX7_addsTrack 65 = .ok (.iastore, 1) := by decide +kernel
theorem dX7_addsTrack_72 : decode cX7_addsTrack 72 = .ok (.iaload, 1) := by decide +kernel
theorem dX7_addsTrack_75 : decode cX7_addsTrack 75 = .ok (.iastore, 1) := by decide +kernel
theorem dX7_addsTrack_78 : decode cX7_addsTrack 78 = .ok (.invokevirtual 79, 3) := by decide +kernel
theorem dX7_addsTrack_81 : decode cX7_addsTrack 81 = .ok (.ireturn, 1) := by decide +kernel
theorem sX7_addTrack_0 : JSeg (jm jdX7_addTrack) [(0, .aload_n 0, 0, 0)] := ⟨by decide +kernel, trivial, trivial⟩
theorem sX7_addTrack_4 : JSeg (jm jdX7_addTrack) [(4, .aload_n 0, 0, 0), (5, .aload_n 0, 0, 0), (6, .iload_n 1, 0, 0), (7, .iload_n 2, 0, 0)] := ⟨by decide +kernel, trivial, trivial, trivial, trivial, trivial⟩
theorem dX7_addTrack_1 : decode cX7_addTrack 1 = .ok (.invokevirtual 82, 3) := by decide +kernel
theorem dX7_addTrack_8 : decode cX7_addTrack 8 = .ok (.invokevirtual 85, 3) := by decide +kernel
theorem dX7_addTrack_11 : decode cX7_addTrack 11 = .ok (.invokevirtual 88, 3) := by decide +kernel
theorem dX7_addTrack_14 : decode cX7_addTrack 14 = .ok (.ireturn, 1) := by decide +kernel
theorem sX7_links_0 : JSeg (jm jdX7_links) [(0, .iconst 0, 0, 0), (1, .istore_n 1, 0, 0), (2, .iconst 0, 0, 0), (3, .istore_n 2, 0, 0)] := ⟨by decide +kernel, trivial, trivial, trivial, trivial, trivial⟩
theorem sX7_links_4 : JSeg (jm jdX7_links) [(4, .iload_n 2, 0, 0), (5, .aload_n 0, 0, 0), (6, .getfield 7, 7, 0), (9, .iconst 0, 0, 0), (10, .iaload, 0, 0)] := ⟨by decide +kernel, trivial, trivial, fkX7_7, trivial, trivial, trivial⟩
theorem sX7_links_14 : JSeg (jm jdX7_links) [(14, .iconst 0, 0, 0), (15, .istore_n 3, 0, 0)] := ⟨by decide +kernel, trivial, trivial, trivial⟩
theorem sX7_links_16 : JSeg (jm jdX7_links) [(16, .iload_n 3, 0, 0), (17, .iload_n 2, 0, 0)] := ⟨by decide +kernel, trivial, trivial, trivial⟩
theorem sX7_links_21 : JSeg (jm jdX7_links) [(21, .iload_n 1, 0, 0), (22, .aload_n 0, 0, 0), (23, .iload_n 2, 0, 0), (24, .iload_n 3, 0, 0)] := ⟨by decide +kernel, trivial, trivial, trivial, trivial, trivial⟩
theorem sX7_links_31 : JSeg (jm jdX7_links) [(31, .iconst 1, 0, 0), (32, .goto 4, 0, 0)] := ⟨by decide +kernel, trivial, trivial, trivial⟩
theorem sX7_links_35 : JSeg (jm jdX7_links) [(35, .iconst 0, 0, 0)] := ⟨by decide +kernel, trivial, trivial⟩
theorem sX7_links_36 : JSeg (jm jdX7_links) [(36, .iadd, 0, 0), (37, .istore_n 1, 0, 0), (38, .iinc 3 1, 0, 0), (41, .goto (-25), 0, 0)] := ⟨by decide +kernel, trivial, trivial, trivial, trivial, trivial⟩
theorem sX7_links_44 : JSeg (jm jdX7_links) [(44, .iinc 2 1, 0, 0), (47, .goto (-43), 0, 0)] := ⟨by decide +kernel, trivial, trivial, trivial⟩
theorem sX7_links_50 : JSeg (jm jdX7_links) [(50, .iload_n 1, 0, 0)] := ⟨by decide +kernel, trivial, trivial⟩
theorem dX7_links_11 : decode cX7_links 11 = .ok (.if_icmp .ge 39, 3) := by decide +kernel
theorem dX7_links_18 : decode cX7_links 18 = .ok (.if_icmp .ge 26, 3) := by decide +kernel
theorem dX7_links_25 : decode cX7_links 25 = .ok (.invokevirtual 67, 3) := by decide +kernel
theorem dX7_links_28 : decode cX7_links 28 = .ok (.ifCond .eq 7, 3) := by decide +kernel
theorem dX7_links_51 : decode cX7_links 51 = .ok (.ireturn, 1) := by decide +kernel
theorem sX7_turnsLink_0 : JSeg (jm jdX7_turnsLink) [(0, .aload_n 0, 0, 0), (1, .getfield 7, 7, 0), (4, .bipush 23, 0, 0), (6, .iload_n 1, 0, 0), (7, .iadd, 0, 0), (8, .dup2, 0, 0)] := ⟨by decide +kernel, trivial, fkX7_7, trivial, trivial, trivial, trivial, trivial⟩
theorem sX7_turnsLink_10 : JSeg (jm jdX7_turnsLink) [(10, .iconst 1, 0, 0), (11, .iload_n 2, 0, 0), (12, .ishl, 0, 0), (13, .ixor, 0, 0)] := ⟨by decide +kernel, trivial, trivial, trivial, trivial, trivial⟩
theorem sX7_turnsLink_15 : JSeg (jm jdX7_turnsLink) [(15, .aload_n 0, 0, 0), (16, .getfield 7, 7, 0), (19, .bipush 23, 0, 0), (21, .iload_n 2, 0, 0), (22, .iadd, 0, 0), (23, .dup2, 0, 0)] := ⟨by decide +kernel, trivial, fkX7_7, trivial, trivial, trivial, trivial, trivial⟩
theorem sX7_turnsLink_25 : JSeg (jm jdX7_turnsLink) [(25, .iconst 1, 0, 0), (26, .iload_n 1, 0, 0), (27, .ishl, 0, 0), (28, .ixor, 0, 0)] := ⟨by decide +kernel, trivial, trivial, trivial, trivial, trivial⟩
theorem sX7_turnsLink_30 : JSeg (jm jdX7_turnsLink) [(30, .aload_n 0, 0, 0), (31, .aload_n 0, 0, 0)] := ⟨by decide +kernel, trivial, trivial, trivial⟩
theorem dX7_turnsLink_9 : decode cX7_turnsLink 9 = .ok (.iaload, 1) := by decide +kernel
theorem dX7_turnsLink_14 : decode cX7_turnsLink 14 = .ok (.iastore, 1) := by decide +kernel
theorem dX7_turnsLink_24 : decode cX7_turnsLink 24 = .ok (.iaload, 1) := by decide +kernel
theorem dX7_turnsLink_29 : decode cX7_turnsLink 29 = .ok (.iastore, 1) := by decide +kernel
theorem dX7_turnsLink_32 : decode cX7_turnsLink 32 = .ok (.invokevirtual 91, 3) := by decide +kernel
theorem dX7_turnsLink_35 : decode cX7_turnsLink 35 = .ok (.invokevirtual 79, 3) := by decide +kernel
theorem dX7_turnsLink_38 : decode cX7_turnsLink 38 = .ok (.ireturn, 1) := by decide +kernel
theorem sX7_connects_0 : JSeg (jm jdX7_connects) [(0, .aload_n 0, 0, 0), (1, .iload_n 1, 0, 0), (2, .iload_n 2, 0, 0)] := ⟨by decide +kernel, trivial, trivial, trivial, trivial⟩
theorem sX7_connects_9 : JSeg (jm jdX7_connects) [(9, .aload_n 0, 0, 0), (10, .iconst 1, 0, 0)] := ⟨by decide +kernel, trivial, trivial, trivial⟩
theorem sX7_connects_15 : JSeg (jm jdX7_connects) [(15, .iload_n 1, 0, 0), (16, .iload_n 2, 0, 0)] := ⟨by decide +kernel, trivial, trivial, trivial⟩
theorem sX7_connects_20 : JSeg (jm jdX7_connects) [(20, .aload_n 0, 0, 0), (21, .iconst 2, 0, 0)] := ⟨by decide +kernel, trivial, trivial, trivial⟩
theorem sX7_connects_26 : JSeg (jm jdX7_connects) [(26, .aload_n 0, 0, 0), (27, .iload_n 1, 0, 0), (28, .iload_n 2, 0, 0)] := ⟨by decide +kernel, trivial, trivial, trivial, trivial⟩
theorem sX7_connects_35 : JSeg (jm jdX7_connects) [(35, .aload_n 0, 0, 0), (36, .iconst 3, 0, 0)] := ⟨by decide +kernel, trivial, trivial, trivial⟩
theorem sX7_connects_40 : JSeg (jm jdX7_connects) [(40, .goto 9, 0, 0)] := ⟨by decide +kernel, trivial, trivial⟩
theorem sX7_connects_43 : JSeg (jm jdX7_connects) [(43, .aload_n 0, 0, 0), (44, .iload_n 1, 0, 0), (45, .iload_n 2, 0, 0)] := ⟨by decide +kernel, trivial, trivial, trivial, trivial⟩
theorem dX7_connects_3 : decode cX7_connects 3 = .ok (.invokevirtual 95, 3) := by decide +kernel
theorem dX7_connects_6 : decode cX7_connects 6 = .ok (.ifCond .ne 9, 3) := by decide +kernel
theorem dX7_connects_11 : decode cX7_connects 11 = .ok (.invokevirtual 75, 3) := by decide +kernel
theorem dX7_connects_14 : decode cX7_connects 14 = .ok (.ireturn, 1) := by decide +kernel
theorem dX7_connects_17 : decode cX7_connects 17 = .ok (.if_icmp .ne 9, 3) := by decide +kernel
theorem dX7_connects_22 : decode cX7_connects 22 = .ok (.invokevirtual 75, 3) := by decide +kernel
theorem dX7_connects_25 : decode cX7_connects 25 = .ok (.ireturn, 1) := by decide +kernel
theorem dX7_connects_29 : decode cX7_connects 29 = .ok (.invokevirtual 67, 3) := by decide +kernel
theorem dX7_connects_32 : decode cX7_connects 32 = .ok (.ifCond .eq 11, 3) := by decide +kernel
theorem dX7_connects_37 : decode cX7_connects 37 = .ok (.invokevirtual 75, 3) := by decide +kernel
theorem dX7_connects_46 : decode cX7_connects 46 = .ok (.invokevirtual 98, 3) := by decide +kernel
theorem dX7_connects_49 : decode cX7_connects 49 = .ok (.ireturn, 1) := by decide +kernel
theorem sX7_connect_0 : JSeg (jm jdX7_connect) [(0, .aload_n 0, 0, 0)] := ⟨by decide +kernel, trivial, trivial⟩
theorem sX7_connect_4 : JSeg (jm jdX7_connect) [(4, .aload_n 0, 0, 0), (5, .aload_n 0, 0, 0), (6, .iload_n 1, 0, 0), (7, .iload_n 2, 0, 0)] := ⟨by decide +kernel, trivial, trivial, trivial, trivial, trivial⟩
theorem dX7_connect_1 : decode cX7_connect 1 = .ok (.invokevirtual 82, 3) := by decide +kernel
theorem dX7_connect_8 : decode cX7_connect 8 = .ok (.invokevirtual 101, 3) := by decide +kernel
theorem dX7_connect_11 : decode cX7_connect 11 = .ok (.invokevirtual 88, 3) := by decide +kernel
theorem dX7_connect_14 : decode cX7_connect 14 = .ok (.ireturn, 1) := by decide +kernel
theorem sX7_disconnects_0 : JSeg (jm jdX7_disconnects) [(0, .aload_n 0, 0, 0), (1, .iload_n 1, 0, 0), (2, .iload_n 2, 0, 0)] := ⟨by decide +kernel, trivial, trivial, trivial, trivial⟩
theorem sX7_disconnects_9 : JSeg (jm jdX7_disconnects) [(9, .aload_n 0, 0, 0), (10, .iconst 1, 0, 0)] := ⟨by decide +kernel, trivial, trivial, trivial⟩
theorem sX7_disconnects_15 : JSeg (jm jdX7_disconnects) [(15, .aload_n 0, 0, 0), (16, .iload_n 1, 0, 0), (17, .iload_n 2, 0, 0)] := ⟨by decide +kernel, trivial, trivial, trivial, trivial⟩
theorem sX7_disconnects_24 : JSeg (jm jdX7_disconnects) [(24, .aload_n 0, 0, 0), (25, .iload_n 1, 0, 0), (26, .iload_n 2, 0, 0)] := ⟨by decide +kernel, trivial, trivial, trivial, trivial⟩
theorem sX7_disconnects_30 : JSeg (jm jdX7_disconnects) [(30, .goto 8, 0, 0)] := ⟨by decide +kernel, trivial, trivial⟩
theorem sX7_disconnects_33 : JSeg (jm jdX7_disconnects) [(33, .aload_n 0, 0, 0), (34, .iconst 2, 0, 0)] := ⟨by decide +kernel, trivial, trivial, trivial⟩
theorem dX7_disconnects_3 : decode cX7_disconnects 3 = .ok (.invokevirtual 95, 3) := by decide +kernel
theorem dX7_disconnects_6 : decode cX7_disconnects 6 = .ok (.ifCond .ne 9, 3) := by decide +kernel
theorem dX7_disconnects_11 : decode cX7_disconnects 11 = .ok (.invokevirtual 75, 3) := by decide +kernel
theorem dX7_disconnects_14 : decode cX7_disconnects 14 = .ok (.ireturn, 1) := by decide +kernel
theorem dX7_disconnects_18 : decode cX7_disconnects 18 = .ok (.invokevirtual 67, 3) := by decide +kernel
theorem dX7_disconnects_21 : decode cX7_disconnects 21 = .ok (.ifCond .eq 12, 3) := by decide +kernel
theorem dX7_disconnects_27 : decode cX7_disconnects 27 = .ok (.invokevirtual 98, 3) := by decide +kernel
theorem dX7_disconnects_35 : decode cX7_disconnects 35 = .ok (.invokevirtual 75, 3) := by decide +kernel
theorem dX7_disconnects_38 : decode cX7_disconnects 38 = .ok (.ireturn, 1) := by decide +kernel
theorem sX7_disconnect_0 : JSeg (jm jdX7_disconnect) [(0, .aload_n 0, 0, 0)] := ⟨by decide +kernel, trivial, trivial⟩
theorem sX7_disconnect_4 : JSeg (jm jdX7_disconnect) [(4, .aload_n 0, 0, 0), (5, .aload_n 0, 0, 0), (6, .iload_n 1, 0, 0), (7, .iload_n 2, 0, 0)] := ⟨by decide +kernel, trivial, trivial, trivial, trivial, trivial⟩
theorem dX7_disconnect_1 : decode cX7_disconnect 1 = .ok (.invokevirtual 82, 3) := by decide +kernel
theorem dX7_disconnect_8 : decode cX7_disconnect 8 = .ok (.invokevirtual 104, 3) := by decide +kernel
theorem dX7_disconnect_11 : decode cX7_disconnect 11 = .ok (.invokevirtual 88, 3) := by decide +kernel
theorem dX7_disconnect_14 : decode cX7_disconnect 14 = .ok (.ireturn, 1) := by decide +kernel
theorem sX7_addsCar_0 : JSeg (jm jdX7_addsCar) [(0, .aload_n 0, 0, 0), (1, .iload_n 1, 0, 0)] := ⟨by decide +kernel, trivial, trivial, trivial⟩
theorem sX7_addsCar_8 : JSeg (jm jdX7_addsCar) [(8, .aload_n 0, 0, 0), (9, .iconst 1, 0, 0)] := ⟨by decide +kernel, trivial, trivial, trivial⟩
theorem sX7_addsCar_14 : JSeg (jm jdX7_addsCar) [(14, .iload_n 2, 0, 0), (15, .iconst 5, 0, 0), (16, .bipush 30, 0, 0)] := ⟨by decide +kernel, trivial, trivial, trivial, trivial⟩
theorem sX7_addsCar_24 : JSeg (jm jdX7_addsCar) [(24, .iload_n 3, 0, 0), (25, .bipush 10, 0, 0), (27, .bipush 90, 0, 0)] := ⟨by decide +kernel, trivial, trivial, trivial, trivial⟩
theorem sX7_addsCar_35 : JSeg (jm jdX7_addsCar) [(35, .iload 4, 0, 0), (37, .iconst 0, 0, 0), (38, .bipush 9, 0, 0)] := ⟨by decide +kernel, trivial, trivial, trivial, trivial⟩
theorem sX7_addsCar_46 : JSeg (jm jdX7_addsCar) [(46, .aload_n 0, 0, 0), (47, .iconst 2, 0, 0)] := ⟨by decide +kernel, trivial, trivial, trivial⟩
theorem sX7_addsCar_52 : JSeg (jm jdX7_addsCar) [(52, .aload_n 0, 0, 0), (53, .getfield 7, 7, 0), (56, .iconst 1, 0, 0), (57, .iaload, 0, 0), (58, .istore 6, 0, 0), (60, .iload 6, 0, 0), (62, .bipush 20, 0, 0)] := ⟨by decide +kernel, trivial, fkX7_7, trivial, trivial, trivial, trivial, trivial, trivial⟩
theorem sX7_addsCar_67 : JSeg (jm jdX7_addsCar) [(67, .aload_n 0, 0, 0), (68, .iconst 3, 0, 0)] := ⟨by decide +kernel, trivial, trivial, trivial⟩
theorem sX7_addsCar_73 : JSeg (jm jdX7_addsCar) [(73, .aload_n 0, 0, 0), (74, .iload_n 1, 0, 0)] := ⟨by decide +kernel, trivial, trivial, trivial⟩
theorem sX7_addsCar_78 : JSeg (jm jdX7_addsCar) [(78, .iload_n 2, 0, 0)] := ⟨by decide +kernel, trivial, trivial⟩
theorem sX7_addsCar_82 : JSeg (jm jdX7_addsCar) [(82, .aload_n 0, 0, 0), (83, .iconst 4, 0, 0)] := ⟨by decide +kernel, trivial, trivial, trivial⟩
theorem sX7_addsCar_88 : JSeg (jm jdX7_addsCar) [(88, .aload_n 0, 0, 0), (89, .getfield 7, 7, 0), (92, .bipush 39, 0, 0), (94, .iload 6, 0, 0), (96, .iadd, 0, 0), (97, .aload_n 0, 0, 0), (98, .getfield 7, 7, 0), (101, .iconst 2, 0, 0), (102, .iaload, 0, 0)] := ⟨by decide +kernel, trivial, fkX7_7, trivial, trivial, trivial, trivial, fkX7_7, trivial, trivial, trivial⟩
theorem sX7_addsCar_104 : JSeg (jm jdX7_addsCar) [(104, .aload_n 0, 0, 0), (105, .getfield 7, 7, 0), (108, .bipush 59, 0, 0), (110, .iload 6, 0, 0), (112, .iadd, 0, 0), (113, .iload_n 2, 0, 0)] := ⟨by decide +kernel, trivial, fkX7_7, trivial, trivial, trivial, trivial, trivial⟩
theorem sX7_addsCar_115 : JSeg (jm jdX7_addsCar) [(115, .aload_n 0, 0, 0), (116, .getfield 7, 7, 0), (119, .bipush 79, 0, 0), (121, .iload 6, 0, 0), (123, .iadd, 0, 0), (124, .iload_n 3, 0, 0)] := ⟨by decide +kernel, trivial, fkX7_7, trivial, trivial, trivial, trivial, trivial⟩
theorem sX7_addsCar_126 : JSeg (jm jdX7_addsCar) [(126, .aload_n 0, 0, 0), (127, .getfield 7, 7, 0), (130, .bipush 99, 0, 0), (132, .iload 6, 0, 0), (134, .iadd, 0, 0), (135, .iload 4, 0, 0)] := ⟨by decide +kernel, trivial, fkX7_7, trivial, trivial, trivial, trivial, trivial⟩
theorem sX7_addsCar_138 : JSeg (jm jdX7_addsCar) [(138, .aload_n 0, 0, 0), (139, .getfield 7, 7, 0), (142, .bipush 119, 0, 0), (144, .iload 6, 0, 0), (146, .iadd, 0, 0), (147, .iload 5, 0, 0)] := ⟨by decide +kernel, trivial, fkX7_7, trivial, trivial, trivial, trivial, trivial⟩
theorem sX7_addsCar_150 : JSeg (jm jdX7_addsCar) [(150, .aload_n 0, 0, 0), (151, .getfield 7, 7, 0), (154, .sipush 139, 0, 0), (157, .iload 6, 0, 0), (159, .iadd, 0, 0), (160, .iload_n 1, 0, 0)] := ⟨by decide +kernel, trivial, fkX7_7, trivial, trivial, trivial, trivial, trivial⟩
theorem sX7_addsCar_162 : JSeg (jm jdX7_addsCar) [(162, .aload_n 0, 0, 0), (163, .getfield 7, 7, 0), (166, .sipush 159, 0, 0), (169, .iload 6, 0, 0), (171, .iadd, 0, 0), (172, .aload_n 0, 0, 0), (173, .getfield 7, 7, 0), (176, .bipush 31, 0, 0), (178, .iload_n 1, 0, 0), (179, .iadd, 0, 0)] := ⟨by decide +kernel, trivial, fkX7_7, trivial, trivial, trivial, trivial, fkX7_7, trivial, trivial, trivial, trivial⟩
theorem sX7_addsCar_182 : JSeg (jm jdX7_addsCar) [(182, .aload_n 0, 0, 0), (183, .getfield 7, 7, 0), (186, .bipush 31, 0, 0), (188, .iload_n 1, 0, 0), (189, .iadd, 0, 0), (190, .dup2, 0, 0)] := ⟨by decide +kernel, trivial, fkX7_7, trivial, trivial, trivial, trivial, trivial⟩
theorem sX7_addsCar_192 : JSeg (jm jdX7_addsCar) [(192, .iconst 1, 0, 0), (193, .iadd, 0, 0)] := ⟨by decide +kernel, trivial, trivial, trivial⟩
theorem sX7_addsCar_195 : JSeg (jm jdX7_addsCar) [(195, .aload_n 0, 0, 0), (196, .getfield 7, 7, 0), (199, .iconst 1, 0, 0), (200, .dup2, 0, 0)] := ⟨by decide +kernel, trivial, fkX7_7, trivial, trivial, trivial⟩
theorem sX7_addsCar_202 : JSeg (jm jdX7_addsCar) [(202, .iconst 1, 0, 0), (203, .iadd, 0, 0)] := ⟨by decide +kernel, trivial, trivial, trivial⟩
theorem sX7_addsCar_205 : JSeg (jm jdX7_addsCar) [(205, .aload_n 0, 0, 0), (206, .getfield 7, 7, 0), (209, .iconst 2, 0, 0), (210, .dup2, 0, 0)] := ⟨by decide +kernel, trivial, fkX7_7, trivial, trivial, trivial⟩
theorem sX7_addsCar_212 : JSeg (jm jdX7_addsCar) [(212, .iconst 1, 0, 0), (213, .iadd, 0, 0)] := ⟨by decide +kernel, trivial, trivial, trivial⟩
theorem sX7_addsCar_215 : JSeg (jm jdX7_addsCar) [(215, .aload_n 0, 0, 0), (216, .aload_n 0, 0, 0), (217, .getfield 7, 7, 0), (220, .bipush 39, 0, 0), (222, .iload 6, 0, 0), (224, .iadd, 0, 0)] := ⟨by decide +kernel, trivial, trivial, fkX7_7, trivial, trivial, trivial, trivial⟩
theorem dX7_addsCar_2 : decode cX7_addsCar 2 = .ok (.invokevirtual 56, 3) := by decide +kernel
theorem dX7_addsCar_5 : decode cX7_addsCar 5 = .ok (.ifCond .ne 9, 3) := by decide +kernel
theorem dX7_addsCar_10 : decode cX7_addsCar 10 = .ok (.invokevirtual 75, 3) := by decide +kernel
theorem dX7_addsCar_13 : decode cX7_addsCar 13 = .ok (.ireturn, 1) := by decide +kernel
theorem dX7_addsCar_18 : decode cX7_addsCar 18 = .ok (.invokestatic 52, 3) := by decide +kernel
theorem dX7_addsCar_21 : decode cX7_addsCar 21 = .ok (.ifCond .eq 25, 3) := by decide +kernel
theorem dX7_addsCar_29 : decode cX7_addsCar 29 = .ok (.invokestatic 52, 3) := by decide +kernel
theorem dX7_addsCar_32 : decode cX7_addsCar 32 = .ok (.ifCond .eq 14, 3) := by decide +kernel
theorem dX7_addsCar_40 : decode cX7_addsCar 40 = .ok (.invokestatic 52, 3) := by decide +kernel
theorem dX7_addsCar_43 : decode cX7_addsCar 43 = .ok (.ifCond .ne 9, 3) := by decide +kernel
theorem dX7_addsCar_48 : decode cX7_addsCar 48 = .ok (.invokevirtual 75, 3) := by decide +kernel
theorem dX7_addsCar_51 : decode cX7_addsCar 51 = .ok (.ireturn, 1) := by decide +kernel
theorem dX7_addsCar_64 : decode cX7_addsCar 64 = .ok (.if_icmp .ne 9, 3) := by decide +kernel
theorem dX7_addsCar_69 : decode cX7_addsCar 69 = .ok (.invokevirtual 75, 3) := by decide +kernel
theorem dX7_addsCar_72 : decode cX7_addsCar 72 = .ok (.ireturn, 1) := by decide +kernel
theorem dX7_addsCar_75 : decode cX7_addsCar 75 = .ok (.invokevirtual 107, 3) := by decide +kernel
theorem dX7_addsCar_79 : decode cX7_addsCar 79 = .ok (.if_icmp .ge 9, 3) := by decide +kernel
theorem dX7_addsCar_84 : decode cX7_addsCar 84 = .ok (.invokevirtual 75, 3) := by decide +kernel
theorem dX7_addsCar_87 : decode cX7_addsCar 87 = .ok (.ireturn, 1) := by decide +kernel
theorem dX7_addsCar_103 : decode cX7_addsCar 103 = .ok (.iastore, 1) := by decide +kernel
theorem dX7_addsCar_114 : decode cX7_addsCar 114 = .ok (.iastore, 1) := by decide +kernel
theorem dX7_addsCar_125 : decode cX7_addsCar 125 = .ok (.iastore, 1) := by decide +kernel
theorem dX7_addsCar_137 : decode cX7_addsCar 137 = .ok (.iastore, 1) := by decide +kernel
theorem dX7_addsCar_149 : decode cX7_addsCar 149 = .ok (.iastore, 1) := by decide +kernel
theorem dX7_addsCar_161 : decode cX7_addsCar 161 = .ok (.iastore, 1) := by decide +kernel
theorem dX7_addsCar_180 : decode cX7_addsCar 180 = .ok (.iaload, 1) := by decide +kernel
theorem dX7_addsCar_181 : decode cX7_addsCar 181 = .ok (.iastore, 1) := by decide +kernel
theorem dX7_addsCar_191 : decode cX7_addsCar 191 = .ok (.iaload, 1) := by decide +kernel
theorem dX7_addsCar_194 : decode cX7_addsCar 194 = .ok (.iastore, 1) := by decide +kernel
theorem dX7_addsCar_201 : decode cX7_addsCar 201 = .ok (.iaload, 1) := by decide +kernel
theorem dX7_addsCar_204 : decode cX7_addsCar 204 = .ok (.iastore, 1) := by decide +kernel
theorem dX7_addsCar_211 : decode cX7_addsCar 211 = .ok (.iaload, 1) := by decide +kernel
theorem dX7_addsCar_214 : decode cX7_addsCar 214 = .ok (.iastore, 1) := by decide +kernel
theorem dX7_addsCar_225 : decode cX7_addsCar 225 = .ok (.iaload, 1) := by decide +kernel
theorem dX7_addsCar_226 : decode cX7_addsCar 226 = .ok (.invokevirtual 79, 3) := by decide +kernel
theorem dX7_addsCar_229 : decode cX7_addsCar 229 = .ok (.ireturn, 1) := by decide +kernel
theorem sX7_addCar_0 : JSeg (jm jdX7_addCar) [(0, .aload_n 0, 0, 0)] := ⟨by decide +kernel, trivial, trivial⟩
theorem sX7_addCar_4 : JSeg (jm jdX7_addCar) [(4, .aload_n 0, 0, 0), (5, .aload_n 0, 0, 0), (6, .iload_n 1, 0, 0), (7, .iload_n 2, 0, 0), (8, .iload_n 3, 0, 0), (9, .iload 4, 0, 0), (11, .iload 5, 0, 0)] := ⟨by decide +kernel, trivial, trivial, trivial, trivial, trivial, trivial, trivial, trivial⟩
theorem sX7_addCar_16 : JSeg (jm jdX7_addCar) [(16, .iconst 1, 0, 0), (17, .goto 4, 0, 0)] := ⟨by decide +kernel, trivial, trivial, trivial⟩
theorem sX7_addCar_20 : JSeg (jm jdX7_addCar) [(20, .iconst 0, 0, 0)] := ⟨by decide +kernel, trivial, trivial⟩
theorem dX7_addCar_1 : decode cX7_addCar 1 = .ok (.invokevirtual 82, 3) := by decide +kernel
theorem dX7_addCar_13 : decode cX7_addCar 13 = .ok (.ifCond .eq 7, 3) := by decide +kernel
theorem dX7_addCar_21 : decode cX7_addCar 21 = .ok (.invokevirtual 110, 3) := by decide +kernel
theorem dX7_addCar_24 : decode cX7_addCar 24 = .ok (.invokevirtual 88, 3) := by decide +kernel
theorem dX7_addCar_27 : decode cX7_addCar 27 = .ok (.ireturn, 1) := by decide +kernel
theorem sX7_whyNot_0 : JSeg (jm jdX7_whyNot) [(0, .aload_n 0, 0, 0), (1, .iload_n 1, 0, 0), (2, .iload_n 2, 0, 0)] := ⟨by decide +kernel, trivial, trivial, trivial, trivial⟩
theorem sX7_whyNot_9 : JSeg (jm jdX7_whyNot) [(9, .iconst 1, 0, 0)] := ⟨by decide +kernel, trivial, trivial⟩
theorem sX7_whyNot_11 : JSeg (jm jdX7_whyNot) [(11, .iload_n 1, 0, 0), (12, .iload_n 2, 0, 0)] := ⟨by decide +kernel, trivial, trivial, trivial⟩
theorem sX7_whyNot_16 : JSeg (jm jdX7_whyNot) [(16, .iload_n 3, 0, 0), (17, .iconst 1, 0, 0), (18, .bipush 9, 0, 0)] := ⟨by decide +kernel, trivial, trivial, trivial, trivial⟩
theorem sX7_whyNot_26 : JSeg (jm jdX7_whyNot) [(26, .iconst 2, 0, 0)] := ⟨by decide +kernel, trivial, trivial⟩
theorem sX7_whyNot_28 : JSeg (jm jdX7_whyNot) [(28, .aload_n 0, 0, 0), (29, .getfield 7, 7, 0), (32, .bipush 31, 0, 0), (34, .iload_n 1, 0, 0), (35, .iadd, 0, 0)] := ⟨by decide +kernel, trivial, fkX7_7, trivial, trivial, trivial, trivial⟩
theorem sX7_whyNot_37 : JSeg (jm jdX7_whyNot) [(37, .iload_n 3, 0, 0)] := ⟨by decide +kernel, trivial, trivial⟩
theorem sX7_whyNot_41 : JSeg (jm jdX7_whyNot) [(41, .iconst 3, 0, 0)] := ⟨by decide +kernel, trivial, trivial⟩
theorem sX7_whyNot_43 : JSeg (jm jdX7_whyNot) [(43, .aload_n 0, 0, 0), (44, .iload_n 1, 0, 0), (45, .iload_n 2, 0, 0)] := ⟨by decide +kernel, trivial, trivial, trivial, trivial⟩
theorem sX7_whyNot_49 : JSeg (jm jdX7_whyNot) [(49, .bipush 100, 0, 0)] := ⟨by decide +kernel, trivial, trivial⟩
theorem sX7_whyNot_54 : JSeg (jm jdX7_whyNot) [(54, .iconst 4, 0, 0)] := ⟨by decide +kernel, trivial, trivial⟩
theorem sX7_whyNot_56 : JSeg (jm jdX7_whyNot) [(56, .iconst 0, 0, 0), (57, .istore 4, 0, 0), (59, .iconst 0, 0, 0), (60, .istore 5, 0, 0)] := ⟨by decide +kernel, trivial, trivial, trivial, trivial, trivial⟩
theorem sX7_whyNot_62 : JSeg (jm jdX7_whyNot) [(62, .iload 5, 0, 0), (64, .iload_n 3, 0, 0)] := ⟨by decide +kernel, trivial, trivial, trivial⟩
theorem sX7_whyNot_68 : JSeg (jm jdX7_whyNot) [(68, .iload 4, 0, 0), (70, .aload_n 0, 0, 0), (71, .getfield 7, 7, 0), (74, .bipush 59, 0, 0), (76, .aload_n 0, 0, 0), (77, .iload_n 1, 0, 0), (78, .iload 5, 0, 0)] := ⟨by decide +kernel, trivial, trivial, fkX7_7, trivial, trivial, trivial, trivial, trivial⟩
theorem sX7_whyNot_83 : JSeg (jm jdX7_whyNot) [(83, .iadd, 0, 0)] := ⟨by decide +kernel, trivial, trivial⟩
theorem sX7_whyNot_85 : JSeg (jm jdX7_whyNot) [(85, .iadd, 0, 0), (86, .istore 4, 0, 0), (88, .iinc 5 1, 0, 0), (91, .goto (-29), 0, 0)] := ⟨by decide +kernel, trivial, trivial, trivial, trivial, trivial⟩
theorem sX7_whyNot_94 : JSeg (jm jdX7_whyNot) [(94, .aload_n 0, 0, 0), (95, .iload_n 2, 0, 0)] := ⟨by decide +kernel, trivial, trivial, trivial⟩
theorem sX7_whyNot_99 : JSeg (jm jdX7_whyNot) [(99, .iload 4, 0, 0)] := ⟨by decide +kernel, trivial, trivial⟩
theorem sX7_whyNot_104 : JSeg (jm jdX7_whyNot) [(104, .iconst 5, 0, 0), (105, .goto 4, 0, 0)] := ⟨by decide +kernel, trivial, trivial, trivial⟩
theorem sX7_whyNot_108 : JSeg (jm jdX7_whyNot) [(108, .iconst 0, 0, 0)] := ⟨by decide +kernel, trivial, trivial⟩
theorem dX7_whyNot_3 : decode cX7_whyNot 3 = .ok (.invokevirtual 95, 3) := by decide +kernel
theorem dX7_whyNot_6 : decode cX7_whyNot 6 = .ok (.ifCond .ne 5, 3) := by decide +kernel
theorem dX7_whyNot_10 : decode cX7_whyNot 10 = .ok (.ireturn, 1) := by decide +kernel
theorem dX7_whyNot_13 : decode cX7_whyNot 13 = .ok (.if_icmp .eq 13, 3) := by decide +kernel
theorem dX7_whyNot_20 : decode cX7_whyNot 20 = .ok (.invokestatic 52, 3) := by decide +kernel
theorem dX7_whyNot_23 : decode cX7_whyNot 23 = .ok (.ifCond .ne 5, 3) := by decide +kernel
theorem dX7_whyNot_27 : decode cX7_whyNot 27 = .ok (.ireturn, 1) := by decide +kernel
theorem dX7_whyNot_36 : decode cX7_whyNot 36 = .ok (.iaload, 1) := by decide +kernel
theorem dX7_whyNot_38 : decode cX7_whyNot 38 = .ok (.if_icmp .ge 5, 3) := by decide +kernel
theorem dX7_whyNot_42 : decode cX7_whyNot 42 = .ok (.ireturn, 1) := by decide +kernel
theorem dX7_whyNot_46 : decode cX7_whyNot 46 = .ok (.invokevirtual 114, 3) := by decide +kernel
theorem dX7_whyNot_51 : decode cX7_whyNot 51 = .ok (.if_icmp .ne 5, 3) := by decide +kernel
theorem dX7_whyNot_55 : decode cX7_whyNot 55 = .ok (.ireturn, 1) := by decide +kernel
theorem dX7_whyNot_65 : decode cX7_whyNot 65 = .ok (.if_icmp .ge 29, 3) := by decide +kernel
theorem dX7_whyNot_80 : decode cX7_whyNot 80 = .ok (.invokevirtual 117, 3) := by decide +kernel
theorem dX7_whyNot_84 : decode cX7_whyNot 84 = .ok (.iaload, 1) := by decide +kernel
theorem dX7_whyNot_96 : decode cX7_whyNot 96 = .ok (.invokevirtual 107, 3) := by decide +kernel
theorem dX7_whyNot_101 : decode cX7_whyNot 101 = .ok (.if_icmp .ge 7, 3) := by decide +kernel
theorem dX7_whyNot_109 : decode cX7_whyNot 109 = .ok (.ireturn, 1) := by decide +kernel
theorem sX7_minutesFor_0 : JSeg (jm jdX7_minutesFor) [(0, .iconst 2, 0, 0), (1, .aload_n 0, 0, 0), (2, .iload_n 1, 0, 0), (3, .iload_n 2, 0, 0)] := ⟨by decide +kernel, trivial, trivial, trivial, trivial, trivial⟩
theorem sX7_minutesFor_7 : JSeg (jm jdX7_minutesFor) [(7, .iadd, 0, 0), (8, .istore 4, 0, 0), (10, .iconst 0, 0, 0), (11, .istore 5, 0, 0)] := ⟨by decide +kernel, trivial, trivial, trivial, trivial, trivial⟩
theorem sX7_minutesFor_13 : JSeg (jm jdX7_minutesFor) [(13, .iload 5, 0, 0), (15, .iload_n 3, 0, 0)] := ⟨by decide +kernel, trivial, trivial, trivial⟩
theorem sX7_minutesFor_19 : JSeg (jm jdX7_minutesFor) [(19, .iload 4, 0, 0), (21, .aload_n 0, 0, 0), (22, .getfield 7, 7, 0), (25, .bipush 15, 0, 0), (27, .iload_n 2, 0, 0), (28, .iadd, 0, 0)] := ⟨by decide +kernel, trivial, trivial, fkX7_7, trivial, trivial, trivial, trivial⟩
theorem sX7_minutesFor_30 : JSeg (jm jdX7_minutesFor) [(30, .aload_n 0, 0, 0), (31, .getfield 7, 7, 0), (34, .bipush 119, 0, 0), (36, .aload_n 0, 0, 0), (37, .iload_n 1, 0, 0), (38, .iload 5, 0, 0)] := ⟨by decide +kernel, trivial, fkX7_7, trivial, trivial, trivial, trivial, trivial⟩
theorem sX7_minutesFor_43 : JSeg (jm jdX7_minutesFor) [(43, .iadd, 0, 0)] := ⟨by decide +kernel, trivial, trivial⟩
theorem sX7_minutesFor_45 : JSeg (jm jdX7_minutesFor) [(45, .imul, 0, 0), (46, .iadd, 0, 0), (47, .istore 4, 0, 0), (49, .iinc 5 1, 0, 0), (52, .goto (-39), 0, 0)] := ⟨by decide +kernel, trivial, trivial, trivial, trivial, trivial, trivial⟩
theorem sX7_minutesFor_55 : JSeg (jm jdX7_minutesFor) [(55, .iload 4, 0, 0)] := ⟨by decide +kernel, trivial, trivial⟩
theorem dX7_minutesFor_4 : decode cX7_minutesFor 4 = .ok (.invokevirtual 114, 3) := by decide +kernel
theorem dX7_minutesFor_16 : decode cX7_minutesFor 16 = .ok (.if_icmp .ge 39, 3) := by decide +kernel
theorem dX7_minutesFor_29 : decode cX7_minutesFor 29 = .ok (.iaload, 1) := by decide +kernel
theorem dX7_minutesFor_40 : decode cX7_minutesFor 40 = .ok (.invokevirtual 117, 3) := by decide +kernel
theorem dX7_minutesFor_44 : decode cX7_minutesFor 44 = .ok (.iaload, 1) := by decide +kernel
theorem dX7_minutesFor_57 : decode cX7_minutesFor 57 = .ok (.ireturn, 1) := by decide +kernel
theorem sX7_shunts_0 : JSeg (jm jdX7_shunts) [(0, .aload_n 0, 0, 0), (1, .iload_n 1, 0, 0), (2, .iload_n 2, 0, 0), (3, .iload_n 3, 0, 0)] := ⟨by decide +kernel, trivial, trivial, trivial, trivial, trivial⟩
theorem sX7_shunts_7 : JSeg (jm jdX7_shunts) [(7, .istore 4, 0, 0), (9, .iload 4, 0, 0)] := ⟨by decide +kernel, trivial, trivial, trivial⟩
theorem sX7_shunts_14 : JSeg (jm jdX7_shunts) [(14, .aload_n 0, 0, 0), (15, .iload 4, 0, 0)] := ⟨by decide +kernel, trivial, trivial, trivial⟩
theorem sX7_shunts_21 : JSeg (jm jdX7_shunts) [(21, .aload_n 0, 0, 0), (22, .iload_n 1, 0, 0), (23, .iload_n 2, 0, 0), (24, .iload_n 3, 0, 0)] := ⟨by decide +kernel, trivial, trivial, trivial, trivial, trivial⟩
theorem sX7_shunts_28 : JSeg (jm jdX7_shunts) [(28, .istore 5, 0, 0), (30, .iconst 0, 0, 0), (31, .istore 6, 0, 0)] := ⟨by decide +kernel, trivial, trivial, trivial, trivial⟩
theorem sX7_shunts_33 : JSeg (jm jdX7_shunts) [(33, .iload 6, 0, 0), (35, .iload_n 3, 0, 0)] := ⟨by decide +kernel, trivial, trivial, trivial⟩
theorem sX7_shunts_39 : JSeg (jm jdX7_shunts) [(39, .aload_n 0, 0, 0), (40, .iload_n 1, 0, 0), (41, .iconst 0, 0, 0)] := ⟨by decide +kernel, trivial, trivial, trivial, trivial⟩
theorem sX7_shunts_45 : JSeg (jm jdX7_shunts) [(45, .istore 7, 0, 0), (47, .aload_n 0, 0, 0), (48, .getfield 7, 7, 0), (51, .sipush 139, 0, 0), (54, .iload 7, 0, 0), (56, .iadd, 0, 0), (57, .iload_n 2, 0, 0)] := ⟨by decide +kernel, trivial, trivial, fkX7_7, trivial, trivial, trivial, trivial, trivial⟩
theorem sX7_shunts_59 : JSeg (jm jdX7_shunts) [(59, .aload_n 0, 0, 0), (60, .getfield 7, 7, 0), (63, .sipush 159, 0, 0), (66, .iload 7, 0, 0), (68, .iadd, 0, 0), (69, .aload_n 0, 0, 0), (70, .getfield 7, 7, 0), (73, .bipush 31, 0, 0), (75, .iload_n 2, 0, 0), (76, .iadd, 0, 0)] := ⟨by decide +kernel, trivial, fkX7_7, trivial, trivial, trivial, trivial, fkX7_7, trivial, trivial, trivial, trivial⟩
theorem sX7_shunts_79 : JSeg (jm jdX7_shunts) [(79, .aload_n 0, 0, 0), (80, .getfield 7, 7, 0), (83, .bipush 31, 0, 0), (85, .iload_n 1, 0, 0), (86, .iadd, 0, 0), (87, .dup2, 0, 0)] := ⟨by decide +kernel, trivial, fkX7_7, trivial, trivial, trivial, trivial, trivial⟩
theorem sX7_shunts_89 : JSeg (jm jdX7_shunts) [(89, .iconst 1, 0, 0), (90, .isub, 0, 0)] := ⟨by decide +kernel, trivial, trivial, trivial⟩
theorem sX7_shunts_92 : JSeg (jm jdX7_shunts) [(92, .aload_n 0, 0, 0), (93, .getfield 7, 7, 0), (96, .bipush 31, 0, 0), (98, .iload_n 2, 0, 0), (99, .iadd, 0, 0), (100, .dup2, 0, 0)] := ⟨by decide +kernel, trivial, fkX7_7, trivial, trivial, trivial, trivial, trivial⟩
theorem sX7_shunts_102 : JSeg (jm jdX7_shunts) [(102, .iconst 1, 0, 0), (103, .iadd, 0, 0)] := ⟨by decide +kernel, trivial, trivial, trivial⟩
theorem sX7_shunts_105 : JSeg (jm jdX7_shunts) [(105, .iinc 6 1, 0, 0), (108, .goto (-75), 0, 0)] := ⟨by decide +kernel, trivial, trivial, trivial⟩
theorem sX7_shunts_111 : JSeg (jm jdX7_shunts) [(111, .aload_n 0, 0, 0), (112, .getfield 7, 7, 0), (115, .iconst 5, 0, 0), (116, .dup2, 0, 0)] := ⟨by decide +kernel, trivial, fkX7_7, trivial, trivial, trivial⟩
theorem sX7_shunts_118 : JSeg (jm jdX7_shunts) [(118, .iload 5, 0, 0), (120, .iadd, 0, 0)] := ⟨by decide +kernel, trivial, trivial, trivial⟩
theorem sX7_shunts_122 : JSeg (jm jdX7_shunts) [(122, .aload_n 0, 0, 0), (123, .getfield 7, 7, 0), (126, .iconst 3, 0, 0), (127, .dup2, 0, 0)] := ⟨by decide +kernel, trivial, fkX7_7, trivial, trivial, trivial⟩
theorem sX7_shunts_129 : JSeg (jm jdX7_shunts) [(129, .iconst 1, 0, 0), (130, .iadd, 0, 0)] := ⟨by decide +kernel, trivial, trivial, trivial⟩
theorem sX7_shunts_132 : JSeg (jm jdX7_shunts) [(132, .aload_n 0, 0, 0), (133, .iload 5, 0, 0)] := ⟨by decide +kernel, trivial, trivial, trivial⟩
theorem dX7_shunts_4 : decode cX7_shunts 4 = .ok (.invokevirtual 120, 3) := by decide +kernel
theorem dX7_shunts_11 : decode cX7_shunts 11 = .ok (.ifCond .le 10, 3) := by decide +kernel
theorem dX7_shunts_17 : decode cX7_shunts 17 = .ok (.invokevirtual 75, 3) := by decide +kernel
theorem dX7_shunts_20 : decode cX7_shunts 20 = .ok (.ireturn, 1) := by decide +kernel
theorem dX7_shunts_25 : decode cX7_shunts 25 = .ok (.invokevirtual 124, 3) := by decide +kernel
theorem dX7_shunts_36 : decode cX7_shunts 36 = .ok (.if_icmp .ge 75, 3) := by decide +kernel
theorem dX7_shunts_42 : decode cX7_shunts 42 = .ok (.invokevirtual 117, 3) := by decide +kernel
theorem dX7_shunts_58 : decode cX7_shunts 58 = .ok (.iastore, 1) := by decide +kernel
theorem dX7_shunts_77 : decode cX7_shunts 77 = .ok (.iaload, 1) := by decide +kernel
theorem dX7_shunts_78 : decode cX7_shunts 78 = .ok (.iastore, 1) := by decide +kernel
theorem dX7_shunts_88 : decode cX7_shunts 88 = .ok (.iaload, 1) := by decide +kernel
theorem dX7_shunts_91 : decode cX7_shunts 91 = .ok (.iastore, 1) := by decide +kernel
theorem dX7_shunts_101 : decode cX7_shunts 101 = .ok (.iaload, 1) := by decide +kernel
theorem dX7_shunts_104 : decode cX7_shunts 104 = .ok (.iastore, 1) := by decide +kernel
theorem dX7_shunts_117 : decode cX7_shunts 117 = .ok (.iaload, 1) := by decide +kernel
theorem dX7_shunts_121 : decode cX7_shunts 121 = .ok (.iastore, 1) := by decide +kernel
theorem dX7_shunts_128 : decode cX7_shunts 128 = .ok (.iaload, 1) := by decide +kernel
theorem dX7_shunts_131 : decode cX7_shunts 131 = .ok (.iastore, 1) := by decide +kernel
theorem dX7_shunts_135 : decode cX7_shunts 135 = .ok (.invokevirtual 79, 3) := by decide +kernel
theorem dX7_shunts_138 : decode cX7_shunts 138 = .ok (.ireturn, 1) := by decide +kernel
theorem sX7_shunt_0 : JSeg (jm jdX7_shunt) [(0, .aload_n 0, 0, 0)] := ⟨by decide +kernel, trivial, trivial⟩
theorem sX7_shunt_4 : JSeg (jm jdX7_shunt) [(4, .aload_n 0, 0, 0), (5, .aload_n 0, 0, 0), (6, .iload_n 1, 0, 0), (7, .iload_n 2, 0, 0), (8, .iload_n 3, 0, 0)] := ⟨by decide +kernel, trivial, trivial, trivial, trivial, trivial, trivial⟩
theorem dX7_shunt_1 : decode cX7_shunt 1 = .ok (.invokevirtual 82, 3) := by decide +kernel
theorem dX7_shunt_9 : decode cX7_shunt 9 = .ok (.invokevirtual 127, 3) := by decide +kernel
theorem dX7_shunt_12 : decode cX7_shunt 12 = .ok (.invokevirtual 88, 3) := by decide +kernel
theorem dX7_shunt_15 : decode cX7_shunt 15 = .ok (.ireturn, 1) := by decide +kernel
theorem sX7_repairs_0 : JSeg (jm jdX7_repairs) [(0, .aload_n 0, 0, 0), (1, .iload_n 1, 0, 0)] := ⟨by decide +kernel, trivial, trivial, trivial⟩
theorem sX7_repairs_5 : JSeg (jm jdX7_repairs) [(5, .istore_n 2, 0, 0), (6, .iload_n 2, 0, 0), (7, .iconst (-1), 0, 0)] := ⟨by decide +kernel, trivial, trivial, trivial, trivial⟩
theorem sX7_repairs_11 : JSeg (jm jdX7_repairs) [(11, .aload_n 0, 0, 0), (12, .iconst 1, 0, 0)] := ⟨by decide +kernel, trivial, trivial, trivial⟩
theorem sX7_repairs_17 : JSeg (jm jdX7_repairs) [(17, .aload_n 0, 0, 0), (18, .getfield 7, 7, 0), (21, .bipush 119, 0, 0), (23, .iload_n 2, 0, 0), (24, .iadd, 0, 0)] := ⟨by decide +kernel, trivial, fkX7_7, trivial, trivial, trivial, trivial⟩
theorem sX7_repairs_29 : JSeg (jm jdX7_repairs) [(29, .aload_n 0, 0, 0), (30, .iconst 2, 0, 0)] := ⟨by decide +kernel, trivial, trivial, trivial⟩
theorem sX7_repairs_35 : JSeg (jm jdX7_repairs) [(35, .aload_n 0, 0, 0), (36, .getfield 7, 7, 0), (39, .bipush 119, 0, 0), (41, .iload_n 2, 0, 0), (42, .iadd, 0, 0), (43, .iconst 0, 0, 0)] := ⟨by decide +kernel, trivial, fkX7_7, trivial, trivial, trivial, trivial, trivial⟩
theorem sX7_repairs_45 : JSeg (jm jdX7_repairs) [(45, .iconst 0, 0, 0), (46, .istore_n 3, 0, 0), (47, .iconst 0, 0, 0), (48, .istore 4, 0, 0)] := ⟨by decide +kernel, trivial, trivial, trivial, trivial, trivial⟩
theorem sX7_repairs_50 : JSeg (jm jdX7_repairs) [(50, .iload 4, 0, 0), (52, .aload_n 0, 0, 0), (53, .getfield 7, 7, 0), (56, .iconst 1, 0, 0), (57, .iaload, 0, 0)] := ⟨by decide +kernel, trivial, trivial, fkX7_7, trivial, trivial, trivial⟩
theorem sX7_repairs_61 : JSeg (jm jdX7_repairs) [(61, .iload_n 3, 0, 0), (62, .aload_n 0, 0, 0), (63, .getfield 7, 7, 0), (66, .bipush 119, 0, 0), (68, .iload 4, 0, 0), (70, .iadd, 0, 0)] := ⟨by decide +kernel, trivial, trivial, fkX7_7, trivial, trivial, trivial, trivial⟩
theorem sX7_repairs_72 : JSeg (jm jdX7_repairs) [(72, .iadd, 0, 0), (73, .istore_n 3, 0, 0), (74, .iinc 4 1, 0, 0), (77, .goto (-27), 0, 0)] := ⟨by decide +kernel, trivial, trivial, trivial, trivial, trivial⟩
theorem sX7_repairs_80 : JSeg (jm jdX7_repairs) [(80, .aload_n 0, 0, 0), (81, .iload_n 3, 0, 0)] := ⟨by decide +kernel, trivial, trivial, trivial⟩
theorem dX7_repairs_2 : decode cX7_repairs 2 = .ok (.invokevirtual 130, 3) := by decide +kernel
theorem dX7_repairs_8 : decode cX7_repairs 8 = .ok (.if_icmp .ne 9, 3) := by decide +kernel
theorem dX7_repairs_13 : decode cX7_repairs 13 = .ok (.invokevirtual 75, 3) := by decide +kernel
theorem dX7_repairs_16 : decode cX7_repairs 16 = .ok (.ireturn, 1) := by decide +kernel
theorem dX7_repairs_25 : decode cX7_repairs 25 = .ok (.iaload, 1) := by decide +kernel
theorem dX7_repairs_26 : decode cX7_repairs 26 = .ok (.ifCond .ne 9, 3) := by decide +kernel
theorem dX7_repairs_31 : decode cX7_repairs 31 = .ok (.invokevirtual 75, 3) := by decide +kernel
theorem dX7_repairs_34 : decode cX7_repairs 34 = .ok (.ireturn, 1) := by decide +kernel
theorem dX7_repairs_44 : decode cX7_repairs 44 = .ok (.iastore, 1) := by decide +kernel
theorem dX7_repairs_58 : decode cX7_repairs 58 = .ok (.if_icmp .ge 22, 3) := by decide +kernel
theorem dX7_repairs_71 : decode cX7_repairs 71 = .ok (.iaload, 1) := by decide +kernel
theorem dX7_repairs_82 : decode cX7_repairs 82 = .ok (.invokevirtual 79, 3) := by decide +kernel
theorem dX7_repairs_85 : decode cX7_repairs 85 = .ok (.ireturn, 1) := by decide +kernel
theorem sX7_repair_0 : JSeg (jm jdX7_repair) [(0, .aload_n 0, 0, 0)] := ⟨by decide +kernel, trivial, trivial⟩
theorem sX7_repair_4 : JSeg (jm jdX7_repair) [(4, .aload_n 0, 0, 0), (5, .aload_n 0, 0, 0), (6, .iload_n 1, 0, 0)] := ⟨by decide +kernel, trivial, trivial, trivial, trivial⟩
theorem dX7_repair_1 : decode cX7_repair 1 = .ok (.invokevirtual 82, 3) := by decide +kernel
theorem dX7_repair_7 : decode cX7_repair 7 = .ok (.invokevirtual 133, 3) := by decide +kernel
theorem dX7_repair_10 : decode cX7_repair 10 = .ok (.invokevirtual 88, 3) := by decide +kernel
theorem dX7_repair_13 : decode cX7_repair 13 = .ok (.ireturn, 1) := by decide +kernel
theorem sX7_train_0 : JSeg (jm jdX7_train) [(0, .iconst 0, 0, 0), (1, .istore_n 2, 0, 0)] := ⟨by decide +kernel, trivial, trivial, trivial⟩
theorem sX7_train_2 : JSeg (jm jdX7_train) [(2, .iload_n 2, 0, 0), (3, .aload_n 0, 0, 0), (4, .getfield 7, 7, 0), (7, .bipush 31, 0, 0), (9, .iload_n 1, 0, 0), (10, .iadd, 0, 0)] := ⟨by decide +kernel, trivial, trivial, fkX7_7, trivial, trivial, trivial, trivial⟩
theorem sX7_train_15 : JSeg (jm jdX7_train) [(15, .aload_n 0, 0, 0), (16, .getfield 7, 7, 0), (19, .bipush 99, 0, 0), (21, .aload_n 0, 0, 0), (22, .iload_n 1, 0, 0), (23, .iload_n 2, 0, 0)] := ⟨by decide +kernel, trivial, fkX7_7, trivial, trivial, trivial, trivial, trivial⟩
theorem sX7_train_27 : JSeg (jm jdX7_train) [(27, .iadd, 0, 0)] := ⟨by decide +kernel, trivial, trivial⟩
theorem sX7_train_29 : JSeg (jm jdX7_train) [(29, .aload_n 0, 0, 0), (30, .getfield 7, 7, 0), (33, .bipush 99, 0, 0), (35, .aload_n 0, 0, 0), (36, .iload_n 1, 0, 0), (37, .iconst 0, 0, 0)] := ⟨by decide +kernel, trivial, fkX7_7, trivial, trivial, trivial, trivial, trivial⟩
theorem sX7_train_41 : JSeg (jm jdX7_train) [(41, .iadd, 0, 0)] := ⟨by decide +kernel, trivial, trivial⟩
theorem sX7_train_46 : JSeg (jm jdX7_train) [(46, .iinc 2 1, 0, 0), (49, .goto (-47), 0, 0)] := ⟨by decide +kernel, trivial, trivial, trivial⟩
theorem sX7_train_52 : JSeg (jm jdX7_train) [(52, .iload_n 2, 0, 0)] := ⟨by decide +kernel, trivial, trivial⟩
theorem dX7_train_11 : decode cX7_train 11 = .ok (.iaload, 1) := by decide +kernel
theorem dX7_train_12 : decode cX7_train 12 = .ok (.if_icmp .ge 40, 3) := by decide +kernel
theorem dX7_train_24 : decode cX7_train 24 = .ok (.invokevirtual 117, 3) := by decide +kernel
theorem dX7_train_28 : decode cX7_train 28 = .ok (.iaload, 1) := by decide +kernel
theorem dX7_train_38 : decode cX7_train 38 = .ok (.invokevirtual 117, 3) := by decide +kernel
theorem dX7_train_42 : decode cX7_train 42 = .ok (.iaload, 1) := by decide +kernel
theorem dX7_train_43 : decode cX7_train 43 = .ok (.if_icmp .ne 9, 3) := by decide +kernel
theorem dX7_train_53 : decode cX7_train 53 = .ok (.ireturn, 1) := by decide +kernel
theorem sX7_isBad_0 : JSeg (jm jdX7_isBad) [(0, .iconst 0, 0, 0), (1, .istore_n 3, 0, 0), (2, .iconst 0, 0, 0), (3, .istore 4, 0, 0)] := ⟨by decide +kernel, trivial, trivial, trivial, trivial, trivial⟩
theorem sX7_isBad_5 : JSeg (jm jdX7_isBad) [(5, .iload 4, 0, 0), (7, .iload_n 2, 0, 0)] := ⟨by decide +kernel, trivial, trivial, trivial⟩
theorem sX7_isBad_11 : JSeg (jm jdX7_isBad) [(11, .iload_n 3, 0, 0)] := ⟨by decide +kernel, trivial, trivial⟩
theorem sX7_isBad_15 : JSeg (jm jdX7_isBad) [(15, .aload_n 0, 0, 0), (16, .getfield 7, 7, 0), (19, .bipush 119, 0, 0), (21, .aload_n 0, 0, 0), (22, .iload_n 1, 0, 0), (23, .iload 4, 0, 0)] := ⟨by decide +kernel, trivial, fkX7_7, trivial, trivial, trivial, trivial, trivial⟩
theorem sX7_isBad_28 : JSeg (jm jdX7_isBad) [(28, .iadd, 0, 0)] := ⟨by decide +kernel, trivial, trivial⟩
theorem sX7_isBad_30 : JSeg (jm jdX7_isBad) [(30, .iconst 1, 0, 0)] := ⟨by decide +kernel, trivial, trivial⟩
theorem sX7_isBad_34 : JSeg (jm jdX7_isBad) [(34, .iconst 1, 0, 0), (35, .goto 4, 0, 0)] := ⟨by decide +kernel, trivial, trivial, trivial⟩
theorem sX7_isBad_38 : JSeg (jm jdX7_isBad) [(38, .iconst 0, 0, 0)] := ⟨by decide +kernel, trivial, trivial⟩
theorem sX7_isBad_39 : JSeg (jm jdX7_isBad) [(39, .istore_n 3, 0, 0), (40, .iinc 4 1, 0, 0), (43, .goto (-38), 0, 0)] := ⟨by decide +kernel, trivial, trivial, trivial, trivial⟩
theorem sX7_isBad_46 : JSeg (jm jdX7_isBad) [(46, .iload_n 3, 0, 0)] := ⟨by decide +kernel, trivial, trivial⟩
theorem dX7_isBad_8 : decode cX7_isBad 8 = .ok (.if_icmp .ge 38, 3) := by decide +kernel
theorem dX7_isBad_12 : decode cX7_isBad 12 = .ok (.ifCond .ne 22, 3) := by decide +kernel
theorem dX7_isBad_25 : decode cX7_isBad 25 = .ok (.invokevirtual 117, 3) := by decide +kernel
theorem dX7_isBad_29 : decode cX7_isBad 29 = .ok (.iaload, 1) := by decide +kernel
theorem dX7_isBad_31 : decode cX7_isBad 31 = .ok (.if_icmp .ne 7, 3) := by decide +kernel
theorem dX7_isBad_47 : decode cX7_isBad 47 = .ok (.ireturn, 1) := by decide +kernel
theorem sX7_leaves_0 : JSeg (jm jdX7_leaves) [(0, .aload_n 0, 0, 0), (1, .getfield 7, 7, 0), (4, .iconst 4, 0, 0), (5, .dup2, 0, 0)] := ⟨by decide +kernel, trivial, fkX7_7, trivial, trivial, trivial⟩
theorem sX7_leaves_7 : JSeg (jm jdX7_leaves) [(7, .iconst 1, 0, 0), (8, .iadd, 0, 0)] := ⟨by decide +kernel, trivial, trivial, trivial⟩
theorem sX7_leaves_10 : JSeg (jm jdX7_leaves) [(10, .aload_n 0, 0, 0), (11, .getfield 7, 7, 0), (14, .bipush 6, 0, 0), (16, .dup2, 0, 0)] := ⟨by decide +kernel, trivial, fkX7_7, trivial, trivial, trivial⟩
theorem sX7_leaves_18 : JSeg (jm jdX7_leaves) [(18, .aload_n 0, 0, 0), (19, .getfield 7, 7, 0), (22, .bipush 79, 0, 0), (24, .iload_n 1, 0, 0), (25, .iadd, 0, 0)] := ⟨by decide +kernel, trivial, fkX7_7, trivial, trivial, trivial, trivial⟩
theorem sX7_leaves_27 : JSeg (jm jdX7_leaves) [(27, .iadd, 0, 0)] := ⟨by decide +kernel, trivial, trivial⟩
theorem sX7_leaves_29 : JSeg (jm jdX7_leaves) [(29, .aload_n 0, 0, 0), (30, .getfield 7, 7, 0), (33, .bipush 31, 0, 0), (35, .aload_n 0, 0, 0), (36, .getfield 7, 7, 0), (39, .sipush 139, 0, 0), (42, .iload_n 1, 0, 0), (43, .iadd, 0, 0)] := ⟨by decide +kernel, trivial, fkX7_7, trivial, trivial, fkX7_7, trivial, trivial, trivial, trivial⟩
theorem sX7_leaves_45 : JSeg (jm jdX7_leaves) [(45, .iadd, 0, 0), (46, .dup2, 0, 0)] := ⟨by decide +kernel, trivial, trivial, trivial⟩
theorem sX7_leaves_48 : JSeg (jm jdX7_leaves) [(48, .iconst 1, 0, 0), (49, .isub, 0, 0)] := ⟨by decide +kernel, trivial, trivial, trivial⟩
theorem sX7_leaves_51 : JSeg (jm jdX7_leaves) [(51, .bipush 39, 0, 0), (53, .istore_n 2, 0, 0)] := ⟨by decide +kernel, trivial, trivial, trivial⟩
theorem sX7_leaves_54 : JSeg (jm jdX7_leaves) [(54, .iload_n 2, 0, 0), (55, .sipush 179, 0, 0)] := ⟨by decide +kernel, trivial, trivial, trivial⟩
theorem sX7_leaves_61 : JSeg (jm jdX7_leaves) [(61, .iload_n 1, 0, 0), (62, .istore_n 3, 0, 0)] := ⟨by decide +kernel, trivial, trivial, trivial⟩
theorem sX7_leaves_63 : JSeg (jm jdX7_leaves) [(63, .iload_n 3, 0, 0), (64, .bipush 20, 0, 0)] := ⟨by decide +kernel, trivial, trivial, trivial⟩
theorem sX7_leaves_69 : JSeg (jm jdX7_leaves) [(69, .aload_n 0, 0, 0), (70, .getfield 7, 7, 0), (73, .iload_n 2, 0, 0), (74, .iload_n 3, 0, 0), (75, .iadd, 0, 0), (76, .iload_n 3, 0, 0), (77, .bipush 19, 0, 0)] := ⟨by decide +kernel, trivial, fkX7_7, trivial, trivial, trivial, trivial, trivial, trivial⟩
theorem sX7_leaves_82 : JSeg (jm jdX7_leaves) [(82, .aload_n 0, 0, 0), (83, .getfield 7, 7, 0), (86, .iload_n 2, 0, 0), (87, .iload_n 3, 0, 0), (88, .iadd, 0, 0), (89, .iconst 1, 0, 0), (90, .iadd, 0, 0)] := ⟨by decide +kernel, trivial, fkX7_7, trivial, trivial, trivial, trivial, trivial, trivial⟩
theorem sX7_leaves_92 : JSeg (jm jdX7_leaves) [(92, .goto 4, 0, 0)] := ⟨by decide +kernel, trivial, trivial⟩
theorem sX7_leaves_95 : JSeg (jm jdX7_leaves) [(95, .iconst 0, 0, 0)] := ⟨by decide +kernel, trivial, trivial⟩
theorem sX7_leaves_97 : JSeg (jm jdX7_leaves) [(97, .iinc 3 1, 0, 0), (100, .goto (-37), 0, 0)] := ⟨by decide +kernel, trivial, trivial, trivial⟩
theorem sX7_leaves_103 : JSeg (jm jdX7_leaves) [(103, .iinc 2 20, 0, 0), (106, .goto (-52), 0, 0)] := ⟨by decide +kernel, trivial, trivial, trivial⟩
theorem sX7_leaves_109 : JSeg (jm jdX7_leaves) [(109, .aload_n 0, 0, 0), (110, .getfield 7, 7, 0), (113, .iconst 1, 0, 0), (114, .dup2, 0, 0)] := ⟨by decide +kernel, trivial, fkX7_7, trivial, trivial, trivial⟩
theorem sX7_leaves_116 : JSeg (jm jdX7_leaves) [(116, .iconst 1, 0, 0), (117, .isub, 0, 0)] := ⟨by decide +kernel, trivial, trivial, trivial⟩
theorem dX7_leaves_6 : decode cX7_leaves 6 = .ok (.iaload, 1) := by decide +kernel
theorem dX7_leaves_9 : decode cX7_leaves 9 = .ok (.iastore, 1) := by decide +kernel
theorem dX7_leaves_17 : decode cX7_leaves 17 = .ok (.iaload, 1) := by decide +kernel
theorem dX7_leaves_26 : decode cX7_leaves 26 = .ok (.iaload, 1) := by decide +kernel
theorem dX7_leaves_28 : decode cX7_leaves 28 = .ok (.iastore, 1) := by decide +kernel
theorem dX7_leaves_44 : decode cX7_leaves 44 = .ok (.iaload, 1) := by decide +kernel
theorem dX7_leaves_47 : decode cX7_leaves 47 = .ok (.iaload, 1) := by decide +kernel
theorem dX7_leaves_50 : decode cX7_leaves 50 = .ok (.iastore, 1) := by decide +kernel
theorem dX7_leaves_58 : decode cX7_leaves 58 = .ok (.if_icmp .ge 51, 3) := by decide +kernel
theorem dX7_leaves_66 : decode cX7_leaves 66 = .ok (.if_icmp .ge 37, 3) := by decide +kernel
theorem dX7_leaves_79 : decode cX7_leaves 79 = .ok (.if_icmp .ge 16, 3) := by decide +kernel
theorem dX7_leaves_91 : decode cX7_leaves 91 = .ok (.iaload, 1) := by decide +kernel
theorem dX7_leaves_96 : decode cX7_leaves 96 = .ok (.iastore, 1) := by decide +kernel
theorem dX7_leaves_115 : decode cX7_leaves 115 = .ok (.iaload, 1) := by decide +kernel
theorem dX7_leaves_118 : decode cX7_leaves 118 = .ok (.iastore, 1) := by decide +kernel
theorem dX7_leaves_119 : decode cX7_leaves 119 = .ok (.return_, 1) := by decide +kernel
theorem sX7_departs_0 : JSeg (jm jdX7_departs) [(0, .aload_n 0, 0, 0), (1, .iload_n 1, 0, 0)] := ⟨by decide +kernel, trivial, trivial, trivial⟩
theorem sX7_departs_8 : JSeg (jm jdX7_departs) [(8, .aload_n 0, 0, 0), (9, .iconst 1, 0, 0)] := ⟨by decide +kernel, trivial, trivial, trivial⟩
theorem sX7_departs_14 : JSeg (jm jdX7_departs) [(14, .iload_n 2, 0, 0), (15, .iconst 0, 0, 0), (16, .bipush 9, 0, 0)] := ⟨by decide +kernel, trivial, trivial, trivial, trivial⟩
theorem sX7_departs_24 : JSeg (jm jdX7_departs) [(24, .aload_n 0, 0, 0), (25, .iconst 2, 0, 0)] := ⟨by decide +kernel, trivial, trivial, trivial⟩
theorem sX7_departs_30 : JSeg (jm jdX7_departs) [(30, .aload_n 0, 0, 0), (31, .getfield 7, 7, 0), (34, .bipush 31, 0, 0), (36, .iload_n 1, 0, 0), (37, .iadd, 0, 0)] := ⟨by decide +kernel, trivial, fkX7_7, trivial, trivial, trivial, trivial⟩
theorem sX7_departs_42 : JSeg (jm jdX7_departs) [(42, .aload_n 0, 0, 0), (43, .getfield 7, 7, 0), (46, .bipush 99, 0, 0), (48, .aload_n 0, 0, 0), (49, .iload_n 1, 0, 0), (50, .iconst 0, 0, 0)] := ⟨by decide +kernel, trivial, fkX7_7, trivial, trivial, trivial, trivial, trivial⟩
theorem sX7_departs_54 : JSeg (jm jdX7_departs) [(54, .iadd, 0, 0)] := ⟨by decide +kernel, trivial, trivial⟩
theorem sX7_departs_56 : JSeg (jm jdX7_departs) [(56, .iload_n 2, 0, 0)] := ⟨by decide +kernel, trivial, trivial⟩
theorem sX7_departs_60 : JSeg (jm jdX7_departs) [(60, .aload_n 0, 0, 0), (61, .iconst 3, 0, 0)] := ⟨by decide +kernel, trivial, trivial, trivial⟩
theorem sX7_departs_66 : JSeg (jm jdX7_departs) [(66, .aload_n 0, 0, 0), (67, .iload_n 1, 0, 0)] := ⟨by decide +kernel, trivial, trivial, trivial⟩
theorem sX7_departs_71 : JSeg (jm jdX7_departs) [(71, .istore_n 3, 0, 0), (72, .aload_n 0, 0, 0), (73, .iload_n 1, 0, 0), (74, .iload_n 3, 0, 0)] := ⟨by decide +kernel, trivial, trivial, trivial, trivial, trivial⟩
theorem sX7_departs_81 : JSeg (jm jdX7_departs) [(81, .aload_n 0, 0, 0), (82, .iconst 4, 0, 0)] := ⟨by decide +kernel, trivial, trivial, trivial⟩
theorem sX7_departs_87 : JSeg (jm jdX7_departs) [(87, .iconst 0, 0, 0), (88, .istore 4, 0, 0)] := ⟨by decide +kernel, trivial, trivial, trivial⟩
theorem sX7_departs_90 : JSeg (jm jdX7_departs) [(90, .iload 4, 0, 0), (92, .iload_n 3, 0, 0)] := ⟨by decide +kernel, trivial, trivial, trivial⟩
theorem sX7_departs_96 : JSeg (jm jdX7_departs) [(96, .aload_n 0, 0, 0), (97, .aload_n 0, 0, 0), (98, .iload_n 1, 0, 0), (99, .iconst 0, 0, 0)] := ⟨by decide +kernel, trivial, trivial, trivial, trivial, trivial⟩
theorem sX7_departs_106 : JSeg (jm jdX7_departs) [(106, .iinc 4 1, 0, 0), (109, .goto (-19), 0, 0)] := ⟨by decide +kernel, trivial, trivial, trivial⟩
theorem sX7_departs_112 : JSeg (jm jdX7_departs) [(112, .aload_n 0, 0, 0), (113, .iload_n 3, 0, 0)] := ⟨by decide +kernel, trivial, trivial, trivial⟩
theorem dX7_departs_2 : decode cX7_departs 2 = .ok (.invokevirtual 56, 3) := by decide +kernel
theorem dX7_departs_5 : decode cX7_departs 5 = .ok (.ifCond .ne 9, 3) := by decide +kernel
theorem dX7_departs_10 : decode cX7_departs 10 = .ok (.invokevirtual 75, 3) := by decide +kernel
theorem dX7_departs_13 : decode cX7_departs 13 = .ok (.ireturn, 1) := by decide +kernel
theorem dX7_departs_18 : decode cX7_departs 18 = .ok (.invokestatic 52, 3) := by decide +kernel
theorem dX7_departs_21 : decode cX7_departs 21 = .ok (.ifCond .ne 9, 3) := by decide +kernel
theorem dX7_departs_26 : decode cX7_departs 26 = .ok (.invokevirtual 75, 3) := by decide +kernel
theorem dX7_departs_29 : decode cX7_departs 29 = .ok (.ireturn, 1) := by decide +kernel
theorem dX7_departs_38 : decode cX7_departs 38 = .ok (.iaload, 1) := by decide +kernel
theorem dX7_departs_39 : decode cX7_departs 39 = .ok (.ifCond .eq 21, 3) := by decide +kernel
theorem dX7_departs_51 : decode cX7_departs 51 = .ok (.invokevirtual 117, 3) := by decide +kernel
theorem dX7_departs_55 : decode cX7_departs 55 = .ok (.iaload, 1) := by decide +kernel
theorem dX7_departs_57 : decode cX7_departs 57 = .ok (.if_icmp .eq 9, 3) := by decide +kernel
theorem dX7_departs_62 : decode cX7_departs 62 = .ok (.invokevirtual 75, 3) := by decide +kernel
theorem dX7_departs_65 : decode cX7_departs 65 = .ok (.ireturn, 1) := by decide +kernel
theorem dX7_departs_68 : decode cX7_departs 68 = .ok (.invokevirtual 136, 3) := by decide +kernel
theorem dX7_departs_75 : decode cX7_departs 75 = .ok (.invokevirtual 139, 3) := by decide +kernel
theorem dX7_departs_78 : decode cX7_departs 78 = .ok (.ifCond .eq 9, 3) := by decide +kernel
theorem dX7_departs_83 : decode cX7_departs 83 = .ok (.invokevirtual 75, 3) := by decide +kernel
theorem dX7_departs_86 : decode cX7_departs 86 = .ok (.ireturn, 1) := by decide +kernel
theorem dX7_departs_93 : decode cX7_departs 93 = .ok (.if_icmp .ge 19, 3) := by decide +kernel
theorem dX7_departs_100 : decode cX7_departs 100 = .ok (.invokevirtual 117, 3) := by decide +kernel
theorem dX7_departs_103 : decode cX7_departs 103 = .ok (.invokevirtual 142, 3) := by decide +kernel
theorem dX7_departs_114 : decode cX7_departs 114 = .ok (.invokevirtual 79, 3) := by decide +kernel
theorem dX7_departs_117 : decode cX7_departs 117 = .ok (.ireturn, 1) := by decide +kernel
theorem sX7_depart_0 : JSeg (jm jdX7_depart) [(0, .aload_n 0, 0, 0)] := ⟨by decide +kernel, trivial, trivial⟩
theorem sX7_depart_4 : JSeg (jm jdX7_depart) [(4, .aload_n 0, 0, 0), (5, .aload_n 0, 0, 0), (6, .iload_n 1, 0, 0), (7, .iload_n 2, 0, 0)] := ⟨by decide +kernel, trivial, trivial, trivial, trivial, trivial⟩
theorem dX7_depart_1 : decode cX7_depart 1 = .ok (.invokevirtual 82, 3) := by decide +kernel
theorem dX7_depart_8 : decode cX7_depart 8 = .ok (.invokevirtual 145, 3) := by decide +kernel
theorem dX7_depart_11 : decode cX7_depart 11 = .ok (.invokevirtual 88, 3) := by decide +kernel
theorem dX7_depart_14 : decode cX7_depart 14 = .ok (.ireturn, 1) := by decide +kernel
theorem sX7_trackCount_0 : JSeg (jm jdX7_trackCount) [(0, .aload_n 0, 0, 0), (1, .aload_n 0, 0, 0), (2, .getfield 7, 7, 0), (5, .iconst 0, 0, 0), (6, .iaload, 0, 0)] := ⟨by decide +kernel, trivial, trivial, fkX7_7, trivial, trivial, trivial⟩
theorem dX7_trackCount_7 : decode cX7_trackCount 7 = .ok (.invokevirtual 79, 3) := by decide +kernel
theorem dX7_trackCount_10 : decode cX7_trackCount 10 = .ok (.ireturn, 1) := by decide +kernel
theorem sX7_freeLength_0 : JSeg (jm jdX7_freeLength) [(0, .aload_n 0, 0, 0), (1, .iload_n 1, 0, 0)] := ⟨by decide +kernel, trivial, trivial, trivial⟩
theorem sX7_freeLength_8 : JSeg (jm jdX7_freeLength) [(8, .aload_n 0, 0, 0), (9, .aload_n 0, 0, 0), (10, .iload_n 1, 0, 0)] := ⟨by decide +kernel, trivial, trivial, trivial, trivial⟩
theorem sX7_freeLength_17 : JSeg (jm jdX7_freeLength) [(17, .goto 8, 0, 0)] := ⟨by decide +kernel, trivial, trivial⟩
theorem sX7_freeLength_20 : JSeg (jm jdX7_freeLength) [(20, .aload_n 0, 0, 0), (21, .iconst 1, 0, 0)] := ⟨by decide +kernel, trivial, trivial, trivial⟩
theorem dX7_freeLength_2 : decode cX7_freeLength 2 = .ok (.invokevirtual 56, 3) := by decide +kernel
theorem dX7_freeLength_5 : decode cX7_freeLength 5 = .ok (.ifCond .eq 15, 3) := by decide +kernel
theorem dX7_freeLength_11 : decode cX7_freeLength 11 = .ok (.invokevirtual 107, 3) := by decide +kernel
theorem dX7_freeLength_14 : decode cX7_freeLength 14 = .ok (.invokevirtual 79, 3) := by decide +kernel
theorem dX7_freeLength_22 : decode cX7_freeLength 22 = .ok (.invokevirtual 75, 3) := by decide +kernel
theorem dX7_freeLength_25 : decode cX7_freeLength 25 = .ok (.ireturn, 1) := by decide +kernel
theorem sX7_carsOn_0 : JSeg (jm jdX7_carsOn) [(0, .aload_n 0, 0, 0), (1, .iload_n 1, 0, 0)] := ⟨by decide +kernel, trivial, trivial, trivial⟩
theorem sX7_carsOn_8 : JSeg (jm jdX7_carsOn) [(8, .aload_n 0, 0, 0), (9, .aload_n 0, 0, 0), (10, .getfield 7, 7, 0), (13, .bipush 31, 0, 0), (15, .iload_n 1, 0, 0), (16, .iadd, 0, 0)] := ⟨by decide +kernel, trivial, trivial, fkX7_7, trivial, trivial, trivial, trivial⟩
theorem sX7_carsOn_21 : JSeg (jm jdX7_carsOn) [(21, .goto 8, 0, 0)] := ⟨by decide +kernel, trivial, trivial⟩
theorem sX7_carsOn_24 : JSeg (jm jdX7_carsOn) [(24, .aload_n 0, 0, 0), (25, .iconst 1, 0, 0)] := ⟨by decide +kernel, trivial, trivial, trivial⟩
theorem dX7_carsOn_2 : decode cX7_carsOn 2 = .ok (.invokevirtual 56, 3) := by decide +kernel
theorem dX7_carsOn_5 : decode cX7_carsOn 5 = .ok (.ifCond .eq 19, 3) := by decide +kernel
theorem dX7_carsOn_17 : decode cX7_carsOn 17 = .ok (.iaload, 1) := by decide +kernel
theorem dX7_carsOn_18 : decode cX7_carsOn 18 = .ok (.invokevirtual 79, 3) := by decide +kernel
theorem dX7_carsOn_26 : decode cX7_carsOn 26 = .ok (.invokevirtual 75, 3) := by decide +kernel
theorem dX7_carsOn_29 : decode cX7_carsOn 29 = .ok (.ireturn, 1) := by decide +kernel
theorem sX7_weightOn_0 : JSeg (jm jdX7_weightOn) [(0, .aload_n 0, 0, 0), (1, .iload_n 1, 0, 0)] := ⟨by decide +kernel, trivial, trivial, trivial⟩
theorem sX7_weightOn_8 : JSeg (jm jdX7_weightOn) [(8, .aload_n 0, 0, 0), (9, .aload_n 0, 0, 0), (10, .iload_n 1, 0, 0), (11, .bipush 79, 0, 0)] := ⟨by decide +kernel, trivial, trivial, trivial, trivial, trivial⟩
theorem sX7_weightOn_19 : JSeg (jm jdX7_weightOn) [(19, .goto 8, 0, 0)] := ⟨by decide +kernel, trivial, trivial⟩
theorem sX7_weightOn_22 : JSeg (jm jdX7_weightOn) [(22, .aload_n 0, 0, 0), (23, .iconst 1, 0, 0)] := ⟨by decide +kernel, trivial, trivial, trivial⟩
theorem dX7_weightOn_2 : decode cX7_weightOn 2 = .ok (.invokevirtual 56, 3) := by decide +kernel
theorem dX7_weightOn_5 : decode cX7_weightOn 5 = .ok (.ifCond .eq 17, 3) := by decide +kernel
theorem dX7_weightOn_13 : decode cX7_weightOn 13 = .ok (.invokevirtual 64, 3) := by decide +kernel
theorem dX7_weightOn_16 : decode cX7_weightOn 16 = .ok (.invokevirtual 79, 3) := by decide +kernel
theorem dX7_weightOn_24 : decode cX7_weightOn 24 = .ok (.invokevirtual 75, 3) := by decide +kernel
theorem dX7_weightOn_27 : decode cX7_weightOn 27 = .ok (.ireturn, 1) := by decide +kernel
theorem sX7_carAt_0 : JSeg (jm jdX7_carAt) [(0, .aload_n 0, 0, 0), (1, .iload_n 1, 0, 0)] := ⟨by decide +kernel, trivial, trivial, trivial⟩
theorem sX7_carAt_8 : JSeg (jm jdX7_carAt) [(8, .aload_n 0, 0, 0), (9, .iconst 1, 0, 0)] := ⟨by decide +kernel, trivial, trivial, trivial⟩
theorem sX7_carAt_14 : JSeg (jm jdX7_carAt) [(14, .iload_n 2, 0, 0), (15, .iconst 0, 0, 0), (16, .aload_n 0, 0, 0), (17, .getfield 7, 7, 0), (20, .bipush 31, 0, 0), (22, .iload_n 1, 0, 0), (23, .iadd, 0, 0)] := ⟨by decide +kernel, trivial, trivial, trivial, fkX7_7, trivial, trivial, trivial, trivial⟩
theorem sX7_carAt_25 : JSeg (jm jdX7_carAt) [(25, .iconst 1, 0, 0), (26, .isub, 0, 0)] := ⟨by decide +kernel, trivial, trivial, trivial⟩
theorem sX7_carAt_33 : JSeg (jm jdX7_carAt) [(33, .aload_n 0, 0, 0), (34, .aload_n 0, 0, 0), (35, .getfield 7, 7, 0), (38, .bipush 39, 0, 0), (40, .aload_n 0, 0, 0), (41, .iload_n 1, 0, 0), (42, .iload_n 2, 0, 0)] := ⟨by decide +kernel, trivial, trivial, fkX7_7, trivial, trivial, trivial, trivial, trivial⟩
theorem sX7_carAt_46 : JSeg (jm jdX7_carAt) [(46, .iadd, 0, 0)] := ⟨by decide +kernel, trivial, trivial⟩
theorem sX7_carAt_51 : JSeg (jm jdX7_carAt) [(51, .goto 8, 0, 0)] := ⟨by decide +kernel, trivial, trivial⟩
theorem sX7_carAt_54 : JSeg (jm jdX7_carAt) [(54, .aload_n 0, 0, 0), (55, .iconst 2, 0, 0)] := ⟨by decide +kernel, trivial, trivial, trivial⟩
theorem dX7_carAt_2 : decode cX7_carAt 2 = .ok (.invokevirtual 56, 3) := by decide +kernel
theorem dX7_carAt_5 : decode cX7_carAt 5 = .ok (.ifCond .ne 9, 3) := by decide +kernel
theorem dX7_carAt_10 : decode cX7_carAt 10 = .ok (.invokevirtual 75, 3) := by decide +kernel
theorem dX7_carAt_13 : decode cX7_carAt 13 = .ok (.ireturn, 1) := by decide +kernel
theorem dX7_carAt_24 : decode cX7_carAt 24 = .ok (.iaload, 1) := by decide +kernel
theorem dX7_carAt_27 : decode cX7_carAt 27 = .ok (.invokestatic 52, 3) := by decide +kernel
theorem dX7_carAt_30 : decode cX7_carAt 30 = .ok (.ifCond .eq 24, 3) := by decide +kernel
theorem dX7_carAt_43 : decode cX7_carAt 43 = .ok (.invokevirtual 60, 3) := by decide +kernel
theorem dX7_carAt_47 : decode cX7_carAt 47 = .ok (.iaload, 1) := by decide +kernel
theorem dX7_carAt_48 : decode cX7_carAt 48 = .ok (.invokevirtual 79, 3) := by decide +kernel
theorem dX7_carAt_56 : decode cX7_carAt 56 = .ok (.invokevirtual 75, 3) := by decide +kernel
theorem dX7_carAt_59 : decode cX7_carAt 59 = .ok (.ireturn, 1) := by decide +kernel
theorem sX7_pairs_0 : JSeg (jm jdX7_pairs) [(0, .iconst 0, 0, 0), (1, .istore_n 2, 0, 0), (2, .iconst 0, 0, 0), (3, .istore_n 3, 0, 0)] := ⟨by decide +kernel, trivial, trivial, trivial, trivial, trivial⟩
theorem sX7_pairs_4 : JSeg (jm jdX7_pairs) [(4, .iload_n 3, 0, 0), (5, .aload_n 0, 0, 0), (6, .getfield 7, 7, 0), (9, .bipush 31, 0, 0), (11, .iload_n 1, 0, 0), (12, .iadd, 0, 0)] := ⟨by decide +kernel, trivial, trivial, fkX7_7, trivial, trivial, trivial, trivial⟩
theorem sX7_pairs_17 : JSeg (jm jdX7_pairs) [(17, .iconst 0, 0, 0), (18, .istore 4, 0, 0)] := ⟨by decide +kernel, trivial, trivial, trivial⟩
theorem sX7_pairs_20 : JSeg (jm jdX7_pairs) [(20, .iload 4, 0, 0), (22, .iload_n 3, 0, 0)] := ⟨by decide +kernel, trivial, trivial, trivial⟩
theorem sX7_pairs_26 : JSeg (jm jdX7_pairs) [(26, .iload_n 2, 0, 0), (27, .aload_n 0, 0, 0), (28, .getfield 7, 7, 0), (31, .bipush 99, 0, 0), (33, .aload_n 0, 0, 0), (34, .iload_n 1, 0, 0), (35, .iload_n 3, 0, 0)] := ⟨by decide +kernel, trivial, trivial, fkX7_7, trivial, trivial, trivial, trivial, trivial⟩
theorem sX7_pairs_39 : JSeg (jm jdX7_pairs) [(39, .iadd, 0, 0)] := ⟨by decide +kernel, trivial, trivial⟩
theorem sX7_pairs_41 : JSeg (jm jdX7_pairs) [(41, .aload_n 0, 0, 0), (42, .getfield 7, 7, 0), (45, .bipush 99, 0, 0), (47, .aload_n 0, 0, 0), (48, .iload_n 1, 0, 0), (49, .iload 4, 0, 0)] := ⟨by decide +kernel, trivial, fkX7_7, trivial, trivial, trivial, trivial, trivial⟩
theorem sX7_pairs_54 : JSeg (jm jdX7_pairs) [(54, .iadd, 0, 0)] := ⟨by decide +kernel, trivial, trivial⟩
theorem sX7_pairs_59 : JSeg (jm jdX7_pairs) [(59, .iconst 1, 0, 0), (60, .goto 4, 0, 0)] := ⟨by decide +kernel, trivial, trivial, trivial⟩
theorem sX7_pairs_63 : JSeg (jm jdX7_pairs) [(63, .iconst 0, 0, 0)] := ⟨by decide +kernel, trivial, trivial⟩
theorem sX7_pairs_64 : JSeg (jm jdX7_pairs) [(64, .iadd, 0, 0), (65, .istore_n 2, 0, 0), (66, .iinc 4 1, 0, 0), (69, .goto (-49), 0, 0)] := ⟨by decide +kernel, trivial, trivial, trivial, trivial, trivial⟩
theorem sX7_pairs_72 : JSeg (jm jdX7_pairs) [(72, .iinc 3 1, 0, 0), (75, .goto (-71), 0, 0)] := ⟨by decide +kernel, trivial, trivial, trivial⟩
theorem sX7_pairs_78 : JSeg (jm jdX7_pairs) [(78, .iload_n 2, 0, 0)] := ⟨by decide +kernel, trivial, trivial⟩
theorem dX7_pairs_13 : decode cX7_pairs 13 = .ok (.iaload, 1) := by decide +kernel
theorem dX7_pairs_14 : decode cX7_pairs 14 = .ok (.if_icmp .ge 64, 3) := by decide +kernel
theorem dX7_pairs_23 : decode cX7_pairs 23 = .ok (.if_icmp .ge 49, 3) := by decide +kernel
theorem dX7_pairs_36 : decode cX7_pairs 36 = .ok (.invokevirtual 60, 3) := by decide +kernel
theorem dX7_pairs_40 : decode cX7_pairs 40 = .ok (.iaload, 1) := by decide +kernel
theorem dX7_pairs_51 : decode cX7_pairs 51 = .ok (.invokevirtual 60, 3) := by decide +kernel
theorem dX7_pairs_55 : decode cX7_pairs 55 = .ok (.iaload, 1) := by decide +kernel
theorem dX7_pairs_56 : decode cX7_pairs 56 = .ok (.if_icmp .le 7, 3) := by decide +kernel
theorem dX7_pairs_79 : decode cX7_pairs 79 = .ok (.ireturn, 1) := by decide +kernel
theorem sX7_isSorted_0 : JSeg (jm jdX7_isSorted) [(0, .aload_n 0, 0, 0), (1, .aload_n 0, 0, 0), (2, .iload_n 1, 0, 0)] := ⟨by decide +kernel, trivial, trivial, trivial, trivial⟩
theorem sX7_isSorted_9 : JSeg (jm jdX7_isSorted) [(9, .iconst 0, 0, 0), (10, .goto 4, 0, 0)] := ⟨by decide +kernel, trivial, trivial, trivial⟩
theorem sX7_isSorted_13 : JSeg (jm jdX7_isSorted) [(13, .iconst 1, 0, 0)] := ⟨by decide +kernel, trivial, trivial⟩
theorem sX7_isSorted_14 : JSeg (jm jdX7_isSorted) [(14, .putfield 42, 7, 12), (17, .aload_n 0, 0, 0), (18, .getfield 42, 7, 12)] := ⟨by decide +kernel, fpX7_42, trivial, fkX7_42, trivial⟩
theorem sX7_isSorted_24 : JSeg (jm jdX7_isSorted) [(24, .aload_n 0, 0, 0), (25, .iload_n 1, 0, 0)] := ⟨by decide +kernel, trivial, trivial, trivial⟩
theorem sX7_isSorted_32 : JSeg (jm jdX7_isSorted) [(32, .iconst 1, 0, 0), (33, .goto 4, 0, 0)] := ⟨by decide +kernel, trivial, trivial, trivial⟩
theorem sX7_isSorted_36 : JSeg (jm jdX7_isSorted) [(36, .iconst 0, 0, 0)] := ⟨by decide +kernel, trivial, trivial⟩
theorem dX7_isSorted_3 : decode cX7_isSorted 3 = .ok (.invokevirtual 56, 3) := by decide +kernel
theorem dX7_isSorted_6 : decode cX7_isSorted 6 = .ok (.ifCond .eq 7, 3) := by decide +kernel
theorem dX7_isSorted_21 : decode cX7_isSorted 21 = .ok (.ifCond .ne 15, 3) := by decide +kernel
theorem dX7_isSorted_26 : decode cX7_isSorted 26 = .ok (.invokevirtual 148, 3) := by decide +kernel
theorem dX7_isSorted_29 : decode cX7_isSorted 29 = .ok (.ifCond .ne 7, 3) := by decide +kernel
theorem dX7_isSorted_37 : decode cX7_isSorted 37 = .ok (.ireturn, 1) := by decide +kernel
theorem sX7_disorder_0 : JSeg (jm jdX7_disorder) [(0, .aload_n 0, 0, 0), (1, .iload_n 1, 0, 0)] := ⟨by decide +kernel, trivial, trivial, trivial⟩
theorem sX7_disorder_8 : JSeg (jm jdX7_disorder) [(8, .aload_n 0, 0, 0), (9, .aload_n 0, 0, 0), (10, .iload_n 1, 0, 0)] := ⟨by decide +kernel, trivial, trivial, trivial, trivial⟩
theorem sX7_disorder_17 : JSeg (jm jdX7_disorder) [(17, .goto 8, 0, 0)] := ⟨by decide +kernel, trivial, trivial⟩
theorem sX7_disorder_20 : JSeg (jm jdX7_disorder) [(20, .aload_n 0, 0, 0), (21, .iconst 1, 0, 0)] := ⟨by decide +kernel, trivial, trivial, trivial⟩
theorem dX7_disorder_2 : decode cX7_disorder 2 = .ok (.invokevirtual 56, 3) := by decide +kernel
theorem dX7_disorder_5 : decode cX7_disorder 5 = .ok (.ifCond .eq 15, 3) := by decide +kernel
theorem dX7_disorder_11 : decode cX7_disorder 11 = .ok (.invokevirtual 148, 3) := by decide +kernel
theorem dX7_disorder_14 : decode cX7_disorder 14 = .ok (.invokevirtual 79, 3) := by decide +kernel
theorem dX7_disorder_22 : decode cX7_disorder 22 = .ok (.invokevirtual 75, 3) := by decide +kernel
theorem dX7_disorder_25 : decode cX7_disorder 25 = .ok (.ireturn, 1) := by decide +kernel
theorem sX7_disorderByInsertion_0 : JSeg (jm jdX7_disorderByInsertion) [(0, .aload_n 0, 0, 0), (1, .iload_n 1, 0, 0)] := ⟨by decide +kernel, trivial, trivial, trivial⟩
theorem dX7_disorderByInsertion_2 : decode cX7_disorderByInsertion 2 = .ok (.invokevirtual 151, 3) := by decide +kernel
theorem dX7_disorderByInsertion_5 : decode cX7_disorderByInsertion 5 = .ok (.ireturn, 1) := by decide +kernel
theorem sX7_trainLength_0 : JSeg (jm jdX7_trainLength) [(0, .aload_n 0, 0, 0), (1, .iload_n 1, 0, 0)] := ⟨by decide +kernel, trivial, trivial, trivial⟩
theorem sX7_trainLength_8 : JSeg (jm jdX7_trainLength) [(8, .aload_n 0, 0, 0), (9, .aload_n 0, 0, 0), (10, .iload_n 1, 0, 0)] := ⟨by decide +kernel, trivial, trivial, trivial, trivial⟩
theorem sX7_trainLength_17 : JSeg (jm jdX7_trainLength) [(17, .goto 8, 0, 0)] := ⟨by decide +kernel, trivial, trivial⟩
theorem sX7_trainLength_20 : JSeg (jm jdX7_trainLength) [(20, .aload_n 0, 0, 0), (21, .iconst 1, 0, 0)] := ⟨by decide +kernel, trivial, trivial, trivial⟩
theorem dX7_trainLength_2 : decode cX7_trainLength 2 = .ok (.invokevirtual 56, 3) := by decide +kernel
theorem dX7_trainLength_5 : decode cX7_trainLength 5 = .ok (.ifCond .eq 15, 3) := by decide +kernel
theorem dX7_trainLength_11 : decode cX7_trainLength 11 = .ok (.invokevirtual 136, 3) := by decide +kernel
theorem dX7_trainLength_14 : decode cX7_trainLength 14 = .ok (.invokevirtual 79, 3) := by decide +kernel
theorem dX7_trainLength_22 : decode cX7_trainLength 22 = .ok (.invokevirtual 75, 3) := by decide +kernel
theorem dX7_trainLength_25 : decode cX7_trainLength 25 = .ok (.ireturn, 1) := by decide +kernel
theorem sX7_isAhead_0 : JSeg (jm jdX7_isAhead) [(0, .aload_n 0, 0, 0), (1, .iload_n 1, 0, 0)] := ⟨by decide +kernel, trivial, trivial, trivial⟩
theorem sX7_isAhead_5 : JSeg (jm jdX7_isAhead) [(5, .aload_n 0, 0, 0), (6, .iload_n 2, 0, 0)] := ⟨by decide +kernel, trivial, trivial, trivial⟩
theorem sX7_isAhead_10 : JSeg (jm jdX7_isAhead) [(10, .isub, 0, 0), (11, .istore_n 3, 0, 0), (12, .aload_n 0, 0, 0), (13, .getfield 7, 7, 0), (16, .bipush 15, 0, 0), (18, .iload_n 2, 0, 0), (19, .iadd, 0, 0)] := ⟨by decide +kernel, trivial, trivial, trivial, fkX7_7, trivial, trivial, trivial, trivial⟩
theorem sX7_isAhead_21 : JSeg (jm jdX7_isAhead) [(21, .aload_n 0, 0, 0), (22, .getfield 7, 7, 0), (25, .bipush 15, 0, 0), (27, .iload_n 1, 0, 0), (28, .iadd, 0, 0)] := ⟨by decide +kernel, trivial, fkX7_7, trivial, trivial, trivial, trivial⟩
theorem sX7_isAhead_30 : JSeg (jm jdX7_isAhead) [(30, .isub, 0, 0), (31, .istore 4, 0, 0), (33, .iload_n 3, 0, 0)] := ⟨by decide +kernel, trivial, trivial, trivial, trivial⟩
theorem sX7_isAhead_37 : JSeg (jm jdX7_isAhead) [(37, .iload_n 3, 0, 0)] := ⟨by decide +kernel, trivial, trivial⟩
theorem sX7_isAhead_41 : JSeg (jm jdX7_isAhead) [(41, .iload 4, 0, 0)] := ⟨by decide +kernel, trivial, trivial⟩
theorem sX7_isAhead_46 : JSeg (jm jdX7_isAhead) [(46, .iload 4, 0, 0)] := ⟨by decide +kernel, trivial, trivial⟩
theorem sX7_isAhead_51 : JSeg (jm jdX7_isAhead) [(51, .iload_n 1, 0, 0), (52, .iload_n 2, 0, 0)] := ⟨by decide +kernel, trivial, trivial, trivial⟩
theorem sX7_isAhead_56 : JSeg (jm jdX7_isAhead) [(56, .iconst 1, 0, 0), (57, .goto 4, 0, 0)] := ⟨by decide +kernel, trivial, trivial, trivial⟩
theorem sX7_isAhead_60 : JSeg (jm jdX7_isAhead) [(60, .iconst 0, 0, 0)] := ⟨by decide +kernel, trivial, trivial⟩
theorem dX7_isAhead_2 : decode cX7_isAhead 2 = .ok (.invokevirtual 107, 3) := by decide +kernel
theorem dX7_isAhead_7 : decode cX7_isAhead 7 = .ok (.invokevirtual 107, 3) := by decide +kernel
theorem dX7_isAhead_20 : decode cX7_isAhead 20 = .ok (.iaload, 1) := by decide +kernel
theorem dX7_isAhead_29 : decode cX7_isAhead 29 = .ok (.iaload, 1) := by decide +kernel
theorem dX7_isAhead_34 : decode cX7_isAhead 34 = .ok (.ifCond .gt 22, 3) := by decide +kernel
theorem dX7_isAhead_38 : decode cX7_isAhead 38 = .ok (.ifCond .ne 22, 3) := by decide +kernel
theorem dX7_isAhead_43 : decode cX7_isAhead 43 = .ok (.ifCond .gt 13, 3) := by decide +kernel
theorem dX7_isAhead_48 : decode cX7_isAhead 48 = .ok (.ifCond .ne 12, 3) := by decide +kernel
theorem dX7_isAhead_53 : decode cX7_isAhead 53 = .ok (.if_icmp .ge 7, 3) := by decide +kernel
theorem dX7_isAhead_61 : decode cX7_isAhead 61 = .ok (.ireturn, 1) := by decide +kernel
theorem sX7_trackAtRank_0 : JSeg (jm jdX7_trackAtRank) [(0, .iconst 0, 0, 0), (1, .istore_n 2, 0, 0)] := ⟨by decide +kernel, trivial, trivial, trivial⟩
theorem sX7_trackAtRank_2 : JSeg (jm jdX7_trackAtRank) [(2, .iload_n 2, 0, 0), (3, .aload_n 0, 0, 0), (4, .getfield 7, 7, 0), (7, .iconst 0, 0, 0), (8, .iaload, 0, 0)] := ⟨by decide +kernel, trivial, trivial, fkX7_7, trivial, trivial, trivial⟩
theorem sX7_trackAtRank_12 : JSeg (jm jdX7_trackAtRank) [(12, .iconst 0, 0, 0), (13, .istore_n 3, 0, 0), (14, .iconst 0, 0, 0), (15, .istore 4, 0, 0)] := ⟨by decide +kernel, trivial, trivial, trivial, trivial, trivial⟩
theorem sX7_trackAtRank_17 : JSeg (jm jdX7_trackAtRank) [(17, .iload 4, 0, 0), (19, .aload_n 0, 0, 0), (20, .getfield 7, 7, 0), (23, .iconst 0, 0, 0), (24, .iaload, 0, 0)] := ⟨by decide +kernel, trivial, trivial, fkX7_7, trivial, trivial, trivial⟩
theorem sX7_trackAtRank_28 : JSeg (jm jdX7_trackAtRank) [(28, .iload_n 3, 0, 0), (29, .aload_n 0, 0, 0), (30, .iload 4, 0, 0), (32, .iload_n 2, 0, 0)] := ⟨by decide +kernel, trivial, trivial, trivial, trivial, trivial⟩
theorem sX7_trackAtRank_39 : JSeg (jm jdX7_trackAtRank) [(39, .iconst 1, 0, 0), (40, .goto 4, 0, 0)] := ⟨by decide +kernel, trivial, trivial, trivial⟩
theorem sX7_trackAtRank_43 : JSeg (jm jdX7_trackAtRank) [(43, .iconst 0, 0, 0)] := ⟨by decide +kernel, trivial, trivial⟩
theorem sX7_trackAtRank_44 : JSeg (jm jdX7_trackAtRank) [(44, .iadd, 0, 0), (45, .istore_n 3, 0, 0), (46, .iinc 4 1, 0, 0), (49, .goto (-32), 0, 0)] := ⟨by decide +kernel, trivial, trivial, trivial, trivial, trivial⟩
theorem sX7_trackAtRank_52 : JSeg (jm jdX7_trackAtRank) [(52, .iload_n 3, 0, 0), (53, .iload_n 1, 0, 0)] := ⟨by decide +kernel, trivial, trivial, trivial⟩
theorem sX7_trackAtRank_57 : JSeg (jm jdX7_trackAtRank) [(57, .aload_n 0, 0, 0), (58, .iload_n 2, 0, 0)] := ⟨by decide +kernel, trivial, trivial, trivial⟩
theorem sX7_trackAtRank_63 : JSeg (jm jdX7_trackAtRank) [(63, .iinc 2 1, 0, 0), (66, .goto (-64), 0, 0)] := ⟨by decide +kernel, trivial, trivial, trivial⟩
theorem sX7_trackAtRank_69 : JSeg (jm jdX7_trackAtRank) [(69, .aload_n 0, 0, 0), (70, .iconst 1, 0, 0)] := ⟨by decide +kernel, trivial, trivial, trivial⟩
theorem dX7_trackAtRank_9 : decode cX7_trackAtRank 9 = .ok (.if_icmp .ge 60, 3) := by decide +kernel
theorem dX7_trackAtRank_25 : decode cX7_trackAtRank 25 = .ok (.if_icmp .ge 27, 3) := by decide +kernel
theorem dX7_trackAtRank_33 : decode cX7_trackAtRank 33 = .ok (.invokevirtual 154, 3) := by decide +kernel
theorem dX7_trackAtRank_36 : decode cX7_trackAtRank 36 = .ok (.ifCond .eq 7, 3) := by decide +kernel
theorem dX7_trackAtRank_54 : decode cX7_trackAtRank 54 = .ok (.if_icmp .ne 9, 3) := by decide +kernel
theorem dX7_trackAtRank_59 : decode cX7_trackAtRank 59 = .ok (.invokevirtual 79, 3) := by decide +kernel
theorem dX7_trackAtRank_62 : decode cX7_trackAtRank 62 = .ok (.ireturn, 1) := by decide +kernel
theorem dX7_trackAtRank_71 : decode cX7_trackAtRank 71 = .ok (.invokevirtual 75, 3) := by decide +kernel
theorem dX7_trackAtRank_74 : decode cX7_trackAtRank 74 = .ok (.ireturn, 1) := by decide +kernel
theorem sX7_areConnected_0 : JSeg (jm jdX7_areConnected) [(0, .aload_n 0, 0, 0), (1, .aload_n 0, 0, 0), (2, .iload_n 1, 0, 0), (3, .iload_n 2, 0, 0)] := ⟨by decide +kernel, trivial, trivial, trivial, trivial, trivial⟩
theorem sX7_areConnected_10 : JSeg (jm jdX7_areConnected) [(10, .iconst 0, 0, 0), (11, .goto 4, 0, 0)] := ⟨by decide +kernel, trivial, trivial, trivial⟩
theorem sX7_areConnected_14 : JSeg (jm jdX7_areConnected) [(14, .iconst 1, 0, 0)] := ⟨by decide +kernel, trivial, trivial⟩
theorem sX7_areConnected_15 : JSeg (jm jdX7_areConnected) [(15, .putfield 42, 7, 12), (18, .aload_n 0, 0, 0), (19, .getfield 42, 7, 12)] := ⟨by decide +kernel, fpX7_42, trivial, fkX7_42, trivial⟩
theorem sX7_areConnected_25 : JSeg (jm jdX7_areConnected) [(25, .aload_n 0, 0, 0), (26, .iload_n 1, 0, 0), (27, .iload_n 2, 0, 0)] := ⟨by decide +kernel, trivial, trivial, trivial, trivial⟩
theorem sX7_areConnected_34 : JSeg (jm jdX7_areConnected) [(34, .iconst 1, 0, 0), (35, .goto 4, 0, 0)] := ⟨by decide +kernel, trivial, trivial, trivial⟩
theorem sX7_areConnected_38 : JSeg (jm jdX7_areConnected) [(38, .iconst 0, 0, 0)] := ⟨by decide +kernel, trivial, trivial⟩
theorem dX7_areConnected_4 : decode cX7_areConnected 4 = .ok (.invokevirtual 95, 3) := by decide +kernel
theorem dX7_areConnected_7 : decode cX7_areConnected 7 = .ok (.ifCond .eq 7, 3) := by decide +kernel
theorem dX7_areConnected_22 : decode cX7_areConnected 22 = .ok (.ifCond .ne 16, 3) := by decide +kernel
theorem dX7_areConnected_28 : decode cX7_areConnected 28 = .ok (.invokevirtual 67, 3) := by decide +kernel
theorem dX7_areConnected_31 : decode cX7_areConnected 31 = .ok (.ifCond .eq 7, 3) := by decide +kernel
theorem dX7_areConnected_39 : decode cX7_areConnected 39 = .ok (.ireturn, 1) := by decide +kernel
theorem sX7_routeLength_0 : JSeg (jm jdX7_routeLength) [(0, .aload_n 0, 0, 0), (1, .iload_n 1, 0, 0), (2, .iload_n 2, 0, 0)] := ⟨by decide +kernel, trivial, trivial, trivial, trivial⟩
theorem sX7_routeLength_9 : JSeg (jm jdX7_routeLength) [(9, .aload_n 0, 0, 0), (10, .iconst 1, 0, 0)] := ⟨by decide +kernel, trivial, trivial, trivial⟩
theorem sX7_routeLength_15 : JSeg (jm jdX7_routeLength) [(15, .aload_n 0, 0, 0), (16, .iload_n 1, 0, 0), (17, .iload_n 2, 0, 0)] := ⟨by decide +kernel, trivial, trivial, trivial, trivial⟩
theorem sX7_routeLength_21 : JSeg (jm jdX7_routeLength) [(21, .istore_n 3, 0, 0), (22, .iload_n 3, 0, 0), (23, .bipush 100, 0, 0)] := ⟨by decide +kernel, trivial, trivial, trivial, trivial⟩
theorem sX7_routeLength_28 : JSeg (jm jdX7_routeLength) [(28, .aload_n 0, 0, 0), (29, .iconst 2, 0, 0)] := ⟨by decide +kernel, trivial, trivial, trivial⟩
theorem sX7_routeLength_33 : JSeg (jm jdX7_routeLength) [(33, .goto 8, 0, 0)] := ⟨by decide +kernel, trivial, trivial⟩
theorem sX7_routeLength_36 : JSeg (jm jdX7_routeLength) [(36, .aload_n 0, 0, 0), (37, .iload_n 3, 0, 0)] := ⟨by decide +kernel, trivial, trivial, trivial⟩
theorem dX7_routeLength_3 : decode cX7_routeLength 3 = .ok (.invokevirtual 95, 3) := by decide +kernel
theorem dX7_routeLength_6 : decode cX7_routeLength 6 = .ok (.ifCond .ne 9, 3) := by decide +kernel
theorem dX7_routeLength_11 : decode cX7_routeLength 11 = .ok (.invokevirtual 75, 3) := by decide +kernel
theorem dX7_routeLength_14 : decode cX7_routeLength 14 = .ok (.ireturn, 1) := by decide +kernel
theorem dX7_routeLength_18 : decode cX7_routeLength 18 = .ok (.invokevirtual 114, 3) := by decide +kernel
theorem dX7_routeLength_25 : decode cX7_routeLength 25 = .ok (.if_icmp .ne 11, 3) := by decide +kernel
theorem dX7_routeLength_30 : decode cX7_routeLength 30 = .ok (.invokevirtual 75, 3) := by decide +kernel
theorem dX7_routeLength_38 : decode cX7_routeLength 38 = .ok (.invokevirtual 79, 3) := by decide +kernel
theorem dX7_routeLength_41 : decode cX7_routeLength 41 = .ok (.ireturn, 1) := by decide +kernel
theorem sX7_routeLengthByMatrix_0 : JSeg (jm jdX7_routeLengthByMatrix) [(0, .aload_n 0, 0, 0), (1, .iload_n 1, 0, 0), (2, .iload_n 2, 0, 0)] := ⟨by decide +kernel, trivial, trivial, trivial, trivial⟩
theorem dX7_routeLengthByMatrix_3 : decode cX7_routeLengthByMatrix 3 = .ok (.invokevirtual 157, 3) := by decide +kernel
theorem dX7_routeLengthByMatrix_6 : decode cX7_routeLengthByMatrix 6 = .ok (.ireturn, 1) := by decide +kernel
theorem sX7_nearer_0 : JSeg (jm jdX7_nearer) [(0, .iconst 0, 0, 0), (1, .istore_n 2, 0, 0)] := ⟨by decide +kernel, trivial, trivial, trivial⟩
theorem sX7_nearer_2 : JSeg (jm jdX7_nearer) [(2, .aload_n 0, 0, 0), (3, .iload_n 1, 0, 0), (4, .iload_n 2, 0, 0)] := ⟨by decide +kernel, trivial, trivial, trivial, trivial⟩
theorem sX7_nearer_11 : JSeg (jm jdX7_nearer) [(11, .aload_n 0, 0, 0), (12, .getfield 36, 7, 13), (15, .iload_n 2, 0, 0)] := ⟨by decide +kernel, trivial, fkX7_36, trivial, trivial⟩
theorem sX7_nearer_17 : JSeg (jm jdX7_nearer) [(17, .aload_n 0, 0, 0), (18, .getfield 36, 7, 13), (21, .iload_n 1, 0, 0)] := ⟨by decide +kernel, trivial, fkX7_36, trivial, trivial⟩
theorem sX7_nearer_23 : JSeg (jm jdX7_nearer) [(23, .iconst 1, 0, 0), (24, .isub, 0, 0)] := ⟨by decide +kernel, trivial, trivial, trivial⟩
theorem sX7_nearer_28 : JSeg (jm jdX7_nearer) [(28, .iinc 2 1, 0, 0), (31, .goto (-29), 0, 0)] := ⟨by decide +kernel, trivial, trivial, trivial⟩
theorem sX7_nearer_34 : JSeg (jm jdX7_nearer) [(34, .iload_n 2, 0, 0)] := ⟨by decide +kernel, trivial, trivial⟩
theorem dX7_nearer_5 : decode cX7_nearer 5 = .ok (.invokevirtual 67, 3) := by decide +kernel
theorem dX7_nearer_8 : decode cX7_nearer 8 = .ok (.ifCond .eq 20, 3) := by decide +kernel
theorem dX7_nearer_16 : decode cX7_nearer 16 = .ok (.iaload, 1) := by decide +kernel
theorem dX7_nearer_22 : decode cX7_nearer 22 = .ok (.iaload, 1) := by decide +kernel
theorem dX7_nearer_25 : decode cX7_nearer 25 = .ok (.if_icmp .eq 9, 3) := by decide +kernel
theorem dX7_nearer_35 : decode cX7_nearer 35 = .ok (.ireturn, 1) := by decide +kernel
theorem sX7_routeTrack_0 : JSeg (jm jdX7_routeTrack) [(0, .aload_n 0, 0, 0), (1, .iload_n 1, 0, 0), (2, .iload_n 2, 0, 0)] := ⟨by decide +kernel, trivial, trivial, trivial, trivial⟩
theorem sX7_routeTrack_6 : JSeg (jm jdX7_routeTrack) [(6, .istore 4, 0, 0), (8, .aload_n 0, 0, 0), (9, .getfield 42, 7, 12)] := ⟨by decide +kernel, trivial, trivial, fkX7_42, trivial⟩
theorem sX7_routeTrack_15 : JSeg (jm jdX7_routeTrack) [(15, .iconst 0, 0, 0)] := ⟨by decide +kernel, trivial, trivial⟩
theorem sX7_routeTrack_17 : JSeg (jm jdX7_routeTrack) [(17, .iload_n 3, 0, 0), (18, .iconst 0, 0, 0), (19, .iload 4, 0, 0)] := ⟨by decide +kernel, trivial, trivial, trivial, trivial⟩
theorem sX7_routeTrack_27 : JSeg (jm jdX7_routeTrack) [(27, .aload_n 0, 0, 0), (28, .iconst 2, 0, 0)] := ⟨by decide +kernel, trivial, trivial, trivial⟩
theorem sX7_routeTrack_33 : JSeg (jm jdX7_routeTrack) [(33, .iload_n 1, 0, 0), (34, .istore 5, 0, 0), (36, .iconst 0, 0, 0), (37, .istore 6, 0, 0)] := ⟨by decide +kernel, trivial, trivial, trivial, trivial, trivial⟩
theorem sX7_routeTrack_39 : JSeg (jm jdX7_routeTrack) [(39, .iload 6, 0, 0), (41, .iload_n 3, 0, 0)] := ⟨by decide +kernel, trivial, trivial, trivial⟩
theorem sX7_routeTrack_45 : JSeg (jm jdX7_routeTrack) [(45, .aload_n 0, 0, 0), (46, .iload 5, 0, 0)] := ⟨by decide +kernel, trivial, trivial, trivial⟩
theorem sX7_routeTrack_51 : JSeg (jm jdX7_routeTrack) [(51, .istore 5, 0, 0), (53, .iinc 6 1, 0, 0), (56, .goto (-17), 0, 0)] := ⟨by decide +kernel, trivial, trivial, trivial, trivial⟩
theorem sX7_routeTrack_59 : JSeg (jm jdX7_routeTrack) [(59, .aload_n 0, 0, 0), (60, .iload 5, 0, 0)] := ⟨by decide +kernel, trivial, trivial, trivial⟩
theorem dX7_routeTrack_3 : decode cX7_routeTrack 3 = .ok (.invokevirtual 157, 3) := by decide +kernel
theorem dX7_routeTrack_12 : decode cX7_routeTrack 12 = .ok (.ifCond .le 5, 3) := by decide +kernel
theorem dX7_routeTrack_16 : decode cX7_routeTrack 16 = .ok (.ireturn, 1) := by decide +kernel
theorem dX7_routeTrack_21 : decode cX7_routeTrack 21 = .ok (.invokestatic 52, 3) := by decide +kernel
theorem dX7_routeTrack_24 : decode cX7_routeTrack 24 = .ok (.ifCond .ne 9, 3) := by decide +kernel
theorem dX7_routeTrack_29 : decode cX7_routeTrack 29 = .ok (.invokevirtual 75, 3) := by decide +kernel
theorem dX7_routeTrack_32 : decode cX7_routeTrack 32 = .ok (.ireturn, 1) := by decide +kernel
theorem dX7_routeTrack_42 : decode cX7_routeTrack 42 = .ok (.if_icmp .ge 17, 3) := by decide +kernel
theorem dX7_routeTrack_48 : decode cX7_routeTrack 48 = .ok (.invokevirtual 160, 3) := by decide +kernel
theorem dX7_routeTrack_62 : decode cX7_routeTrack 62 = .ok (.invokevirtual 79, 3) := by decide +kernel
theorem dX7_routeTrack_65 : decode cX7_routeTrack 65 = .ok (.ireturn, 1) := by decide +kernel
theorem sX7_shuntingTime_0 : JSeg (jm jdX7_shuntingTime) [(0, .aload_n 0, 0, 0), (1, .iload_n 1, 0, 0), (2, .iload_n 2, 0, 0), (3, .iload_n 3, 0, 0)] := ⟨by decide +kernel, trivial, trivial, trivial, trivial, trivial⟩
theorem sX7_shuntingTime_7 : JSeg (jm jdX7_shuntingTime) [(7, .istore 4, 0, 0), (9, .iload 4, 0, 0)] := ⟨by decide +kernel, trivial, trivial, trivial⟩
theorem sX7_shuntingTime_14 : JSeg (jm jdX7_shuntingTime) [(14, .aload_n 0, 0, 0), (15, .iload 4, 0, 0), (17, .iconst 3, 0, 0)] := ⟨by decide +kernel, trivial, trivial, trivial, trivial⟩
theorem sX7_shuntingTime_21 : JSeg (jm jdX7_shuntingTime) [(21, .iload 4, 0, 0), (23, .goto 4, 0, 0)] := ⟨by decide +kernel, trivial, trivial, trivial⟩
theorem sX7_shuntingTime_26 : JSeg (jm jdX7_shuntingTime) [(26, .iconst 3, 0, 0)] := ⟨by decide +kernel, trivial, trivial⟩
theorem sX7_shuntingTime_30 : JSeg (jm jdX7_shuntingTime) [(30, .goto 14, 0, 0)] := ⟨by decide +kernel, trivial, trivial⟩
theorem sX7_shuntingTime_33 : JSeg (jm jdX7_shuntingTime) [(33, .aload_n 0, 0, 0), (34, .aload_n 0, 0, 0), (35, .iload_n 1, 0, 0), (36, .iload_n 2, 0, 0), (37, .iload_n 3, 0, 0)] := ⟨by decide +kernel, trivial, trivial, trivial, trivial, trivial, trivial⟩
theorem dX7_shuntingTime_4 : decode cX7_shuntingTime 4 = .ok (.invokevirtual 120, 3) := by decide +kernel
theorem dX7_shuntingTime_11 : decode cX7_shuntingTime 11 = .ok (.ifCond .le 22, 3) := by decide +kernel
theorem dX7_shuntingTime_18 : decode cX7_shuntingTime 18 = .ok (.if_icmp .ge 8, 3) := by decide +kernel
theorem dX7_shuntingTime_27 : decode cX7_shuntingTime 27 = .ok (.invokevirtual 75, 3) := by decide +kernel
theorem dX7_shuntingTime_38 : decode cX7_shuntingTime 38 = .ok (.invokevirtual 124, 3) := by decide +kernel
theorem dX7_shuntingTime_41 : decode cX7_shuntingTime 41 = .ok (.invokevirtual 79, 3) := by decide +kernel
theorem dX7_shuntingTime_44 : decode cX7_shuntingTime 44 = .ok (.ireturn, 1) := by decide +kernel
theorem sX7_isBetter_0 : JSeg (jm jdX7_isBetter) [(0, .aload_n 0, 0, 0), (1, .iload_n 1, 0, 0), (2, .iload_n 3, 0, 0), (3, .iconst 1, 0, 0)] := ⟨by decide +kernel, trivial, trivial, trivial, trivial, trivial⟩
theorem sX7_isBetter_7 : JSeg (jm jdX7_isBetter) [(7, .aload_n 0, 0, 0), (8, .iload_n 1, 0, 0), (9, .iload_n 2, 0, 0), (10, .iconst 1, 0, 0)] := ⟨by decide +kernel, trivial, trivial, trivial, trivial, trivial⟩
theorem sX7_isBetter_14 : JSeg (jm jdX7_isBetter) [(14, .isub, 0, 0), (15, .istore 4, 0, 0), (17, .iload 4, 0, 0)] := ⟨by decide +kernel, trivial, trivial, trivial, trivial⟩
theorem sX7_isBetter_22 : JSeg (jm jdX7_isBetter) [(22, .iload 4, 0, 0)] := ⟨by decide +kernel, trivial, trivial⟩
theorem sX7_isBetter_27 : JSeg (jm jdX7_isBetter) [(27, .aload_n 0, 0, 0), (28, .iload_n 2, 0, 0)] := ⟨by decide +kernel, trivial, trivial, trivial⟩
theorem sX7_isBetter_32 : JSeg (jm jdX7_isBetter) [(32, .aload_n 0, 0, 0), (33, .iload_n 3, 0, 0)] := ⟨by decide +kernel, trivial, trivial, trivial⟩
theorem sX7_isBetter_40 : JSeg (jm jdX7_isBetter) [(40, .iconst 1, 0, 0), (41, .goto 4, 0, 0)] := ⟨by decide +kernel, trivial, trivial, trivial⟩
theorem sX7_isBetter_44 : JSeg (jm jdX7_isBetter) [(44, .iconst 0, 0, 0)] := ⟨by decide +kernel, trivial, trivial⟩
theorem dX7_isBetter_4 : decode cX7_isBetter 4 = .ok (.invokevirtual 124, 3) := by decide +kernel
theorem dX7_isBetter_11 : decode cX7_isBetter 11 = .ok (.invokevirtual 124, 3) := by decide +kernel
theorem dX7_isBetter_19 : decode cX7_isBetter 19 = .ok (.ifCond .gt 21, 3) := by decide +kernel
theorem dX7_isBetter_24 : decode cX7_isBetter 24 = .ok (.ifCond .ne 20, 3) := by decide +kernel
theorem dX7_isBetter_29 : decode cX7_isBetter 29 = .ok (.invokevirtual 107, 3) := by decide +kernel
theorem dX7_isBetter_34 : decode cX7_isBetter 34 = .ok (.invokevirtual 107, 3) := by decide +kernel
theorem dX7_isBetter_37 : decode cX7_isBetter 37 = .ok (.if_icmp .le 7, 3) := by decide +kernel
theorem dX7_isBetter_45 : decode cX7_isBetter 45 = .ok (.ireturn, 1) := by decide +kernel
theorem sX7_nearestFreeTrack_0 : JSeg (jm jdX7_nearestFreeTrack) [(0, .aload_n 0, 0, 0), (1, .iload_n 1, 0, 0)] := ⟨by decide +kernel, trivial, trivial, trivial⟩
theorem sX7_nearestFreeTrack_8 : JSeg (jm jdX7_nearestFreeTrack) [(8, .aload_n 0, 0, 0), (9, .iconst 1, 0, 0)] := ⟨by decide +kernel, trivial, trivial, trivial⟩
theorem sX7_nearestFreeTrack_14 : JSeg (jm jdX7_nearestFreeTrack) [(14, .iconst (-1), 0, 0), (15, .istore_n 2, 0, 0), (16, .iconst 0, 0, 0), (17, .istore_n 3, 0, 0)] := ⟨by decide +kernel, trivial, trivial, trivial, trivial, trivial⟩
theorem sX7_nearestFreeTrack_18 : JSeg (jm jdX7_nearestFreeTrack) [(18, .iload_n 3, 0, 0), (19, .aload_n 0, 0, 0), (20, .getfield 7, 7, 0), (23, .iconst 0, 0, 0), (24, .iaload, 0, 0)] := ⟨by decide +kernel, trivial, trivial, fkX7_7, trivial, trivial, trivial⟩
theorem sX7_nearestFreeTrack_28 : JSeg (jm jdX7_nearestFreeTrack) [(28, .aload_n 0, 0, 0), (29, .iload_n 1, 0, 0), (30, .iload_n 3, 0, 0), (31, .iconst 1, 0, 0)] := ⟨by decide +kernel, trivial, trivial, trivial, trivial, trivial⟩
theorem sX7_nearestFreeTrack_38 : JSeg (jm jdX7_nearestFreeTrack) [(38, .iload_n 2, 0, 0), (39, .iconst (-1), 0, 0)] := ⟨by decide +kernel, trivial, trivial, trivial⟩
theorem sX7_nearestFreeTrack_43 : JSeg (jm jdX7_nearestFreeTrack) [(43, .aload_n 0, 0, 0), (44, .iload_n 1, 0, 0), (45, .iload_n 3, 0, 0), (46, .iload_n 2, 0, 0)] := ⟨by decide +kernel, trivial, trivial, trivial, trivial, trivial⟩
theorem sX7_nearestFreeTrack_53 : JSeg (jm jdX7_nearestFreeTrack) [(53, .iload_n 3, 0, 0), (54, .goto 4, 0, 0)] := ⟨by decide +kernel, trivial, trivial, trivial⟩
theorem sX7_nearestFreeTrack_57 : JSeg (jm jdX7_nearestFreeTrack) [(57, .iload_n 2, 0, 0)] := ⟨by decide +kernel, trivial, trivial⟩
theorem sX7_nearestFreeTrack_58 : JSeg (jm jdX7_nearestFreeTrack) [(58, .istore_n 2, 0, 0)] := ⟨by decide +kernel, trivial, trivial⟩
theorem sX7_nearestFreeTrack_59 : JSeg (jm jdX7_nearestFreeTrack) [(59, .iinc 3 1, 0, 0), (62, .goto (-44), 0, 0)] := ⟨by decide +kernel, trivial, trivial, trivial⟩
theorem sX7_nearestFreeTrack_65 : JSeg (jm jdX7_nearestFreeTrack) [(65, .iload_n 2, 0, 0), (66, .iconst (-1), 0, 0)] := ⟨by decide +kernel, trivial, trivial, trivial⟩
theorem sX7_nearestFreeTrack_70 : JSeg (jm jdX7_nearestFreeTrack) [(70, .aload_n 0, 0, 0), (71, .iconst 2, 0, 0)] := ⟨by decide +kernel, trivial, trivial, trivial⟩
theorem sX7_nearestFreeTrack_75 : JSeg (jm jdX7_nearestFreeTrack) [(75, .goto 8, 0, 0)] := ⟨by decide +kernel, trivial, trivial⟩
theorem sX7_nearestFreeTrack_78 : JSeg (jm jdX7_nearestFreeTrack) [(78, .aload_n 0, 0, 0), (79, .iload_n 2, 0, 0)] := ⟨by decide +kernel, trivial, trivial, trivial⟩
theorem dX7_nearestFreeTrack_2 : decode cX7_nearestFreeTrack 2 = .ok (.invokevirtual 56, 3) := by decide +kernel
theorem dX7_nearestFreeTrack_5 : decode cX7_nearestFreeTrack 5 = .ok (.ifCond .ne 9, 3) := by decide +kernel
theorem dX7_nearestFreeTrack_10 : decode cX7_nearestFreeTrack 10 = .ok (.invokevirtual 75, 3) := by decide +kernel
theorem dX7_nearestFreeTrack_13 : decode cX7_nearestFreeTrack 13 = .ok (.ireturn, 1) := by decide +kernel
theorem dX7_nearestFreeTrack_25 : decode cX7_nearestFreeTrack 25 = .ok (.if_icmp .ge 40, 3) := by decide +kernel
theorem dX7_nearestFreeTrack_32 : decode cX7_nearestFreeTrack 32 = .ok (.invokevirtual 120, 3) := by decide +kernel
theorem dX7_nearestFreeTrack_35 : decode cX7_nearestFreeTrack 35 = .ok (.ifCond .ne 24, 3) := by decide +kernel
theorem dX7_nearestFreeTrack_40 : decode cX7_nearestFreeTrack 40 = .ok (.if_icmp .eq 13, 3) := by decide +kernel
theorem dX7_nearestFreeTrack_47 : decode cX7_nearestFreeTrack 47 = .ok (.invokevirtual 163, 3) := by decide +kernel
theorem dX7_nearestFreeTrack_50 : decode cX7_nearestFreeTrack 50 = .ok (.ifCond .eq 7, 3) := by decide +kernel
theorem dX7_nearestFreeTrack_67 : decode cX7_nearestFreeTrack 67 = .ok (.if_icmp .ne 11, 3) := by decide +kernel
theorem dX7_nearestFreeTrack_72 : decode cX7_nearestFreeTrack 72 = .ok (.invokevirtual 75, 3) := by decide +kernel
theorem dX7_nearestFreeTrack_80 : decode cX7_nearestFreeTrack 80 = .ok (.invokevirtual 79, 3) := by decide +kernel
theorem dX7_nearestFreeTrack_83 : decode cX7_nearestFreeTrack 83 = .ok (.ireturn, 1) := by decide +kernel
theorem sX7_carCount_0 : JSeg (jm jdX7_carCount) [(0, .aload_n 0, 0, 0), (1, .aload_n 0, 0, 0), (2, .getfield 7, 7, 0), (5, .iconst 1, 0, 0), (6, .iaload, 0, 0)] := ⟨by decide +kernel, trivial, trivial, fkX7_7, trivial, trivial, trivial⟩
theorem dX7_carCount_7 : decode cX7_carCount 7 = .ok (.invokevirtual 79, 3) := by decide +kernel
theorem dX7_carCount_10 : decode cX7_carCount 10 = .ok (.ireturn, 1) := by decide +kernel
theorem sX7_isInYard_0 : JSeg (jm jdX7_isInYard) [(0, .aload_n 0, 0, 0), (1, .iconst 0, 0, 0), (2, .putfield 42, 7, 12), (5, .aload_n 0, 0, 0), (6, .iload_n 1, 0, 0)] := ⟨by decide +kernel, trivial, trivial, fpX7_42, trivial, trivial, trivial⟩
theorem sX7_isInYard_10 : JSeg (jm jdX7_isInYard) [(10, .iconst (-1), 0, 0)] := ⟨by decide +kernel, trivial, trivial⟩
theorem sX7_isInYard_14 : JSeg (jm jdX7_isInYard) [(14, .iconst 1, 0, 0), (15, .goto 4, 0, 0)] := ⟨by decide +kernel, trivial, trivial, trivial⟩
theorem sX7_isInYard_18 : JSeg (jm jdX7_isInYard) [(18, .iconst 0, 0, 0)] := ⟨by decide +kernel, trivial, trivial⟩
theorem dX7_isInYard_7 : decode cX7_isInYard 7 = .ok (.invokevirtual 130, 3) := by decide +kernel
theorem dX7_isInYard_11 : decode cX7_isInYard 11 = .ok (.if_icmp .eq 7, 3) := by decide +kernel
theorem dX7_isInYard_19 : decode cX7_isInYard 19 = .ok (.ireturn, 1) := by decide +kernel
theorem sX7_carNumber_0 : JSeg (jm jdX7_carNumber) [(0, .aload_n 0, 0, 0), (1, .iload_n 2, 0, 0)] := ⟨by decide +kernel, trivial, trivial, trivial⟩
theorem sX7_carNumber_5 : JSeg (jm jdX7_carNumber) [(5, .istore_n 3, 0, 0), (6, .iload_n 3, 0, 0), (7, .iconst (-1), 0, 0)] := ⟨by decide +kernel, trivial, trivial, trivial, trivial⟩
theorem sX7_carNumber_11 : JSeg (jm jdX7_carNumber) [(11, .aload_n 0, 0, 0), (12, .iconst 1, 0, 0)] := ⟨by decide +kernel, trivial, trivial, trivial⟩
theorem sX7_carNumber_16 : JSeg (jm jdX7_carNumber) [(16, .goto 15, 0, 0)] := ⟨by decide +kernel, trivial, trivial⟩
theorem sX7_carNumber_19 : JSeg (jm jdX7_carNumber) [(19, .aload_n 0, 0, 0), (20, .aload_n 0, 0, 0), (21, .getfield 7, 7, 0), (24, .iload_n 1, 0, 0), (25, .iload_n 3, 0, 0), (26, .iadd, 0, 0)] := ⟨by decide +kernel, trivial, trivial, fkX7_7, trivial, trivial, trivial, trivial⟩
theorem dX7_carNumber_2 : decode cX7_carNumber 2 = .ok (.invokevirtual 130, 3) := by decide +kernel
theorem dX7_carNumber_8 : decode cX7_carNumber 8 = .ok (.if_icmp .ne 11, 3) := by decide +kernel
theorem dX7_carNumber_13 : decode cX7_carNumber 13 = .ok (.invokevirtual 75, 3) := by decide +kernel
theorem dX7_carNumber_27 : decode cX7_carNumber 27 = .ok (.iaload, 1) := by decide +kernel
theorem dX7_carNumber_28 : decode cX7_carNumber 28 = .ok (.invokevirtual 79, 3) := by decide +kernel
theorem dX7_carNumber_31 : decode cX7_carNumber 31 = .ok (.ireturn, 1) := by decide +kernel
theorem sX7_trackOf_0 : JSeg (jm jdX7_trackOf) [(0, .aload_n 0, 0, 0), (1, .sipush 139, 0, 0), (4, .iload_n 1, 0, 0)] := ⟨by decide +kernel, trivial, trivial, trivial, trivial⟩
theorem dX7_trackOf_5 : decode cX7_trackOf 5 = .ok (.invokevirtual 166, 3) := by decide +kernel
theorem dX7_trackOf_8 : decode cX7_trackOf 8 = .ok (.ireturn, 1) := by decide +kernel
theorem sX7_carsBehind_0 : JSeg (jm jdX7_carsBehind) [(0, .aload_n 0, 0, 0), (1, .iload_n 1, 0, 0)] := ⟨by decide +kernel, trivial, trivial, trivial⟩
theorem sX7_carsBehind_5 : JSeg (jm jdX7_carsBehind) [(5, .istore_n 2, 0, 0), (6, .iload_n 2, 0, 0), (7, .iconst (-1), 0, 0)] := ⟨by decide +kernel, trivial, trivial, trivial, trivial⟩
theorem sX7_carsBehind_11 : JSeg (jm jdX7_carsBehind) [(11, .aload_n 0, 0, 0), (12, .iconst 1, 0, 0)] := ⟨by decide +kernel, trivial, trivial, trivial⟩
theorem sX7_carsBehind_16 : JSeg (jm jdX7_carsBehind) [(16, .goto 38, 0, 0)] := ⟨by decide +kernel, trivial, trivial⟩
theorem sX7_carsBehind_19 : JSeg (jm jdX7_carsBehind) [(19, .aload_n 0, 0, 0), (20, .aload_n 0, 0, 0), (21, .getfield 7, 7, 0), (24, .bipush 31, 0, 0), (26, .aload_n 0, 0, 0), (27, .getfield 7, 7, 0), (30, .sipush 139, 0, 0), (33, .iload_n 2, 0, 0), (34, .iadd, 0, 0)] := ⟨by decide +kernel, trivial, trivial, fkX7_7, trivial, trivial, fkX7_7, trivial, trivial, trivial, trivial⟩
theorem sX7_carsBehind_36 : JSeg (jm jdX7_carsBehind) [(36, .iadd, 0, 0)] := ⟨by decide +kernel, trivial, trivial⟩
theorem sX7_carsBehind_38 : JSeg (jm jdX7_carsBehind) [(38, .iconst 1, 0, 0), (39, .isub, 0, 0), (40, .aload_n 0, 0, 0), (41, .getfield 7, 7, 0), (44, .sipush 159, 0, 0), (47, .iload_n 2, 0, 0), (48, .iadd, 0, 0)] := ⟨by decide +kernel, trivial, trivial, trivial, fkX7_7, trivial, trivial, trivial, trivial⟩
theorem sX7_carsBehind_50 : JSeg (jm jdX7_carsBehind) [(50, .isub, 0, 0)] := ⟨by decide +kernel, trivial, trivial⟩
theorem dX7_carsBehind_2 : decode cX7_carsBehind 2 = .ok (.invokevirtual 130, 3) := by decide +kernel
theorem dX7_carsBehind_8 : decode cX7_carsBehind 8 = .ok (.if_icmp .ne 11, 3) := by decide +kernel
theorem dX7_carsBehind_13 : decode cX7_carsBehind 13 = .ok (.invokevirtual 75, 3) := by decide +kernel
theorem dX7_carsBehind_35 : decode cX7_carsBehind 35 = .ok (.iaload, 1) := by decide +kernel
theorem dX7_carsBehind_37 : decode cX7_carsBehind 37 = .ok (.iaload, 1) := by decide +kernel
theorem dX7_carsBehind_49 : decode cX7_carsBehind 49 = .ok (.iaload, 1) := by decide +kernel
theorem dX7_carsBehind_51 : decode cX7_carsBehind 51 = .ok (.invokevirtual 79, 3) := by decide +kernel
theorem dX7_carsBehind_54 : decode cX7_carsBehind 54 = .ok (.ireturn, 1) := by decide +kernel
theorem sX7_destination_0 : JSeg (jm jdX7_destination) [(0, .aload_n 0, 0, 0), (1, .bipush 99, 0, 0), (3, .iload_n 1, 0, 0)] := ⟨by decide +kernel, trivial, trivial, trivial, trivial⟩
theorem dX7_destination_4 : decode cX7_destination 4 = .ok (.invokevirtual 166, 3) := by decide +kernel
theorem dX7_destination_7 : decode cX7_destination 7 = .ok (.ireturn, 1) := by decide +kernel
theorem sX7_isDefective_0 : JSeg (jm jdX7_isDefective) [(0, .aload_n 0, 0, 0), (1, .bipush 119, 0, 0), (3, .iload_n 1, 0, 0)] := ⟨by decide +kernel, trivial, trivial, trivial, trivial⟩
theorem sX7_isDefective_7 : JSeg (jm jdX7_isDefective) [(7, .iconst 1, 0, 0)] := ⟨by decide +kernel, trivial, trivial⟩
theorem sX7_isDefective_11 : JSeg (jm jdX7_isDefective) [(11, .iconst 1, 0, 0), (12, .goto 4, 0, 0)] := ⟨by decide +kernel, trivial, trivial, trivial⟩
theorem sX7_isDefective_15 : JSeg (jm jdX7_isDefective) [(15, .iconst 0, 0, 0)] := ⟨by decide +kernel, trivial, trivial⟩
theorem dX7_isDefective_4 : decode cX7_isDefective 4 = .ok (.invokevirtual 166, 3) := by decide +kernel
theorem dX7_isDefective_8 : decode cX7_isDefective 8 = .ok (.if_icmp .ne 7, 3) := by decide +kernel
theorem dX7_isDefective_16 : decode cX7_isDefective 16 = .ok (.ireturn, 1) := by decide +kernel
theorem sX7_carsFor_0 : JSeg (jm jdX7_carsFor) [(0, .iload_n 1, 0, 0), (1, .iconst 0, 0, 0), (2, .bipush 9, 0, 0)] := ⟨by decide +kernel, trivial, trivial, trivial, trivial⟩
theorem sX7_carsFor_10 : JSeg (jm jdX7_carsFor) [(10, .aload_n 0, 0, 0), (11, .iconst 1, 0, 0)] := ⟨by decide +kernel, trivial, trivial, trivial⟩
theorem sX7_carsFor_16 : JSeg (jm jdX7_carsFor) [(16, .iconst 0, 0, 0), (17, .istore_n 2, 0, 0), (18, .iconst 0, 0, 0), (19, .istore_n 3, 0, 0)] := ⟨by decide +kernel, trivial, trivial, trivial, trivial, trivial⟩
theorem sX7_carsFor_20 : JSeg (jm jdX7_carsFor) [(20, .iload_n 3, 0, 0), (21, .aload_n 0, 0, 0), (22, .getfield 7, 7, 0), (25, .iconst 1, 0, 0), (26, .iaload, 0, 0)] := ⟨by decide +kernel, trivial, trivial, fkX7_7, trivial, trivial, trivial⟩
theorem sX7_carsFor_30 : JSeg (jm jdX7_carsFor) [(30, .iload_n 2, 0, 0), (31, .aload_n 0, 0, 0), (32, .getfield 7, 7, 0), (35, .bipush 99, 0, 0), (37, .iload_n 3, 0, 0), (38, .iadd, 0, 0)] := ⟨by decide +kernel, trivial, trivial, fkX7_7, trivial, trivial, trivial, trivial⟩
theorem sX7_carsFor_40 : JSeg (jm jdX7_carsFor) [(40, .iload_n 1, 0, 0)] := ⟨by decide +kernel, trivial, trivial⟩
theorem sX7_carsFor_44 : JSeg (jm jdX7_carsFor) [(44, .iconst 1, 0, 0), (45, .goto 4, 0, 0)] := ⟨by decide +kernel, trivial, trivial, trivial⟩
theorem sX7_carsFor_48 : JSeg (jm jdX7_carsFor) [(48, .iconst 0, 0, 0)] := ⟨by decide +kernel, trivial, trivial⟩
theorem sX7_carsFor_49 : JSeg (jm jdX7_carsFor) [(49, .iadd, 0, 0), (50, .istore_n 2, 0, 0), (51, .iinc 3 1, 0, 0), (54, .goto (-34), 0, 0)] := ⟨by decide +kernel, trivial, trivial, trivial, trivial, trivial⟩
theorem sX7_carsFor_57 : JSeg (jm jdX7_carsFor) [(57, .aload_n 0, 0, 0), (58, .iload_n 2, 0, 0)] := ⟨by decide +kernel, trivial, trivial, trivial⟩
theorem dX7_carsFor_4 : decode cX7_carsFor 4 = .ok (.invokestatic 52, 3) := by decide +kernel
theorem dX7_carsFor_7 : decode cX7_carsFor 7 = .ok (.ifCond .ne 9, 3) := by decide +kernel
theorem dX7_carsFor_12 : decode cX7_carsFor 12 = .ok (.invokevirtual 75, 3) := by decide +kernel
theorem dX7_carsFor_15 : decode cX7_carsFor 15 = .ok (.ireturn, 1) := by decide +kernel
theorem dX7_carsFor_27 : decode cX7_carsFor 27 = .ok (.if_icmp .ge 30, 3) := by decide +kernel
theorem dX7_carsFor_39 : decode cX7_carsFor 39 = .ok (.iaload, 1) := by decide +kernel
theorem dX7_carsFor_41 : decode cX7_carsFor 41 = .ok (.if_icmp .ne 7, 3) := by decide +kernel
theorem dX7_carsFor_59 : decode cX7_carsFor 59 = .ok (.invokevirtual 79, 3) := by decide +kernel
theorem dX7_carsFor_62 : decode cX7_carsFor 62 = .ok (.ireturn, 1) := by decide +kernel
theorem sX7_isCarAhead_0 : JSeg (jm jdX7_isCarAhead) [(0, .aload_n 0, 0, 0), (1, .getfield 7, 7, 0), (4, .bipush 99, 0, 0), (6, .iload_n 2, 0, 0), (7, .iadd, 0, 0)] := ⟨by decide +kernel, trivial, fkX7_7, trivial, trivial, trivial, trivial⟩
theorem sX7_isCarAhead_9 : JSeg (jm jdX7_isCarAhead) [(9, .aload_n 0, 0, 0), (10, .getfield 7, 7, 0), (13, .bipush 99, 0, 0), (15, .iload_n 1, 0, 0), (16, .iadd, 0, 0)] := ⟨by decide +kernel, trivial, fkX7_7, trivial, trivial, trivial, trivial⟩
theorem sX7_isCarAhead_18 : JSeg (jm jdX7_isCarAhead) [(18, .isub, 0, 0), (19, .istore_n 3, 0, 0), (20, .aload_n 0, 0, 0), (21, .getfield 7, 7, 0), (24, .bipush 79, 0, 0), (26, .iload_n 1, 0, 0), (27, .iadd, 0, 0)] := ⟨by decide +kernel, trivial, trivial, trivial, fkX7_7, trivial, trivial, trivial, trivial⟩
theorem sX7_isCarAhead_29 : JSeg (jm jdX7_isCarAhead) [(29, .aload_n 0, 0, 0), (30, .getfield 7, 7, 0), (33, .bipush 79, 0, 0), (35, .iload_n 2, 0, 0), (36, .iadd, 0, 0)] := ⟨by decide +kernel, trivial, fkX7_7, trivial, trivial, trivial, trivial⟩
theorem sX7_isCarAhead_38 : JSeg (jm jdX7_isCarAhead) [(38, .isub, 0, 0), (39, .istore 4, 0, 0), (41, .iload_n 3, 0, 0)] := ⟨by decide +kernel, trivial, trivial, trivial, trivial⟩
theorem sX7_isCarAhead_45 : JSeg (jm jdX7_isCarAhead) [(45, .iload_n 3, 0, 0)] := ⟨by decide +kernel, trivial, trivial⟩
theorem sX7_isCarAhead_49 : JSeg (jm jdX7_isCarAhead) [(49, .iload 4, 0, 0)] := ⟨by decide +kernel, trivial, trivial⟩
theorem sX7_isCarAhead_54 : JSeg (jm jdX7_isCarAhead) [(54, .iload 4, 0, 0)] := ⟨by decide +kernel, trivial, trivial⟩
theorem sX7_isCarAhead_59 : JSeg (jm jdX7_isCarAhead) [(59, .aload_n 0, 0, 0), (60, .getfield 7, 7, 0), (63, .bipush 39, 0, 0), (65, .iload_n 1, 0, 0), (66, .iadd, 0, 0)] := ⟨by decide +kernel, trivial, fkX7_7, trivial, trivial, trivial, trivial⟩
theorem sX7_isCarAhead_68 : JSeg (jm jdX7_isCarAhead) [(68, .aload_n 0, 0, 0), (69, .getfield 7, 7, 0), (72, .bipush 39, 0, 0), (74, .iload_n 2, 0, 0), (75, .iadd, 0, 0)] := ⟨by decide +kernel, trivial, fkX7_7, trivial, trivial, trivial, trivial⟩
theorem sX7_isCarAhead_80 : JSeg (jm jdX7_isCarAhead) [(80, .iconst 1, 0, 0), (81, .goto 4, 0, 0)] := ⟨by decide +kernel, trivial, trivial, trivial⟩
theorem sX7_isCarAhead_84 : JSeg (jm jdX7_isCarAhead) [(84, .iconst 0, 0, 0)] := ⟨by decide +kernel, trivial, trivial⟩
theorem dX7_isCarAhead_8 : decode cX7_isCarAhead 8 = .ok (.iaload, 1) := by decide +kernel
theorem dX7_isCarAhead_17 : decode cX7_isCarAhead 17 = .ok (.iaload, 1) := by decide +kernel
theorem dX7_isCarAhead_28 : decode cX7_isCarAhead 28 = .ok (.iaload, 1) := by decide +kernel
theorem dX7_isCarAhead_37 : decode cX7_isCarAhead 37 = .ok (.iaload, 1) := by decide +kernel
theorem dX7_isCarAhead_42 : decode cX7_isCarAhead 42 = .ok (.ifCond .gt 38, 3) := by decide +kernel
theorem dX7_isCarAhead_46 : decode cX7_isCarAhead 46 = .ok (.ifCond .ne 38, 3) := by decide +kernel
theorem dX7_isCarAhead_51 : decode cX7_isCarAhead 51 = .ok (.ifCond .gt 29, 3) := by decide +kernel
theorem dX7_isCarAhead_56 : decode cX7_isCarAhead 56 = .ok (.ifCond .ne 28, 3) := by decide +kernel
theorem dX7_isCarAhead_67 : decode cX7_isCarAhead 67 = .ok (.iaload, 1) := by decide +kernel
theorem dX7_isCarAhead_76 : decode cX7_isCarAhead 76 = .ok (.iaload, 1) := by decide +kernel
theorem dX7_isCarAhead_77 : decode cX7_isCarAhead 77 = .ok (.if_icmp .ge 7, 3) := by decide +kernel
theorem dX7_isCarAhead_85 : decode cX7_isCarAhead 85 = .ok (.ireturn, 1) := by decide +kernel
theorem sX7_carAtRank_0 : JSeg (jm jdX7_carAtRank) [(0, .iconst 0, 0, 0), (1, .istore_n 2, 0, 0)] := ⟨by decide +kernel, trivial, trivial, trivial⟩
theorem sX7_carAtRank_2 : JSeg (jm jdX7_carAtRank) [(2, .iload_n 2, 0, 0), (3, .aload_n 0, 0, 0), (4, .getfield 7, 7, 0), (7, .iconst 1, 0, 0), (8, .iaload, 0, 0)] := ⟨by decide +kernel, trivial, trivial, fkX7_7, trivial, trivial, trivial⟩
theorem sX7_carAtRank_12 : JSeg (jm jdX7_carAtRank) [(12, .iconst 0, 0, 0), (13, .istore_n 3, 0, 0), (14, .iconst 0, 0, 0), (15, .istore 4, 0, 0)] := ⟨by decide +kernel, trivial, trivial, trivial, trivial, trivial⟩
theorem sX7_carAtRank_17 : JSeg (jm jdX7_carAtRank) [(17, .iload 4, 0, 0), (19, .aload_n 0, 0, 0), (20, .getfield 7, 7, 0), (23, .iconst 1, 0, 0), (24, .iaload, 0, 0)] := ⟨by decide +kernel, trivial, trivial, fkX7_7, trivial, trivial, trivial⟩
theorem sX7_carAtRank_28 : JSeg (jm jdX7_carAtRank) [(28, .iload_n 3, 0, 0), (29, .aload_n 0, 0, 0), (30, .iload 4, 0, 0), (32, .iload_n 2, 0, 0)] := ⟨by decide +kernel, trivial, trivial, trivial, trivial, trivial⟩
theorem sX7_carAtRank_39 : JSeg (jm jdX7_carAtRank) [(39, .iconst 1, 0, 0), (40, .goto 4, 0, 0)] := ⟨by decide +kernel, trivial, trivial, trivial⟩
theorem sX7_carAtRank_43 : JSeg (jm jdX7_carAtRank) [(43, .iconst 0, 0, 0)] := ⟨by decide +kernel, trivial, trivial⟩
theorem sX7_carAtRank_44 : JSeg (jm jdX7_carAtRank) [(44, .iadd, 0, 0), (45, .istore_n 3, 0, 0), (46, .iinc 4 1, 0, 0), (49, .goto (-32), 0, 0)] := ⟨by decide +kernel, trivial, trivial, trivial, trivial, trivial⟩
theorem sX7_carAtRank_52 : JSeg (jm jdX7_carAtRank) [(52, .iload_n 3, 0, 0), (53, .iload_n 1, 0, 0)] := ⟨by decide +kernel, trivial, trivial, trivial⟩
theorem sX7_carAtRank_57 : JSeg (jm jdX7_carAtRank) [(57, .aload_n 0, 0, 0), (58, .aload_n 0, 0, 0), (59, .getfield 7, 7, 0), (62, .bipush 39, 0, 0), (64, .iload_n 2, 0, 0), (65, .iadd, 0, 0)] := ⟨by decide +kernel, trivial, trivial, fkX7_7, trivial, trivial, trivial, trivial⟩
theorem sX7_carAtRank_71 : JSeg (jm jdX7_carAtRank) [(71, .iinc 2 1, 0, 0), (74, .goto (-72), 0, 0)] := ⟨by decide +kernel, trivial, trivial, trivial⟩
theorem sX7_carAtRank_77 : JSeg (jm jdX7_carAtRank) [(77, .aload_n 0, 0, 0), (78, .iconst 1, 0, 0)] := ⟨by decide +kernel, trivial, trivial, trivial⟩
theorem dX7_carAtRank_9 : decode cX7_carAtRank 9 = .ok (.if_icmp .ge 68, 3) := by decide +kernel
theorem dX7_carAtRank_25 : decode cX7_carAtRank 25 = .ok (.if_icmp .ge 27, 3) := by decide +kernel
theorem dX7_carAtRank_33 : decode cX7_carAtRank 33 = .ok (.invokevirtual 169, 3) := by decide +kernel
theorem dX7_carAtRank_36 : decode cX7_carAtRank 36 = .ok (.ifCond .eq 7, 3) := by decide +kernel
theorem dX7_carAtRank_54 : decode cX7_carAtRank 54 = .ok (.if_icmp .ne 17, 3) := by decide +kernel
theorem dX7_carAtRank_66 : decode cX7_carAtRank 66 = .ok (.iaload, 1) := by decide +kernel
theorem dX7_carAtRank_67 : decode cX7_carAtRank 67 = .ok (.invokevirtual 79, 3) := by decide +kernel
theorem dX7_carAtRank_70 : decode cX7_carAtRank 70 = .ok (.ireturn, 1) := by decide +kernel
theorem dX7_carAtRank_79 : decode cX7_carAtRank 79 = .ok (.invokevirtual 75, 3) := by decide +kernel
theorem dX7_carAtRank_82 : decode cX7_carAtRank 82 = .ok (.ireturn, 1) := by decide +kernel
theorem sX7_time_0 : JSeg (jm jdX7_time) [(0, .aload_n 0, 0, 0), (1, .iconst 0, 0, 0), (2, .putfield 42, 7, 12), (5, .aload_n 0, 0, 0), (6, .getfield 7, 7, 0), (9, .iconst 5, 0, 0), (10, .iaload, 0, 0), (11, .i2l, 0, 0)] := ⟨by decide +kernel, trivial, trivial, fpX7_42, trivial, fkX7_7, trivial, trivial, trivial, trivial⟩
theorem dX7_time_12 : decode cX7_time 12 = .ok (.lreturn, 1) := by decide +kernel
theorem sX7_moveCount_0 : JSeg (jm jdX7_moveCount) [(0, .aload_n 0, 0, 0), (1, .aload_n 0, 0, 0), (2, .getfield 7, 7, 0), (5, .iconst 3, 0, 0), (6, .iaload, 0, 0)] := ⟨by decide +kernel, trivial, trivial, fkX7_7, trivial, trivial, trivial⟩
theorem dX7_moveCount_7 : decode cX7_moveCount 7 = .ok (.invokevirtual 79, 3) := by decide +kernel
theorem dX7_moveCount_10 : decode cX7_moveCount 10 = .ok (.ireturn, 1) := by decide +kernel
theorem sX7_departedCars_0 : JSeg (jm jdX7_departedCars) [(0, .aload_n 0, 0, 0), (1, .aload_n 0, 0, 0), (2, .getfield 7, 7, 0), (5, .iconst 4, 0, 0), (6, .iaload, 0, 0)] := ⟨by decide +kernel, trivial, trivial, fkX7_7, trivial, trivial, trivial⟩
theorem dX7_departedCars_7 : decode cX7_departedCars 7 = .ok (.invokevirtual 79, 3) := by decide +kernel
theorem dX7_departedCars_10 : decode cX7_departedCars 10 = .ok (.ireturn, 1) := by decide +kernel
theorem sX7_departedWeight_0 : JSeg (jm jdX7_departedWeight) [(0, .aload_n 0, 0, 0), (1, .iconst 0, 0, 0), (2, .putfield 42, 7, 12), (5, .aload_n 0, 0, 0), (6, .getfield 7, 7, 0), (9, .bipush 6, 0, 0), (11, .iaload, 0, 0), (12, .i2l, 0, 0)] := ⟨by decide +kernel, trivial, trivial, fpX7_42, trivial, fkX7_7, trivial, trivial, trivial, trivial⟩
theorem dX7_departedWeight_13 : decode cX7_departedWeight 13 = .ok (.lreturn, 1) := by decide +kernel
theorem sX7_meanMoveTime_0 : JSeg (jm jdX7_meanMoveTime) [(0, .aload_n 0, 0, 0), (1, .aload_n 0, 0, 0), (2, .getfield 7, 7, 0), (5, .iconst 3, 0, 0), (6, .iaload, 0, 0)] := ⟨by decide +kernel, trivial, trivial, fkX7_7, trivial, trivial, trivial⟩
theorem sX7_meanMoveTime_10 : JSeg (jm jdX7_meanMoveTime) [(10, .iconst 1, 0, 0), (11, .goto 4, 0, 0)] := ⟨by decide +kernel, trivial, trivial, trivial⟩
theorem sX7_meanMoveTime_14 : JSeg (jm jdX7_meanMoveTime) [(14, .iconst 0, 0, 0)] := ⟨by decide +kernel, trivial, trivial⟩
theorem sX7_meanMoveTime_15 : JSeg (jm jdX7_meanMoveTime) [(15, .putfield 42, 7, 12), (18, .aload_n 0, 0, 0), (19, .getfield 42, 7, 12)] := ⟨by decide +kernel, fpX7_42, trivial, fkX7_42, trivial⟩
theorem sX7_meanMoveTime_25 : JSeg (jm jdX7_meanMoveTime) [(25, .aload_n 0, 0, 0), (26, .getfield 7, 7, 0), (29, .iconst 5, 0, 0), (30, .iaload, 0, 0), (31, .i2d, 0, 0), (32, .aload_n 0, 0, 0), (33, .getfield 7, 7, 0), (36, .iconst 3, 0, 0), (37, .iaload, 0, 0), (38, .i2d, 0, 0)] := ⟨by decide +kernel, trivial, fkX7_7, trivial, trivial, trivial, trivial, fkX7_7, trivial, trivial, trivial, trivial⟩
theorem sX7_meanMoveTime_40 : JSeg (jm jdX7_meanMoveTime) [(40, .goto 4, 0, 0)] := ⟨by decide +kernel, trivial, trivial⟩
theorem dX7_meanMoveTime_7 : decode cX7_meanMoveTime 7 = .ok (.ifCond .ne 7, 3) := by decide +kernel
theorem dX7_meanMoveTime_22 : decode cX7_meanMoveTime 22 = .ok (.ifCond .ne 21, 3) := by decide +kernel
theorem dX7_meanMoveTime_39 : decode cX7_meanMoveTime 39 = .ok (.ddiv, 1) := by decide +kernel
theorem dX7_meanMoveTime_43 : decode cX7_meanMoveTime 43 = .ok (.dconst 0, 1) := by decide +kernel
theorem dX7_meanMoveTime_44 : decode cX7_meanMoveTime 44 = .ok (.dreturn, 1) := by decide +kernel
theorem sX7_usedShare_0 : JSeg (jm jdX7_usedShare) [(0, .iconst 0, 0, 0), (1, .istore_n 1, 0, 0), (2, .iconst 0, 0, 0), (3, .istore_n 2, 0, 0), (4, .iconst 0, 0, 0), (5, .istore_n 3, 0, 0)] := ⟨by decide +kernel, trivial, trivial, trivial, trivial, trivial, trivial, trivial⟩
theorem sX7_usedShare_6 : JSeg (jm jdX7_usedShare) [(6, .iload_n 3, 0, 0), (7, .aload_n 0, 0, 0), (8, .getfield 7, 7, 0), (11, .iconst 0, 0, 0), (12, .iaload, 0, 0)] := ⟨by decide +kernel, trivial, trivial, fkX7_7, trivial, trivial, trivial⟩
theorem sX7_usedShare_16 : JSeg (jm jdX7_usedShare) [(16, .iload_n 1, 0, 0), (17, .aload_n 0, 0, 0), (18, .iload_n 3, 0, 0), (19, .bipush 59, 0, 0)] := ⟨by decide +kernel, trivial, trivial, trivial, trivial, trivial⟩
theorem sX7_usedShare_24 : JSeg (jm jdX7_usedShare) [(24, .iadd, 0, 0), (25, .istore_n 1, 0, 0), (26, .iload_n 2, 0, 0), (27, .aload_n 0, 0, 0), (28, .getfield 7, 7, 0), (31, .bipush 7, 0, 0), (33, .iload_n 3, 0, 0), (34, .iadd, 0, 0)] := ⟨by decide +kernel, trivial, trivial, trivial, trivial, fkX7_7, trivial, trivial, trivial, trivial⟩
theorem sX7_usedShare_36 : JSeg (jm jdX7_usedShare) [(36, .iadd, 0, 0), (37, .istore_n 2, 0, 0), (38, .iinc 3 1, 0, 0), (41, .goto (-35), 0, 0)] := ⟨by decide +kernel, trivial, trivial, trivial, trivial, trivial⟩
theorem sX7_usedShare_44 : JSeg (jm jdX7_usedShare) [(44, .aload_n 0, 0, 0), (45, .aload_n 0, 0, 0), (46, .getfield 7, 7, 0), (49, .iconst 0, 0, 0), (50, .iaload, 0, 0)] := ⟨by decide +kernel, trivial, trivial, fkX7_7, trivial, trivial, trivial⟩
theorem sX7_usedShare_54 : JSeg (jm jdX7_usedShare) [(54, .iconst 1, 0, 0), (55, .goto 4, 0, 0)] := ⟨by decide +kernel, trivial, trivial, trivial⟩
theorem sX7_usedShare_58 : JSeg (jm jdX7_usedShare) [(58, .iconst 0, 0, 0)] := ⟨by decide +kernel, trivial, trivial⟩
theorem sX7_usedShare_59 : JSeg (jm jdX7_usedShare) [(59, .putfield 42, 7, 12), (62, .aload_n 0, 0, 0), (63, .getfield 42, 7, 12)] := ⟨by decide +kernel, fpX7_42, trivial, fkX7_42, trivial⟩
theorem sX7_usedShare_69 : JSeg (jm jdX7_usedShare) [(69, .iload_n 1, 0, 0), (70, .i2f, 0, 0), (71, .iload_n 2, 0, 0), (72, .i2f, 0, 0)] := ⟨by decide +kernel, trivial, trivial, trivial, trivial, trivial⟩
theorem sX7_usedShare_74 : JSeg (jm jdX7_usedShare) [(74, .goto 4, 0, 0)] := ⟨by decide +kernel, trivial, trivial⟩
theorem dX7_usedShare_13 : decode cX7_usedShare 13 = .ok (.if_icmp .ge 31, 3) := by decide +kernel
theorem dX7_usedShare_21 : decode cX7_usedShare 21 = .ok (.invokevirtual 64, 3) := by decide +kernel
theorem dX7_usedShare_35 : decode cX7_usedShare 35 = .ok (.iaload, 1) := by decide +kernel
theorem dX7_usedShare_51 : decode cX7_usedShare 51 = .ok (.ifCond .ne 7, 3) := by decide +kernel
theorem dX7_usedShare_66 : decode cX7_usedShare 66 = .ok (.ifCond .ne 11, 3) := by decide +kernel
theorem dX7_usedShare_73 : decode cX7_usedShare 73 = .ok (.fdiv, 1) := by decide +kernel
theorem dX7_usedShare_77 : decode cX7_usedShare 77 = .ok (.fconst 0, 1) := by decide +kernel
theorem dX7_usedShare_78 : decode cX7_usedShare 78 = .ok (.freturn, 1) := by decide +kernel
theorem sX7_isConsistent_0 : JSeg (jm jdX7_isConsistent) [(0, .aload_n 0, 0, 0), (1, .iconst 0, 0, 0), (2, .putfield 42, 7, 12), (5, .iconst 1, 0, 0)] := ⟨by decide +kernel, trivial, trivial, fpX7_42, trivial, trivial⟩
theorem dX7_isConsistent_6 : decode cX7_isConsistent 6 = .ok (.ireturn, 1) := by decide +kernel
theorem fpX7_172 : FP0 RX7 172 7 7 := ⟨_, _, _, _, ci_X7, by decide, bw_of 1493 (by decide +kernel) (by decide +kernel), rfl, rfl⟩
theorem sX7_append_0 : JSeg (jm jdX7_append) [(0, .aload_n 0, 0, 0), (1, .getfield 172, 7, 7), (4, .bipush 60, 0, 0)] := ⟨by decide +kernel, trivial, fkX7_172, trivial, trivial⟩
theorem sX7_append_9 : JSeg (jm jdX7_append) [(9, .aload_n 0, 0, 0), (10, .iconst 1, 0, 0)] := ⟨by decide +kernel, trivial, trivial, trivial⟩
theorem sX7_append_15 : JSeg (jm jdX7_append) [(15, .aload_n 0, 0, 0), (16, .getfield 22, 7, 6), (19, .aload_n 0, 0, 0), (20, .getfield 172, 7, 7), (23, .iload_n 1, 0, 0)] := ⟨by decide +kernel, trivial, fkX7_22, trivial, fkX7_172, trivial, trivial⟩
theorem sX7_append_25 : JSeg (jm jdX7_append) [(25, .aload_n 0, 0, 0), (26, .dup, 0, 0), (27, .getfield 172, 7, 7), (30, .iconst 1, 0, 0), (31, .iadd, 0, 0), (32, .putfield 172, 7, 7), (35, .aload_n 0, 0, 0), (36, .aload_n 0, 0, 0), (37, .getfield 172, 7, 7)] := ⟨by decide +kernel, trivial, trivial, fkX7_172, trivial, trivial, fpX7_172, trivial, trivial, fkX7_172, trivial⟩
theorem dX7_append_6 : decode cX7_append 6 = .ok (.if_icmp .ne 9, 3) := by decide +kernel
theorem dX7_append_11 : decode cX7_append 11 = .ok (.invokevirtual 75, 3) := by decide +kernel
theorem dX7_append_14 : decode cX7_append 14 = .ok (.ireturn, 1) := by decide +kernel
theorem dX7_append_24 : decode cX7_append 24 = .ok (.castore, 1) := by decide +kernel
theorem dX7_append_40 : decode cX7_append 40 = .ok (.invokevirtual 79, 3) := by decide +kernel
theorem dX7_append_43 : decode cX7_append 43 = .ok (.ireturn, 1) := by decide +kernel
theorem sX7_here_0 : JSeg (jm jdX7_here) [(0, .aload_n 0, 0, 0), (1, .getfield 175, 7, 14), (4, .aload_n 0, 0, 0), (5, .getfield 172, 7, 7)] := ⟨by decide +kernel, trivial, fkX7_175, trivial, fkX7_172, trivial⟩
theorem sX7_here_11 : JSeg (jm jdX7_here) [(11, .aload_n 0, 0, 0), (12, .getfield 22, 7, 6), (15, .aload_n 0, 0, 0), (16, .getfield 175, 7, 14)] := ⟨by decide +kernel, trivial, fkX7_22, trivial, fkX7_175, trivial⟩
theorem sX7_here_20 : JSeg (jm jdX7_here) [(20, .goto 4, 0, 0)] := ⟨by decide +kernel, trivial, trivial⟩
theorem sX7_here_23 : JSeg (jm jdX7_here) [(23, .iconst (-1), 0, 0)] := ⟨by decide +kernel, trivial, trivial⟩
theorem dX7_here_8 : decode cX7_here 8 = .ok (.if_icmp .ge 15, 3) := by decide +kernel
theorem dX7_here_19 : decode cX7_here 19 = .ok (.caload, 1) := by decide +kernel
theorem dX7_here_24 : decode cX7_here 24 = .ok (.ireturn, 1) := by decide +kernel
theorem fpX7_175 : FP0 RX7 175 7 14 := ⟨_, _, _, _, ci_X7, by decide, bw_of 1500 (by decide +kernel) (by decide +kernel), rfl, rfl⟩
theorem sX7_needs_0 : JSeg (jm jdX7_needs) [(0, .aload_n 0, 0, 0), (1, .aload_n 0, 0, 0), (2, .getfield 178, 7, 15)] := ⟨by decide +kernel, trivial, trivial, fkX7_178, trivial⟩
theorem sX7_needs_8 : JSeg (jm jdX7_needs) [(8, .aload_n 0, 0, 0)] := ⟨by decide +kernel, trivial, trivial⟩
theorem sX7_needs_12 : JSeg (jm jdX7_needs) [(12, .iload_n 1, 0, 0)] := ⟨by decide +kernel, trivial, trivial⟩
theorem sX7_needs_16 : JSeg (jm jdX7_needs) [(16, .iconst 1, 0, 0), (17, .goto 4, 0, 0)] := ⟨by decide +kernel, trivial, trivial, trivial⟩
theorem sX7_needs_20 : JSeg (jm jdX7_needs) [(20, .iconst 0, 0, 0)] := ⟨by decide +kernel, trivial, trivial⟩
theorem sX7_needs_24 : JSeg (jm jdX7_needs) [(24, .aload_n 0, 0, 0), (25, .dup, 0, 0), (26, .getfield 175, 7, 14), (29, .aload_n 0, 0, 0), (30, .getfield 178, 7, 15)] := ⟨by decide +kernel, trivial, trivial, fkX7_175, trivial, fkX7_178, trivial⟩
theorem sX7_needs_36 : JSeg (jm jdX7_needs) [(36, .iconst 0, 0, 0), (37, .goto 4, 0, 0)] := ⟨by decide +kernel, trivial, trivial, trivial⟩
theorem sX7_needs_40 : JSeg (jm jdX7_needs) [(40, .iconst 1, 0, 0)] := ⟨by decide +kernel, trivial, trivial⟩
theorem sX7_needs_41 : JSeg (jm jdX7_needs) [(41, .iadd, 0, 0), (42, .putfield 175, 7, 14)] := ⟨by decide +kernel, trivial, fpX7_175, trivial⟩
theorem dX7_needs_5 : decode cX7_needs 5 = .ok (.ifCond .ne 11, 3) := by decide +kernel
theorem dX7_needs_9 : decode cX7_needs 9 = .ok (.invokevirtual 182, 3) := by decide +kernel
theorem dX7_needs_13 : decode cX7_needs 13 = .ok (.if_icmp .eq 7, 3) := by decide +kernel
theorem dX7_needs_21 : decode cX7_needs 21 = .ok (.putfield 178, 3) := by decide +kernel
theorem dX7_needs_33 : decode cX7_needs 33 = .ok (.ifCond .eq 7, 3) := by decide +kernel
theorem dX7_needs_45 : decode cX7_needs 45 = .ok (.return_, 1) := by decide +kernel
theorem sX7_needsThree_0 : JSeg (jm jdX7_needsThree) [(0, .aload_n 0, 0, 0), (1, .iload_n 1, 0, 0)] := ⟨by decide +kernel, trivial, trivial, trivial⟩
theorem sX7_needsThree_5 : JSeg (jm jdX7_needsThree) [(5, .aload_n 0, 0, 0), (6, .iload_n 2, 0, 0)] := ⟨by decide +kernel, trivial, trivial, trivial⟩
theorem sX7_needsThree_10 : JSeg (jm jdX7_needsThree) [(10, .aload_n 0, 0, 0), (11, .iload_n 3, 0, 0)] := ⟨by decide +kernel, trivial, trivial, trivial⟩
theorem dX7_needsThree_2 : decode cX7_needsThree 2 = .ok (.invokevirtual 185, 3) := by decide +kernel
theorem dX7_needsThree_7 : decode cX7_needsThree 7 = .ok (.invokevirtual 185, 3) := by decide +kernel
theorem dX7_needsThree_12 : decode cX7_needsThree 12 = .ok (.invokevirtual 185, 3) := by decide +kernel
theorem dX7_needsThree_15 : decode cX7_needsThree 15 = .ok (.return_, 1) := by decide +kernel
theorem sX7_digitsAfter_0 : JSeg (jm jdX7_digitsAfter) [(0, .aload_n 0, 0, 0), (1, .iload_n 1, 0, 0)] := ⟨by decide +kernel, trivial, trivial, trivial⟩
theorem sX7_digitsAfter_5 : JSeg (jm jdX7_digitsAfter) [(5, .aload_n 0, 0, 0), (6, .aload_n 0, 0, 0), (7, .getfield 178, 7, 15)] := ⟨by decide +kernel, trivial, trivial, fkX7_178, trivial⟩
theorem sX7_digitsAfter_13 : JSeg (jm jdX7_digitsAfter) [(13, .aload_n 0, 0, 0)] := ⟨by decide +kernel, trivial, trivial⟩
theorem sX7_digitsAfter_17 : JSeg (jm jdX7_digitsAfter) [(17, .bipush 48, 0, 0), (19, .bipush 57, 0, 0)] := ⟨by decide +kernel, trivial, trivial, trivial⟩
theorem sX7_digitsAfter_27 : JSeg (jm jdX7_digitsAfter) [(27, .iconst 1, 0, 0), (28, .goto 4, 0, 0)] := ⟨by decide +kernel, trivial, trivial, trivial⟩
theorem sX7_digitsAfter_31 : JSeg (jm jdX7_digitsAfter) [(31, .iconst 0, 0, 0)] := ⟨by decide +kernel, trivial, trivial⟩
theorem sX7_digitsAfter_35 : JSeg (jm jdX7_digitsAfter) [(35, .iconst 0, 0, 0), (36, .istore_n 3, 0, 0), (37, .iconst 0, 0, 0), (38, .istore 4, 0, 0)] := ⟨by decide +kernel, trivial, trivial, trivial, trivial, trivial⟩
theorem sX7_digitsAfter_40 : JSeg (jm jdX7_digitsAfter) [(40, .aload_n 0, 0, 0), (41, .getfield 178, 7, 15)] := ⟨by decide +kernel, trivial, fkX7_178, trivial⟩
theorem sX7_digitsAfter_47 : JSeg (jm jdX7_digitsAfter) [(47, .iload 4, 0, 0), (49, .iload_n 2, 0, 0)] := ⟨by decide +kernel, trivial, trivial, trivial⟩
theorem sX7_digitsAfter_53 : JSeg (jm jdX7_digitsAfter) [(53, .aload_n 0, 0, 0)] := ⟨by decide +kernel, trivial, trivial⟩
theorem sX7_digitsAfter_57 : JSeg (jm jdX7_digitsAfter) [(57, .bipush 48, 0, 0), (59, .bipush 57, 0, 0)] := ⟨by decide +kernel, trivial, trivial, trivial⟩
theorem sX7_digitsAfter_67 : JSeg (jm jdX7_digitsAfter) [(67, .bipush 10, 0, 0), (69, .iload_n 3, 0, 0), (70, .imul, 0, 0), (71, .aload_n 0, 0, 0)] := ⟨by decide +kernel, trivial, trivial, trivial, trivial, trivial⟩
theorem sX7_digitsAfter_75 : JSeg (jm jdX7_digitsAfter) [(75, .iadd, 0, 0), (76, .bipush 48, 0, 0), (78, .isub, 0, 0), (79, .istore_n 3, 0, 0), (80, .aload_n 0, 0, 0), (81, .dup, 0, 0), (82, .getfield 175, 7, 14), (85, .iconst 1, 0, 0), (86, .iadd, 0, 0), (87, .putfield 175, 7, 14), (90, .iinc 4 1, 0, 0), (93, .goto (-53), 0, 0)] := ⟨by decide +kernel, trivial, trivial, trivial, trivial, trivial, trivial, fkX7_175, trivial, trivial, fpX7_175, trivial, trivial, trivial⟩
theorem sX7_digitsAfter_96 : JSeg (jm jdX7_digitsAfter) [(96, .iload_n 3, 0, 0)] := ⟨by decide +kernel, trivial, trivial⟩
theorem dX7_digitsAfter_2 : decode cX7_digitsAfter 2 = .ok (.invokevirtual 185, 3) := by decide +kernel
theorem dX7_digitsAfter_10 : decode cX7_digitsAfter 10 = .ok (.ifCond .ne 17, 3) := by decide +kernel
theorem dX7_digitsAfter_14 : decode cX7_digitsAfter 14 = .ok (.invokevirtual 182, 3) := by decide +kernel
theorem dX7_digitsAfter_21 : decode cX7_digitsAfter 21 = .ok (.invokestatic 52, 3) := by decide +kernel
theorem dX7_digitsAfter_24 : decode cX7_digitsAfter 24 = .ok (.ifCond .ne 7, 3) := by decide +kernel
theorem dX7_digitsAfter_32 : decode cX7_digitsAfter 32 = .ok (.putfield 178, 3) := by decide +kernel
theorem dX7_digitsAfter_44 : decode cX7_digitsAfter 44 = .ok (.ifCond .ne 52, 3) := by decide +kernel
theorem dX7_digitsAfter_50 : decode cX7_digitsAfter 50 = .ok (.if_icmp .ge 46, 3) := by decide +kernel
theorem dX7_digitsAfter_54 : decode cX7_digitsAfter 54 = .ok (.invokevirtual 182, 3) := by decide +kernel
theorem dX7_digitsAfter_61 : decode cX7_digitsAfter 61 = .ok (.invokestatic 52, 3) := by decide +kernel
theorem dX7_digitsAfter_64 : decode cX7_digitsAfter 64 = .ok (.ifCond .eq 32, 3) := by decide +kernel
theorem dX7_digitsAfter_72 : decode cX7_digitsAfter 72 = .ok (.invokevirtual 182, 3) := by decide +kernel
theorem dX7_digitsAfter_97 : decode cX7_digitsAfter 97 = .ok (.ireturn, 1) := by decide +kernel
theorem sX7_parsesPair_0 : JSeg (jm jdX7_parsesPair) [(0, .aload_n 0, 0, 0), (1, .getfield 39, 7, 16), (4, .iload_n 1, 0, 0), (5, .iconst 1, 0, 0), (6, .iadd, 0, 0), (7, .aload_n 0, 0, 0), (8, .bipush 32, 0, 0), (10, .iconst 1, 0, 0)] := ⟨by decide +kernel, trivial, fkX7_39, trivial, trivial, trivial, trivial, trivial, trivial, trivial⟩
theorem sX7_parsesPair_15 : JSeg (jm jdX7_parsesPair) [(15, .aload_n 0, 0, 0), (16, .getfield 39, 7, 16), (19, .iload_n 1, 0, 0), (20, .iconst 2, 0, 0), (21, .iadd, 0, 0), (22, .aload_n 0, 0, 0), (23, .bipush 45, 0, 0), (25, .iconst 1, 0, 0)] := ⟨by decide +kernel, trivial, fkX7_39, trivial, trivial, trivial, trivial, trivial, trivial, trivial⟩
theorem dX7_parsesPair_11 : decode cX7_parsesPair 11 = .ok (.invokevirtual 188, 3) := by decide +kernel
theorem dX7_parsesPair_14 : decode cX7_parsesPair 14 = .ok (.iastore, 1) := by decide +kernel
theorem dX7_parsesPair_26 : decode cX7_parsesPair 26 = .ok (.invokevirtual 188, 3) := by decide +kernel
theorem dX7_parsesPair_29 : decode cX7_parsesPair 29 = .ok (.iastore, 1) := by decide +kernel
theorem dX7_parsesPair_30 : decode cX7_parsesPair 30 = .ok (.return_, 1) := by decide +kernel
theorem sX7_parsesT_0 : JSeg (jm jdX7_parsesT) [(0, .aload_n 0, 0, 0), (1, .bipush 114, 0, 0)] := ⟨by decide +kernel, trivial, trivial, trivial⟩
theorem sX7_parsesT_6 : JSeg (jm jdX7_parsesT) [(6, .aload_n 0, 0, 0), (7, .bipush 97, 0, 0)] := ⟨by decide +kernel, trivial, trivial, trivial⟩
theorem sX7_parsesT_12 : JSeg (jm jdX7_parsesT) [(12, .aload_n 0, 0, 0), (13, .getfield 178, 7, 15)] := ⟨by decide +kernel, trivial, fkX7_178, trivial⟩
theorem sX7_parsesT_19 : JSeg (jm jdX7_parsesT) [(19, .aload_n 0, 0, 0)] := ⟨by decide +kernel, trivial, trivial⟩
theorem sX7_parsesT_23 : JSeg (jm jdX7_parsesT) [(23, .bipush 105, 0, 0)] := ⟨by decide +kernel, trivial, trivial⟩
theorem sX7_parsesT_28 : JSeg (jm jdX7_parsesT) [(28, .aload_n 0, 0, 0), (29, .getfield 39, 7, 16), (32, .iload_n 1, 0, 0), (33, .bipush 105, 0, 0)] := ⟨by decide +kernel, trivial, fkX7_39, trivial, trivial, trivial⟩
theorem sX7_parsesT_36 : JSeg (jm jdX7_parsesT) [(36, .aload_n 0, 0, 0), (37, .bipush 105, 0, 0)] := ⟨by decide +kernel, trivial, trivial, trivial⟩
theorem sX7_parsesT_42 : JSeg (jm jdX7_parsesT) [(42, .aload_n 0, 0, 0), (43, .bipush 110, 0, 0)] := ⟨by decide +kernel, trivial, trivial, trivial⟩
theorem sX7_parsesT_48 : JSeg (jm jdX7_parsesT) [(48, .aload_n 0, 0, 0), (49, .getfield 39, 7, 16), (52, .iload_n 1, 0, 0), (53, .iconst 1, 0, 0), (54, .iadd, 0, 0), (55, .aload_n 0, 0, 0), (56, .bipush 32, 0, 0), (58, .iconst 1, 0, 0)] := ⟨by decide +kernel, trivial, fkX7_39, trivial, trivial, trivial, trivial, trivial, trivial, trivial⟩
theorem sX7_parsesT_63 : JSeg (jm jdX7_parsesT) [(63, .goto 30, 0, 0)] := ⟨by decide +kernel, trivial, trivial⟩
theorem sX7_parsesT_66 : JSeg (jm jdX7_parsesT) [(66, .aload_n 0, 0, 0), (67, .bipush 99, 0, 0)] := ⟨by decide +kernel, trivial, trivial, trivial⟩
theorem sX7_parsesT_72 : JSeg (jm jdX7_parsesT) [(72, .aload_n 0, 0, 0), (73, .bipush 107, 0, 0)] := ⟨by decide +kernel, trivial, trivial, trivial⟩
theorem sX7_parsesT_78 : JSeg (jm jdX7_parsesT) [(78, .aload_n 0, 0, 0), (79, .getfield 39, 7, 16), (82, .iload_n 1, 0, 0), (83, .iconst 1, 0, 0), (84, .iadd, 0, 0), (85, .aload_n 0, 0, 0), (86, .bipush 32, 0, 0), (88, .iconst 2, 0, 0)] := ⟨by decide +kernel, trivial, fkX7_39, trivial, trivial, trivial, trivial, trivial, trivial, trivial⟩
theorem sX7_parsesT_93 : JSeg (jm jdX7_parsesT) [(93, .aload_n 0, 0, 0), (94, .getfield 39, 7, 16), (97, .iload_n 1, 0, 0), (98, .iconst 2, 0, 0), (99, .iadd, 0, 0), (100, .aload_n 0, 0, 0), (101, .bipush 32, 0, 0), (103, .iconst 1, 0, 0)] := ⟨by decide +kernel, trivial, fkX7_39, trivial, trivial, trivial, trivial, trivial, trivial, trivial⟩
theorem dX7_parsesT_3 : decode cX7_parsesT 3 = .ok (.invokevirtual 185, 3) := by decide +kernel
theorem dX7_parsesT_9 : decode cX7_parsesT 9 = .ok (.invokevirtual 185, 3) := by decide +kernel
theorem dX7_parsesT_16 : decode cX7_parsesT 16 = .ok (.ifCond .ne 50, 3) := by decide +kernel
theorem dX7_parsesT_20 : decode cX7_parsesT 20 = .ok (.invokevirtual 182, 3) := by decide +kernel
theorem dX7_parsesT_25 : decode cX7_parsesT 25 = .ok (.if_icmp .ne 41, 3) := by decide +kernel
theorem dX7_parsesT_35 : decode cX7_parsesT 35 = .ok (.iastore, 1) := by decide +kernel
theorem dX7_parsesT_39 : decode cX7_parsesT 39 = .ok (.invokevirtual 185, 3) := by decide +kernel
theorem dX7_parsesT_45 : decode cX7_parsesT 45 = .ok (.invokevirtual 185, 3) := by decide +kernel
theorem dX7_parsesT_59 : decode cX7_parsesT 59 = .ok (.invokevirtual 188, 3) := by decide +kernel
theorem dX7_parsesT_62 : decode cX7_parsesT 62 = .ok (.iastore, 1) := by decide +kernel
theorem dX7_parsesT_69 : decode cX7_parsesT 69 = .ok (.invokevirtual 185, 3) := by decide +kernel
theorem dX7_parsesT_75 : decode cX7_parsesT 75 = .ok (.invokevirtual 185, 3) := by decide +kernel
theorem dX7_parsesT_89 : decode cX7_parsesT 89 = .ok (.invokevirtual 188, 3) := by decide +kernel
theorem dX7_parsesT_92 : decode cX7_parsesT 92 = .ok (.iastore, 1) := by decide +kernel
theorem dX7_parsesT_104 : decode cX7_parsesT 104 = .ok (.invokevirtual 188, 3) := by decide +kernel
theorem dX7_parsesT_107 : decode cX7_parsesT 107 = .ok (.iastore, 1) := by decide +kernel
theorem dX7_parsesT_108 : decode cX7_parsesT 108 = .ok (.return_, 1) := by decide +kernel
theorem sX7_parsesS_0 : JSeg (jm jdX7_parsesS) [(0, .aload_n 0, 0, 0)] := ⟨by decide +kernel, trivial, trivial⟩
theorem sX7_parsesS_4 : JSeg (jm jdX7_parsesS) [(4, .bipush 104, 0, 0)] := ⟨by decide +kernel, trivial, trivial⟩
theorem sX7_parsesS_9 : JSeg (jm jdX7_parsesS) [(9, .aload_n 0, 0, 0), (10, .getfield 39, 7, 16), (13, .iload_n 1, 0, 0), (14, .bipush 104, 0, 0)] := ⟨by decide +kernel, trivial, fkX7_39, trivial, trivial, trivial⟩
theorem sX7_parsesS_17 : JSeg (jm jdX7_parsesS) [(17, .aload_n 0, 0, 0), (18, .bipush 104, 0, 0), (20, .bipush 117, 0, 0), (22, .bipush 110, 0, 0)] := ⟨by decide +kernel, trivial, trivial, trivial, trivial, trivial⟩
theorem sX7_parsesS_27 : JSeg (jm jdX7_parsesS) [(27, .aload_n 0, 0, 0), (28, .bipush 116, 0, 0)] := ⟨by decide +kernel, trivial, trivial, trivial⟩
theorem sX7_parsesS_33 : JSeg (jm jdX7_parsesS) [(33, .aload_n 0, 0, 0), (34, .getfield 39, 7, 16), (37, .iload_n 1, 0, 0), (38, .iconst 1, 0, 0), (39, .iadd, 0, 0), (40, .aload_n 0, 0, 0), (41, .bipush 32, 0, 0), (43, .iconst 1, 0, 0)] := ⟨by decide +kernel, trivial, fkX7_39, trivial, trivial, trivial, trivial, trivial, trivial, trivial⟩
theorem sX7_parsesS_48 : JSeg (jm jdX7_parsesS) [(48, .aload_n 0, 0, 0), (49, .getfield 39, 7, 16), (52, .iload_n 1, 0, 0), (53, .iconst 2, 0, 0), (54, .iadd, 0, 0), (55, .aload_n 0, 0, 0), (56, .bipush 62, 0, 0), (58, .iconst 1, 0, 0)] := ⟨by decide +kernel, trivial, fkX7_39, trivial, trivial, trivial, trivial, trivial, trivial, trivial⟩
theorem sX7_parsesS_63 : JSeg (jm jdX7_parsesS) [(63, .aload_n 0, 0, 0), (64, .getfield 39, 7, 16), (67, .iload_n 1, 0, 0), (68, .iconst 3, 0, 0), (69, .iadd, 0, 0), (70, .aload_n 0, 0, 0), (71, .bipush 32, 0, 0), (73, .iconst 1, 0, 0)] := ⟨by decide +kernel, trivial, fkX7_39, trivial, trivial, trivial, trivial, trivial, trivial, trivial⟩
theorem sX7_parsesS_78 : JSeg (jm jdX7_parsesS) [(78, .goto 30, 0, 0)] := ⟨by decide +kernel, trivial, trivial⟩
theorem sX7_parsesS_81 : JSeg (jm jdX7_parsesS) [(81, .aload_n 0, 0, 0), (82, .bipush 119, 0, 0), (84, .bipush 105, 0, 0), (86, .bipush 116, 0, 0)] := ⟨by decide +kernel, trivial, trivial, trivial, trivial, trivial⟩
theorem sX7_parsesS_91 : JSeg (jm jdX7_parsesS) [(91, .aload_n 0, 0, 0), (92, .bipush 99, 0, 0)] := ⟨by decide +kernel, trivial, trivial, trivial⟩
theorem sX7_parsesS_97 : JSeg (jm jdX7_parsesS) [(97, .aload_n 0, 0, 0), (98, .bipush 104, 0, 0)] := ⟨by decide +kernel, trivial, trivial, trivial⟩
theorem sX7_parsesS_103 : JSeg (jm jdX7_parsesS) [(103, .aload_n 0, 0, 0), (104, .iload_n 1, 0, 0)] := ⟨by decide +kernel, trivial, trivial, trivial⟩
theorem dX7_parsesS_1 : decode cX7_parsesS 1 = .ok (.invokevirtual 182, 3) := by decide +kernel
theorem dX7_parsesS_6 : decode cX7_parsesS 6 = .ok (.if_icmp .ne 75, 3) := by decide +kernel
theorem dX7_parsesS_16 : decode cX7_parsesS 16 = .ok (.iastore, 1) := by decide +kernel
theorem dX7_parsesS_24 : decode cX7_parsesS 24 = .ok (.invokevirtual 191, 3) := by decide +kernel
theorem dX7_parsesS_30 : decode cX7_parsesS 30 = .ok (.invokevirtual 185, 3) := by decide +kernel
theorem dX7_parsesS_44 : decode cX7_parsesS 44 = .ok (.invokevirtual 188, 3) := by decide +kernel
theorem dX7_parsesS_47 : decode cX7_parsesS 47 = .ok (.iastore, 1) := by decide +kernel
theorem dX7_parsesS_59 : decode cX7_parsesS 59 = .ok (.invokevirtual 188, 3) := by decide +kernel
theorem dX7_parsesS_62 : decode cX7_parsesS 62 = .ok (.iastore, 1) := by decide +kernel
theorem dX7_parsesS_74 : decode cX7_parsesS 74 = .ok (.invokevirtual 188, 3) := by decide +kernel
theorem dX7_parsesS_77 : decode cX7_parsesS 77 = .ok (.iastore, 1) := by decide +kernel
theorem dX7_parsesS_88 : decode cX7_parsesS 88 = .ok (.invokevirtual 191, 3) := by decide +kernel
theorem dX7_parsesS_94 : decode cX7_parsesS 94 = .ok (.invokevirtual 185, 3) := by decide +kernel
theorem dX7_parsesS_100 : decode cX7_parsesS 100 = .ok (.invokevirtual 185, 3) := by decide +kernel
theorem dX7_parsesS_105 : decode cX7_parsesS 105 = .ok (.invokevirtual 195, 3) := by decide +kernel
theorem dX7_parsesS_108 : decode cX7_parsesS 108 = .ok (.return_, 1) := by decide +kernel
theorem sX7_parsesC_0 : JSeg (jm jdX7_parsesC) [(0, .aload_n 0, 0, 0)] := ⟨by decide +kernel, trivial, trivial⟩
theorem sX7_parsesC_4 : JSeg (jm jdX7_parsesC) [(4, .bipush 117, 0, 0)] := ⟨by decide +kernel, trivial, trivial⟩
theorem sX7_parsesC_9 : JSeg (jm jdX7_parsesC) [(9, .aload_n 0, 0, 0), (10, .getfield 39, 7, 16), (13, .iload_n 1, 0, 0), (14, .bipush 117, 0, 0)] := ⟨by decide +kernel, trivial, fkX7_39, trivial, trivial, trivial⟩
theorem sX7_parsesC_17 : JSeg (jm jdX7_parsesC) [(17, .aload_n 0, 0, 0), (18, .bipush 117, 0, 0)] := ⟨by decide +kernel, trivial, trivial, trivial⟩
theorem sX7_parsesC_23 : JSeg (jm jdX7_parsesC) [(23, .aload_n 0, 0, 0), (24, .bipush 116, 0, 0)] := ⟨by decide +kernel, trivial, trivial, trivial⟩
theorem sX7_parsesC_29 : JSeg (jm jdX7_parsesC) [(29, .aload_n 0, 0, 0), (30, .iload_n 1, 0, 0)] := ⟨by decide +kernel, trivial, trivial, trivial⟩
theorem sX7_parsesC_34 : JSeg (jm jdX7_parsesC) [(34, .goto 121, 0, 0)] := ⟨by decide +kernel, trivial, trivial⟩
theorem sX7_parsesC_37 : JSeg (jm jdX7_parsesC) [(37, .aload_n 0, 0, 0), (38, .bipush 97, 0, 0)] := ⟨by decide +kernel, trivial, trivial, trivial⟩
theorem sX7_parsesC_43 : JSeg (jm jdX7_parsesC) [(43, .aload_n 0, 0, 0), (44, .bipush 114, 0, 0)] := ⟨by decide +kernel, trivial, trivial, trivial⟩
theorem sX7_parsesC_49 : JSeg (jm jdX7_parsesC) [(49, .aload_n 0, 0, 0), (50, .getfield 39, 7, 16), (53, .iload_n 1, 0, 0), (54, .iconst 1, 0, 0), (55, .iadd, 0, 0), (56, .aload_n 0, 0, 0), (57, .bipush 32, 0, 0), (59, .iconst 1, 0, 0)] := ⟨by decide +kernel, trivial, fkX7_39, trivial, trivial, trivial, trivial, trivial, trivial, trivial⟩
theorem sX7_parsesC_64 : JSeg (jm jdX7_parsesC) [(64, .aload_n 0, 0, 0), (65, .getfield 39, 7, 16), (68, .iload_n 1, 0, 0), (69, .iconst 2, 0, 0), (70, .iadd, 0, 0), (71, .aload_n 0, 0, 0), (72, .bipush 32, 0, 0), (74, .iconst 2, 0, 0)] := ⟨by decide +kernel, trivial, fkX7_39, trivial, trivial, trivial, trivial, trivial, trivial, trivial⟩
theorem sX7_parsesC_79 : JSeg (jm jdX7_parsesC) [(79, .aload_n 0, 0, 0), (80, .getfield 39, 7, 16), (83, .iload_n 1, 0, 0), (84, .iconst 3, 0, 0), (85, .iadd, 0, 0), (86, .aload_n 0, 0, 0), (87, .bipush 32, 0, 0), (89, .iconst 2, 0, 0)] := ⟨by decide +kernel, trivial, fkX7_39, trivial, trivial, trivial, trivial, trivial, trivial, trivial⟩
theorem sX7_parsesC_94 : JSeg (jm jdX7_parsesC) [(94, .aload_n 0, 0, 0), (95, .getfield 39, 7, 16), (98, .iload_n 1, 0, 0), (99, .iconst 4, 0, 0), (100, .iadd, 0, 0), (101, .aload_n 0, 0, 0), (102, .bipush 32, 0, 0), (104, .iconst 1, 0, 0)] := ⟨by decide +kernel, trivial, fkX7_39, trivial, trivial, trivial, trivial, trivial, trivial, trivial⟩
theorem sX7_parsesC_109 : JSeg (jm jdX7_parsesC) [(109, .aload_n 0, 0, 0), (110, .getfield 39, 7, 16), (113, .iload_n 1, 0, 0), (114, .iconst 5, 0, 0), (115, .iadd, 0, 0), (116, .aload_n 0, 0, 0), (117, .getfield 178, 7, 15)] := ⟨by decide +kernel, trivial, fkX7_39, trivial, trivial, trivial, trivial, fkX7_178, trivial⟩
theorem sX7_parsesC_123 : JSeg (jm jdX7_parsesC) [(123, .aload_n 0, 0, 0)] := ⟨by decide +kernel, trivial, trivial⟩
theorem sX7_parsesC_127 : JSeg (jm jdX7_parsesC) [(127, .bipush 33, 0, 0)] := ⟨by decide +kernel, trivial, trivial⟩
theorem sX7_parsesC_132 : JSeg (jm jdX7_parsesC) [(132, .iconst 1, 0, 0), (133, .goto 4, 0, 0)] := ⟨by decide +kernel, trivial, trivial, trivial⟩
theorem sX7_parsesC_136 : JSeg (jm jdX7_parsesC) [(136, .iconst 0, 0, 0)] := ⟨by decide +kernel, trivial, trivial⟩
theorem sX7_parsesC_138 : JSeg (jm jdX7_parsesC) [(138, .aload_n 0, 0, 0), (139, .dup, 0, 0), (140, .getfield 175, 7, 14), (143, .aload_n 0, 0, 0), (144, .getfield 39, 7, 16), (147, .iload_n 1, 0, 0), (148, .iconst 5, 0, 0), (149, .iadd, 0, 0)] := ⟨by decide +kernel, trivial, trivial, fkX7_175, trivial, fkX7_39, trivial, trivial, trivial, trivial⟩
theorem sX7_parsesC_151 : JSeg (jm jdX7_parsesC) [(151, .iadd, 0, 0), (152, .putfield 175, 7, 14)] := ⟨by decide +kernel, trivial, fpX7_175, trivial⟩
theorem dX7_parsesC_1 : decode cX7_parsesC 1 = .ok (.invokevirtual 182, 3) := by decide +kernel
theorem dX7_parsesC_6 : decode cX7_parsesC 6 = .ok (.if_icmp .ne 31, 3) := by decide +kernel
theorem dX7_parsesC_16 : decode cX7_parsesC 16 = .ok (.iastore, 1) := by decide +kernel
theorem dX7_parsesC_20 : decode cX7_parsesC 20 = .ok (.invokevirtual 185, 3) := by decide +kernel
theorem dX7_parsesC_26 : decode cX7_parsesC 26 = .ok (.invokevirtual 185, 3) := by decide +kernel
theorem dX7_parsesC_31 : decode cX7_parsesC 31 = .ok (.invokevirtual 195, 3) := by decide +kernel
theorem dX7_parsesC_40 : decode cX7_parsesC 40 = .ok (.invokevirtual 185, 3) := by decide +kernel
theorem dX7_parsesC_46 : decode cX7_parsesC 46 = .ok (.invokevirtual 185, 3) := by decide +kernel
theorem dX7_parsesC_60 : decode cX7_parsesC 60 = .ok (.invokevirtual 188, 3) := by decide +kernel
theorem dX7_parsesC_63 : decode cX7_parsesC 63 = .ok (.iastore, 1) := by decide +kernel
theorem dX7_parsesC_75 : decode cX7_parsesC 75 = .ok (.invokevirtual 188, 3) := by decide +kernel
theorem dX7_parsesC_78 : decode cX7_parsesC 78 = .ok (.iastore, 1) := by decide +kernel
theorem dX7_parsesC_90 : decode cX7_parsesC 90 = .ok (.invokevirtual 188, 3) := by decide +kernel
theorem dX7_parsesC_93 : decode cX7_parsesC 93 = .ok (.iastore, 1) := by decide +kernel
theorem dX7_parsesC_105 : decode cX7_parsesC 105 = .ok (.invokevirtual 188, 3) := by decide +kernel
theorem dX7_parsesC_108 : decode cX7_parsesC 108 = .ok (.iastore, 1) := by decide +kernel
theorem dX7_parsesC_120 : decode cX7_parsesC 120 = .ok (.ifCond .ne 16, 3) := by decide +kernel
theorem dX7_parsesC_124 : decode cX7_parsesC 124 = .ok (.invokevirtual 182, 3) := by decide +kernel
theorem dX7_parsesC_129 : decode cX7_parsesC 129 = .ok (.if_icmp .ne 7, 3) := by decide +kernel
theorem dX7_parsesC_137 : decode cX7_parsesC 137 = .ok (.iastore, 1) := by decide +kernel
theorem dX7_parsesC_150 : decode cX7_parsesC 150 = .ok (.iaload, 1) := by decide +kernel
theorem dX7_parsesC_155 : decode cX7_parsesC 155 = .ok (.return_, 1) := by decide +kernel
theorem sX7_parsesCommand_0 : JSeg (jm jdX7_parsesCommand) [(0, .aload_n 0, 0, 0)] := ⟨by decide +kernel, trivial, trivial⟩
theorem sX7_parsesCommand_4 : JSeg (jm jdX7_parsesCommand) [(4, .istore_n 2, 0, 0), (5, .aload_n 0, 0, 0), (6, .dup, 0, 0), (7, .getfield 175, 7, 14), (10, .iconst 1, 0, 0), (11, .iadd, 0, 0), (12, .putfield 175, 7, 14), (15, .aload_n 0, 0, 0), (16, .getfield 39, 7, 16), (19, .iload_n 1, 0, 0), (20, .iload_n 2, 0, 0)] := ⟨by decide +kernel, trivial, trivial, trivial, fkX7_175, trivial, trivial, fpX7_175, trivial, fkX7_39, trivial, trivial, trivial⟩
theorem sX7_parsesCommand_22 : JSeg (jm jdX7_parsesCommand) [(22, .iload_n 2, 0, 0)] := ⟨by decide +kernel, trivial, trivial⟩
theorem sX7_parsesCommand_64 : JSeg (jm jdX7_parsesCommand) [(64, .aload_n 0, 0, 0), (65, .iload_n 1, 0, 0)] := ⟨by decide +kernel, trivial, trivial, trivial⟩
theorem sX7_parsesCommand_69 : JSeg (jm jdX7_parsesCommand) [(69, .goto 74, 0, 0)] := ⟨by decide +kernel, trivial, trivial⟩
theorem sX7_parsesCommand_72 : JSeg (jm jdX7_parsesCommand) [(72, .aload_n 0, 0, 0), (73, .iload_n 1, 0, 0)] := ⟨by decide +kernel, trivial, trivial, trivial⟩
theorem sX7_parsesCommand_77 : JSeg (jm jdX7_parsesCommand) [(77, .goto 66, 0, 0)] := ⟨by decide +kernel, trivial, trivial⟩
theorem sX7_parsesCommand_80 : JSeg (jm jdX7_parsesCommand) [(80, .aload_n 0, 0, 0), (81, .iload_n 1, 0, 0)] := ⟨by decide +kernel, trivial, trivial, trivial⟩
theorem sX7_parsesCommand_85 : JSeg (jm jdX7_parsesCommand) [(85, .goto 58, 0, 0)] := ⟨by decide +kernel, trivial, trivial⟩
theorem sX7_parsesCommand_88 : JSeg (jm jdX7_parsesCommand) [(88, .aload_n 0, 0, 0), (89, .bipush 101, 0, 0), (91, .bipush 112, 0, 0), (93, .bipush 97, 0, 0)] := ⟨by decide +kernel, trivial, trivial, trivial, trivial, trivial⟩
theorem sX7_parsesCommand_98 : JSeg (jm jdX7_parsesCommand) [(98, .aload_n 0, 0, 0), (99, .bipush 105, 0, 0)] := ⟨by decide +kernel, trivial, trivial, trivial⟩
theorem sX7_parsesCommand_104 : JSeg (jm jdX7_parsesCommand) [(104, .aload_n 0, 0, 0), (105, .bipush 114, 0, 0)] := ⟨by decide +kernel, trivial, trivial, trivial⟩
theorem sX7_parsesCommand_110 : JSeg (jm jdX7_parsesCommand) [(110, .aload_n 0, 0, 0), (111, .getfield 39, 7, 16), (114, .iload_n 1, 0, 0), (115, .iconst 1, 0, 0), (116, .iadd, 0, 0), (117, .aload_n 0, 0, 0), (118, .bipush 32, 0, 0), (120, .iconst 2, 0, 0)] := ⟨by decide +kernel, trivial, fkX7_39, trivial, trivial, trivial, trivial, trivial, trivial, trivial⟩
theorem sX7_parsesCommand_125 : JSeg (jm jdX7_parsesCommand) [(125, .goto 18, 0, 0)] := ⟨by decide +kernel, trivial, trivial⟩
theorem sX7_parsesCommand_128 : JSeg (jm jdX7_parsesCommand) [(128, .aload_n 0, 0, 0), (129, .iconst 1, 0, 0)] := ⟨by decide +kernel, trivial, trivial, trivial⟩
theorem sX7_parsesCommand_133 : JSeg (jm jdX7_parsesCommand) [(133, .aload_n 0, 0, 0), (134, .dup, 0, 0), (135, .getfield 175, 7, 14), (138, .iconst 1, 0, 0), (139, .isub, 0, 0), (140, .putfield 175, 7, 14)] := ⟨by decide +kernel, trivial, trivial, fkX7_175, trivial, trivial, fpX7_175, trivial⟩
theorem dX7_parsesCommand_1 : decode cX7_parsesCommand 1 = .ok (.invokevirtual 182, 3) := by decide +kernel
theorem dX7_parsesCommand_21 : decode cX7_parsesCommand 21 = .ok (.iastore, 1) := by decide +kernel
theorem dX7_parsesCommand_23 : decode cX7_parsesCommand 23 = .ok (.lookupswitch 105 #[(99, 57), (114, 65), (115, 49), (116, 41)], 41) := by decide +kernel
theorem dX7_parsesCommand_66 : decode cX7_parsesCommand 66 = .ok (.invokevirtual 198, 3) := by decide +kernel
theorem dX7_parsesCommand_74 : decode cX7_parsesCommand 74 = .ok (.invokevirtual 201, 3) := by decide +kernel
theorem dX7_parsesCommand_82 : decode cX7_parsesCommand 82 = .ok (.invokevirtual 204, 3) := by decide +kernel
theorem dX7_parsesCommand_95 : decode cX7_parsesCommand 95 = .ok (.invokevirtual 191, 3) := by decide +kernel
theorem dX7_parsesCommand_101 : decode cX7_parsesCommand 101 = .ok (.invokevirtual 185, 3) := by decide +kernel
theorem dX7_parsesCommand_107 : decode cX7_parsesCommand 107 = .ok (.invokevirtual 185, 3) := by decide +kernel
theorem dX7_parsesCommand_121 : decode cX7_parsesCommand 121 = .ok (.invokevirtual 188, 3) := by decide +kernel
theorem dX7_parsesCommand_124 : decode cX7_parsesCommand 124 = .ok (.iastore, 1) := by decide +kernel
theorem dX7_parsesCommand_130 : decode cX7_parsesCommand 130 = .ok (.putfield 178, 3) := by decide +kernel
theorem dX7_parsesCommand_143 : decode cX7_parsesCommand 143 = .ok (.return_, 1) := by decide +kernel
theorem sX7_carriesOut_0 : JSeg (jm jdX7_carriesOut) [(0, .aload_n 0, 0, 0), (1, .getfield 39, 7, 16), (4, .iload_n 1, 0, 0), (5, .iconst 1, 0, 0), (6, .iadd, 0, 0)] := ⟨by decide +kernel, trivial, fkX7_39, trivial, trivial, trivial, trivial⟩
theorem sX7_carriesOut_8 : JSeg (jm jdX7_carriesOut) [(8, .istore_n 2, 0, 0), (9, .aload_n 0, 0, 0), (10, .getfield 39, 7, 16), (13, .iload_n 1, 0, 0), (14, .iconst 2, 0, 0), (15, .iadd, 0, 0)] := ⟨by decide +kernel, trivial, trivial, fkX7_39, trivial, trivial, trivial, trivial⟩
theorem sX7_carriesOut_17 : JSeg (jm jdX7_carriesOut) [(17, .istore_n 3, 0, 0), (18, .aload_n 0, 0, 0), (19, .getfield 39, 7, 16), (22, .iload_n 1, 0, 0)] := ⟨by decide +kernel, trivial, trivial, fkX7_39, trivial, trivial⟩
theorem sX7_carriesOut_116 : JSeg (jm jdX7_carriesOut) [(116, .aload_n 0, 0, 0), (117, .iload_n 2, 0, 0), (118, .iload_n 3, 0, 0)] := ⟨by decide +kernel, trivial, trivial, trivial, trivial⟩
theorem sX7_carriesOut_123 : JSeg (jm jdX7_carriesOut) [(123, .aload_n 0, 0, 0), (124, .iload_n 2, 0, 0), (125, .iload_n 3, 0, 0)] := ⟨by decide +kernel, trivial, trivial, trivial, trivial⟩
theorem sX7_carriesOut_130 : JSeg (jm jdX7_carriesOut) [(130, .aload_n 0, 0, 0), (131, .iload_n 2, 0, 0), (132, .iload_n 3, 0, 0)] := ⟨by decide +kernel, trivial, trivial, trivial, trivial⟩
theorem sX7_carriesOut_137 : JSeg (jm jdX7_carriesOut) [(137, .aload_n 0, 0, 0), (138, .iload_n 2, 0, 0), (139, .iload_n 3, 0, 0), (140, .aload_n 0, 0, 0), (141, .getfield 39, 7, 16), (144, .iload_n 1, 0, 0), (145, .iconst 3, 0, 0), (146, .iadd, 0, 0)] := ⟨by decide +kernel, trivial, trivial, trivial, trivial, fkX7_39, trivial, trivial, trivial, trivial⟩
theorem sX7_carriesOut_148 : JSeg (jm jdX7_carriesOut) [(148, .aload_n 0, 0, 0), (149, .getfield 39, 7, 16), (152, .iload_n 1, 0, 0), (153, .iconst 4, 0, 0), (154, .iadd, 0, 0)] := ⟨by decide +kernel, trivial, fkX7_39, trivial, trivial, trivial, trivial⟩
theorem sX7_carriesOut_156 : JSeg (jm jdX7_carriesOut) [(156, .aload_n 0, 0, 0), (157, .getfield 39, 7, 16), (160, .iload_n 1, 0, 0), (161, .iconst 5, 0, 0), (162, .iadd, 0, 0)] := ⟨by decide +kernel, trivial, fkX7_39, trivial, trivial, trivial, trivial⟩
theorem sX7_carriesOut_168 : JSeg (jm jdX7_carriesOut) [(168, .aload_n 0, 0, 0), (169, .iload_n 2, 0, 0), (170, .iload_n 3, 0, 0), (171, .aload_n 0, 0, 0), (172, .getfield 39, 7, 16), (175, .iload_n 1, 0, 0), (176, .iconst 3, 0, 0), (177, .iadd, 0, 0)] := ⟨by decide +kernel, trivial, trivial, trivial, trivial, fkX7_39, trivial, trivial, trivial, trivial⟩
theorem sX7_carriesOut_183 : JSeg (jm jdX7_carriesOut) [(183, .aload_n 0, 0, 0), (184, .iload_n 2, 0, 0)] := ⟨by decide +kernel, trivial, trivial, trivial⟩
theorem sX7_carriesOut_189 : JSeg (jm jdX7_carriesOut) [(189, .aload_n 0, 0, 0), (190, .iload_n 2, 0, 0), (191, .iload_n 3, 0, 0)] := ⟨by decide +kernel, trivial, trivial, trivial, trivial⟩
theorem dX7_carriesOut_7 : decode cX7_carriesOut 7 = .ok (.iaload, 1) := by decide +kernel
theorem dX7_carriesOut_16 : decode cX7_carriesOut 16 = .ok (.iaload, 1) := by decide +kernel
theorem dX7_carriesOut_23 : decode cX7_carriesOut 23 = .ok (.iaload, 1) := by decide +kernel
theorem dX7_carriesOut_24 : decode cX7_carriesOut 24 = .ok (.tableswitch 165 99 117 #[113, 165, 165, 165, 165, 144, 165, 165, 165, 165, 165, 165, 165, 165, 165, 159, 99, 92, 106], 92) := by decide +kernel
theorem dX7_carriesOut_119 : decode cX7_carriesOut 119 = .ok (.invokevirtual 85, 3) := by decide +kernel
theorem dX7_carriesOut_122 : decode cX7_carriesOut 122 = .ok (.ireturn, 1) := by decide +kernel
theorem dX7_carriesOut_126 : decode cX7_carriesOut 126 = .ok (.invokevirtual 101, 3) := by decide +kernel
theorem dX7_carriesOut_129 : decode cX7_carriesOut 129 = .ok (.ireturn, 1) := by decide +kernel
theorem dX7_carriesOut_133 : decode cX7_carriesOut 133 = .ok (.invokevirtual 104, 3) := by decide +kernel
theorem dX7_carriesOut_136 : decode cX7_carriesOut 136 = .ok (.ireturn, 1) := by decide +kernel
theorem dX7_carriesOut_147 : decode cX7_carriesOut 147 = .ok (.iaload, 1) := by decide +kernel
theorem dX7_carriesOut_155 : decode cX7_carriesOut 155 = .ok (.iaload, 1) := by decide +kernel
theorem dX7_carriesOut_163 : decode cX7_carriesOut 163 = .ok (.iaload, 1) := by decide +kernel
theorem dX7_carriesOut_164 : decode cX7_carriesOut 164 = .ok (.invokevirtual 110, 3) := by decide +kernel
theorem dX7_carriesOut_167 : decode cX7_carriesOut 167 = .ok (.ireturn, 1) := by decide +kernel
theorem dX7_carriesOut_178 : decode cX7_carriesOut 178 = .ok (.iaload, 1) := by decide +kernel
theorem dX7_carriesOut_179 : decode cX7_carriesOut 179 = .ok (.invokevirtual 127, 3) := by decide +kernel
theorem dX7_carriesOut_182 : decode cX7_carriesOut 182 = .ok (.ireturn, 1) := by decide +kernel
theorem dX7_carriesOut_185 : decode cX7_carriesOut 185 = .ok (.invokevirtual 133, 3) := by decide +kernel
theorem dX7_carriesOut_188 : decode cX7_carriesOut 188 = .ok (.ireturn, 1) := by decide +kernel
theorem dX7_carriesOut_192 : decode cX7_carriesOut 192 = .ok (.invokevirtual 145, 3) := by decide +kernel
theorem dX7_carriesOut_195 : decode cX7_carriesOut 195 = .ok (.ireturn, 1) := by decide +kernel
theorem sX7_run_0 : JSeg (jm jdX7_run) [(0, .aload_n 0, 0, 0), (1, .iconst 0, 0, 0), (2, .putfield 175, 7, 14), (5, .aload_n 0, 0, 0), (6, .iconst 0, 0, 0)] := ⟨by decide +kernel, trivial, trivial, fpX7_175, trivial, trivial, trivial⟩
theorem sX7_run_10 : JSeg (jm jdX7_run) [(10, .iconst 0, 0, 0), (11, .istore_n 1, 0, 0), (12, .iconst 1, 0, 0), (13, .istore_n 2, 0, 0)] := ⟨by decide +kernel, trivial, trivial, trivial, trivial, trivial⟩
theorem sX7_run_14 : JSeg (jm jdX7_run) [(14, .iload_n 2, 0, 0)] := ⟨by decide +kernel, trivial, trivial⟩
theorem sX7_run_18 : JSeg (jm jdX7_run) [(18, .aload_n 0, 0, 0), (19, .bipush 6, 0, 0), (21, .iload_n 1, 0, 0), (22, .imul, 0, 0)] := ⟨by decide +kernel, trivial, trivial, trivial, trivial, trivial⟩
theorem sX7_run_26 : JSeg (jm jdX7_run) [(26, .iinc 1 1, 0, 0), (29, .aload_n 0, 0, 0), (30, .getfield 178, 7, 15)] := ⟨by decide +kernel, trivial, trivial, fkX7_178, trivial⟩
theorem sX7_run_36 : JSeg (jm jdX7_run) [(36, .aload_n 0, 0, 0)] := ⟨by decide +kernel, trivial, trivial⟩
theorem sX7_run_40 : JSeg (jm jdX7_run) [(40, .bipush 59, 0, 0)] := ⟨by decide +kernel, trivial, trivial⟩
theorem sX7_run_45 : JSeg (jm jdX7_run) [(45, .iconst 1, 0, 0), (46, .goto 4, 0, 0)] := ⟨by decide +kernel, trivial, trivial, trivial⟩
theorem sX7_run_49 : JSeg (jm jdX7_run) [(49, .iconst 0, 0, 0)] := ⟨by decide +kernel, trivial, trivial⟩
theorem sX7_run_50 : JSeg (jm jdX7_run) [(50, .istore_n 2, 0, 0), (51, .aload_n 0, 0, 0), (52, .dup, 0, 0), (53, .getfield 175, 7, 14), (56, .iload_n 2, 0, 0)] := ⟨by decide +kernel, trivial, trivial, trivial, fkX7_175, trivial, trivial⟩
theorem sX7_run_60 : JSeg (jm jdX7_run) [(60, .iconst 1, 0, 0), (61, .goto 4, 0, 0)] := ⟨by decide +kernel, trivial, trivial, trivial⟩
theorem sX7_run_64 : JSeg (jm jdX7_run) [(64, .iconst 0, 0, 0)] := ⟨by decide +kernel, trivial, trivial⟩
theorem sX7_run_65 : JSeg (jm jdX7_run) [(65, .iadd, 0, 0), (66, .putfield 175, 7, 14), (69, .goto (-55), 0, 0)] := ⟨by decide +kernel, trivial, fpX7_175, trivial, trivial⟩
theorem sX7_run_72 : JSeg (jm jdX7_run) [(72, .aload_n 0, 0, 0), (73, .aload_n 0, 0, 0), (74, .getfield 178, 7, 15)] := ⟨by decide +kernel, trivial, trivial, fkX7_178, trivial⟩
theorem sX7_run_80 : JSeg (jm jdX7_run) [(80, .aload_n 0, 0, 0), (81, .getfield 175, 7, 14), (84, .aload_n 0, 0, 0), (85, .getfield 172, 7, 7)] := ⟨by decide +kernel, trivial, fkX7_175, trivial, fkX7_172, trivial⟩
theorem sX7_run_91 : JSeg (jm jdX7_run) [(91, .iconst 1, 0, 0), (92, .goto 4, 0, 0)] := ⟨by decide +kernel, trivial, trivial, trivial⟩
theorem sX7_run_95 : JSeg (jm jdX7_run) [(95, .iconst 0, 0, 0)] := ⟨by decide +kernel, trivial, trivial⟩
theorem sX7_run_99 : JSeg (jm jdX7_run) [(99, .aload_n 0, 0, 0), (100, .iconst 0, 0, 0), (101, .putfield 172, 7, 7), (104, .aload_n 0, 0, 0), (105, .getfield 178, 7, 15)] := ⟨by decide +kernel, trivial, trivial, fpX7_172, trivial, fkX7_178, trivial⟩
theorem sX7_run_111 : JSeg (jm jdX7_run) [(111, .aload_n 0, 0, 0), (112, .aload_n 0, 0, 0), (113, .getfield 175, 7, 14), (116, .putfield 26, 7, 8), (119, .aload_n 0, 0, 0), (120, .iconst 1, 0, 0)] := ⟨by decide +kernel, trivial, trivial, fkX7_175, fpX7_26, trivial, trivial, trivial⟩
theorem sX7_run_125 : JSeg (jm jdX7_run) [(125, .aload_n 0, 0, 0)] := ⟨by decide +kernel, trivial, trivial⟩
theorem sX7_run_129 : JSeg (jm jdX7_run) [(129, .iconst 0, 0, 0), (130, .istore_n 3, 0, 0)] := ⟨by decide +kernel, trivial, trivial, trivial⟩
theorem sX7_run_131 : JSeg (jm jdX7_run) [(131, .iload_n 3, 0, 0), (132, .iload_n 1, 0, 0)] := ⟨by decide +kernel, trivial, trivial, trivial⟩
theorem sX7_run_136 : JSeg (jm jdX7_run) [(136, .aload_n 0, 0, 0), (137, .bipush 6, 0, 0), (139, .iload_n 3, 0, 0), (140, .imul, 0, 0)] := ⟨by decide +kernel, trivial, trivial, trivial, trivial, trivial⟩
theorem sX7_run_144 : JSeg (jm jdX7_run) [(144, .istore 4, 0, 0), (146, .aload_n 0, 0, 0), (147, .getfield 42, 7, 12)] := ⟨by decide +kernel, trivial, trivial, fkX7_42, trivial⟩
theorem sX7_run_153 : JSeg (jm jdX7_run) [(153, .aload_n 0, 0, 0), (154, .iload_n 3, 0, 0), (155, .putfield 30, 7, 9), (158, .aload_n 0, 0, 0), (159, .iconst 2, 0, 0), (160, .putfield 42, 7, 12), (163, .aload_n 0, 0, 0), (164, .iload 4, 0, 0)] := ⟨by decide +kernel, trivial, trivial, fpX7_30, trivial, trivial, fpX7_42, trivial, trivial, trivial⟩
theorem sX7_run_170 : JSeg (jm jdX7_run) [(170, .iinc 3 1, 0, 0), (173, .goto (-42), 0, 0)] := ⟨by decide +kernel, trivial, trivial, trivial⟩
theorem sX7_run_176 : JSeg (jm jdX7_run) [(176, .aload_n 0, 0, 0), (177, .aload_n 0, 0, 0), (178, .iload_n 1, 0, 0)] := ⟨by decide +kernel, trivial, trivial, trivial, trivial⟩
theorem dX7_run_7 : decode cX7_run 7 = .ok (.putfield 178, 3) := by decide +kernel
theorem dX7_run_15 : decode cX7_run 15 = .ok (.ifCond .eq 57, 3) := by decide +kernel
theorem dX7_run_23 : decode cX7_run 23 = .ok (.invokevirtual 207, 3) := by decide +kernel
theorem dX7_run_33 : decode cX7_run 33 = .ok (.ifCond .ne 16, 3) := by decide +kernel
theorem dX7_run_37 : decode cX7_run 37 = .ok (.invokevirtual 182, 3) := by decide +kernel
theorem dX7_run_42 : decode cX7_run 42 = .ok (.if_icmp .ne 7, 3) := by decide +kernel
theorem dX7_run_57 : decode cX7_run 57 = .ok (.ifCond .eq 7, 3) := by decide +kernel
theorem dX7_run_77 : decode cX7_run 77 = .ok (.ifCond .ne 14, 3) := by decide +kernel
theorem dX7_run_88 : decode cX7_run 88 = .ok (.if_icmp .ge 7, 3) := by decide +kernel
theorem dX7_run_96 : decode cX7_run 96 = .ok (.putfield 178, 3) := by decide +kernel
theorem dX7_run_108 : decode cX7_run 108 = .ok (.ifCond .eq 17, 3) := by decide +kernel
theorem dX7_run_121 : decode cX7_run 121 = .ok (.invokevirtual 75, 3) := by decide +kernel
theorem dX7_run_124 : decode cX7_run 124 = .ok (.ireturn, 1) := by decide +kernel
theorem dX7_run_126 : decode cX7_run 126 = .ok (.invokevirtual 82, 3) := by decide +kernel
theorem dX7_run_133 : decode cX7_run 133 = .ok (.if_icmp .ge 43, 3) := by decide +kernel
theorem dX7_run_141 : decode cX7_run 141 = .ok (.invokevirtual 210, 3) := by decide +kernel
theorem dX7_run_150 : decode cX7_run 150 = .ok (.ifCond .eq 20, 3) := by decide +kernel
theorem dX7_run_166 : decode cX7_run 166 = .ok (.invokevirtual 88, 3) := by decide +kernel
theorem dX7_run_169 : decode cX7_run 169 = .ok (.ireturn, 1) := by decide +kernel
theorem dX7_run_179 : decode cX7_run 179 = .ok (.invokevirtual 79, 3) := by decide +kernel
theorem dX7_run_182 : decode cX7_run 182 = .ok (.invokevirtual 88, 3) := by decide +kernel
theorem dX7_run_185 : decode cX7_run 185 = .ok (.ireturn, 1) := by decide +kernel
theorem sX7_errorPosition_0 : JSeg (jm jdX7_errorPosition) [(0, .aload_n 0, 0, 0), (1, .getfield 26, 7, 8), (4, .iconst (-1), 0, 0)] := ⟨by decide +kernel, trivial, fkX7_26, trivial, trivial⟩
theorem sX7_errorPosition_8 : JSeg (jm jdX7_errorPosition) [(8, .aload_n 0, 0, 0), (9, .iconst 1, 0, 0)] := ⟨by decide +kernel, trivial, trivial, trivial⟩
theorem sX7_errorPosition_13 : JSeg (jm jdX7_errorPosition) [(13, .goto 11, 0, 0)] := ⟨by decide +kernel, trivial, trivial⟩
theorem sX7_errorPosition_16 : JSeg (jm jdX7_errorPosition) [(16, .aload_n 0, 0, 0), (17, .aload_n 0, 0, 0), (18, .getfield 26, 7, 8)] := ⟨by decide +kernel, trivial, trivial, fkX7_26, trivial⟩
theorem dX7_errorPosition_5 : decode cX7_errorPosition 5 = .ok (.if_icmp .ne 11, 3) := by decide +kernel
theorem dX7_errorPosition_10 : decode cX7_errorPosition 10 = .ok (.invokevirtual 75, 3) := by decide +kernel
theorem dX7_errorPosition_21 : decode cX7_errorPosition 21 = .ok (.invokevirtual 79, 3) := by decide +kernel
theorem dX7_errorPosition_24 : decode cX7_errorPosition 24 = .ok (.ireturn, 1) := by decide +kernel
theorem sX7_failedCommand_0 : JSeg (jm jdX7_failedCommand) [(0, .aload_n 0, 0, 0), (1, .getfield 30, 7, 9), (4, .iconst (-1), 0, 0)] := ⟨by decide +kernel, trivial, fkX7_30, trivial, trivial⟩
theorem sX7_failedCommand_8 : JSeg (jm jdX7_failedCommand) [(8, .aload_n 0, 0, 0), (9, .iconst 1, 0, 0)] := ⟨by decide +kernel, trivial, trivial, trivial⟩
theorem sX7_failedCommand_13 : JSeg (jm jdX7_failedCommand) [(13, .goto 11, 0, 0)] := ⟨by decide +kernel, trivial, trivial⟩
theorem sX7_failedCommand_16 : JSeg (jm jdX7_failedCommand) [(16, .aload_n 0, 0, 0), (17, .aload_n 0, 0, 0), (18, .getfield 30, 7, 9)] := ⟨by decide +kernel, trivial, trivial, fkX7_30, trivial⟩
theorem dX7_failedCommand_5 : decode cX7_failedCommand 5 = .ok (.if_icmp .ne 11, 3) := by decide +kernel
theorem dX7_failedCommand_10 : decode cX7_failedCommand 10 = .ok (.invokevirtual 75, 3) := by decide +kernel
theorem dX7_failedCommand_21 : decode cX7_failedCommand 21 = .ok (.invokevirtual 79, 3) := by decide +kernel
theorem dX7_failedCommand_24 : decode cX7_failedCommand 24 = .ok (.ireturn, 1) := by decide +kernel
theorem fpX7_213 : FP0 RX7 213 7 11 := ⟨_, _, _, _, ci_X7, by decide, bw_of 1497 (by decide +kernel) (by decide +kernel), rfl, rfl⟩
theorem sX7_writes_0 : JSeg (jm jdX7_writes) [(0, .aload_n 0, 0, 0), (1, .getfield 33, 7, 10), (4, .aload_n 0, 0, 0), (5, .getfield 213, 7, 11), (8, .iload_n 1, 0, 0), (9, .i2c, 0, 0)] := ⟨by decide +kernel, trivial, fkX7_33, trivial, fkX7_213, trivial, trivial, trivial⟩
theorem sX7_writes_11 : JSeg (jm jdX7_writes) [(11, .aload_n 0, 0, 0), (12, .dup, 0, 0), (13, .getfield 213, 7, 11), (16, .iconst 1, 0, 0), (17, .iadd, 0, 0), (18, .putfield 213, 7, 11)] := ⟨by decide +kernel, trivial, trivial, fkX7_213, trivial, trivial, fpX7_213, trivial⟩
theorem dX7_writes_10 : decode cX7_writes 10 = .ok (.castore, 1) := by decide +kernel
theorem dX7_writes_21 : decode cX7_writes 21 = .ok (.return_, 1) := by decide +kernel
theorem sX7_writesNumber_0 : JSeg (jm jdX7_writesNumber) [(0, .sipush 1000, 0, 0), (3, .istore_n 2, 0, 0)] := ⟨by decide +kernel, trivial, trivial, trivial⟩
theorem sX7_writesNumber_4 : JSeg (jm jdX7_writesNumber) [(4, .iload_n 2, 0, 0), (5, .iconst 1, 0, 0)] := ⟨by decide +kernel, trivial, trivial, trivial⟩
theorem sX7_writesNumber_9 : JSeg (jm jdX7_writesNumber) [(9, .iload_n 1, 0, 0), (10, .iload_n 2, 0, 0)] := ⟨by decide +kernel, trivial, trivial, trivial⟩
theorem sX7_writesNumber_14 : JSeg (jm jdX7_writesNumber) [(14, .iload_n 2, 0, 0), (15, .bipush 10, 0, 0)] := ⟨by decide +kernel, trivial, trivial, trivial⟩
theorem sX7_writesNumber_18 : JSeg (jm jdX7_writesNumber) [(18, .istore_n 2, 0, 0), (19, .goto (-15), 0, 0)] := ⟨by decide +kernel, trivial, trivial, trivial⟩
theorem sX7_writesNumber_22 : JSeg (jm jdX7_writesNumber) [(22, .iload_n 2, 0, 0)] := ⟨by decide +kernel, trivial, trivial⟩
theorem sX7_writesNumber_26 : JSeg (jm jdX7_writesNumber) [(26, .aload_n 0, 0, 0), (27, .bipush 48, 0, 0), (29, .iload_n 1, 0, 0), (30, .iload_n 2, 0, 0)] := ⟨by decide +kernel, trivial, trivial, trivial, trivial, trivial⟩
theorem sX7_writesNumber_32 : JSeg (jm jdX7_writesNumber) [(32, .bipush 10, 0, 0)] := ⟨by decide +kernel, trivial, trivial⟩
theorem sX7_writesNumber_35 : JSeg (jm jdX7_writesNumber) [(35, .iadd, 0, 0)] := ⟨by decide +kernel, trivial, trivial⟩
theorem sX7_writesNumber_39 : JSeg (jm jdX7_writesNumber) [(39, .iload_n 2, 0, 0), (40, .bipush 10, 0, 0)] := ⟨by decide +kernel, trivial, trivial, trivial⟩
theorem sX7_writesNumber_43 : JSeg (jm jdX7_writesNumber) [(43, .istore_n 2, 0, 0), (44, .goto (-22), 0, 0)] := ⟨by decide +kernel, trivial, trivial, trivial⟩
theorem dX7_writesNumber_6 : decode cX7_writesNumber 6 = .ok (.if_icmp .le 16, 3) := by decide +kernel
theorem dX7_writesNumber_11 : decode cX7_writesNumber 11 = .ok (.if_icmp .ge 11, 3) := by decide +kernel
theorem dX7_writesNumber_17 : decode cX7_writesNumber 17 = .ok (.idiv, 1) := by decide +kernel
theorem dX7_writesNumber_23 : decode cX7_writesNumber 23 = .ok (.ifCond .le 24, 3) := by decide +kernel
theorem dX7_writesNumber_31 : decode cX7_writesNumber 31 = .ok (.idiv, 1) := by decide +kernel
theorem dX7_writesNumber_34 : decode cX7_writesNumber 34 = .ok (.irem, 1) := by decide +kernel
theorem dX7_writesNumber_36 : decode cX7_writesNumber 36 = .ok (.invokevirtual 216, 3) := by decide +kernel
theorem dX7_writesNumber_42 : decode cX7_writesNumber 42 = .ok (.idiv, 1) := by decide +kernel
theorem dX7_writesNumber_47 : decode cX7_writesNumber 47 = .ok (.return_, 1) := by decide +kernel
theorem sX7_writesCar_0 : JSeg (jm jdX7_writesCar) [(0, .aload_n 0, 0, 0), (1, .bipush 32, 0, 0)] := ⟨by decide +kernel, trivial, trivial, trivial⟩
theorem sX7_writesCar_6 : JSeg (jm jdX7_writesCar) [(6, .aload_n 0, 0, 0), (7, .aload_n 0, 0, 0), (8, .getfield 7, 7, 0), (11, .bipush 39, 0, 0), (13, .iload_n 1, 0, 0), (14, .iadd, 0, 0)] := ⟨by decide +kernel, trivial, trivial, fkX7_7, trivial, trivial, trivial, trivial⟩
theorem sX7_writesCar_19 : JSeg (jm jdX7_writesCar) [(19, .aload_n 0, 0, 0), (20, .bipush 58, 0, 0)] := ⟨by decide +kernel, trivial, trivial, trivial⟩
theorem sX7_writesCar_25 : JSeg (jm jdX7_writesCar) [(25, .aload_n 0, 0, 0), (26, .aload_n 0, 0, 0), (27, .getfield 7, 7, 0), (30, .bipush 99, 0, 0), (32, .iload_n 1, 0, 0), (33, .iadd, 0, 0)] := ⟨by decide +kernel, trivial, trivial, fkX7_7, trivial, trivial, trivial, trivial⟩
theorem sX7_writesCar_38 : JSeg (jm jdX7_writesCar) [(38, .aload_n 0, 0, 0), (39, .getfield 7, 7, 0), (42, .bipush 119, 0, 0), (44, .iload_n 1, 0, 0), (45, .iadd, 0, 0)] := ⟨by decide +kernel, trivial, fkX7_7, trivial, trivial, trivial, trivial⟩
theorem sX7_writesCar_47 : JSeg (jm jdX7_writesCar) [(47, .iconst 1, 0, 0)] := ⟨by decide +kernel, trivial, trivial⟩
theorem sX7_writesCar_51 : JSeg (jm jdX7_writesCar) [(51, .aload_n 0, 0, 0), (52, .bipush 33, 0, 0)] := ⟨by decide +kernel, trivial, trivial, trivial⟩
theorem dX7_writesCar_3 : decode cX7_writesCar 3 = .ok (.invokevirtual 216, 3) := by decide +kernel
theorem dX7_writesCar_15 : decode cX7_writesCar 15 = .ok (.iaload, 1) := by decide +kernel
theorem dX7_writesCar_16 : decode cX7_writesCar 16 = .ok (.invokevirtual 219, 3) := by decide +kernel
theorem dX7_writesCar_22 : decode cX7_writesCar 22 = .ok (.invokevirtual 216, 3) := by decide +kernel
theorem dX7_writesCar_34 : decode cX7_writesCar 34 = .ok (.iaload, 1) := by decide +kernel
theorem dX7_writesCar_35 : decode cX7_writesCar 35 = .ok (.invokevirtual 219, 3) := by decide +kernel
theorem dX7_writesCar_46 : decode cX7_writesCar 46 = .ok (.iaload, 1) := by decide +kernel
theorem dX7_writesCar_48 : decode cX7_writesCar 48 = .ok (.if_icmp .ne 9, 3) := by decide +kernel
theorem dX7_writesCar_54 : decode cX7_writesCar 54 = .ok (.invokevirtual 216, 3) := by decide +kernel
theorem dX7_writesCar_57 : decode cX7_writesCar 57 = .ok (.return_, 1) := by decide +kernel
theorem sX7_writeTrack_0 : JSeg (jm jdX7_writeTrack) [(0, .aload_n 0, 0, 0), (1, .iload_n 1, 0, 0)] := ⟨by decide +kernel, trivial, trivial, trivial⟩
theorem sX7_writeTrack_8 : JSeg (jm jdX7_writeTrack) [(8, .aload_n 0, 0, 0), (9, .iconst 1, 0, 0)] := ⟨by decide +kernel, trivial, trivial, trivial⟩
theorem sX7_writeTrack_14 : JSeg (jm jdX7_writeTrack) [(14, .aload_n 0, 0, 0), (15, .iconst 0, 0, 0), (16, .putfield 213, 7, 11), (19, .aload_n 0, 0, 0), (20, .iload_n 1, 0, 0)] := ⟨by decide +kernel, trivial, trivial, fpX7_213, trivial, trivial, trivial⟩
theorem sX7_writeTrack_24 : JSeg (jm jdX7_writeTrack) [(24, .aload_n 0, 0, 0), (25, .bipush 47, 0, 0)] := ⟨by decide +kernel, trivial, trivial, trivial⟩
theorem sX7_writeTrack_30 : JSeg (jm jdX7_writeTrack) [(30, .aload_n 0, 0, 0), (31, .aload_n 0, 0, 0), (32, .getfield 7, 7, 0), (35, .bipush 15, 0, 0), (37, .iload_n 1, 0, 0), (38, .iadd, 0, 0)] := ⟨by decide +kernel, trivial, trivial, fkX7_7, trivial, trivial, trivial, trivial⟩
theorem sX7_writeTrack_43 : JSeg (jm jdX7_writeTrack) [(43, .aload_n 0, 0, 0), (44, .bipush 91, 0, 0)] := ⟨by decide +kernel, trivial, trivial, trivial⟩
theorem sX7_writeTrack_49 : JSeg (jm jdX7_writeTrack) [(49, .aload_n 0, 0, 0), (50, .aload_n 0, 0, 0), (51, .iload_n 1, 0, 0), (52, .bipush 59, 0, 0)] := ⟨by decide +kernel, trivial, trivial, trivial, trivial, trivial⟩
theorem sX7_writeTrack_60 : JSeg (jm jdX7_writeTrack) [(60, .aload_n 0, 0, 0), (61, .bipush 47, 0, 0)] := ⟨by decide +kernel, trivial, trivial, trivial⟩
theorem sX7_writeTrack_66 : JSeg (jm jdX7_writeTrack) [(66, .aload_n 0, 0, 0), (67, .aload_n 0, 0, 0), (68, .getfield 7, 7, 0), (71, .bipush 7, 0, 0), (73, .iload_n 1, 0, 0), (74, .iadd, 0, 0)] := ⟨by decide +kernel, trivial, trivial, fkX7_7, trivial, trivial, trivial, trivial⟩
theorem sX7_writeTrack_79 : JSeg (jm jdX7_writeTrack) [(79, .aload_n 0, 0, 0), (80, .bipush 93, 0, 0)] := ⟨by decide +kernel, trivial, trivial, trivial⟩
theorem sX7_writeTrack_85 : JSeg (jm jdX7_writeTrack) [(85, .iconst 0, 0, 0), (86, .istore_n 2, 0, 0)] := ⟨by decide +kernel, trivial, trivial, trivial⟩
theorem sX7_writeTrack_87 : JSeg (jm jdX7_writeTrack) [(87, .iload_n 2, 0, 0), (88, .aload_n 0, 0, 0), (89, .getfield 7, 7, 0), (92, .bipush 31, 0, 0), (94, .iload_n 1, 0, 0), (95, .iadd, 0, 0)] := ⟨by decide +kernel, trivial, trivial, fkX7_7, trivial, trivial, trivial, trivial⟩
theorem sX7_writeTrack_100 : JSeg (jm jdX7_writeTrack) [(100, .aload_n 0, 0, 0), (101, .aload_n 0, 0, 0), (102, .iload_n 1, 0, 0), (103, .iload_n 2, 0, 0)] := ⟨by decide +kernel, trivial, trivial, trivial, trivial, trivial⟩
theorem sX7_writeTrack_110 : JSeg (jm jdX7_writeTrack) [(110, .iinc 2 1, 0, 0), (113, .goto (-26), 0, 0)] := ⟨by decide +kernel, trivial, trivial, trivial⟩
theorem sX7_writeTrack_116 : JSeg (jm jdX7_writeTrack) [(116, .aload_n 0, 0, 0), (117, .aload_n 0, 0, 0), (118, .getfield 213, 7, 11)] := ⟨by decide +kernel, trivial, trivial, fkX7_213, trivial⟩
theorem dX7_writeTrack_2 : decode cX7_writeTrack 2 = .ok (.invokevirtual 56, 3) := by decide +kernel
theorem dX7_writeTrack_5 : decode cX7_writeTrack 5 = .ok (.ifCond .ne 9, 3) := by decide +kernel
theorem dX7_writeTrack_10 : decode cX7_writeTrack 10 = .ok (.invokevirtual 75, 3) := by decide +kernel
theorem dX7_writeTrack_13 : decode cX7_writeTrack 13 = .ok (.ireturn, 1) := by decide +kernel
theorem dX7_writeTrack_21 : decode cX7_writeTrack 21 = .ok (.invokevirtual 219, 3) := by decide +kernel
theorem dX7_writeTrack_27 : decode cX7_writeTrack 27 = .ok (.invokevirtual 216, 3) := by decide +kernel
theorem dX7_writeTrack_39 : decode cX7_writeTrack 39 = .ok (.iaload, 1) := by decide +kernel
theorem dX7_writeTrack_40 : decode cX7_writeTrack 40 = .ok (.invokevirtual 219, 3) := by decide +kernel
theorem dX7_writeTrack_46 : decode cX7_writeTrack 46 = .ok (.invokevirtual 216, 3) := by decide +kernel
theorem dX7_writeTrack_54 : decode cX7_writeTrack 54 = .ok (.invokevirtual 64, 3) := by decide +kernel
theorem dX7_writeTrack_57 : decode cX7_writeTrack 57 = .ok (.invokevirtual 219, 3) := by decide +kernel
theorem dX7_writeTrack_63 : decode cX7_writeTrack 63 = .ok (.invokevirtual 216, 3) := by decide +kernel
theorem dX7_writeTrack_75 : decode cX7_writeTrack 75 = .ok (.iaload, 1) := by decide +kernel
theorem dX7_writeTrack_76 : decode cX7_writeTrack 76 = .ok (.invokevirtual 219, 3) := by decide +kernel
theorem dX7_writeTrack_82 : decode cX7_writeTrack 82 = .ok (.invokevirtual 216, 3) := by decide +kernel
theorem dX7_writeTrack_96 : decode cX7_writeTrack 96 = .ok (.iaload, 1) := by decide +kernel
theorem dX7_writeTrack_97 : decode cX7_writeTrack 97 = .ok (.if_icmp .ge 19, 3) := by decide +kernel
theorem dX7_writeTrack_104 : decode cX7_writeTrack 104 = .ok (.invokevirtual 60, 3) := by decide +kernel
theorem dX7_writeTrack_107 : decode cX7_writeTrack 107 = .ok (.invokevirtual 222, 3) := by decide +kernel
theorem dX7_writeTrack_121 : decode cX7_writeTrack 121 = .ok (.invokevirtual 79, 3) := by decide +kernel
theorem dX7_writeTrack_124 : decode cX7_writeTrack 124 = .ok (.ireturn, 1) := by decide +kernel
theorem sX7_outputAt_0 : JSeg (jm jdX7_outputAt) [(0, .aload_n 0, 0, 0), (1, .iload_n 1, 0, 0), (2, .iconst 0, 0, 0), (3, .aload_n 0, 0, 0), (4, .getfield 213, 7, 11), (7, .iconst 1, 0, 0), (8, .isub, 0, 0)] := ⟨by decide +kernel, trivial, trivial, trivial, trivial, fkX7_213, trivial, trivial, trivial⟩
theorem sX7_outputAt_15 : JSeg (jm jdX7_outputAt) [(15, .iconst 0, 0, 0), (16, .goto 4, 0, 0)] := ⟨by decide +kernel, trivial, trivial, trivial⟩
theorem sX7_outputAt_19 : JSeg (jm jdX7_outputAt) [(19, .iconst 1, 0, 0)] := ⟨by decide +kernel, trivial, trivial⟩
theorem sX7_outputAt_20 : JSeg (jm jdX7_outputAt) [(20, .putfield 42, 7, 12), (23, .aload_n 0, 0, 0), (24, .getfield 42, 7, 12)] := ⟨by decide +kernel, fpX7_42, trivial, fkX7_42, trivial⟩
theorem sX7_outputAt_30 : JSeg (jm jdX7_outputAt) [(30, .aload_n 0, 0, 0), (31, .getfield 33, 7, 10), (34, .iload_n 1, 0, 0)] := ⟨by decide +kernel, trivial, fkX7_33, trivial, trivial⟩
theorem sX7_outputAt_36 : JSeg (jm jdX7_outputAt) [(36, .goto 4, 0, 0)] := ⟨by decide +kernel, trivial, trivial⟩
theorem sX7_outputAt_39 : JSeg (jm jdX7_outputAt) [(39, .iconst 0, 0, 0)] := ⟨by decide +kernel, trivial, trivial⟩
theorem dX7_outputAt_9 : decode cX7_outputAt 9 = .ok (.invokestatic 52, 3) := by decide +kernel
theorem dX7_outputAt_12 : decode cX7_outputAt 12 = .ok (.ifCond .eq 7, 3) := by decide +kernel
theorem dX7_outputAt_27 : decode cX7_outputAt 27 = .ok (.ifCond .ne 12, 3) := by decide +kernel
theorem dX7_outputAt_35 : decode cX7_outputAt 35 = .ok (.caload, 1) := by decide +kernel
theorem dX7_outputAt_40 : decode cX7_outputAt 40 = .ok (.ireturn, 1) := by decide +kernel
theorem sX7_undo_0 : JSeg (jm jdX7_undo) [(0, .aload_n 0, 0, 0), (1, .getfield 49, 7, 3)] := ⟨by decide +kernel, trivial, fkX7_49, trivial⟩
theorem sX7_undo_7 : JSeg (jm jdX7_undo) [(7, .aload_n 0, 0, 0), (8, .iconst 1, 0, 0)] := ⟨by decide +kernel, trivial, trivial, trivial⟩
theorem sX7_undo_13 : JSeg (jm jdX7_undo) [(13, .aload_n 0, 0, 0), (14, .dup, 0, 0), (15, .getfield 49, 7, 3), (18, .iconst 1, 0, 0), (19, .isub, 0, 0), (20, .putfield 49, 7, 3), (23, .aload_n 0, 0, 0), (24, .getfield 16, 7, 2), (27, .aload_n 0, 0, 0), (28, .getfield 49, 7, 3), (31, .sipush 179, 0, 0), (34, .imul, 0, 0), (35, .aload_n 0, 0, 0), (36, .getfield 7, 7, 0), (39, .iconst 0, 0, 0)] := ⟨by decide +kernel, trivial, trivial, fkX7_49, trivial, trivial, fpX7_49, trivial, fkX7_16, trivial, fkX7_49, trivial, trivial, trivial, fkX7_7, trivial, trivial⟩
theorem sX7_undo_43 : JSeg (jm jdX7_undo) [(43, .aload_n 0, 0, 0), (44, .aload_n 0, 0, 0), (45, .getfield 49, 7, 3)] := ⟨by decide +kernel, trivial, trivial, fkX7_49, trivial⟩
theorem dX7_undo_4 : decode cX7_undo 4 = .ok (.ifCond .ne 9, 3) := by decide +kernel
theorem dX7_undo_9 : decode cX7_undo 9 = .ok (.invokevirtual 75, 3) := by decide +kernel
theorem dX7_undo_12 : decode cX7_undo 12 = .ok (.ireturn, 1) := by decide +kernel
theorem dX7_undo_40 : decode cX7_undo 40 = .ok (.invokestatic 45, 3) := by decide +kernel
theorem dX7_undo_48 : decode cX7_undo 48 = .ok (.invokevirtual 79, 3) := by decide +kernel
theorem dX7_undo_51 : decode cX7_undo 51 = .ok (.ireturn, 1) := by decide +kernel
theorem sX7_save_0 : JSeg (jm jdX7_save) [(0, .aload_n 0, 0, 0), (1, .getfield 7, 7, 0), (4, .iconst 0, 0, 0), (5, .aload_n 0, 0, 0), (6, .getfield 19, 7, 4), (9, .iconst 0, 0, 0)] := ⟨by decide +kernel, trivial, fkX7_7, trivial, trivial, fkX7_19, trivial, trivial⟩
theorem sX7_save_13 : JSeg (jm jdX7_save) [(13, .aload_n 0, 0, 0), (14, .iconst 1, 0, 0)] := ⟨by decide +kernel, trivial, trivial, trivial⟩
theorem sX7_save_18 : JSeg (jm jdX7_save) [(18, .aload_n 0, 0, 0), (19, .iconst 0, 0, 0), (20, .putfield 42, 7, 12)] := ⟨by decide +kernel, trivial, trivial, fpX7_42, trivial⟩
theorem dX7_save_10 : decode cX7_save 10 = .ok (.invokestatic 45, 3) := by decide +kernel
theorem dX7_save_15 : decode cX7_save 15 = .ok (.putfield 225, 3) := by decide +kernel
theorem dX7_save_23 : decode cX7_save 23 = .ok (.return_, 1) := by decide +kernel
theorem sX7_restore_0 : JSeg (jm jdX7_restore) [(0, .aload_n 0, 0, 0), (1, .aload_n 0, 0, 0), (2, .getfield 225, 7, 5)] := ⟨by decide +kernel, trivial, trivial, fkX7_225, trivial⟩
theorem sX7_restore_8 : JSeg (jm jdX7_restore) [(8, .iconst 0, 0, 0), (9, .goto 4, 0, 0)] := ⟨by decide +kernel, trivial, trivial, trivial⟩
theorem sX7_restore_12 : JSeg (jm jdX7_restore) [(12, .iconst 1, 0, 0)] := ⟨by decide +kernel, trivial, trivial⟩
theorem sX7_restore_13 : JSeg (jm jdX7_restore) [(13, .putfield 42, 7, 12), (16, .aload_n 0, 0, 0), (17, .getfield 225, 7, 5)] := ⟨by decide +kernel, fpX7_42, trivial, fkX7_225, trivial⟩
theorem sX7_restore_23 : JSeg (jm jdX7_restore) [(23, .aload_n 0, 0, 0), (24, .getfield 19, 7, 4), (27, .iconst 0, 0, 0), (28, .aload_n 0, 0, 0), (29, .getfield 7, 7, 0), (32, .iconst 0, 0, 0)] := ⟨by decide +kernel, trivial, fkX7_19, trivial, trivial, fkX7_7, trivial, trivial⟩
theorem sX7_restore_36 : JSeg (jm jdX7_restore) [(36, .aload_n 0, 0, 0), (37, .iconst 0, 0, 0), (38, .putfield 49, 7, 3)] := ⟨by decide +kernel, trivial, trivial, fpX7_49, trivial⟩
theorem dX7_restore_5 : decode cX7_restore 5 = .ok (.ifCond .eq 7, 3) := by decide +kernel
theorem dX7_restore_20 : decode cX7_restore 20 = .ok (.ifCond .eq 21, 3) := by decide +kernel
theorem dX7_restore_33 : decode cX7_restore 33 = .ok (.invokestatic 45, 3) := by decide +kernel
theorem dX7_restore_41 : decode cX7_restore 41 = .ok (.return_, 1) := by decide +kernel
