theorem sX0_init_0 : JSeg (jm jdX0_init) [(0, .aload_n 0, 0, 0)] := ⟨by decide +kernel, trivial, trivial⟩
theorem sX0_init_4 : JSeg (jm jdX0_init) [(4, .aload_n 0, 0, 0)] := ⟨by decide +kernel, trivial, trivial⟩
theorem sX0_init_8 : JSeg (jm jdX0_init) [(8, .dup, 0, 0), (9, .bipush 20, 0, 0)] := ⟨by decide +kernel, trivial, trivial, trivial⟩
theorem sX0_init_17 : JSeg (jm jdX0_init) [(17, .aload_n 0, 0, 0)] := ⟨by decide +kernel, trivial, trivial⟩
theorem sX0_init_21 : JSeg (jm jdX0_init) [(21, .dup, 0, 0), (22, .bipush 20, 0, 0)] := ⟨by decide +kernel, trivial, trivial, trivial⟩
theorem sX0_init_30 : JSeg (jm jdX0_init) [(30, .aload_n 0, 0, 0)] := ⟨by decide +kernel, trivial, trivial⟩
theorem sX0_init_34 : JSeg (jm jdX0_init) [(34, .dup, 0, 0), (35, .bipush 20, 0, 0)] := ⟨by decide +kernel, trivial, trivial, trivial⟩
theorem sX0_init_43 : JSeg (jm jdX0_init) [(43, .aload_n 0, 0, 0)] := ⟨by decide +kernel, trivial, trivial⟩
theorem sX0_init_47 : JSeg (jm jdX0_init) [(47, .dup, 0, 0), (48, .bipush 20, 0, 0)] := ⟨by decide +kernel, trivial, trivial, trivial⟩
theorem sX0_init_56 : JSeg (jm jdX0_init) [(56, .aload_n 0, 0, 0)] := ⟨by decide +kernel, trivial, trivial⟩
theorem sX0_init_60 : JSeg (jm jdX0_init) [(60, .dup, 0, 0), (61, .bipush 20, 0, 0)] := ⟨by decide +kernel, trivial, trivial, trivial⟩
theorem sX0_init_69 : JSeg (jm jdX0_init) [(69, .aload_n 0, 0, 0)] := ⟨by decide +kernel, trivial, trivial⟩
theorem sX0_init_73 : JSeg (jm jdX0_init) [(73, .dup, 0, 0), (74, .bipush 20, 0, 0)] := ⟨by decide +kernel, trivial, trivial, trivial⟩
theorem sX0_init_82 : JSeg (jm jdX0_init) [(82, .aload_n 0, 0, 0)] := ⟨by decide +kernel, trivial, trivial⟩
theorem sX0_init_86 : JSeg (jm jdX0_init) [(86, .dup, 0, 0), (87, .bipush 20, 0, 0)] := ⟨by decide +kernel, trivial, trivial, trivial⟩
theorem sX0_init_95 : JSeg (jm jdX0_init) [(95, .aload_n 0, 0, 0)] := ⟨by decide +kernel, trivial, trivial⟩
theorem sX0_init_99 : JSeg (jm jdX0_init) [(99, .dup, 0, 0), (100, .bipush 8, 0, 0)] := ⟨by decide +kernel, trivial, trivial, trivial⟩
theorem sX0_init_108 : JSeg (jm jdX0_init) [(108, .aload_n 0, 0, 0)] := ⟨by decide +kernel, trivial, trivial⟩
theorem sX0_init_112 : JSeg (jm jdX0_init) [(112, .dup, 0, 0), (113, .bipush 8, 0, 0)] := ⟨by decide +kernel, trivial, trivial, trivial⟩
theorem sX0_init_121 : JSeg (jm jdX0_init) [(121, .aload_n 0, 0, 0)] := ⟨by decide +kernel, trivial, trivial⟩
theorem sX0_init_125 : JSeg (jm jdX0_init) [(125, .dup, 0, 0), (126, .bipush 20, 0, 0)] := ⟨by decide +kernel, trivial, trivial, trivial⟩
theorem sX0_init_134 : JSeg (jm jdX0_init) [(134, .aload_n 0, 0, 0), (135, .getfield 26, 0, 5), (138, .iconst (-1), 0, 0)] := ⟨by decide +kernel, trivial, fkX0_26, trivial, trivial⟩
theorem dX0_init_1 : decode cX0_init 1 = .ok (.invokespecial 3, 3) := by decide +kernel
theorem dX0_init_5 : decode cX0_init 5 = .ok (.new 9, 3) := by decide +kernel
theorem dX0_init_11 : decode cX0_init 11 = .ok (.invokespecial 11, 3) := by decide +kernel
theorem dX0_init_14 : decode cX0_init 14 = .ok (.putfield 14, 3) := by decide +kernel
theorem dX0_init_18 : decode cX0_init 18 = .ok (.new 9, 3) := by decide +kernel
theorem dX0_init_24 : decode cX0_init 24 = .ok (.invokespecial 11, 3) := by decide +kernel
theorem dX0_init_27 : decode cX0_init 27 = .ok (.putfield 20, 3) := by decide +kernel
theorem dX0_init_31 : decode cX0_init 31 = .ok (.new 9, 3) := by decide +kernel
theorem dX0_init_37 : decode cX0_init 37 = .ok (.invokespecial 11, 3) := by decide +kernel
theorem dX0_init_40 : decode cX0_init 40 = .ok (.putfield 23, 3) := by decide +kernel
theorem dX0_init_44 : decode cX0_init 44 = .ok (.new 9, 3) := by decide +kernel
theorem dX0_init_50 : decode cX0_init 50 = .ok (.invokespecial 11, 3) := by decide +kernel
theorem dX0_init_53 : decode cX0_init 53 = .ok (.putfield 26, 3) := by decide +kernel
theorem dX0_init_57 : decode cX0_init 57 = .ok (.new 9, 3) := by decide +kernel
theorem dX0_init_63 : decode cX0_init 63 = .ok (.invokespecial 11, 3) := by decide +kernel
theorem dX0_init_66 : decode cX0_init 66 = .ok (.putfield 29, 3) := by decide +kernel
theorem dX0_init_70 : decode cX0_init 70 = .ok (.new 9, 3) := by decide +kernel
theorem dX0_init_76 : decode cX0_init 76 = .ok (.invokespecial 11, 3) := by decide +kernel
theorem dX0_init_79 : decode cX0_init 79 = .ok (.putfield 32, 3) := by decide +kernel
theorem dX0_init_83 : decode cX0_init 83 = .ok (.new 9, 3) := by decide +kernel
theorem dX0_init_89 : decode cX0_init 89 = .ok (.invokespecial 11, 3) := by decide +kernel
theorem dX0_init_92 : decode cX0_init 92 = .ok (.putfield 35, 3) := by decide +kernel
theorem dX0_init_96 : decode cX0_init 96 = .ok (.new 9, 3) := by decide +kernel
theorem dX0_init_102 : decode cX0_init 102 = .ok (.invokespecial 11, 3) := by decide +kernel
theorem dX0_init_105 : decode cX0_init 105 = .ok (.putfield 38, 3) := by decide +kernel
theorem dX0_init_109 : decode cX0_init 109 = .ok (.new 9, 3) := by decide +kernel
theorem dX0_init_115 : decode cX0_init 115 = .ok (.invokespecial 11, 3) := by decide +kernel
theorem dX0_init_118 : decode cX0_init 118 = .ok (.putfield 41, 3) := by decide +kernel
theorem dX0_init_122 : decode cX0_init 122 = .ok (.new 9, 3) := by decide +kernel
theorem dX0_init_128 : decode cX0_init 128 = .ok (.invokespecial 11, 3) := by decide +kernel
theorem dX0_init_131 : decode cX0_init 131 = .ok (.putfield 44, 3) := by decide +kernel
theorem dX0_init_139 : decode cX0_init 139 = .ok (.invokevirtual 47, 3) := by decide +kernel
theorem dX0_init_142 : decode cX0_init 142 = .ok (.return_, 1) := by decide +kernel
theorem fpX0_50 : FP0 RX0 50 0 0 := ⟨_, _, _, _, ci_X0, by decide, bw_of 97 (by decide +kernel) (by decide +kernel), rfl, rfl⟩
theorem fpX0_54 : FP0 RX0 54 0 1 := ⟨_, _, _, _, ci_X0, by decide, bw_of 100 (by decide +kernel) (by decide +kernel), rfl, rfl⟩
theorem sX0_copy_0 : JSeg (jm jdX0_copy) [(0, .aload_n 1, 0, 0)] := ⟨by decide +kernel, trivial, trivial⟩
theorem sX0_copy_4 : JSeg (jm jdX0_copy) [(4, .aload_n 0, 0, 0), (5, .aload_n 1, 0, 0), (6, .getfield 50, 0, 0), (9, .putfield 50, 0, 0), (12, .aload_n 0, 0, 0), (13, .aload_n 1, 0, 0), (14, .getfield 54, 0, 1), (17, .putfield 54, 0, 1), (20, .aload_n 0, 0, 0), (21, .getfield 14, 0, 2), (24, .aload_n 1, 0, 0), (25, .getfield 14, 0, 2)] := ⟨by decide +kernel, trivial, trivial, fkX0_50, fpX0_50, trivial, trivial, fkX0_54, fpX0_54, trivial, fkX0_14, trivial, fkX0_14, trivial⟩
theorem sX0_copy_31 : JSeg (jm jdX0_copy) [(31, .aload_n 0, 0, 0), (32, .getfield 20, 0, 3), (35, .aload_n 1, 0, 0), (36, .getfield 20, 0, 3)] := ⟨by decide +kernel, trivial, fkX0_20, trivial, fkX0_20, trivial⟩
theorem sX0_copy_42 : JSeg (jm jdX0_copy) [(42, .aload_n 0, 0, 0), (43, .getfield 23, 0, 4), (46, .aload_n 1, 0, 0), (47, .getfield 23, 0, 4)] := ⟨by decide +kernel, trivial, fkX0_23, trivial, fkX0_23, trivial⟩
theorem sX0_copy_53 : JSeg (jm jdX0_copy) [(53, .aload_n 0, 0, 0), (54, .getfield 26, 0, 5), (57, .aload_n 1, 0, 0), (58, .getfield 26, 0, 5)] := ⟨by decide +kernel, trivial, fkX0_26, trivial, fkX0_26, trivial⟩
theorem sX0_copy_64 : JSeg (jm jdX0_copy) [(64, .aload_n 0, 0, 0), (65, .getfield 29, 0, 6), (68, .aload_n 1, 0, 0), (69, .getfield 29, 0, 6)] := ⟨by decide +kernel, trivial, fkX0_29, trivial, fkX0_29, trivial⟩
theorem sX0_copy_75 : JSeg (jm jdX0_copy) [(75, .aload_n 0, 0, 0), (76, .getfield 32, 0, 7), (79, .aload_n 1, 0, 0), (80, .getfield 32, 0, 7)] := ⟨by decide +kernel, trivial, fkX0_32, trivial, fkX0_32, trivial⟩
theorem sX0_copy_86 : JSeg (jm jdX0_copy) [(86, .aload_n 0, 0, 0), (87, .getfield 35, 0, 8), (90, .aload_n 1, 0, 0), (91, .getfield 35, 0, 8)] := ⟨by decide +kernel, trivial, fkX0_35, trivial, fkX0_35, trivial⟩
theorem sX0_copy_97 : JSeg (jm jdX0_copy) [(97, .aload_n 0, 0, 0), (98, .getfield 38, 0, 9), (101, .aload_n 1, 0, 0), (102, .getfield 38, 0, 9)] := ⟨by decide +kernel, trivial, fkX0_38, trivial, fkX0_38, trivial⟩
theorem sX0_copy_108 : JSeg (jm jdX0_copy) [(108, .aload_n 0, 0, 0), (109, .getfield 41, 0, 10), (112, .aload_n 1, 0, 0), (113, .getfield 41, 0, 10)] := ⟨by decide +kernel, trivial, fkX0_41, trivial, fkX0_41, trivial⟩
theorem dX0_copy_1 : decode cX0_copy 1 = .ok (.ifnull 118, 3) := by decide +kernel
theorem dX0_copy_28 : decode cX0_copy 28 = .ok (.invokevirtual 57, 3) := by decide +kernel
theorem dX0_copy_39 : decode cX0_copy 39 = .ok (.invokevirtual 57, 3) := by decide +kernel
theorem dX0_copy_50 : decode cX0_copy 50 = .ok (.invokevirtual 57, 3) := by decide +kernel
theorem dX0_copy_61 : decode cX0_copy 61 = .ok (.invokevirtual 57, 3) := by decide +kernel
theorem dX0_copy_72 : decode cX0_copy 72 = .ok (.invokevirtual 57, 3) := by decide +kernel
theorem dX0_copy_83 : decode cX0_copy 83 = .ok (.invokevirtual 57, 3) := by decide +kernel
theorem dX0_copy_94 : decode cX0_copy 94 = .ok (.invokevirtual 57, 3) := by decide +kernel
theorem dX0_copy_105 : decode cX0_copy 105 = .ok (.invokevirtual 57, 3) := by decide +kernel
theorem dX0_copy_116 : decode cX0_copy 116 = .ok (.invokevirtual 57, 3) := by decide +kernel
theorem dX0_copy_119 : decode cX0_copy 119 = .ok (.return_, 1) := by decide +kernel
theorem sX0_slotOf_0 : JSeg (jm jdX0_slotOf) [(0, .iconst 0, 0, 0), (1, .istore_n 2, 0, 0)] := ⟨by decide +kernel, trivial, trivial, trivial⟩
theorem sX0_slotOf_2 : JSeg (jm jdX0_slotOf) [(2, .iload_n 2, 0, 0), (3, .bipush 20, 0, 0)] := ⟨by decide +kernel, trivial, trivial, trivial⟩
theorem sX0_slotOf_8 : JSeg (jm jdX0_slotOf) [(8, .iload_n 1, 0, 0)] := ⟨by decide +kernel, trivial, trivial⟩
theorem sX0_slotOf_12 : JSeg (jm jdX0_slotOf) [(12, .aload_n 0, 0, 0), (13, .getfield 14, 0, 2), (16, .iload_n 2, 0, 0)] := ⟨by decide +kernel, trivial, fkX0_14, trivial, trivial⟩
theorem sX0_slotOf_20 : JSeg (jm jdX0_slotOf) [(20, .iload_n 1, 0, 0)] := ⟨by decide +kernel, trivial, trivial⟩
theorem sX0_slotOf_24 : JSeg (jm jdX0_slotOf) [(24, .iload_n 2, 0, 0)] := ⟨by decide +kernel, trivial, trivial⟩
theorem sX0_slotOf_26 : JSeg (jm jdX0_slotOf) [(26, .iinc 2 1, 0, 0), (29, .goto (-27), 0, 0)] := ⟨by decide +kernel, trivial, trivial, trivial⟩
theorem sX0_slotOf_32 : JSeg (jm jdX0_slotOf) [(32, .iconst (-1), 0, 0)] := ⟨by decide +kernel, trivial, trivial⟩
theorem dX0_slotOf_5 : decode cX0_slotOf 5 = .ok (.if_icmp .ge 27, 3) := by decide +kernel
theorem dX0_slotOf_9 : decode cX0_slotOf 9 = .ok (.ifCond .le 23, 3) := by decide +kernel
theorem dX0_slotOf_17 : decode cX0_slotOf 17 = .ok (.invokevirtual 61, 3) := by decide +kernel
theorem dX0_slotOf_21 : decode cX0_slotOf 21 = .ok (.if_icmp .ne 5, 3) := by decide +kernel
theorem dX0_slotOf_25 : decode cX0_slotOf 25 = .ok (.ireturn, 1) := by decide +kernel
theorem dX0_slotOf_33 : decode cX0_slotOf 33 = .ok (.ireturn, 1) := by decide +kernel
theorem sX0_slotAt_0 : JSeg (jm jdX0_slotAt) [(0, .iconst 0, 0, 0), (1, .istore_n 3, 0, 0)] := ⟨by decide +kernel, trivial, trivial, trivial⟩
theorem sX0_slotAt_2 : JSeg (jm jdX0_slotAt) [(2, .iload_n 3, 0, 0), (3, .bipush 20, 0, 0)] := ⟨by decide +kernel, trivial, trivial, trivial⟩
theorem sX0_slotAt_8 : JSeg (jm jdX0_slotAt) [(8, .aload_n 0, 0, 0), (9, .getfield 26, 0, 5), (12, .iload_n 3, 0, 0)] := ⟨by decide +kernel, trivial, fkX0_26, trivial, trivial⟩
theorem sX0_slotAt_16 : JSeg (jm jdX0_slotAt) [(16, .iload_n 1, 0, 0)] := ⟨by decide +kernel, trivial, trivial⟩
theorem sX0_slotAt_20 : JSeg (jm jdX0_slotAt) [(20, .aload_n 0, 0, 0), (21, .getfield 29, 0, 6), (24, .iload_n 3, 0, 0)] := ⟨by decide +kernel, trivial, fkX0_29, trivial, trivial⟩
theorem sX0_slotAt_28 : JSeg (jm jdX0_slotAt) [(28, .iload_n 2, 0, 0)] := ⟨by decide +kernel, trivial, trivial⟩
theorem sX0_slotAt_32 : JSeg (jm jdX0_slotAt) [(32, .iload_n 3, 0, 0)] := ⟨by decide +kernel, trivial, trivial⟩
theorem sX0_slotAt_34 : JSeg (jm jdX0_slotAt) [(34, .iinc 3 1, 0, 0), (37, .goto (-35), 0, 0)] := ⟨by decide +kernel, trivial, trivial, trivial⟩
theorem sX0_slotAt_40 : JSeg (jm jdX0_slotAt) [(40, .iconst (-1), 0, 0)] := ⟨by decide +kernel, trivial, trivial⟩
theorem dX0_slotAt_5 : decode cX0_slotAt 5 = .ok (.if_icmp .ge 35, 3) := by decide +kernel
theorem dX0_slotAt_13 : decode cX0_slotAt 13 = .ok (.invokevirtual 61, 3) := by decide +kernel
theorem dX0_slotAt_17 : decode cX0_slotAt 17 = .ok (.if_icmp .ne 17, 3) := by decide +kernel
theorem dX0_slotAt_25 : decode cX0_slotAt 25 = .ok (.invokevirtual 61, 3) := by decide +kernel
theorem dX0_slotAt_29 : decode cX0_slotAt 29 = .ok (.if_icmp .ne 5, 3) := by decide +kernel
theorem dX0_slotAt_33 : decode cX0_slotAt 33 = .ok (.ireturn, 1) := by decide +kernel
theorem dX0_slotAt_41 : decode cX0_slotAt 41 = .ok (.ireturn, 1) := by decide +kernel
theorem sX0_isTaken_0 : JSeg (jm jdX0_isTaken) [(0, .aload_n 0, 0, 0), (1, .getfield 14, 0, 2), (4, .iload_n 1, 0, 0)] := ⟨by decide +kernel, trivial, fkX0_14, trivial, trivial⟩
theorem sX0_isTaken_11 : JSeg (jm jdX0_isTaken) [(11, .iconst 1, 0, 0), (12, .goto 4, 0, 0)] := ⟨by decide +kernel, trivial, trivial, trivial⟩
theorem sX0_isTaken_15 : JSeg (jm jdX0_isTaken) [(15, .iconst 0, 0, 0)] := ⟨by decide +kernel, trivial, trivial⟩
theorem dX0_isTaken_5 : decode cX0_isTaken 5 = .ok (.invokevirtual 61, 3) := by decide +kernel
theorem dX0_isTaken_8 : decode cX0_isTaken 8 = .ok (.ifCond .eq 7, 3) := by decide +kernel
theorem dX0_isTaken_16 : decode cX0_isTaken 16 = .ok (.ireturn, 1) := by decide +kernel
theorem sX0_freeSlot_0 : JSeg (jm jdX0_freeSlot) [(0, .iconst 0, 0, 0), (1, .istore_n 1, 0, 0)] := ⟨by decide +kernel, trivial, trivial, trivial⟩
theorem sX0_freeSlot_2 : JSeg (jm jdX0_freeSlot) [(2, .iload_n 1, 0, 0), (3, .bipush 20, 0, 0)] := ⟨by decide +kernel, trivial, trivial, trivial⟩
theorem sX0_freeSlot_8 : JSeg (jm jdX0_freeSlot) [(8, .aload_n 0, 0, 0), (9, .iload_n 1, 0, 0)] := ⟨by decide +kernel, trivial, trivial, trivial⟩
theorem sX0_freeSlot_16 : JSeg (jm jdX0_freeSlot) [(16, .iload_n 1, 0, 0)] := ⟨by decide +kernel, trivial, trivial⟩
theorem sX0_freeSlot_18 : JSeg (jm jdX0_freeSlot) [(18, .iinc 1 1, 0, 0), (21, .goto (-19), 0, 0)] := ⟨by decide +kernel, trivial, trivial, trivial⟩
theorem sX0_freeSlot_24 : JSeg (jm jdX0_freeSlot) [(24, .iconst (-1), 0, 0)] := ⟨by decide +kernel, trivial, trivial⟩
theorem dX0_freeSlot_5 : decode cX0_freeSlot 5 = .ok (.if_icmp .ge 19, 3) := by decide +kernel
theorem dX0_freeSlot_10 : decode cX0_freeSlot 10 = .ok (.invokevirtual 65, 3) := by decide +kernel
theorem dX0_freeSlot_13 : decode cX0_freeSlot 13 = .ok (.ifCond .ne 5, 3) := by decide +kernel
theorem dX0_freeSlot_17 : decode cX0_freeSlot 17 = .ok (.ireturn, 1) := by decide +kernel
theorem dX0_freeSlot_25 : decode cX0_freeSlot 25 = .ok (.ireturn, 1) := by decide +kernel
theorem sX0_enter_0 : JSeg (jm jdX0_enter) [(0, .aload_n 0, 0, 0)] := ⟨by decide +kernel, trivial, trivial⟩
theorem sX0_enter_4 : JSeg (jm jdX0_enter) [(4, .istore 6, 0, 0), (6, .aload_n 0, 0, 0), (7, .dup, 0, 0), (8, .getfield 54, 0, 1), (11, .iconst 1, 0, 0), (12, .iadd, 0, 0), (13, .putfield 54, 0, 1), (16, .aload_n 0, 0, 0), (17, .dup, 0, 0), (18, .getfield 50, 0, 0), (21, .iconst 1, 0, 0), (22, .iadd, 0, 0), (23, .putfield 50, 0, 0), (26, .aload_n 0, 0, 0), (27, .getfield 14, 0, 2), (30, .iload 6, 0, 0), (32, .aload_n 0, 0, 0), (33, .getfield 54, 0, 1)] := ⟨by decide +kernel, trivial, trivial, trivial, fkX0_54, trivial, trivial, fpX0_54, trivial, trivial, fkX0_50, trivial, trivial, fpX0_50, trivial, fkX0_14, trivial, trivial, fkX0_54, trivial⟩
theorem sX0_enter_39 : JSeg (jm jdX0_enter) [(39, .aload_n 0, 0, 0), (40, .getfield 32, 0, 7), (43, .iload 6, 0, 0), (45, .iload_n 2, 0, 0)] := ⟨by decide +kernel, trivial, fkX0_32, trivial, trivial, trivial⟩
theorem sX0_enter_49 : JSeg (jm jdX0_enter) [(49, .aload_n 0, 0, 0), (50, .getfield 35, 0, 8), (53, .iload 6, 0, 0), (55, .iload_n 3, 0, 0)] := ⟨by decide +kernel, trivial, fkX0_35, trivial, trivial, trivial⟩
theorem sX0_enter_59 : JSeg (jm jdX0_enter) [(59, .aload_n 0, 0, 0), (60, .getfield 20, 0, 3), (63, .iload 6, 0, 0), (65, .iload 4, 0, 0)] := ⟨by decide +kernel, trivial, fkX0_20, trivial, trivial, trivial⟩
theorem sX0_enter_70 : JSeg (jm jdX0_enter) [(70, .aload_n 0, 0, 0), (71, .getfield 23, 0, 4), (74, .iload 6, 0, 0), (76, .iload 5, 0, 0)] := ⟨by decide +kernel, trivial, fkX0_23, trivial, trivial, trivial⟩
theorem sX0_enter_81 : JSeg (jm jdX0_enter) [(81, .iconst 1, 0, 0), (82, .goto 4, 0, 0)] := ⟨by decide +kernel, trivial, trivial, trivial⟩
theorem sX0_enter_85 : JSeg (jm jdX0_enter) [(85, .iconst 0, 0, 0)] := ⟨by decide +kernel, trivial, trivial⟩
theorem sX0_enter_89 : JSeg (jm jdX0_enter) [(89, .aload_n 0, 0, 0), (90, .iload 6, 0, 0), (92, .iload_n 1, 0, 0)] := ⟨by decide +kernel, trivial, trivial, trivial, trivial⟩
theorem sX0_enter_96 : JSeg (jm jdX0_enter) [(96, .aload_n 0, 0, 0), (97, .getfield 54, 0, 1)] := ⟨by decide +kernel, trivial, fkX0_54, trivial⟩
theorem dX0_enter_1 : decode cX0_enter 1 = .ok (.invokevirtual 69, 3) := by decide +kernel
theorem dX0_enter_36 : decode cX0_enter 36 = .ok (.invokevirtual 73, 3) := by decide +kernel
theorem dX0_enter_46 : decode cX0_enter 46 = .ok (.invokevirtual 73, 3) := by decide +kernel
theorem dX0_enter_56 : decode cX0_enter 56 = .ok (.invokevirtual 73, 3) := by decide +kernel
theorem dX0_enter_67 : decode cX0_enter 67 = .ok (.invokevirtual 73, 3) := by decide +kernel
theorem dX0_enter_78 : decode cX0_enter 78 = .ok (.ifCond .eq 7, 3) := by decide +kernel
theorem dX0_enter_86 : decode cX0_enter 86 = .ok (.invokevirtual 73, 3) := by decide +kernel
theorem dX0_enter_93 : decode cX0_enter 93 = .ok (.invokevirtual 77, 3) := by decide +kernel
theorem dX0_enter_100 : decode cX0_enter 100 = .ok (.ireturn, 1) := by decide +kernel
theorem sX0_leave_0 : JSeg (jm jdX0_leave) [(0, .aload_n 0, 0, 0), (1, .iload_n 1, 0, 0)] := ⟨by decide +kernel, trivial, trivial, trivial⟩
theorem sX0_leave_5 : JSeg (jm jdX0_leave) [(5, .istore_n 2, 0, 0), (6, .aload_n 0, 0, 0), (7, .getfield 14, 0, 2), (10, .iload_n 2, 0, 0), (11, .iconst 0, 0, 0)] := ⟨by decide +kernel, trivial, trivial, fkX0_14, trivial, trivial, trivial⟩
theorem sX0_leave_15 : JSeg (jm jdX0_leave) [(15, .aload_n 0, 0, 0), (16, .getfield 26, 0, 5), (19, .iload_n 2, 0, 0), (20, .iconst (-1), 0, 0)] := ⟨by decide +kernel, trivial, fkX0_26, trivial, trivial, trivial⟩
theorem sX0_leave_24 : JSeg (jm jdX0_leave) [(24, .aload_n 0, 0, 0), (25, .dup, 0, 0), (26, .getfield 50, 0, 0), (29, .iconst 1, 0, 0), (30, .isub, 0, 0), (31, .putfield 50, 0, 0), (34, .aload_n 0, 0, 0), (35, .getfield 35, 0, 8), (38, .iload_n 2, 0, 0)] := ⟨by decide +kernel, trivial, trivial, fkX0_50, trivial, trivial, fpX0_50, trivial, fkX0_35, trivial, trivial⟩
theorem dX0_leave_2 : decode cX0_leave 2 = .ok (.invokevirtual 80, 3) := by decide +kernel
theorem dX0_leave_12 : decode cX0_leave 12 = .ok (.invokevirtual 73, 3) := by decide +kernel
theorem dX0_leave_21 : decode cX0_leave 21 = .ok (.invokevirtual 73, 3) := by decide +kernel
theorem dX0_leave_39 : decode cX0_leave 39 = .ok (.invokevirtual 61, 3) := by decide +kernel
theorem dX0_leave_42 : decode cX0_leave 42 = .ok (.ireturn, 1) := by decide +kernel
theorem sX0_moveLast_0 : JSeg (jm jdX0_moveLast) [(0, .aload_n 0, 0, 0), (1, .aload_n 0, 0, 0), (2, .iload_n 1, 0, 0)] := ⟨by decide +kernel, trivial, trivial, trivial, trivial⟩
theorem sX0_moveLast_6 : JSeg (jm jdX0_moveLast) [(6, .iload_n 2, 0, 0)] := ⟨by decide +kernel, trivial, trivial⟩
theorem dX0_moveLast_3 : decode cX0_moveLast 3 = .ok (.invokevirtual 80, 3) := by decide +kernel
theorem dX0_moveLast_7 : decode cX0_moveLast 7 = .ok (.invokevirtual 77, 3) := by decide +kernel
theorem dX0_moveLast_10 : decode cX0_moveLast 10 = .ok (.return_, 1) := by decide +kernel
theorem sX0_push_0 : JSeg (jm jdX0_push) [(0, .aload_n 0, 0, 0), (1, .getfield 26, 0, 5), (4, .iload_n 1, 0, 0), (5, .iload_n 2, 0, 0)] := ⟨by decide +kernel, trivial, fkX0_26, trivial, trivial, trivial⟩
theorem sX0_push_9 : JSeg (jm jdX0_push) [(9, .aload_n 0, 0, 0), (10, .getfield 29, 0, 6), (13, .iload_n 1, 0, 0), (14, .aload_n 0, 0, 0), (15, .getfield 38, 0, 9), (18, .iload_n 2, 0, 0)] := ⟨by decide +kernel, trivial, fkX0_29, trivial, trivial, fkX0_38, trivial, trivial⟩
theorem sX0_push_25 : JSeg (jm jdX0_push) [(25, .aload_n 0, 0, 0), (26, .getfield 38, 0, 9), (29, .iload_n 2, 0, 0), (30, .iconst 1, 0, 0)] := ⟨by decide +kernel, trivial, fkX0_38, trivial, trivial, trivial⟩
theorem sX0_push_34 : JSeg (jm jdX0_push) [(34, .aload_n 0, 0, 0), (35, .getfield 41, 0, 10), (38, .iload_n 2, 0, 0), (39, .aload_n 0, 0, 0), (40, .getfield 32, 0, 7), (43, .iload_n 1, 0, 0)] := ⟨by decide +kernel, trivial, fkX0_41, trivial, trivial, fkX0_32, trivial, trivial⟩
theorem dX0_push_6 : decode cX0_push 6 = .ok (.invokevirtual 73, 3) := by decide +kernel
theorem dX0_push_19 : decode cX0_push 19 = .ok (.invokevirtual 61, 3) := by decide +kernel
theorem dX0_push_22 : decode cX0_push 22 = .ok (.invokevirtual 73, 3) := by decide +kernel
theorem dX0_push_31 : decode cX0_push 31 = .ok (.invokevirtual 83, 3) := by decide +kernel
theorem dX0_push_44 : decode cX0_push 44 = .ok (.invokevirtual 61, 3) := by decide +kernel
theorem dX0_push_47 : decode cX0_push 47 = .ok (.invokevirtual 83, 3) := by decide +kernel
theorem dX0_push_50 : decode cX0_push 50 = .ok (.return_, 1) := by decide +kernel
theorem sX0_pop_0 : JSeg (jm jdX0_pop) [(0, .aload_n 0, 0, 0), (1, .iload_n 1, 0, 0), (2, .aload_n 0, 0, 0), (3, .getfield 38, 0, 9), (6, .iload_n 1, 0, 0)] := ⟨by decide +kernel, trivial, trivial, trivial, fkX0_38, trivial, trivial⟩
theorem sX0_pop_10 : JSeg (jm jdX0_pop) [(10, .iconst 1, 0, 0), (11, .isub, 0, 0)] := ⟨by decide +kernel, trivial, trivial, trivial⟩
theorem sX0_pop_15 : JSeg (jm jdX0_pop) [(15, .istore_n 2, 0, 0), (16, .aload_n 0, 0, 0), (17, .getfield 38, 0, 9), (20, .iload_n 1, 0, 0), (21, .iconst (-1), 0, 0)] := ⟨by decide +kernel, trivial, trivial, fkX0_38, trivial, trivial, trivial⟩
theorem sX0_pop_25 : JSeg (jm jdX0_pop) [(25, .aload_n 0, 0, 0), (26, .getfield 41, 0, 10), (29, .iload_n 1, 0, 0), (30, .aload_n 0, 0, 0), (31, .getfield 32, 0, 7), (34, .iload_n 2, 0, 0)] := ⟨by decide +kernel, trivial, fkX0_41, trivial, trivial, fkX0_32, trivial, trivial⟩
theorem sX0_pop_38 : JSeg (jm jdX0_pop) [(38, .ineg, 0, 0)] := ⟨by decide +kernel, trivial, trivial⟩
theorem sX0_pop_42 : JSeg (jm jdX0_pop) [(42, .iload_n 2, 0, 0)] := ⟨by decide +kernel, trivial, trivial⟩
theorem dX0_pop_7 : decode cX0_pop 7 = .ok (.invokevirtual 61, 3) := by decide +kernel
theorem dX0_pop_12 : decode cX0_pop 12 = .ok (.invokevirtual 86, 3) := by decide +kernel
theorem dX0_pop_22 : decode cX0_pop 22 = .ok (.invokevirtual 83, 3) := by decide +kernel
theorem dX0_pop_35 : decode cX0_pop 35 = .ok (.invokevirtual 61, 3) := by decide +kernel
theorem dX0_pop_39 : decode cX0_pop 39 = .ok (.invokevirtual 83, 3) := by decide +kernel
theorem dX0_pop_43 : decode cX0_pop 43 = .ok (.ireturn, 1) := by decide +kernel
theorem sX0_mend_0 : JSeg (jm jdX0_mend) [(0, .aload_n 0, 0, 0), (1, .getfield 23, 0, 4), (4, .aload_n 0, 0, 0), (5, .iload_n 1, 0, 0)] := ⟨by decide +kernel, trivial, fkX0_23, trivial, trivial, trivial⟩
theorem sX0_mend_9 : JSeg (jm jdX0_mend) [(9, .iconst 0, 0, 0)] := ⟨by decide +kernel, trivial, trivial⟩
theorem sX0_mend_13 : JSeg (jm jdX0_mend) [(13, .iconst 0, 0, 0), (14, .istore_n 2, 0, 0), (15, .iconst 0, 0, 0), (16, .istore_n 3, 0, 0)] := ⟨by decide +kernel, trivial, trivial, trivial, trivial, trivial⟩
theorem sX0_mend_17 : JSeg (jm jdX0_mend) [(17, .iload_n 3, 0, 0), (18, .bipush 20, 0, 0)] := ⟨by decide +kernel, trivial, trivial, trivial⟩
theorem sX0_mend_23 : JSeg (jm jdX0_mend) [(23, .aload_n 0, 0, 0), (24, .iload_n 3, 0, 0)] := ⟨by decide +kernel, trivial, trivial, trivial⟩
theorem sX0_mend_31 : JSeg (jm jdX0_mend) [(31, .iload_n 2, 0, 0), (32, .aload_n 0, 0, 0), (33, .getfield 23, 0, 4), (36, .iload_n 3, 0, 0)] := ⟨by decide +kernel, trivial, trivial, fkX0_23, trivial, trivial⟩
theorem sX0_mend_40 : JSeg (jm jdX0_mend) [(40, .iadd, 0, 0), (41, .istore_n 2, 0, 0)] := ⟨by decide +kernel, trivial, trivial, trivial⟩
theorem sX0_mend_42 : JSeg (jm jdX0_mend) [(42, .iinc 3 1, 0, 0), (45, .goto (-28), 0, 0)] := ⟨by decide +kernel, trivial, trivial, trivial⟩
theorem sX0_mend_48 : JSeg (jm jdX0_mend) [(48, .iload_n 2, 0, 0)] := ⟨by decide +kernel, trivial, trivial⟩
theorem dX0_mend_6 : decode cX0_mend 6 = .ok (.invokevirtual 90, 3) := by decide +kernel
theorem dX0_mend_10 : decode cX0_mend 10 = .ok (.invokevirtual 73, 3) := by decide +kernel
theorem dX0_mend_20 : decode cX0_mend 20 = .ok (.if_icmp .ge 28, 3) := by decide +kernel
theorem dX0_mend_25 : decode cX0_mend 25 = .ok (.invokevirtual 65, 3) := by decide +kernel
theorem dX0_mend_28 : decode cX0_mend 28 = .ok (.ifCond .eq 14, 3) := by decide +kernel
theorem dX0_mend_37 : decode cX0_mend 37 = .ok (.invokevirtual 61, 3) := by decide +kernel
theorem dX0_mend_49 : decode cX0_mend 49 = .ok (.ireturn, 1) := by decide +kernel
theorem sX0_behind_0 : JSeg (jm jdX0_behind) [(0, .aload_n 0, 0, 0), (1, .getfield 38, 0, 9), (4, .aload_n 0, 0, 0), (5, .getfield 26, 0, 5), (8, .iload_n 1, 0, 0)] := ⟨by decide +kernel, trivial, fkX0_38, trivial, fkX0_26, trivial, trivial⟩
theorem sX0_behind_15 : JSeg (jm jdX0_behind) [(15, .iconst 1, 0, 0), (16, .isub, 0, 0), (17, .aload_n 0, 0, 0), (18, .getfield 29, 0, 6), (21, .iload_n 1, 0, 0)] := ⟨by decide +kernel, trivial, trivial, trivial, fkX0_29, trivial, trivial⟩
theorem sX0_behind_25 : JSeg (jm jdX0_behind) [(25, .isub, 0, 0)] := ⟨by decide +kernel, trivial, trivial⟩
theorem dX0_behind_9 : decode cX0_behind 9 = .ok (.invokevirtual 61, 3) := by decide +kernel
theorem dX0_behind_12 : decode cX0_behind 12 = .ok (.invokevirtual 61, 3) := by decide +kernel
theorem dX0_behind_22 : decode cX0_behind 22 = .ok (.invokevirtual 61, 3) := by decide +kernel
theorem dX0_behind_26 : decode cX0_behind 26 = .ok (.ireturn, 1) := by decide +kernel
theorem sX0_weightOf_0 : JSeg (jm jdX0_weightOf) [(0, .iconst 0, 0, 0), (1, .istore_n 2, 0, 0), (2, .iconst 0, 0, 0), (3, .istore_n 3, 0, 0)] := ⟨by decide +kernel, trivial, trivial, trivial, trivial, trivial⟩
theorem sX0_weightOf_4 : JSeg (jm jdX0_weightOf) [(4, .iload_n 3, 0, 0), (5, .bipush 20, 0, 0)] := ⟨by decide +kernel, trivial, trivial, trivial⟩
theorem sX0_weightOf_10 : JSeg (jm jdX0_weightOf) [(10, .aload_n 0, 0, 0), (11, .getfield 26, 0, 5), (14, .iload_n 3, 0, 0)] := ⟨by decide +kernel, trivial, fkX0_26, trivial, trivial⟩
theorem sX0_weightOf_18 : JSeg (jm jdX0_weightOf) [(18, .iload_n 1, 0, 0)] := ⟨by decide +kernel, trivial, trivial⟩
theorem sX0_weightOf_22 : JSeg (jm jdX0_weightOf) [(22, .iload_n 2, 0, 0), (23, .aload_n 0, 0, 0), (24, .getfield 35, 0, 8), (27, .iload_n 3, 0, 0)] := ⟨by decide +kernel, trivial, trivial, fkX0_35, trivial, trivial⟩
theorem sX0_weightOf_31 : JSeg (jm jdX0_weightOf) [(31, .iadd, 0, 0), (32, .istore_n 2, 0, 0)] := ⟨by decide +kernel, trivial, trivial, trivial⟩
theorem sX0_weightOf_33 : JSeg (jm jdX0_weightOf) [(33, .iinc 3 1, 0, 0), (36, .goto (-32), 0, 0)] := ⟨by decide +kernel, trivial, trivial, trivial⟩
theorem sX0_weightOf_39 : JSeg (jm jdX0_weightOf) [(39, .iload_n 2, 0, 0)] := ⟨by decide +kernel, trivial, trivial⟩
theorem dX0_weightOf_7 : decode cX0_weightOf 7 = .ok (.if_icmp .ge 32, 3) := by decide +kernel
theorem dX0_weightOf_15 : decode cX0_weightOf 15 = .ok (.invokevirtual 61, 3) := by decide +kernel
theorem dX0_weightOf_19 : decode cX0_weightOf 19 = .ok (.if_icmp .ne 14, 3) := by decide +kernel
theorem dX0_weightOf_28 : decode cX0_weightOf 28 = .ok (.invokevirtual 61, 3) := by decide +kernel
theorem dX0_weightOf_40 : decode cX0_weightOf 40 = .ok (.ireturn, 1) := by decide +kernel
theorem sX0_lengthOfLast_0 : JSeg (jm jdX0_lengthOfLast) [(0, .iconst 0, 0, 0), (1, .istore_n 3, 0, 0), (2, .iconst 0, 0, 0), (3, .istore 4, 0, 0)] := ⟨by decide +kernel, trivial, trivial, trivial, trivial, trivial⟩
theorem sX0_lengthOfLast_5 : JSeg (jm jdX0_lengthOfLast) [(5, .iload 4, 0, 0), (7, .bipush 20, 0, 0)] := ⟨by decide +kernel, trivial, trivial, trivial⟩
theorem sX0_lengthOfLast_12 : JSeg (jm jdX0_lengthOfLast) [(12, .aload_n 0, 0, 0), (13, .getfield 26, 0, 5), (16, .iload 4, 0, 0)] := ⟨by decide +kernel, trivial, fkX0_26, trivial, trivial⟩
theorem sX0_lengthOfLast_21 : JSeg (jm jdX0_lengthOfLast) [(21, .iload_n 1, 0, 0)] := ⟨by decide +kernel, trivial, trivial⟩
theorem sX0_lengthOfLast_25 : JSeg (jm jdX0_lengthOfLast) [(25, .aload_n 0, 0, 0), (26, .iload 4, 0, 0)] := ⟨by decide +kernel, trivial, trivial, trivial⟩
theorem sX0_lengthOfLast_31 : JSeg (jm jdX0_lengthOfLast) [(31, .iload_n 2, 0, 0)] := ⟨by decide +kernel, trivial, trivial⟩
theorem sX0_lengthOfLast_35 : JSeg (jm jdX0_lengthOfLast) [(35, .iload_n 3, 0, 0), (36, .aload_n 0, 0, 0), (37, .getfield 32, 0, 7), (40, .iload 4, 0, 0)] := ⟨by decide +kernel, trivial, trivial, fkX0_32, trivial, trivial⟩
theorem sX0_lengthOfLast_45 : JSeg (jm jdX0_lengthOfLast) [(45, .iadd, 0, 0), (46, .istore_n 3, 0, 0)] := ⟨by decide +kernel, trivial, trivial, trivial⟩
theorem sX0_lengthOfLast_47 : JSeg (jm jdX0_lengthOfLast) [(47, .iinc 4 1, 0, 0), (50, .goto (-45), 0, 0)] := ⟨by decide +kernel, trivial, trivial, trivial⟩
theorem sX0_lengthOfLast_53 : JSeg (jm jdX0_lengthOfLast) [(53, .iload_n 3, 0, 0)] := ⟨by decide +kernel, trivial, trivial⟩
theorem dX0_lengthOfLast_9 : decode cX0_lengthOfLast 9 = .ok (.if_icmp .ge 44, 3) := by decide +kernel
theorem dX0_lengthOfLast_18 : decode cX0_lengthOfLast 18 = .ok (.invokevirtual 61, 3) := by decide +kernel
theorem dX0_lengthOfLast_22 : decode cX0_lengthOfLast 22 = .ok (.if_icmp .ne 25, 3) := by decide +kernel
theorem dX0_lengthOfLast_28 : decode cX0_lengthOfLast 28 = .ok (.invokevirtual 93, 3) := by decide +kernel
theorem dX0_lengthOfLast_32 : decode cX0_lengthOfLast 32 = .ok (.if_icmp .ge 15, 3) := by decide +kernel
theorem dX0_lengthOfLast_42 : decode cX0_lengthOfLast 42 = .ok (.invokevirtual 61, 3) := by decide +kernel
theorem dX0_lengthOfLast_54 : decode cX0_lengthOfLast 54 = .ok (.ireturn, 1) := by decide +kernel
theorem sX0_defectsOfLast_0 : JSeg (jm jdX0_defectsOfLast) [(0, .iconst 0, 0, 0), (1, .istore_n 3, 0, 0), (2, .iconst 0, 0, 0), (3, .istore 4, 0, 0)] := ⟨by decide +kernel, trivial, trivial, trivial, trivial, trivial⟩
theorem sX0_defectsOfLast_5 : JSeg (jm jdX0_defectsOfLast) [(5, .iload 4, 0, 0), (7, .bipush 20, 0, 0)] := ⟨by decide +kernel, trivial, trivial, trivial⟩
theorem sX0_defectsOfLast_12 : JSeg (jm jdX0_defectsOfLast) [(12, .aload_n 0, 0, 0), (13, .getfield 26, 0, 5), (16, .iload 4, 0, 0)] := ⟨by decide +kernel, trivial, fkX0_26, trivial, trivial⟩
theorem sX0_defectsOfLast_21 : JSeg (jm jdX0_defectsOfLast) [(21, .iload_n 1, 0, 0)] := ⟨by decide +kernel, trivial, trivial⟩
theorem sX0_defectsOfLast_25 : JSeg (jm jdX0_defectsOfLast) [(25, .aload_n 0, 0, 0), (26, .iload 4, 0, 0)] := ⟨by decide +kernel, trivial, trivial, trivial⟩
theorem sX0_defectsOfLast_31 : JSeg (jm jdX0_defectsOfLast) [(31, .iload_n 2, 0, 0)] := ⟨by decide +kernel, trivial, trivial⟩
theorem sX0_defectsOfLast_35 : JSeg (jm jdX0_defectsOfLast) [(35, .iload_n 3, 0, 0), (36, .aload_n 0, 0, 0), (37, .getfield 23, 0, 4), (40, .iload 4, 0, 0)] := ⟨by decide +kernel, trivial, trivial, fkX0_23, trivial, trivial⟩
theorem sX0_defectsOfLast_45 : JSeg (jm jdX0_defectsOfLast) [(45, .iadd, 0, 0), (46, .istore_n 3, 0, 0)] := ⟨by decide +kernel, trivial, trivial, trivial⟩
theorem sX0_defectsOfLast_47 : JSeg (jm jdX0_defectsOfLast) [(47, .iinc 4 1, 0, 0), (50, .goto (-45), 0, 0)] := ⟨by decide +kernel, trivial, trivial, trivial⟩
theorem sX0_defectsOfLast_53 : JSeg (jm jdX0_defectsOfLast) [(53, .iload_n 3, 0, 0)] := ⟨by decide +kernel, trivial, trivial⟩
theorem dX0_defectsOfLast_9 : decode cX0_defectsOfLast 9 = .ok (.if_icmp .ge 44, 3) := by decide +kernel
theorem dX0_defectsOfLast_18 : decode cX0_defectsOfLast 18 = .ok (.invokevirtual 61, 3) := by decide +kernel
theorem dX0_defectsOfLast_22 : decode cX0_defectsOfLast 22 = .ok (.if_icmp .ne 25, 3) := by decide +kernel
theorem dX0_defectsOfLast_28 : decode cX0_defectsOfLast 28 = .ok (.invokevirtual 93, 3) := by decide +kernel
theorem dX0_defectsOfLast_32 : decode cX0_defectsOfLast 32 = .ok (.if_icmp .ge 15, 3) := by decide +kernel
theorem dX0_defectsOfLast_42 : decode cX0_defectsOfLast 42 = .ok (.invokevirtual 61, 3) := by decide +kernel
theorem dX0_defectsOfLast_54 : decode cX0_defectsOfLast 54 = .ok (.ireturn, 1) := by decide +kernel
theorem sX0_trainOf_0 : JSeg (jm jdX0_trainOf) [(0, .aload_n 0, 0, 0), (1, .iload_n 1, 0, 0)] := ⟨by decide +kernel, trivial, trivial, trivial⟩
theorem sX0_trainOf_5 : JSeg (jm jdX0_trainOf) [(5, .istore_n 2, 0, 0), (6, .iconst 0, 0, 0), (7, .istore_n 3, 0, 0), (8, .iload_n 2, 0, 0), (9, .iconst 1, 0, 0), (10, .isub, 0, 0), (11, .istore 4, 0, 0)] := ⟨by decide +kernel, trivial, trivial, trivial, trivial, trivial, trivial, trivial, trivial⟩
theorem sX0_trainOf_13 : JSeg (jm jdX0_trainOf) [(13, .iload 4, 0, 0)] := ⟨by decide +kernel, trivial, trivial⟩
theorem sX0_trainOf_18 : JSeg (jm jdX0_trainOf) [(18, .aload_n 0, 0, 0), (19, .getfield 44, 0, 11), (22, .iload 4, 0, 0)] := ⟨by decide +kernel, trivial, fkX0_44, trivial, trivial⟩
theorem sX0_trainOf_27 : JSeg (jm jdX0_trainOf) [(27, .aload_n 0, 0, 0), (28, .getfield 44, 0, 11), (31, .iload_n 2, 0, 0), (32, .iconst 1, 0, 0), (33, .isub, 0, 0)] := ⟨by decide +kernel, trivial, fkX0_44, trivial, trivial, trivial, trivial⟩
theorem sX0_trainOf_40 : JSeg (jm jdX0_trainOf) [(40, .iinc 3 1, 0, 0), (43, .iinc 4 (-1), 0, 0), (46, .goto (-33), 0, 0)] := ⟨by decide +kernel, trivial, trivial, trivial, trivial⟩
theorem sX0_trainOf_49 : JSeg (jm jdX0_trainOf) [(49, .iload_n 3, 0, 0)] := ⟨by decide +kernel, trivial, trivial⟩
theorem dX0_trainOf_2 : decode cX0_trainOf 2 = .ok (.invokevirtual 96, 3) := by decide +kernel
theorem dX0_trainOf_15 : decode cX0_trainOf 15 = .ok (.ifCond .lt 34, 3) := by decide +kernel
theorem dX0_trainOf_24 : decode cX0_trainOf 24 = .ok (.invokevirtual 61, 3) := by decide +kernel
theorem dX0_trainOf_34 : decode cX0_trainOf 34 = .ok (.invokevirtual 61, 3) := by decide +kernel
theorem dX0_trainOf_37 : decode cX0_trainOf 37 = .ok (.if_icmp .ne 12, 3) := by decide +kernel
theorem dX0_trainOf_50 : decode cX0_trainOf 50 = .ok (.ireturn, 1) := by decide +kernel
theorem sX0_listDestinations_0 : JSeg (jm jdX0_listDestinations) [(0, .iconst 0, 0, 0), (1, .istore_n 2, 0, 0)] := ⟨by decide +kernel, trivial, trivial, trivial⟩
theorem sX0_listDestinations_2 : JSeg (jm jdX0_listDestinations) [(2, .iload_n 2, 0, 0), (3, .bipush 20, 0, 0)] := ⟨by decide +kernel, trivial, trivial, trivial⟩
theorem sX0_listDestinations_8 : JSeg (jm jdX0_listDestinations) [(8, .aload_n 0, 0, 0), (9, .getfield 26, 0, 5), (12, .iload_n 2, 0, 0)] := ⟨by decide +kernel, trivial, fkX0_26, trivial, trivial⟩
theorem sX0_listDestinations_16 : JSeg (jm jdX0_listDestinations) [(16, .iload_n 1, 0, 0)] := ⟨by decide +kernel, trivial, trivial⟩
theorem sX0_listDestinations_20 : JSeg (jm jdX0_listDestinations) [(20, .aload_n 0, 0, 0), (21, .getfield 44, 0, 11), (24, .aload_n 0, 0, 0), (25, .getfield 29, 0, 6), (28, .iload_n 2, 0, 0)] := ⟨by decide +kernel, trivial, fkX0_44, trivial, fkX0_29, trivial, trivial⟩
theorem sX0_listDestinations_32 : JSeg (jm jdX0_listDestinations) [(32, .aload_n 0, 0, 0), (33, .getfield 20, 0, 3), (36, .iload_n 2, 0, 0)] := ⟨by decide +kernel, trivial, fkX0_20, trivial, trivial⟩
theorem sX0_listDestinations_43 : JSeg (jm jdX0_listDestinations) [(43, .iinc 2 1, 0, 0), (46, .goto (-44), 0, 0)] := ⟨by decide +kernel, trivial, trivial, trivial⟩
theorem sX0_listDestinations_49 : JSeg (jm jdX0_listDestinations) [(49, .aload_n 0, 0, 0), (50, .getfield 38, 0, 9), (53, .iload_n 1, 0, 0)] := ⟨by decide +kernel, trivial, fkX0_38, trivial, trivial⟩
theorem dX0_listDestinations_5 : decode cX0_listDestinations 5 = .ok (.if_icmp .ge 44, 3) := by decide +kernel
theorem dX0_listDestinations_13 : decode cX0_listDestinations 13 = .ok (.invokevirtual 61, 3) := by decide +kernel
theorem dX0_listDestinations_17 : decode cX0_listDestinations 17 = .ok (.if_icmp .ne 26, 3) := by decide +kernel
theorem dX0_listDestinations_29 : decode cX0_listDestinations 29 = .ok (.invokevirtual 61, 3) := by decide +kernel
theorem dX0_listDestinations_37 : decode cX0_listDestinations 37 = .ok (.invokevirtual 61, 3) := by decide +kernel
theorem dX0_listDestinations_40 : decode cX0_listDestinations 40 = .ok (.invokevirtual 73, 3) := by decide +kernel
theorem dX0_listDestinations_54 : decode cX0_listDestinations 54 = .ok (.invokevirtual 61, 3) := by decide +kernel
theorem dX0_listDestinations_57 : decode cX0_listDestinations 57 = .ok (.ireturn, 1) := by decide +kernel
theorem sX0_neverIncrease_0 : JSeg (jm jdX0_neverIncrease) [(0, .aload_n 0, 0, 0), (1, .iload_n 1, 0, 0)] := ⟨by decide +kernel, trivial, trivial, trivial⟩
theorem sX0_neverIncrease_5 : JSeg (jm jdX0_neverIncrease) [(5, .istore_n 2, 0, 0), (6, .iconst 1, 0, 0), (7, .istore_n 3, 0, 0)] := ⟨by decide +kernel, trivial, trivial, trivial, trivial⟩
theorem sX0_neverIncrease_8 : JSeg (jm jdX0_neverIncrease) [(8, .iload_n 3, 0, 0), (9, .iload_n 2, 0, 0)] := ⟨by decide +kernel, trivial, trivial, trivial⟩
theorem sX0_neverIncrease_13 : JSeg (jm jdX0_neverIncrease) [(13, .aload_n 0, 0, 0), (14, .getfield 44, 0, 11), (17, .iload_n 3, 0, 0)] := ⟨by decide +kernel, trivial, fkX0_44, trivial, trivial⟩
theorem sX0_neverIncrease_21 : JSeg (jm jdX0_neverIncrease) [(21, .aload_n 0, 0, 0), (22, .getfield 44, 0, 11), (25, .iload_n 3, 0, 0), (26, .iconst 1, 0, 0), (27, .isub, 0, 0)] := ⟨by decide +kernel, trivial, fkX0_44, trivial, trivial, trivial, trivial⟩
theorem sX0_neverIncrease_34 : JSeg (jm jdX0_neverIncrease) [(34, .iconst 0, 0, 0)] := ⟨by decide +kernel, trivial, trivial⟩
theorem sX0_neverIncrease_36 : JSeg (jm jdX0_neverIncrease) [(36, .iinc 3 1, 0, 0), (39, .goto (-31), 0, 0)] := ⟨by decide +kernel, trivial, trivial, trivial⟩
theorem sX0_neverIncrease_42 : JSeg (jm jdX0_neverIncrease) [(42, .iconst 1, 0, 0)] := ⟨by decide +kernel, trivial, trivial⟩
theorem dX0_neverIncrease_2 : decode cX0_neverIncrease 2 = .ok (.invokevirtual 96, 3) := by decide +kernel
theorem dX0_neverIncrease_10 : decode cX0_neverIncrease 10 = .ok (.if_icmp .ge 32, 3) := by decide +kernel
theorem dX0_neverIncrease_18 : decode cX0_neverIncrease 18 = .ok (.invokevirtual 61, 3) := by decide +kernel
theorem dX0_neverIncrease_28 : decode cX0_neverIncrease 28 = .ok (.invokevirtual 61, 3) := by decide +kernel
theorem dX0_neverIncrease_31 : decode cX0_neverIncrease 31 = .ok (.if_icmp .le 5, 3) := by decide +kernel
theorem dX0_neverIncrease_35 : decode cX0_neverIncrease 35 = .ok (.ireturn, 1) := by decide +kernel
theorem dX0_neverIncrease_43 : decode cX0_neverIncrease 43 = .ok (.ireturn, 1) := by decide +kernel
theorem sX0_pairsOutOfOrder_0 : JSeg (jm jdX0_pairsOutOfOrder) [(0, .aload_n 0, 0, 0), (1, .iload_n 1, 0, 0)] := ⟨by decide +kernel, trivial, trivial, trivial⟩
theorem sX0_pairsOutOfOrder_5 : JSeg (jm jdX0_pairsOutOfOrder) [(5, .istore_n 2, 0, 0), (6, .iconst 0, 0, 0), (7, .istore_n 3, 0, 0), (8, .iconst 0, 0, 0), (9, .istore 4, 0, 0)] := ⟨by decide +kernel, trivial, trivial, trivial, trivial, trivial, trivial⟩
theorem sX0_pairsOutOfOrder_11 : JSeg (jm jdX0_pairsOutOfOrder) [(11, .iload 4, 0, 0), (13, .iload_n 2, 0, 0)] := ⟨by decide +kernel, trivial, trivial, trivial⟩
theorem sX0_pairsOutOfOrder_17 : JSeg (jm jdX0_pairsOutOfOrder) [(17, .iload 4, 0, 0), (19, .iconst 1, 0, 0), (20, .iadd, 0, 0), (21, .istore 5, 0, 0)] := ⟨by decide +kernel, trivial, trivial, trivial, trivial, trivial⟩
theorem sX0_pairsOutOfOrder_23 : JSeg (jm jdX0_pairsOutOfOrder) [(23, .iload 5, 0, 0), (25, .iload_n 2, 0, 0)] := ⟨by decide +kernel, trivial, trivial, trivial⟩
theorem sX0_pairsOutOfOrder_29 : JSeg (jm jdX0_pairsOutOfOrder) [(29, .aload_n 0, 0, 0), (30, .getfield 44, 0, 11), (33, .iload 5, 0, 0)] := ⟨by decide +kernel, trivial, fkX0_44, trivial, trivial⟩
theorem sX0_pairsOutOfOrder_38 : JSeg (jm jdX0_pairsOutOfOrder) [(38, .aload_n 0, 0, 0), (39, .getfield 44, 0, 11), (42, .iload 4, 0, 0)] := ⟨by decide +kernel, trivial, fkX0_44, trivial, trivial⟩
theorem sX0_pairsOutOfOrder_50 : JSeg (jm jdX0_pairsOutOfOrder) [(50, .iinc 3 1, 0, 0)] := ⟨by decide +kernel, trivial, trivial⟩
theorem sX0_pairsOutOfOrder_53 : JSeg (jm jdX0_pairsOutOfOrder) [(53, .iinc 5 1, 0, 0), (56, .goto (-33), 0, 0)] := ⟨by decide +kernel, trivial, trivial, trivial⟩
theorem sX0_pairsOutOfOrder_59 : JSeg (jm jdX0_pairsOutOfOrder) [(59, .iinc 4 1, 0, 0), (62, .goto (-51), 0, 0)] := ⟨by decide +kernel, trivial, trivial, trivial⟩
theorem sX0_pairsOutOfOrder_65 : JSeg (jm jdX0_pairsOutOfOrder) [(65, .iload_n 3, 0, 0)] := ⟨by decide +kernel, trivial, trivial⟩
theorem dX0_pairsOutOfOrder_2 : decode cX0_pairsOutOfOrder 2 = .ok (.invokevirtual 96, 3) := by decide +kernel
theorem dX0_pairsOutOfOrder_14 : decode cX0_pairsOutOfOrder 14 = .ok (.if_icmp .ge 51, 3) := by decide +kernel
theorem dX0_pairsOutOfOrder_26 : decode cX0_pairsOutOfOrder 26 = .ok (.if_icmp .ge 33, 3) := by decide +kernel
theorem dX0_pairsOutOfOrder_35 : decode cX0_pairsOutOfOrder 35 = .ok (.invokevirtual 61, 3) := by decide +kernel
theorem dX0_pairsOutOfOrder_44 : decode cX0_pairsOutOfOrder 44 = .ok (.invokevirtual 61, 3) := by decide +kernel
theorem dX0_pairsOutOfOrder_47 : decode cX0_pairsOutOfOrder 47 = .ok (.if_icmp .le 6, 3) := by decide +kernel
theorem dX0_pairsOutOfOrder_66 : decode cX0_pairsOutOfOrder 66 = .ok (.ireturn, 1) := by decide +kernel
theorem sX0_shiftsOfInsertion_0 : JSeg (jm jdX0_shiftsOfInsertion) [(0, .aload_n 0, 0, 0), (1, .iload_n 1, 0, 0)] := ⟨by decide +kernel, trivial, trivial, trivial⟩
theorem sX0_shiftsOfInsertion_5 : JSeg (jm jdX0_shiftsOfInsertion) [(5, .istore_n 2, 0, 0), (6, .iconst 0, 0, 0), (7, .istore_n 3, 0, 0), (8, .iconst 1, 0, 0), (9, .istore 4, 0, 0)] := ⟨by decide +kernel, trivial, trivial, trivial, trivial, trivial, trivial⟩
theorem sX0_shiftsOfInsertion_11 : JSeg (jm jdX0_shiftsOfInsertion) [(11, .iload 4, 0, 0), (13, .iload_n 2, 0, 0)] := ⟨by decide +kernel, trivial, trivial, trivial⟩
theorem sX0_shiftsOfInsertion_17 : JSeg (jm jdX0_shiftsOfInsertion) [(17, .aload_n 0, 0, 0), (18, .getfield 44, 0, 11), (21, .iload 4, 0, 0)] := ⟨by decide +kernel, trivial, fkX0_44, trivial, trivial⟩
theorem sX0_shiftsOfInsertion_26 : JSeg (jm jdX0_shiftsOfInsertion) [(26, .istore 5, 0, 0), (28, .iload 4, 0, 0), (30, .istore 6, 0, 0)] := ⟨by decide +kernel, trivial, trivial, trivial, trivial⟩
theorem sX0_shiftsOfInsertion_32 : JSeg (jm jdX0_shiftsOfInsertion) [(32, .iload 6, 0, 0)] := ⟨by decide +kernel, trivial, trivial⟩
theorem sX0_shiftsOfInsertion_37 : JSeg (jm jdX0_shiftsOfInsertion) [(37, .aload_n 0, 0, 0), (38, .getfield 44, 0, 11), (41, .iload 6, 0, 0), (43, .iconst 1, 0, 0), (44, .isub, 0, 0)] := ⟨by decide +kernel, trivial, fkX0_44, trivial, trivial, trivial, trivial⟩
theorem sX0_shiftsOfInsertion_48 : JSeg (jm jdX0_shiftsOfInsertion) [(48, .iload 5, 0, 0)] := ⟨by decide +kernel, trivial, trivial⟩
theorem sX0_shiftsOfInsertion_53 : JSeg (jm jdX0_shiftsOfInsertion) [(53, .aload_n 0, 0, 0), (54, .getfield 44, 0, 11), (57, .iload 6, 0, 0), (59, .aload_n 0, 0, 0), (60, .getfield 44, 0, 11), (63, .iload 6, 0, 0), (65, .iconst 1, 0, 0), (66, .isub, 0, 0)] := ⟨by decide +kernel, trivial, fkX0_44, trivial, trivial, fkX0_44, trivial, trivial, trivial, trivial⟩
theorem sX0_shiftsOfInsertion_73 : JSeg (jm jdX0_shiftsOfInsertion) [(73, .iinc 6 (-1), 0, 0), (76, .iinc 3 1, 0, 0), (79, .goto (-47), 0, 0)] := ⟨by decide +kernel, trivial, trivial, trivial, trivial⟩
theorem sX0_shiftsOfInsertion_82 : JSeg (jm jdX0_shiftsOfInsertion) [(82, .aload_n 0, 0, 0), (83, .getfield 44, 0, 11), (86, .iload 6, 0, 0), (88, .iload 5, 0, 0)] := ⟨by decide +kernel, trivial, fkX0_44, trivial, trivial, trivial⟩
theorem sX0_shiftsOfInsertion_93 : JSeg (jm jdX0_shiftsOfInsertion) [(93, .iinc 4 1, 0, 0), (96, .goto (-85), 0, 0)] := ⟨by decide +kernel, trivial, trivial, trivial⟩
theorem sX0_shiftsOfInsertion_99 : JSeg (jm jdX0_shiftsOfInsertion) [(99, .iload_n 3, 0, 0)] := ⟨by decide +kernel, trivial, trivial⟩
theorem dX0_shiftsOfInsertion_2 : decode cX0_shiftsOfInsertion 2 = .ok (.invokevirtual 96, 3) := by decide +kernel
theorem dX0_shiftsOfInsertion_14 : decode cX0_shiftsOfInsertion 14 = .ok (.if_icmp .ge 85, 3) := by decide +kernel
theorem dX0_shiftsOfInsertion_23 : decode cX0_shiftsOfInsertion 23 = .ok (.invokevirtual 61, 3) := by decide +kernel
theorem dX0_shiftsOfInsertion_34 : decode cX0_shiftsOfInsertion 34 = .ok (.ifCond .le 48, 3) := by decide +kernel
theorem dX0_shiftsOfInsertion_45 : decode cX0_shiftsOfInsertion 45 = .ok (.invokevirtual 61, 3) := by decide +kernel
theorem dX0_shiftsOfInsertion_50 : decode cX0_shiftsOfInsertion 50 = .ok (.if_icmp .ge 32, 3) := by decide +kernel
theorem dX0_shiftsOfInsertion_67 : decode cX0_shiftsOfInsertion 67 = .ok (.invokevirtual 61, 3) := by decide +kernel
theorem dX0_shiftsOfInsertion_70 : decode cX0_shiftsOfInsertion 70 = .ok (.invokevirtual 73, 3) := by decide +kernel
theorem dX0_shiftsOfInsertion_90 : decode cX0_shiftsOfInsertion 90 = .ok (.invokevirtual 73, 3) := by decide +kernel
theorem dX0_shiftsOfInsertion_100 : decode cX0_shiftsOfInsertion 100 = .ok (.ireturn, 1) := by decide +kernel
theorem sX0_bound_0 : JSeg (jm jdX0_bound) [(0, .iconst 0, 0, 0), (1, .istore_n 2, 0, 0), (2, .iconst 0, 0, 0), (3, .istore_n 3, 0, 0)] := ⟨by decide +kernel, trivial, trivial, trivial, trivial, trivial⟩
theorem sX0_bound_4 : JSeg (jm jdX0_bound) [(4, .iload_n 3, 0, 0), (5, .bipush 20, 0, 0)] := ⟨by decide +kernel, trivial, trivial, trivial⟩
theorem sX0_bound_10 : JSeg (jm jdX0_bound) [(10, .aload_n 0, 0, 0), (11, .iload_n 3, 0, 0)] := ⟨by decide +kernel, trivial, trivial, trivial⟩
theorem sX0_bound_18 : JSeg (jm jdX0_bound) [(18, .aload_n 0, 0, 0), (19, .getfield 20, 0, 3), (22, .iload_n 3, 0, 0)] := ⟨by decide +kernel, trivial, fkX0_20, trivial, trivial⟩
theorem sX0_bound_26 : JSeg (jm jdX0_bound) [(26, .iload_n 1, 0, 0)] := ⟨by decide +kernel, trivial, trivial⟩
theorem sX0_bound_30 : JSeg (jm jdX0_bound) [(30, .iinc 2 1, 0, 0)] := ⟨by decide +kernel, trivial, trivial⟩
theorem sX0_bound_33 : JSeg (jm jdX0_bound) [(33, .iinc 3 1, 0, 0), (36, .goto (-32), 0, 0)] := ⟨by decide +kernel, trivial, trivial, trivial⟩
theorem sX0_bound_39 : JSeg (jm jdX0_bound) [(39, .iload_n 2, 0, 0)] := ⟨by decide +kernel, trivial, trivial⟩
theorem dX0_bound_7 : decode cX0_bound 7 = .ok (.if_icmp .ge 32, 3) := by decide +kernel
theorem dX0_bound_12 : decode cX0_bound 12 = .ok (.invokevirtual 65, 3) := by decide +kernel
theorem dX0_bound_15 : decode cX0_bound 15 = .ok (.ifCond .eq 18, 3) := by decide +kernel
theorem dX0_bound_23 : decode cX0_bound 23 = .ok (.invokevirtual 61, 3) := by decide +kernel
theorem dX0_bound_27 : decode cX0_bound 27 = .ok (.if_icmp .ne 6, 3) := by decide +kernel
theorem dX0_bound_40 : decode cX0_bound 40 = .ok (.ireturn, 1) := by decide +kernel
theorem sX0_rankedSlot_0 : JSeg (jm jdX0_rankedSlot) [(0, .iconst 0, 0, 0), (1, .istore_n 2, 0, 0)] := ⟨by decide +kernel, trivial, trivial, trivial⟩
theorem sX0_rankedSlot_2 : JSeg (jm jdX0_rankedSlot) [(2, .iload_n 2, 0, 0), (3, .bipush 20, 0, 0)] := ⟨by decide +kernel, trivial, trivial, trivial⟩
theorem sX0_rankedSlot_8 : JSeg (jm jdX0_rankedSlot) [(8, .aload_n 0, 0, 0), (9, .iload_n 2, 0, 0)] := ⟨by decide +kernel, trivial, trivial, trivial⟩
theorem sX0_rankedSlot_16 : JSeg (jm jdX0_rankedSlot) [(16, .aload_n 0, 0, 0), (17, .iload_n 2, 0, 0)] := ⟨by decide +kernel, trivial, trivial, trivial⟩
theorem sX0_rankedSlot_21 : JSeg (jm jdX0_rankedSlot) [(21, .iload_n 1, 0, 0)] := ⟨by decide +kernel, trivial, trivial⟩
theorem sX0_rankedSlot_25 : JSeg (jm jdX0_rankedSlot) [(25, .iload_n 2, 0, 0)] := ⟨by decide +kernel, trivial, trivial⟩
theorem sX0_rankedSlot_27 : JSeg (jm jdX0_rankedSlot) [(27, .iinc 2 1, 0, 0), (30, .goto (-28), 0, 0)] := ⟨by decide +kernel, trivial, trivial, trivial⟩
theorem sX0_rankedSlot_33 : JSeg (jm jdX0_rankedSlot) [(33, .iconst (-1), 0, 0)] := ⟨by decide +kernel, trivial, trivial⟩
theorem dX0_rankedSlot_5 : decode cX0_rankedSlot 5 = .ok (.if_icmp .ge 28, 3) := by decide +kernel
theorem dX0_rankedSlot_10 : decode cX0_rankedSlot 10 = .ok (.invokevirtual 65, 3) := by decide +kernel
theorem dX0_rankedSlot_13 : decode cX0_rankedSlot 13 = .ok (.ifCond .eq 14, 3) := by decide +kernel
theorem dX0_rankedSlot_18 : decode cX0_rankedSlot 18 = .ok (.invokevirtual 99, 3) := by decide +kernel
theorem dX0_rankedSlot_22 : decode cX0_rankedSlot 22 = .ok (.if_icmp .ne 5, 3) := by decide +kernel
theorem dX0_rankedSlot_26 : decode cX0_rankedSlot 26 = .ok (.ireturn, 1) := by decide +kernel
theorem dX0_rankedSlot_34 : decode cX0_rankedSlot 34 = .ok (.ireturn, 1) := by decide +kernel
theorem sX0_rankOf_0 : JSeg (jm jdX0_rankOf) [(0, .iconst 0, 0, 0), (1, .istore_n 2, 0, 0), (2, .iconst 0, 0, 0), (3, .istore_n 3, 0, 0)] := ⟨by decide +kernel, trivial, trivial, trivial, trivial, trivial⟩
theorem sX0_rankOf_4 : JSeg (jm jdX0_rankOf) [(4, .iload_n 3, 0, 0), (5, .bipush 20, 0, 0)] := ⟨by decide +kernel, trivial, trivial, trivial⟩
theorem sX0_rankOf_10 : JSeg (jm jdX0_rankOf) [(10, .aload_n 0, 0, 0), (11, .iload_n 3, 0, 0)] := ⟨by decide +kernel, trivial, trivial, trivial⟩
theorem sX0_rankOf_18 : JSeg (jm jdX0_rankOf) [(18, .aload_n 0, 0, 0), (19, .iload_n 3, 0, 0), (20, .iload_n 1, 0, 0)] := ⟨by decide +kernel, trivial, trivial, trivial, trivial⟩
theorem sX0_rankOf_27 : JSeg (jm jdX0_rankOf) [(27, .iinc 2 1, 0, 0)] := ⟨by decide +kernel, trivial, trivial⟩
theorem sX0_rankOf_30 : JSeg (jm jdX0_rankOf) [(30, .iinc 3 1, 0, 0), (33, .goto (-29), 0, 0)] := ⟨by decide +kernel, trivial, trivial, trivial⟩
theorem sX0_rankOf_36 : JSeg (jm jdX0_rankOf) [(36, .iload_n 2, 0, 0)] := ⟨by decide +kernel, trivial, trivial⟩
theorem dX0_rankOf_7 : decode cX0_rankOf 7 = .ok (.if_icmp .ge 29, 3) := by decide +kernel
theorem dX0_rankOf_12 : decode cX0_rankOf 12 = .ok (.invokevirtual 65, 3) := by decide +kernel
theorem dX0_rankOf_15 : decode cX0_rankOf 15 = .ok (.ifCond .eq 15, 3) := by decide +kernel
theorem dX0_rankOf_21 : decode cX0_rankOf 21 = .ok (.invokevirtual 102, 3) := by decide +kernel
theorem dX0_rankOf_24 : decode cX0_rankOf 24 = .ok (.ifCond .eq 6, 3) := by decide +kernel
theorem dX0_rankOf_37 : decode cX0_rankOf 37 = .ok (.ireturn, 1) := by decide +kernel
theorem sX0_ranksBefore_0 : JSeg (jm jdX0_ranksBefore) [(0, .aload_n 0, 0, 0), (1, .getfield 20, 0, 3), (4, .iload_n 1, 0, 0)] := ⟨by decide +kernel, trivial, fkX0_20, trivial, trivial⟩
theorem sX0_ranksBefore_8 : JSeg (jm jdX0_ranksBefore) [(8, .aload_n 0, 0, 0), (9, .getfield 20, 0, 3), (12, .iload_n 2, 0, 0)] := ⟨by decide +kernel, trivial, fkX0_20, trivial, trivial⟩
theorem sX0_ranksBefore_19 : JSeg (jm jdX0_ranksBefore) [(19, .aload_n 0, 0, 0), (20, .getfield 20, 0, 3), (23, .iload_n 1, 0, 0)] := ⟨by decide +kernel, trivial, fkX0_20, trivial, trivial⟩
theorem sX0_ranksBefore_27 : JSeg (jm jdX0_ranksBefore) [(27, .aload_n 0, 0, 0), (28, .getfield 20, 0, 3), (31, .iload_n 2, 0, 0)] := ⟨by decide +kernel, trivial, fkX0_20, trivial, trivial⟩
theorem sX0_ranksBefore_38 : JSeg (jm jdX0_ranksBefore) [(38, .iconst 1, 0, 0), (39, .goto 4, 0, 0)] := ⟨by decide +kernel, trivial, trivial, trivial⟩
theorem sX0_ranksBefore_42 : JSeg (jm jdX0_ranksBefore) [(42, .iconst 0, 0, 0)] := ⟨by decide +kernel, trivial, trivial⟩
theorem sX0_ranksBefore_44 : JSeg (jm jdX0_ranksBefore) [(44, .aload_n 0, 0, 0), (45, .getfield 35, 0, 8), (48, .iload_n 1, 0, 0)] := ⟨by decide +kernel, trivial, fkX0_35, trivial, trivial⟩
theorem sX0_ranksBefore_52 : JSeg (jm jdX0_ranksBefore) [(52, .aload_n 0, 0, 0), (53, .getfield 35, 0, 8), (56, .iload_n 2, 0, 0)] := ⟨by decide +kernel, trivial, fkX0_35, trivial, trivial⟩
theorem sX0_ranksBefore_63 : JSeg (jm jdX0_ranksBefore) [(63, .aload_n 0, 0, 0), (64, .getfield 35, 0, 8), (67, .iload_n 1, 0, 0)] := ⟨by decide +kernel, trivial, fkX0_35, trivial, trivial⟩
theorem sX0_ranksBefore_71 : JSeg (jm jdX0_ranksBefore) [(71, .aload_n 0, 0, 0), (72, .getfield 35, 0, 8), (75, .iload_n 2, 0, 0)] := ⟨by decide +kernel, trivial, fkX0_35, trivial, trivial⟩
theorem sX0_ranksBefore_82 : JSeg (jm jdX0_ranksBefore) [(82, .iconst 1, 0, 0), (83, .goto 4, 0, 0)] := ⟨by decide +kernel, trivial, trivial, trivial⟩
theorem sX0_ranksBefore_86 : JSeg (jm jdX0_ranksBefore) [(86, .iconst 0, 0, 0)] := ⟨by decide +kernel, trivial, trivial⟩
theorem sX0_ranksBefore_88 : JSeg (jm jdX0_ranksBefore) [(88, .aload_n 0, 0, 0), (89, .getfield 14, 0, 2), (92, .iload_n 1, 0, 0)] := ⟨by decide +kernel, trivial, fkX0_14, trivial, trivial⟩
theorem sX0_ranksBefore_96 : JSeg (jm jdX0_ranksBefore) [(96, .aload_n 0, 0, 0), (97, .getfield 14, 0, 2), (100, .iload_n 2, 0, 0)] := ⟨by decide +kernel, trivial, fkX0_14, trivial, trivial⟩
theorem sX0_ranksBefore_107 : JSeg (jm jdX0_ranksBefore) [(107, .iconst 1, 0, 0), (108, .goto 4, 0, 0)] := ⟨by decide +kernel, trivial, trivial, trivial⟩
theorem sX0_ranksBefore_111 : JSeg (jm jdX0_ranksBefore) [(111, .iconst 0, 0, 0)] := ⟨by decide +kernel, trivial, trivial⟩
theorem dX0_ranksBefore_5 : decode cX0_ranksBefore 5 = .ok (.invokevirtual 61, 3) := by decide +kernel
theorem dX0_ranksBefore_13 : decode cX0_ranksBefore 13 = .ok (.invokevirtual 61, 3) := by decide +kernel
theorem dX0_ranksBefore_16 : decode cX0_ranksBefore 16 = .ok (.if_icmp .eq 28, 3) := by decide +kernel
theorem dX0_ranksBefore_24 : decode cX0_ranksBefore 24 = .ok (.invokevirtual 61, 3) := by decide +kernel
theorem dX0_ranksBefore_32 : decode cX0_ranksBefore 32 = .ok (.invokevirtual 61, 3) := by decide +kernel
theorem dX0_ranksBefore_35 : decode cX0_ranksBefore 35 = .ok (.if_icmp .ge 7, 3) := by decide +kernel
theorem dX0_ranksBefore_43 : decode cX0_ranksBefore 43 = .ok (.ireturn, 1) := by decide +kernel
theorem dX0_ranksBefore_49 : decode cX0_ranksBefore 49 = .ok (.invokevirtual 61, 3) := by decide +kernel
theorem dX0_ranksBefore_57 : decode cX0_ranksBefore 57 = .ok (.invokevirtual 61, 3) := by decide +kernel
theorem dX0_ranksBefore_60 : decode cX0_ranksBefore 60 = .ok (.if_icmp .eq 28, 3) := by decide +kernel
theorem dX0_ranksBefore_68 : decode cX0_ranksBefore 68 = .ok (.invokevirtual 61, 3) := by decide +kernel
theorem dX0_ranksBefore_76 : decode cX0_ranksBefore 76 = .ok (.invokevirtual 61, 3) := by decide +kernel
theorem dX0_ranksBefore_79 : decode cX0_ranksBefore 79 = .ok (.if_icmp .le 7, 3) := by decide +kernel
theorem dX0_ranksBefore_87 : decode cX0_ranksBefore 87 = .ok (.ireturn, 1) := by decide +kernel
theorem dX0_ranksBefore_93 : decode cX0_ranksBefore 93 = .ok (.invokevirtual 61, 3) := by decide +kernel
theorem dX0_ranksBefore_101 : decode cX0_ranksBefore 101 = .ok (.invokevirtual 61, 3) := by decide +kernel
theorem dX0_ranksBefore_104 : decode cX0_ranksBefore 104 = .ok (.if_icmp .ge 7, 3) := by decide +kernel
theorem dX0_ranksBefore_112 : decode cX0_ranksBefore 112 = .ok (.ireturn, 1) := by decide +kernel
