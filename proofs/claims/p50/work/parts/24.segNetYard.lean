theorem sX2_init_0 : JSeg (jm jdX2_init) [(0, .aload_n 0, 0, 0)] := ⟨by decide +kernel, trivial, trivial⟩
theorem sX2_init_4 : JSeg (jm jdX2_init) [(4, .aload_n 0, 0, 0)] := ⟨by decide +kernel, trivial, trivial⟩
theorem sX2_init_8 : JSeg (jm jdX2_init) [(8, .dup, 0, 0), (9, .bipush 64, 0, 0)] := ⟨by decide +kernel, trivial, trivial, trivial⟩
theorem sX2_init_17 : JSeg (jm jdX2_init) [(17, .aload_n 0, 0, 0)] := ⟨by decide +kernel, trivial, trivial⟩
theorem sX2_init_21 : JSeg (jm jdX2_init) [(21, .dup, 0, 0), (22, .bipush 8, 0, 0)] := ⟨by decide +kernel, trivial, trivial, trivial⟩
theorem sX2_init_30 : JSeg (jm jdX2_init) [(30, .aload_n 0, 0, 0)] := ⟨by decide +kernel, trivial, trivial⟩
theorem sX2_init_34 : JSeg (jm jdX2_init) [(34, .dup, 0, 0), (35, .bipush 8, 0, 0)] := ⟨by decide +kernel, trivial, trivial, trivial⟩
theorem sX2_init_43 : JSeg (jm jdX2_init) [(43, .aload_n 0, 0, 0)] := ⟨by decide +kernel, trivial, trivial⟩
theorem sX2_init_47 : JSeg (jm jdX2_init) [(47, .dup, 0, 0), (48, .bipush 64, 0, 0)] := ⟨by decide +kernel, trivial, trivial, trivial⟩
theorem dX2_init_1 : decode cX2_init 1 = .ok (.invokespecial 3, 3) := by decide +kernel
theorem dX2_init_5 : decode cX2_init 5 = .ok (.new 9, 3) := by decide +kernel
theorem dX2_init_11 : decode cX2_init 11 = .ok (.invokespecial 11, 3) := by decide +kernel
theorem dX2_init_14 : decode cX2_init 14 = .ok (.putfield 14, 3) := by decide +kernel
theorem dX2_init_18 : decode cX2_init 18 = .ok (.new 9, 3) := by decide +kernel
theorem dX2_init_24 : decode cX2_init 24 = .ok (.invokespecial 11, 3) := by decide +kernel
theorem dX2_init_27 : decode cX2_init 27 = .ok (.putfield 20, 3) := by decide +kernel
theorem dX2_init_31 : decode cX2_init 31 = .ok (.new 9, 3) := by decide +kernel
theorem dX2_init_37 : decode cX2_init 37 = .ok (.invokespecial 11, 3) := by decide +kernel
theorem dX2_init_40 : decode cX2_init 40 = .ok (.putfield 23, 3) := by decide +kernel
theorem dX2_init_44 : decode cX2_init 44 = .ok (.new 9, 3) := by decide +kernel
theorem dX2_init_50 : decode cX2_init 50 = .ok (.invokespecial 11, 3) := by decide +kernel
theorem dX2_init_53 : decode cX2_init 53 = .ok (.putfield 26, 3) := by decide +kernel
theorem dX2_init_56 : decode cX2_init 56 = .ok (.return_, 1) := by decide +kernel
theorem fpX2_29 : FP0 RX2 29 2 0 := ⟨_, _, _, _, ci_X2, by decide, bw_of 64 (by decide +kernel) (by decide +kernel), rfl, rfl⟩
theorem fpX2_33 : FP0 RX2 33 2 1 := ⟨_, _, _, _, ci_X2, by decide, bw_of 67 (by decide +kernel) (by decide +kernel), rfl, rfl⟩
theorem sX2_copy_0 : JSeg (jm jdX2_copy) [(0, .aload_n 1, 0, 0)] := ⟨by decide +kernel, trivial, trivial⟩
theorem sX2_copy_4 : JSeg (jm jdX2_copy) [(4, .aload_n 0, 0, 0), (5, .aload_n 1, 0, 0), (6, .getfield 29, 2, 0), (9, .putfield 29, 2, 0), (12, .aload_n 0, 0, 0), (13, .aload_n 1, 0, 0), (14, .getfield 33, 2, 1), (17, .putfield 33, 2, 1), (20, .aload_n 0, 0, 0), (21, .getfield 14, 2, 2), (24, .aload_n 1, 0, 0), (25, .getfield 14, 2, 2)] := ⟨by decide +kernel, trivial, trivial, fkX2_29, fpX2_29, trivial, trivial, fkX2_33, fpX2_33, trivial, fkX2_14, trivial, fkX2_14, trivial⟩
theorem dX2_copy_1 : decode cX2_copy 1 = .ok (.ifnull 30, 3) := by decide +kernel
theorem dX2_copy_28 : decode cX2_copy 28 = .ok (.invokevirtual 36, 3) := by decide +kernel
theorem dX2_copy_31 : decode cX2_copy 31 = .ok (.return_, 1) := by decide +kernel
theorem sX2_cell_0 : JSeg (jm jdX2_cell) [(0, .iload_n 0, 0, 0), (1, .bipush 8, 0, 0), (3, .imul, 0, 0), (4, .iload_n 1, 0, 0), (5, .iadd, 0, 0)] := ⟨by decide +kernel, trivial, trivial, trivial, trivial, trivial, trivial⟩
theorem dX2_cell_6 : decode cX2_cell 6 = .ok (.ireturn, 1) := by decide +kernel
theorem sX2_areJoined_0 : JSeg (jm jdX2_areJoined) [(0, .aload_n 0, 0, 0), (1, .getfield 14, 2, 2), (4, .iload_n 1, 0, 0), (5, .iload_n 2, 0, 0)] := ⟨by decide +kernel, trivial, fkX2_14, trivial, trivial, trivial⟩
theorem sX2_areJoined_12 : JSeg (jm jdX2_areJoined) [(12, .iconst 1, 0, 0)] := ⟨by decide +kernel, trivial, trivial⟩
theorem sX2_areJoined_16 : JSeg (jm jdX2_areJoined) [(16, .iconst 1, 0, 0), (17, .goto 4, 0, 0)] := ⟨by decide +kernel, trivial, trivial, trivial⟩
theorem sX2_areJoined_20 : JSeg (jm jdX2_areJoined) [(20, .iconst 0, 0, 0)] := ⟨by decide +kernel, trivial, trivial⟩
theorem dX2_areJoined_6 : decode cX2_areJoined 6 = .ok (.invokestatic 40, 3) := by decide +kernel
theorem dX2_areJoined_9 : decode cX2_areJoined 9 = .ok (.invokevirtual 44, 3) := by decide +kernel
theorem dX2_areJoined_13 : decode cX2_areJoined 13 = .ok (.if_icmp .ne 7, 3) := by decide +kernel
theorem dX2_areJoined_21 : decode cX2_areJoined 21 = .ok (.ireturn, 1) := by decide +kernel
theorem sX2_join_0 : JSeg (jm jdX2_join) [(0, .aload_n 0, 0, 0), (1, .getfield 14, 2, 2), (4, .iload_n 1, 0, 0), (5, .iload_n 2, 0, 0)] := ⟨by decide +kernel, trivial, fkX2_14, trivial, trivial, trivial⟩
theorem sX2_join_9 : JSeg (jm jdX2_join) [(9, .iconst 1, 0, 0)] := ⟨by decide +kernel, trivial, trivial⟩
theorem sX2_join_13 : JSeg (jm jdX2_join) [(13, .aload_n 0, 0, 0), (14, .getfield 14, 2, 2), (17, .iload_n 2, 0, 0), (18, .iload_n 1, 0, 0)] := ⟨by decide +kernel, trivial, fkX2_14, trivial, trivial, trivial⟩
theorem sX2_join_22 : JSeg (jm jdX2_join) [(22, .iconst 1, 0, 0)] := ⟨by decide +kernel, trivial, trivial⟩
theorem sX2_join_26 : JSeg (jm jdX2_join) [(26, .aload_n 0, 0, 0), (27, .dup, 0, 0), (28, .getfield 33, 2, 1), (31, .iconst 1, 0, 0), (32, .iadd, 0, 0), (33, .putfield 33, 2, 1), (36, .aload_n 0, 0, 0), (37, .getfield 33, 2, 1)] := ⟨by decide +kernel, trivial, trivial, fkX2_33, trivial, trivial, fpX2_33, trivial, fkX2_33, trivial⟩
theorem dX2_join_6 : decode cX2_join 6 = .ok (.invokestatic 40, 3) := by decide +kernel
theorem dX2_join_10 : decode cX2_join 10 = .ok (.invokevirtual 48, 3) := by decide +kernel
theorem dX2_join_19 : decode cX2_join 19 = .ok (.invokestatic 40, 3) := by decide +kernel
theorem dX2_join_23 : decode cX2_join 23 = .ok (.invokevirtual 48, 3) := by decide +kernel
theorem dX2_join_40 : decode cX2_join 40 = .ok (.ireturn, 1) := by decide +kernel
theorem sX2_part_0 : JSeg (jm jdX2_part) [(0, .aload_n 0, 0, 0), (1, .getfield 14, 2, 2), (4, .iload_n 1, 0, 0), (5, .iload_n 2, 0, 0)] := ⟨by decide +kernel, trivial, fkX2_14, trivial, trivial, trivial⟩
theorem sX2_part_9 : JSeg (jm jdX2_part) [(9, .iconst 0, 0, 0)] := ⟨by decide +kernel, trivial, trivial⟩
theorem sX2_part_13 : JSeg (jm jdX2_part) [(13, .aload_n 0, 0, 0), (14, .getfield 14, 2, 2), (17, .iload_n 2, 0, 0), (18, .iload_n 1, 0, 0)] := ⟨by decide +kernel, trivial, fkX2_14, trivial, trivial, trivial⟩
theorem sX2_part_22 : JSeg (jm jdX2_part) [(22, .iconst 0, 0, 0)] := ⟨by decide +kernel, trivial, trivial⟩
theorem sX2_part_26 : JSeg (jm jdX2_part) [(26, .aload_n 0, 0, 0), (27, .dup, 0, 0), (28, .getfield 33, 2, 1), (31, .iconst 1, 0, 0), (32, .isub, 0, 0), (33, .putfield 33, 2, 1), (36, .aload_n 0, 0, 0), (37, .getfield 33, 2, 1)] := ⟨by decide +kernel, trivial, trivial, fkX2_33, trivial, trivial, fpX2_33, trivial, fkX2_33, trivial⟩
theorem dX2_part_6 : decode cX2_part 6 = .ok (.invokestatic 40, 3) := by decide +kernel
theorem dX2_part_10 : decode cX2_part 10 = .ok (.invokevirtual 48, 3) := by decide +kernel
theorem dX2_part_19 : decode cX2_part 19 = .ok (.invokestatic 40, 3) := by decide +kernel
theorem dX2_part_23 : decode cX2_part 23 = .ok (.invokevirtual 48, 3) := by decide +kernel
theorem dX2_part_40 : decode cX2_part 40 = .ok (.ireturn, 1) := by decide +kernel
theorem sX2_stepsBySearch_0 : JSeg (jm jdX2_stepsBySearch) [(0, .aload_n 0, 0, 0), (1, .iload_n 2, 0, 0)] := ⟨by decide +kernel, trivial, trivial, trivial⟩
theorem sX2_stepsBySearch_5 : JSeg (jm jdX2_stepsBySearch) [(5, .aload_n 0, 0, 0), (6, .getfield 20, 2, 3), (9, .iload_n 1, 0, 0)] := ⟨by decide +kernel, trivial, fkX2_20, trivial, trivial⟩
theorem dX2_stepsBySearch_2 : decode cX2_stepsBySearch 2 = .ok (.invokevirtual 52, 3) := by decide +kernel
theorem dX2_stepsBySearch_10 : decode cX2_stepsBySearch 10 = .ok (.invokevirtual 44, 3) := by decide +kernel
theorem dX2_stepsBySearch_13 : decode cX2_stepsBySearch 13 = .ok (.ireturn, 1) := by decide +kernel
theorem sX2_stepsByMatrix_0 : JSeg (jm jdX2_stepsByMatrix) [(0, .aload_n 0, 0, 0)] := ⟨by decide +kernel, trivial, trivial⟩
theorem sX2_stepsByMatrix_4 : JSeg (jm jdX2_stepsByMatrix) [(4, .aload_n 0, 0, 0), (5, .getfield 26, 2, 5), (8, .iload_n 1, 0, 0), (9, .iload_n 2, 0, 0)] := ⟨by decide +kernel, trivial, fkX2_26, trivial, trivial, trivial⟩
theorem dX2_stepsByMatrix_1 : decode cX2_stepsByMatrix 1 = .ok (.invokevirtual 55, 3) := by decide +kernel
theorem dX2_stepsByMatrix_10 : decode cX2_stepsByMatrix 10 = .ok (.invokestatic 40, 3) := by decide +kernel
theorem dX2_stepsByMatrix_13 : decode cX2_stepsByMatrix 13 = .ok (.invokevirtual 44, 3) := by decide +kernel
theorem dX2_stepsByMatrix_16 : decode cX2_stepsByMatrix 16 = .ok (.ireturn, 1) := by decide +kernel
theorem sX2_trackOnRoute_0 : JSeg (jm jdX2_trackOnRoute) [(0, .aload_n 0, 0, 0), (1, .iload_n 2, 0, 0)] := ⟨by decide +kernel, trivial, trivial, trivial⟩
theorem sX2_trackOnRoute_5 : JSeg (jm jdX2_trackOnRoute) [(5, .iload_n 1, 0, 0), (6, .istore 4, 0, 0), (8, .iconst 0, 0, 0), (9, .istore 5, 0, 0)] := ⟨by decide +kernel, trivial, trivial, trivial, trivial, trivial⟩
theorem sX2_trackOnRoute_11 : JSeg (jm jdX2_trackOnRoute) [(11, .iload 5, 0, 0), (13, .iload_n 3, 0, 0)] := ⟨by decide +kernel, trivial, trivial, trivial⟩
theorem sX2_trackOnRoute_17 : JSeg (jm jdX2_trackOnRoute) [(17, .aload_n 0, 0, 0), (18, .iload 4, 0, 0)] := ⟨by decide +kernel, trivial, trivial, trivial⟩
theorem sX2_trackOnRoute_23 : JSeg (jm jdX2_trackOnRoute) [(23, .istore 4, 0, 0), (25, .iinc 5 1, 0, 0), (28, .goto (-17), 0, 0)] := ⟨by decide +kernel, trivial, trivial, trivial, trivial⟩
theorem sX2_trackOnRoute_31 : JSeg (jm jdX2_trackOnRoute) [(31, .iload 4, 0, 0)] := ⟨by decide +kernel, trivial, trivial⟩
theorem dX2_trackOnRoute_2 : decode cX2_trackOnRoute 2 = .ok (.invokevirtual 52, 3) := by decide +kernel
theorem dX2_trackOnRoute_14 : decode cX2_trackOnRoute 14 = .ok (.if_icmp .ge 17, 3) := by decide +kernel
theorem dX2_trackOnRoute_20 : decode cX2_trackOnRoute 20 = .ok (.invokevirtual 58, 3) := by decide +kernel
theorem dX2_trackOnRoute_33 : decode cX2_trackOnRoute 33 = .ok (.ireturn, 1) := by decide +kernel
theorem sX2_waysAgree_0 : JSeg (jm jdX2_waysAgree) [(0, .aload_n 0, 0, 0)] := ⟨by decide +kernel, trivial, trivial⟩
theorem sX2_waysAgree_4 : JSeg (jm jdX2_waysAgree) [(4, .iconst 0, 0, 0), (5, .istore_n 1, 0, 0)] := ⟨by decide +kernel, trivial, trivial, trivial⟩
theorem sX2_waysAgree_6 : JSeg (jm jdX2_waysAgree) [(6, .iload_n 1, 0, 0), (7, .aload_n 0, 0, 0), (8, .getfield 29, 2, 0)] := ⟨by decide +kernel, trivial, trivial, fkX2_29, trivial⟩
theorem sX2_waysAgree_14 : JSeg (jm jdX2_waysAgree) [(14, .aload_n 0, 0, 0), (15, .iload_n 1, 0, 0)] := ⟨by decide +kernel, trivial, trivial, trivial⟩
theorem sX2_waysAgree_19 : JSeg (jm jdX2_waysAgree) [(19, .iconst 0, 0, 0), (20, .istore_n 2, 0, 0)] := ⟨by decide +kernel, trivial, trivial, trivial⟩
theorem sX2_waysAgree_21 : JSeg (jm jdX2_waysAgree) [(21, .iload_n 2, 0, 0), (22, .aload_n 0, 0, 0), (23, .getfield 29, 2, 0)] := ⟨by decide +kernel, trivial, trivial, fkX2_29, trivial⟩
theorem sX2_waysAgree_29 : JSeg (jm jdX2_waysAgree) [(29, .aload_n 0, 0, 0), (30, .getfield 20, 2, 3), (33, .iload_n 2, 0, 0)] := ⟨by decide +kernel, trivial, fkX2_20, trivial, trivial⟩
theorem sX2_waysAgree_37 : JSeg (jm jdX2_waysAgree) [(37, .aload_n 0, 0, 0), (38, .getfield 26, 2, 5), (41, .iload_n 1, 0, 0), (42, .iload_n 2, 0, 0)] := ⟨by decide +kernel, trivial, fkX2_26, trivial, trivial, trivial⟩
theorem sX2_waysAgree_52 : JSeg (jm jdX2_waysAgree) [(52, .iconst 0, 0, 0)] := ⟨by decide +kernel, trivial, trivial⟩
theorem sX2_waysAgree_54 : JSeg (jm jdX2_waysAgree) [(54, .iinc 2 1, 0, 0), (57, .goto (-36), 0, 0)] := ⟨by decide +kernel, trivial, trivial, trivial⟩
theorem sX2_waysAgree_60 : JSeg (jm jdX2_waysAgree) [(60, .iinc 1 1, 0, 0), (63, .goto (-57), 0, 0)] := ⟨by decide +kernel, trivial, trivial, trivial⟩
theorem sX2_waysAgree_66 : JSeg (jm jdX2_waysAgree) [(66, .iconst 1, 0, 0)] := ⟨by decide +kernel, trivial, trivial⟩
theorem dX2_waysAgree_1 : decode cX2_waysAgree 1 = .ok (.invokevirtual 55, 3) := by decide +kernel
theorem dX2_waysAgree_11 : decode cX2_waysAgree 11 = .ok (.if_icmp .ge 55, 3) := by decide +kernel
theorem dX2_waysAgree_16 : decode cX2_waysAgree 16 = .ok (.invokevirtual 52, 3) := by decide +kernel
theorem dX2_waysAgree_26 : decode cX2_waysAgree 26 = .ok (.if_icmp .ge 34, 3) := by decide +kernel
theorem dX2_waysAgree_34 : decode cX2_waysAgree 34 = .ok (.invokevirtual 44, 3) := by decide +kernel
theorem dX2_waysAgree_43 : decode cX2_waysAgree 43 = .ok (.invokestatic 40, 3) := by decide +kernel
theorem dX2_waysAgree_46 : decode cX2_waysAgree 46 = .ok (.invokevirtual 44, 3) := by decide +kernel
theorem dX2_waysAgree_49 : decode cX2_waysAgree 49 = .ok (.if_icmp .eq 5, 3) := by decide +kernel
theorem dX2_waysAgree_53 : decode cX2_waysAgree 53 = .ok (.ireturn, 1) := by decide +kernel
theorem dX2_waysAgree_67 : decode cX2_waysAgree 67 = .ok (.ireturn, 1) := by decide +kernel
theorem sX2_search_0 : JSeg (jm jdX2_search) [(0, .aload_n 0, 0, 0), (1, .getfield 20, 2, 3), (4, .sipush 1000, 0, 0)] := ⟨by decide +kernel, trivial, fkX2_20, trivial, trivial⟩
theorem sX2_search_10 : JSeg (jm jdX2_search) [(10, .aload_n 0, 0, 0), (11, .getfield 20, 2, 3), (14, .iload_n 1, 0, 0), (15, .iconst 0, 0, 0)] := ⟨by decide +kernel, trivial, fkX2_20, trivial, trivial, trivial⟩
theorem sX2_search_19 : JSeg (jm jdX2_search) [(19, .aload_n 0, 0, 0), (20, .getfield 23, 2, 4), (23, .iconst 0, 0, 0), (24, .iload_n 1, 0, 0)] := ⟨by decide +kernel, trivial, fkX2_23, trivial, trivial, trivial⟩
theorem sX2_search_28 : JSeg (jm jdX2_search) [(28, .iconst 1, 0, 0), (29, .istore_n 2, 0, 0), (30, .iconst 0, 0, 0), (31, .istore_n 3, 0, 0)] := ⟨by decide +kernel, trivial, trivial, trivial, trivial, trivial⟩
theorem sX2_search_32 : JSeg (jm jdX2_search) [(32, .iload_n 3, 0, 0), (33, .iload_n 2, 0, 0)] := ⟨by decide +kernel, trivial, trivial, trivial⟩
theorem sX2_search_37 : JSeg (jm jdX2_search) [(37, .iload_n 3, 0, 0), (38, .bipush 8, 0, 0)] := ⟨by decide +kernel, trivial, trivial, trivial⟩
theorem sX2_search_43 : JSeg (jm jdX2_search) [(43, .aload_n 0, 0, 0), (44, .getfield 23, 2, 4), (47, .iload_n 3, 0, 0)] := ⟨by decide +kernel, trivial, fkX2_23, trivial, trivial⟩
theorem sX2_search_51 : JSeg (jm jdX2_search) [(51, .istore 4, 0, 0), (53, .iconst 0, 0, 0), (54, .istore 5, 0, 0)] := ⟨by decide +kernel, trivial, trivial, trivial, trivial⟩
theorem sX2_search_56 : JSeg (jm jdX2_search) [(56, .iload 5, 0, 0), (58, .aload_n 0, 0, 0), (59, .getfield 29, 2, 0)] := ⟨by decide +kernel, trivial, trivial, fkX2_29, trivial⟩
theorem sX2_search_65 : JSeg (jm jdX2_search) [(65, .aload_n 0, 0, 0), (66, .getfield 14, 2, 2), (69, .iload 4, 0, 0), (71, .iload 5, 0, 0)] := ⟨by decide +kernel, trivial, fkX2_14, trivial, trivial, trivial⟩
theorem sX2_search_79 : JSeg (jm jdX2_search) [(79, .iconst 1, 0, 0)] := ⟨by decide +kernel, trivial, trivial⟩
theorem sX2_search_83 : JSeg (jm jdX2_search) [(83, .aload_n 0, 0, 0), (84, .getfield 20, 2, 3), (87, .iload 5, 0, 0)] := ⟨by decide +kernel, trivial, fkX2_20, trivial, trivial⟩
theorem sX2_search_92 : JSeg (jm jdX2_search) [(92, .sipush 1000, 0, 0)] := ⟨by decide +kernel, trivial, trivial⟩
theorem sX2_search_98 : JSeg (jm jdX2_search) [(98, .aload_n 0, 0, 0), (99, .getfield 20, 2, 3), (102, .iload 5, 0, 0), (104, .aload_n 0, 0, 0), (105, .getfield 20, 2, 3), (108, .iload 4, 0, 0)] := ⟨by decide +kernel, trivial, fkX2_20, trivial, trivial, fkX2_20, trivial, trivial⟩
theorem sX2_search_113 : JSeg (jm jdX2_search) [(113, .iconst 1, 0, 0), (114, .iadd, 0, 0)] := ⟨by decide +kernel, trivial, trivial, trivial⟩
theorem sX2_search_118 : JSeg (jm jdX2_search) [(118, .aload_n 0, 0, 0), (119, .getfield 23, 2, 4), (122, .iload_n 2, 0, 0), (123, .iload 5, 0, 0)] := ⟨by decide +kernel, trivial, fkX2_23, trivial, trivial, trivial⟩
theorem sX2_search_128 : JSeg (jm jdX2_search) [(128, .iinc 2 1, 0, 0)] := ⟨by decide +kernel, trivial, trivial⟩
theorem sX2_search_131 : JSeg (jm jdX2_search) [(131, .iinc 5 1, 0, 0), (134, .goto (-78), 0, 0)] := ⟨by decide +kernel, trivial, trivial, trivial⟩
theorem sX2_search_137 : JSeg (jm jdX2_search) [(137, .iinc 3 1, 0, 0), (140, .goto (-108), 0, 0)] := ⟨by decide +kernel, trivial, trivial, trivial⟩
theorem dX2_search_7 : decode cX2_search 7 = .ok (.invokevirtual 61, 3) := by decide +kernel
theorem dX2_search_16 : decode cX2_search 16 = .ok (.invokevirtual 48, 3) := by decide +kernel
theorem dX2_search_25 : decode cX2_search 25 = .ok (.invokevirtual 48, 3) := by decide +kernel
theorem dX2_search_34 : decode cX2_search 34 = .ok (.if_icmp .ge 109, 3) := by decide +kernel
theorem dX2_search_40 : decode cX2_search 40 = .ok (.if_icmp .ge 103, 3) := by decide +kernel
theorem dX2_search_48 : decode cX2_search 48 = .ok (.invokevirtual 44, 3) := by decide +kernel
theorem dX2_search_62 : decode cX2_search 62 = .ok (.if_icmp .ge 75, 3) := by decide +kernel
theorem dX2_search_73 : decode cX2_search 73 = .ok (.invokestatic 40, 3) := by decide +kernel
theorem dX2_search_76 : decode cX2_search 76 = .ok (.invokevirtual 44, 3) := by decide +kernel
theorem dX2_search_80 : decode cX2_search 80 = .ok (.if_icmp .ne 51, 3) := by decide +kernel
theorem dX2_search_89 : decode cX2_search 89 = .ok (.invokevirtual 44, 3) := by decide +kernel
theorem dX2_search_95 : decode cX2_search 95 = .ok (.if_icmp .ne 36, 3) := by decide +kernel
theorem dX2_search_110 : decode cX2_search 110 = .ok (.invokevirtual 44, 3) := by decide +kernel
theorem dX2_search_115 : decode cX2_search 115 = .ok (.invokevirtual 48, 3) := by decide +kernel
theorem dX2_search_125 : decode cX2_search 125 = .ok (.invokevirtual 48, 3) := by decide +kernel
theorem dX2_search_143 : decode cX2_search 143 = .ok (.return_, 1) := by decide +kernel
theorem sX2_nextTrack_0 : JSeg (jm jdX2_nextTrack) [(0, .aload_n 0, 0, 0), (1, .getfield 20, 2, 3), (4, .iload_n 1, 0, 0)] := ⟨by decide +kernel, trivial, fkX2_20, trivial, trivial⟩
theorem sX2_nextTrack_8 : JSeg (jm jdX2_nextTrack) [(8, .iconst 1, 0, 0), (9, .isub, 0, 0), (10, .istore_n 2, 0, 0), (11, .iconst 0, 0, 0), (12, .istore_n 3, 0, 0)] := ⟨by decide +kernel, trivial, trivial, trivial, trivial, trivial, trivial⟩
theorem sX2_nextTrack_13 : JSeg (jm jdX2_nextTrack) [(13, .iload_n 3, 0, 0), (14, .aload_n 0, 0, 0), (15, .getfield 29, 2, 0)] := ⟨by decide +kernel, trivial, trivial, fkX2_29, trivial⟩
theorem sX2_nextTrack_21 : JSeg (jm jdX2_nextTrack) [(21, .aload_n 0, 0, 0), (22, .getfield 20, 2, 3), (25, .iload_n 3, 0, 0)] := ⟨by decide +kernel, trivial, fkX2_20, trivial, trivial⟩
theorem sX2_nextTrack_29 : JSeg (jm jdX2_nextTrack) [(29, .iload_n 2, 0, 0)] := ⟨by decide +kernel, trivial, trivial⟩
theorem sX2_nextTrack_33 : JSeg (jm jdX2_nextTrack) [(33, .aload_n 0, 0, 0), (34, .iload_n 1, 0, 0), (35, .iload_n 3, 0, 0)] := ⟨by decide +kernel, trivial, trivial, trivial, trivial⟩
theorem sX2_nextTrack_42 : JSeg (jm jdX2_nextTrack) [(42, .iload_n 3, 0, 0)] := ⟨by decide +kernel, trivial, trivial⟩
theorem sX2_nextTrack_44 : JSeg (jm jdX2_nextTrack) [(44, .iinc 3 1, 0, 0), (47, .goto (-34), 0, 0)] := ⟨by decide +kernel, trivial, trivial, trivial⟩
theorem sX2_nextTrack_50 : JSeg (jm jdX2_nextTrack) [(50, .iload_n 1, 0, 0)] := ⟨by decide +kernel, trivial, trivial⟩
theorem dX2_nextTrack_5 : decode cX2_nextTrack 5 = .ok (.invokevirtual 44, 3) := by decide +kernel
theorem dX2_nextTrack_18 : decode cX2_nextTrack 18 = .ok (.if_icmp .ge 32, 3) := by decide +kernel
theorem dX2_nextTrack_26 : decode cX2_nextTrack 26 = .ok (.invokevirtual 44, 3) := by decide +kernel
theorem dX2_nextTrack_30 : decode cX2_nextTrack 30 = .ok (.if_icmp .ne 14, 3) := by decide +kernel
theorem dX2_nextTrack_36 : decode cX2_nextTrack 36 = .ok (.invokevirtual 64, 3) := by decide +kernel
theorem dX2_nextTrack_39 : decode cX2_nextTrack 39 = .ok (.ifCond .eq 5, 3) := by decide +kernel
theorem dX2_nextTrack_43 : decode cX2_nextTrack 43 = .ok (.ireturn, 1) := by decide +kernel
theorem dX2_nextTrack_51 : decode cX2_nextTrack 51 = .ok (.ireturn, 1) := by decide +kernel
theorem sX2_fillMatrix_0 : JSeg (jm jdX2_fillMatrix) [(0, .iconst 0, 0, 0), (1, .istore_n 1, 0, 0)] := ⟨by decide +kernel, trivial, trivial, trivial⟩
theorem sX2_fillMatrix_2 : JSeg (jm jdX2_fillMatrix) [(2, .iload_n 1, 0, 0), (3, .aload_n 0, 0, 0), (4, .getfield 29, 2, 0)] := ⟨by decide +kernel, trivial, trivial, fkX2_29, trivial⟩
theorem sX2_fillMatrix_10 : JSeg (jm jdX2_fillMatrix) [(10, .iconst 0, 0, 0), (11, .istore_n 2, 0, 0)] := ⟨by decide +kernel, trivial, trivial, trivial⟩
theorem sX2_fillMatrix_12 : JSeg (jm jdX2_fillMatrix) [(12, .iload_n 2, 0, 0), (13, .aload_n 0, 0, 0), (14, .getfield 29, 2, 0)] := ⟨by decide +kernel, trivial, trivial, fkX2_29, trivial⟩
theorem sX2_fillMatrix_20 : JSeg (jm jdX2_fillMatrix) [(20, .aload_n 0, 0, 0), (21, .iload_n 1, 0, 0), (22, .iload_n 2, 0, 0)] := ⟨by decide +kernel, trivial, trivial, trivial, trivial⟩
theorem sX2_fillMatrix_29 : JSeg (jm jdX2_fillMatrix) [(29, .iconst 1, 0, 0), (30, .goto 6, 0, 0)] := ⟨by decide +kernel, trivial, trivial, trivial⟩
theorem sX2_fillMatrix_33 : JSeg (jm jdX2_fillMatrix) [(33, .sipush 1000, 0, 0)] := ⟨by decide +kernel, trivial, trivial⟩
theorem sX2_fillMatrix_36 : JSeg (jm jdX2_fillMatrix) [(36, .istore_n 3, 0, 0), (37, .aload_n 0, 0, 0), (38, .getfield 26, 2, 5), (41, .iload_n 1, 0, 0), (42, .iload_n 2, 0, 0)] := ⟨by decide +kernel, trivial, trivial, fkX2_26, trivial, trivial, trivial⟩
theorem sX2_fillMatrix_46 : JSeg (jm jdX2_fillMatrix) [(46, .iload_n 1, 0, 0), (47, .iload_n 2, 0, 0)] := ⟨by decide +kernel, trivial, trivial, trivial⟩
theorem sX2_fillMatrix_51 : JSeg (jm jdX2_fillMatrix) [(51, .iconst 0, 0, 0), (52, .goto 4, 0, 0)] := ⟨by decide +kernel, trivial, trivial, trivial⟩
theorem sX2_fillMatrix_55 : JSeg (jm jdX2_fillMatrix) [(55, .iload_n 3, 0, 0)] := ⟨by decide +kernel, trivial, trivial⟩
theorem sX2_fillMatrix_59 : JSeg (jm jdX2_fillMatrix) [(59, .iinc 2 1, 0, 0), (62, .goto (-50), 0, 0)] := ⟨by decide +kernel, trivial, trivial, trivial⟩
theorem sX2_fillMatrix_65 : JSeg (jm jdX2_fillMatrix) [(65, .iinc 1 1, 0, 0), (68, .goto (-66), 0, 0)] := ⟨by decide +kernel, trivial, trivial, trivial⟩
theorem sX2_fillMatrix_71 : JSeg (jm jdX2_fillMatrix) [(71, .iconst 0, 0, 0), (72, .istore_n 1, 0, 0)] := ⟨by decide +kernel, trivial, trivial, trivial⟩
theorem sX2_fillMatrix_73 : JSeg (jm jdX2_fillMatrix) [(73, .iload_n 1, 0, 0), (74, .aload_n 0, 0, 0), (75, .getfield 29, 2, 0)] := ⟨by decide +kernel, trivial, trivial, fkX2_29, trivial⟩
theorem sX2_fillMatrix_81 : JSeg (jm jdX2_fillMatrix) [(81, .iconst 0, 0, 0), (82, .istore_n 2, 0, 0)] := ⟨by decide +kernel, trivial, trivial, trivial⟩
theorem sX2_fillMatrix_83 : JSeg (jm jdX2_fillMatrix) [(83, .iload_n 2, 0, 0), (84, .aload_n 0, 0, 0), (85, .getfield 29, 2, 0)] := ⟨by decide +kernel, trivial, trivial, fkX2_29, trivial⟩
theorem sX2_fillMatrix_91 : JSeg (jm jdX2_fillMatrix) [(91, .aload_n 0, 0, 0), (92, .iload_n 1, 0, 0), (93, .iload_n 2, 0, 0)] := ⟨by decide +kernel, trivial, trivial, trivial, trivial⟩
theorem sX2_fillMatrix_97 : JSeg (jm jdX2_fillMatrix) [(97, .iinc 2 1, 0, 0), (100, .goto (-17), 0, 0)] := ⟨by decide +kernel, trivial, trivial, trivial⟩
theorem sX2_fillMatrix_103 : JSeg (jm jdX2_fillMatrix) [(103, .iinc 1 1, 0, 0), (106, .goto (-33), 0, 0)] := ⟨by decide +kernel, trivial, trivial, trivial⟩
theorem dX2_fillMatrix_7 : decode cX2_fillMatrix 7 = .ok (.if_icmp .ge 64, 3) := by decide +kernel
theorem dX2_fillMatrix_17 : decode cX2_fillMatrix 17 = .ok (.if_icmp .ge 48, 3) := by decide +kernel
theorem dX2_fillMatrix_23 : decode cX2_fillMatrix 23 = .ok (.invokevirtual 64, 3) := by decide +kernel
theorem dX2_fillMatrix_26 : decode cX2_fillMatrix 26 = .ok (.ifCond .eq 7, 3) := by decide +kernel
theorem dX2_fillMatrix_43 : decode cX2_fillMatrix 43 = .ok (.invokestatic 40, 3) := by decide +kernel
theorem dX2_fillMatrix_48 : decode cX2_fillMatrix 48 = .ok (.if_icmp .ne 7, 3) := by decide +kernel
theorem dX2_fillMatrix_56 : decode cX2_fillMatrix 56 = .ok (.invokevirtual 48, 3) := by decide +kernel
theorem dX2_fillMatrix_78 : decode cX2_fillMatrix 78 = .ok (.if_icmp .ge 31, 3) := by decide +kernel
theorem dX2_fillMatrix_88 : decode cX2_fillMatrix 88 = .ok (.if_icmp .ge 15, 3) := by decide +kernel
theorem dX2_fillMatrix_94 : decode cX2_fillMatrix 94 = .ok (.invokevirtual 68, 3) := by decide +kernel
theorem dX2_fillMatrix_109 : decode cX2_fillMatrix 109 = .ok (.return_, 1) := by decide +kernel
theorem sX2_combineOver_0 : JSeg (jm jdX2_combineOver) [(0, .aload_n 0, 0, 0), (1, .getfield 26, 2, 5), (4, .iload_n 2, 0, 0), (5, .iload_n 1, 0, 0)] := ⟨by decide +kernel, trivial, fkX2_26, trivial, trivial, trivial⟩
theorem sX2_combineOver_12 : JSeg (jm jdX2_combineOver) [(12, .istore_n 3, 0, 0), (13, .iconst 0, 0, 0), (14, .istore 4, 0, 0)] := ⟨by decide +kernel, trivial, trivial, trivial, trivial⟩
theorem sX2_combineOver_16 : JSeg (jm jdX2_combineOver) [(16, .iload 4, 0, 0), (18, .aload_n 0, 0, 0), (19, .getfield 29, 2, 0)] := ⟨by decide +kernel, trivial, trivial, fkX2_29, trivial⟩
theorem sX2_combineOver_25 : JSeg (jm jdX2_combineOver) [(25, .iload_n 3, 0, 0), (26, .aload_n 0, 0, 0), (27, .getfield 26, 2, 5), (30, .iload_n 1, 0, 0), (31, .iload 4, 0, 0)] := ⟨by decide +kernel, trivial, trivial, fkX2_26, trivial, trivial, trivial⟩
theorem sX2_combineOver_39 : JSeg (jm jdX2_combineOver) [(39, .iadd, 0, 0), (40, .istore 5, 0, 0), (42, .iload 5, 0, 0), (44, .aload_n 0, 0, 0), (45, .getfield 26, 2, 5), (48, .iload_n 2, 0, 0), (49, .iload 4, 0, 0)] := ⟨by decide +kernel, trivial, trivial, trivial, trivial, fkX2_26, trivial, trivial, trivial⟩
theorem sX2_combineOver_60 : JSeg (jm jdX2_combineOver) [(60, .aload_n 0, 0, 0), (61, .getfield 26, 2, 5), (64, .iload_n 2, 0, 0), (65, .iload 4, 0, 0)] := ⟨by decide +kernel, trivial, fkX2_26, trivial, trivial, trivial⟩
theorem sX2_combineOver_70 : JSeg (jm jdX2_combineOver) [(70, .iload 5, 0, 0)] := ⟨by decide +kernel, trivial, trivial⟩
theorem sX2_combineOver_75 : JSeg (jm jdX2_combineOver) [(75, .iinc 4 1, 0, 0), (78, .goto (-62), 0, 0)] := ⟨by decide +kernel, trivial, trivial, trivial⟩
theorem dX2_combineOver_6 : decode cX2_combineOver 6 = .ok (.invokestatic 40, 3) := by decide +kernel
theorem dX2_combineOver_9 : decode cX2_combineOver 9 = .ok (.invokevirtual 44, 3) := by decide +kernel
theorem dX2_combineOver_22 : decode cX2_combineOver 22 = .ok (.if_icmp .ge 59, 3) := by decide +kernel
theorem dX2_combineOver_33 : decode cX2_combineOver 33 = .ok (.invokestatic 40, 3) := by decide +kernel
theorem dX2_combineOver_36 : decode cX2_combineOver 36 = .ok (.invokevirtual 44, 3) := by decide +kernel
theorem dX2_combineOver_51 : decode cX2_combineOver 51 = .ok (.invokestatic 40, 3) := by decide +kernel
theorem dX2_combineOver_54 : decode cX2_combineOver 54 = .ok (.invokevirtual 44, 3) := by decide +kernel
theorem dX2_combineOver_57 : decode cX2_combineOver 57 = .ok (.if_icmp .ge 18, 3) := by decide +kernel
theorem dX2_combineOver_67 : decode cX2_combineOver 67 = .ok (.invokestatic 40, 3) := by decide +kernel
theorem dX2_combineOver_72 : decode cX2_combineOver 72 = .ok (.invokevirtual 48, 3) := by decide +kernel
theorem dX2_combineOver_81 : decode cX2_combineOver 81 = .ok (.return_, 1) := by decide +kernel
theorem sX5_init_0 : JSeg (jm jdX5_init) [(0, .aload_n 0, 0, 0)] := ⟨by decide +kernel, trivial, trivial⟩
theorem sX5_init_4 : JSeg (jm jdX5_init) [(4, .aload_n 0, 0, 0)] := ⟨by decide +kernel, trivial, trivial⟩
theorem sX5_init_8 : JSeg (jm jdX5_init) [(8, .dup, 0, 0), (9, .bipush 8, 0, 0)] := ⟨by decide +kernel, trivial, trivial, trivial⟩
theorem sX5_init_17 : JSeg (jm jdX5_init) [(17, .aload_n 0, 0, 0)] := ⟨by decide +kernel, trivial, trivial⟩
theorem sX5_init_21 : JSeg (jm jdX5_init) [(21, .dup, 0, 0), (22, .bipush 8, 0, 0)] := ⟨by decide +kernel, trivial, trivial, trivial⟩
theorem sX5_init_30 : JSeg (jm jdX5_init) [(30, .aload_n 0, 0, 0)] := ⟨by decide +kernel, trivial, trivial⟩
theorem sX5_init_34 : JSeg (jm jdX5_init) [(34, .dup, 0, 0)] := ⟨by decide +kernel, trivial, trivial⟩
theorem sX5_init_41 : JSeg (jm jdX5_init) [(41, .aload_n 0, 0, 0)] := ⟨by decide +kernel, trivial, trivial⟩
theorem sX5_init_45 : JSeg (jm jdX5_init) [(45, .dup, 0, 0)] := ⟨by decide +kernel, trivial, trivial⟩
theorem dX5_init_1 : decode cX5_init 1 = .ok (.invokespecial 3, 3) := by decide +kernel
theorem dX5_init_5 : decode cX5_init 5 = .ok (.new 9, 3) := by decide +kernel
theorem dX5_init_11 : decode cX5_init 11 = .ok (.invokespecial 11, 3) := by decide +kernel
theorem dX5_init_14 : decode cX5_init 14 = .ok (.putfield 14, 3) := by decide +kernel
theorem dX5_init_18 : decode cX5_init 18 = .ok (.new 9, 3) := by decide +kernel
theorem dX5_init_24 : decode cX5_init 24 = .ok (.invokespecial 11, 3) := by decide +kernel
theorem dX5_init_27 : decode cX5_init 27 = .ok (.putfield 20, 3) := by decide +kernel
theorem dX5_init_31 : decode cX5_init 31 = .ok (.new 23, 3) := by decide +kernel
theorem dX5_init_35 : decode cX5_init 35 = .ok (.invokespecial 25, 3) := by decide +kernel
theorem dX5_init_38 : decode cX5_init 38 = .ok (.putfield 26, 3) := by decide +kernel
theorem dX5_init_42 : decode cX5_init 42 = .ok (.new 30, 3) := by decide +kernel
theorem dX5_init_46 : decode cX5_init 46 = .ok (.invokespecial 32, 3) := by decide +kernel
theorem dX5_init_49 : decode cX5_init 49 = .ok (.putfield 33, 3) := by decide +kernel
theorem dX5_init_52 : decode cX5_init 52 = .ok (.return_, 1) := by decide +kernel
theorem fpX5_51 : FP0 RX5 51 5 5 := ⟨_, _, _, _, ci_X5, by decide, bw_of 155 (by decide +kernel) (by decide +kernel), rfl, rfl⟩
theorem fpX5_55 : FP0 RX5 55 5 6 := ⟨_, _, _, _, ci_X5, by decide, bw_of 157 (by decide +kernel) (by decide +kernel), rfl, rfl⟩
theorem sX5_copy_0 : JSeg (jm jdX5_copy) [(0, .aload_n 1, 0, 0)] := ⟨by decide +kernel, trivial, trivial⟩
theorem sX5_copy_4 : JSeg (jm jdX5_copy) [(4, .aload_n 0, 0, 0), (5, .getfield 14, 5, 0), (8, .aload_n 1, 0, 0), (9, .getfield 14, 5, 0)] := ⟨by decide +kernel, trivial, fkX5_14, trivial, fkX5_14, trivial⟩
theorem sX5_copy_15 : JSeg (jm jdX5_copy) [(15, .aload_n 0, 0, 0), (16, .getfield 20, 5, 1), (19, .aload_n 1, 0, 0), (20, .getfield 20, 5, 1)] := ⟨by decide +kernel, trivial, fkX5_20, trivial, fkX5_20, trivial⟩
theorem sX5_copy_26 : JSeg (jm jdX5_copy) [(26, .aload_n 0, 0, 0), (27, .getfield 26, 5, 2), (30, .aload_n 1, 0, 0), (31, .getfield 26, 5, 2)] := ⟨by decide +kernel, trivial, fkX5_26, trivial, fkX5_26, trivial⟩
theorem sX5_copy_37 : JSeg (jm jdX5_copy) [(37, .aload_n 0, 0, 0), (38, .getfield 33, 5, 3), (41, .aload_n 1, 0, 0), (42, .getfield 33, 5, 3)] := ⟨by decide +kernel, trivial, fkX5_33, trivial, fkX5_33, trivial⟩
theorem sX5_copy_48 : JSeg (jm jdX5_copy) [(48, .aload_n 0, 0, 0), (49, .aload_n 1, 0, 0), (50, .getfield 47, 5, 4)] := ⟨by decide +kernel, trivial, trivial, fkX5_47, trivial⟩
theorem sX5_copy_56 : JSeg (jm jdX5_copy) [(56, .aload_n 0, 0, 0), (57, .aload_n 1, 0, 0), (58, .getfield 51, 5, 5), (61, .putfield 51, 5, 5), (64, .aload_n 0, 0, 0), (65, .aload_n 1, 0, 0), (66, .getfield 55, 5, 6), (69, .putfield 55, 5, 6), (72, .aload_n 0, 0, 0), (73, .aload_n 1, 0, 0), (74, .getfield 58, 5, 7)] := ⟨by decide +kernel, trivial, trivial, fkX5_51, fpX5_51, trivial, trivial, fkX5_55, fpX5_55, trivial, trivial, fkX5_58, trivial⟩
theorem dX5_copy_1 : decode cX5_copy 1 = .ok (.ifnull 79, 3) := by decide +kernel
theorem dX5_copy_12 : decode cX5_copy 12 = .ok (.invokevirtual 37, 3) := by decide +kernel
theorem dX5_copy_23 : decode cX5_copy 23 = .ok (.invokevirtual 37, 3) := by decide +kernel
theorem dX5_copy_34 : decode cX5_copy 34 = .ok (.invokevirtual 41, 3) := by decide +kernel
theorem dX5_copy_45 : decode cX5_copy 45 = .ok (.invokevirtual 44, 3) := by decide +kernel
theorem dX5_copy_53 : decode cX5_copy 53 = .ok (.putfield 47, 3) := by decide +kernel
theorem dX5_copy_77 : decode cX5_copy 77 = .ok (.putfield 58, 3) := by decide +kernel
theorem dX5_copy_80 : decode cX5_copy 80 = .ok (.return_, 1) := by decide +kernel
theorem sX5_hasTrack_0 : JSeg (jm jdX5_hasTrack) [(0, .iload_n 1, 0, 0)] := ⟨by decide +kernel, trivial, trivial⟩
theorem sX5_hasTrack_4 : JSeg (jm jdX5_hasTrack) [(4, .iload_n 1, 0, 0), (5, .aload_n 0, 0, 0), (6, .getfield 26, 5, 2), (9, .getfield 61, 2, 0)] := ⟨by decide +kernel, trivial, trivial, fkX5_26, fkX5_61, trivial⟩
theorem sX5_hasTrack_15 : JSeg (jm jdX5_hasTrack) [(15, .iconst 1, 0, 0), (16, .goto 4, 0, 0)] := ⟨by decide +kernel, trivial, trivial, trivial⟩
theorem sX5_hasTrack_19 : JSeg (jm jdX5_hasTrack) [(19, .iconst 0, 0, 0)] := ⟨by decide +kernel, trivial, trivial⟩
theorem dX5_hasTrack_1 : decode cX5_hasTrack 1 = .ok (.ifCond .lt 18, 3) := by decide +kernel
theorem dX5_hasTrack_12 : decode cX5_hasTrack 12 = .ok (.if_icmp .ge 7, 3) := by decide +kernel
theorem dX5_hasTrack_20 : decode cX5_hasTrack 20 = .ok (.ireturn, 1) := by decide +kernel
theorem sX5_free_0 : JSeg (jm jdX5_free) [(0, .aload_n 0, 0, 0), (1, .getfield 14, 5, 0), (4, .iload_n 1, 0, 0)] := ⟨by decide +kernel, trivial, fkX5_14, trivial, trivial⟩
theorem sX5_free_8 : JSeg (jm jdX5_free) [(8, .aload_n 0, 0, 0), (9, .getfield 33, 5, 3), (12, .getfield 68, 0, 10), (15, .iload_n 1, 0, 0)] := ⟨by decide +kernel, trivial, fkX5_33, fkX5_68, trivial, trivial⟩
theorem sX5_free_19 : JSeg (jm jdX5_free) [(19, .isub, 0, 0)] := ⟨by decide +kernel, trivial, trivial⟩
theorem dX5_free_5 : decode cX5_free 5 = .ok (.invokevirtual 64, 3) := by decide +kernel
theorem dX5_free_16 : decode cX5_free 16 = .ok (.invokevirtual 64, 3) := by decide +kernel
theorem dX5_free_20 : decode cX5_free 20 = .ok (.ireturn, 1) := by decide +kernel
theorem sX5_trackFault_0 : JSeg (jm jdX5_trackFault) [(0, .iload_n 1, 0, 0), (1, .bipush 10, 0, 0), (3, .sipush 200, 0, 0)] := ⟨by decide +kernel, trivial, trivial, trivial, trivial⟩
theorem sX5_trackFault_12 : JSeg (jm jdX5_trackFault) [(12, .iload_n 2, 0, 0), (13, .iconst 0, 0, 0), (14, .iconst 5, 0, 0)] := ⟨by decide +kernel, trivial, trivial, trivial, trivial⟩
theorem sX5_trackFault_21 : JSeg (jm jdX5_trackFault) [(21, .iconst 2, 0, 0)] := ⟨by decide +kernel, trivial, trivial⟩
theorem sX5_trackFault_23 : JSeg (jm jdX5_trackFault) [(23, .aload_n 0, 0, 0), (24, .getfield 26, 5, 2), (27, .getfield 61, 2, 0), (30, .bipush 8, 0, 0)] := ⟨by decide +kernel, trivial, fkX5_26, fkX5_61, trivial, trivial⟩
theorem sX5_trackFault_35 : JSeg (jm jdX5_trackFault) [(35, .iconst 0, 0, 0), (36, .goto 4, 0, 0)] := ⟨by decide +kernel, trivial, trivial, trivial⟩
theorem sX5_trackFault_39 : JSeg (jm jdX5_trackFault) [(39, .iconst 3, 0, 0)] := ⟨by decide +kernel, trivial, trivial⟩
theorem dX5_trackFault_6 : decode cX5_trackFault 6 = .ok (.invokestatic 71, 3) := by decide +kernel
theorem dX5_trackFault_9 : decode cX5_trackFault 9 = .ok (.ifCond .eq 12, 3) := by decide +kernel
theorem dX5_trackFault_15 : decode cX5_trackFault 15 = .ok (.invokestatic 71, 3) := by decide +kernel
theorem dX5_trackFault_18 : decode cX5_trackFault 18 = .ok (.ifCond .ne 5, 3) := by decide +kernel
theorem dX5_trackFault_22 : decode cX5_trackFault 22 = .ok (.ireturn, 1) := by decide +kernel
theorem dX5_trackFault_32 : decode cX5_trackFault 32 = .ok (.if_icmp .ge 7, 3) := by decide +kernel
theorem dX5_trackFault_40 : decode cX5_trackFault 40 = .ok (.ireturn, 1) := by decide +kernel
theorem fpX5_61 : FP0 RX5 61 2 0 := ⟨_, _, _, _, ci_X2, by decide, bw_of 65 (by decide +kernel) (by decide +kernel), rfl, rfl⟩
theorem sX5_build_0 : JSeg (jm jdX5_build) [(0, .aload_n 0, 0, 0), (1, .getfield 26, 5, 2), (4, .getfield 61, 2, 0), (7, .istore_n 3, 0, 0), (8, .aload_n 0, 0, 0), (9, .getfield 14, 5, 0), (12, .iload_n 3, 0, 0), (13, .iload_n 1, 0, 0)] := ⟨by decide +kernel, trivial, fkX5_26, fkX5_61, trivial, trivial, fkX5_14, trivial, trivial, trivial⟩
theorem sX5_build_17 : JSeg (jm jdX5_build) [(17, .aload_n 0, 0, 0), (18, .getfield 20, 5, 1), (21, .iload_n 3, 0, 0), (22, .iload_n 2, 0, 0)] := ⟨by decide +kernel, trivial, fkX5_20, trivial, trivial, trivial⟩
theorem sX5_build_26 : JSeg (jm jdX5_build) [(26, .aload_n 0, 0, 0), (27, .getfield 26, 5, 2), (30, .dup, 0, 0), (31, .getfield 61, 2, 0), (34, .iconst 1, 0, 0), (35, .iadd, 0, 0), (36, .putfield 61, 2, 0), (39, .iload_n 3, 0, 0)] := ⟨by decide +kernel, trivial, fkX5_26, trivial, fkX5_61, trivial, trivial, fpX5_61, trivial, trivial⟩
theorem dX5_build_14 : decode cX5_build 14 = .ok (.invokevirtual 75, 3) := by decide +kernel
theorem dX5_build_23 : decode cX5_build 23 = .ok (.invokevirtual 75, 3) := by decide +kernel
theorem dX5_build_40 : decode cX5_build 40 = .ok (.ireturn, 1) := by decide +kernel
theorem sX5_switchFault_0 : JSeg (jm jdX5_switchFault) [(0, .aload_n 0, 0, 0), (1, .iload_n 1, 0, 0)] := ⟨by decide +kernel, trivial, trivial, trivial⟩
theorem sX5_switchFault_8 : JSeg (jm jdX5_switchFault) [(8, .aload_n 0, 0, 0), (9, .iload_n 2, 0, 0)] := ⟨by decide +kernel, trivial, trivial, trivial⟩
theorem sX5_switchFault_16 : JSeg (jm jdX5_switchFault) [(16, .iconst 1, 0, 0)] := ⟨by decide +kernel, trivial, trivial⟩
theorem sX5_switchFault_18 : JSeg (jm jdX5_switchFault) [(18, .iload_n 1, 0, 0), (19, .iload_n 2, 0, 0)] := ⟨by decide +kernel, trivial, trivial, trivial⟩
theorem sX5_switchFault_23 : JSeg (jm jdX5_switchFault) [(23, .iconst 2, 0, 0)] := ⟨by decide +kernel, trivial, trivial⟩
theorem sX5_switchFault_25 : JSeg (jm jdX5_switchFault) [(25, .aload_n 0, 0, 0), (26, .getfield 26, 5, 2), (29, .iload_n 1, 0, 0), (30, .iload_n 2, 0, 0)] := ⟨by decide +kernel, trivial, fkX5_26, trivial, trivial, trivial⟩
theorem sX5_switchFault_37 : JSeg (jm jdX5_switchFault) [(37, .iconst 3, 0, 0), (38, .goto 4, 0, 0)] := ⟨by decide +kernel, trivial, trivial, trivial⟩
theorem sX5_switchFault_41 : JSeg (jm jdX5_switchFault) [(41, .iconst 0, 0, 0)] := ⟨by decide +kernel, trivial, trivial⟩
theorem dX5_switchFault_2 : decode cX5_switchFault 2 = .ok (.invokevirtual 79, 3) := by decide +kernel
theorem dX5_switchFault_5 : decode cX5_switchFault 5 = .ok (.ifCond .eq 11, 3) := by decide +kernel
theorem dX5_switchFault_10 : decode cX5_switchFault 10 = .ok (.invokevirtual 79, 3) := by decide +kernel
theorem dX5_switchFault_13 : decode cX5_switchFault 13 = .ok (.ifCond .ne 5, 3) := by decide +kernel
theorem dX5_switchFault_17 : decode cX5_switchFault 17 = .ok (.ireturn, 1) := by decide +kernel
theorem dX5_switchFault_20 : decode cX5_switchFault 20 = .ok (.if_icmp .ne 5, 3) := by decide +kernel
theorem dX5_switchFault_24 : decode cX5_switchFault 24 = .ok (.ireturn, 1) := by decide +kernel
theorem dX5_switchFault_31 : decode cX5_switchFault 31 = .ok (.invokevirtual 83, 3) := by decide +kernel
theorem dX5_switchFault_34 : decode cX5_switchFault 34 = .ok (.ifCond .eq 7, 3) := by decide +kernel
theorem dX5_switchFault_42 : decode cX5_switchFault 42 = .ok (.ireturn, 1) := by decide +kernel
theorem sX5_cutFault_0 : JSeg (jm jdX5_cutFault) [(0, .aload_n 0, 0, 0), (1, .iload_n 1, 0, 0)] := ⟨by decide +kernel, trivial, trivial, trivial⟩
theorem sX5_cutFault_8 : JSeg (jm jdX5_cutFault) [(8, .aload_n 0, 0, 0), (9, .iload_n 2, 0, 0)] := ⟨by decide +kernel, trivial, trivial, trivial⟩
theorem sX5_cutFault_16 : JSeg (jm jdX5_cutFault) [(16, .iconst 1, 0, 0)] := ⟨by decide +kernel, trivial, trivial⟩
theorem sX5_cutFault_18 : JSeg (jm jdX5_cutFault) [(18, .aload_n 0, 0, 0), (19, .getfield 26, 5, 2), (22, .iload_n 1, 0, 0), (23, .iload_n 2, 0, 0)] := ⟨by decide +kernel, trivial, fkX5_26, trivial, trivial, trivial⟩
theorem sX5_cutFault_30 : JSeg (jm jdX5_cutFault) [(30, .iconst 0, 0, 0), (31, .goto 4, 0, 0)] := ⟨by decide +kernel, trivial, trivial, trivial⟩
theorem sX5_cutFault_34 : JSeg (jm jdX5_cutFault) [(34, .iconst 3, 0, 0)] := ⟨by decide +kernel, trivial, trivial⟩
theorem dX5_cutFault_2 : decode cX5_cutFault 2 = .ok (.invokevirtual 79, 3) := by decide +kernel
theorem dX5_cutFault_5 : decode cX5_cutFault 5 = .ok (.ifCond .eq 11, 3) := by decide +kernel
theorem dX5_cutFault_10 : decode cX5_cutFault 10 = .ok (.invokevirtual 79, 3) := by decide +kernel
theorem dX5_cutFault_13 : decode cX5_cutFault 13 = .ok (.ifCond .ne 5, 3) := by decide +kernel
theorem dX5_cutFault_17 : decode cX5_cutFault 17 = .ok (.ireturn, 1) := by decide +kernel
theorem dX5_cutFault_24 : decode cX5_cutFault 24 = .ok (.invokevirtual 83, 3) := by decide +kernel
theorem dX5_cutFault_27 : decode cX5_cutFault 27 = .ok (.ifCond .eq 7, 3) := by decide +kernel
theorem dX5_cutFault_35 : decode cX5_cutFault 35 = .ok (.ireturn, 1) := by decide +kernel
theorem sX5_carFault_0 : JSeg (jm jdX5_carFault) [(0, .aload_n 0, 0, 0), (1, .iload_n 1, 0, 0)] := ⟨by decide +kernel, trivial, trivial, trivial⟩
theorem sX5_carFault_8 : JSeg (jm jdX5_carFault) [(8, .iconst 1, 0, 0)] := ⟨by decide +kernel, trivial, trivial⟩
theorem sX5_carFault_10 : JSeg (jm jdX5_carFault) [(10, .iload_n 2, 0, 0), (11, .iconst 5, 0, 0), (12, .bipush 30, 0, 0)] := ⟨by decide +kernel, trivial, trivial, trivial, trivial⟩
theorem sX5_carFault_20 : JSeg (jm jdX5_carFault) [(20, .iload_n 3, 0, 0), (21, .bipush 10, 0, 0), (23, .bipush 90, 0, 0)] := ⟨by decide +kernel, trivial, trivial, trivial, trivial⟩
theorem sX5_carFault_31 : JSeg (jm jdX5_carFault) [(31, .iload 4, 0, 0), (33, .iconst 0, 0, 0), (34, .bipush 9, 0, 0)] := ⟨by decide +kernel, trivial, trivial, trivial, trivial⟩
theorem sX5_carFault_42 : JSeg (jm jdX5_carFault) [(42, .iconst 2, 0, 0)] := ⟨by decide +kernel, trivial, trivial⟩
theorem sX5_carFault_44 : JSeg (jm jdX5_carFault) [(44, .aload_n 0, 0, 0), (45, .getfield 33, 5, 3), (48, .getfield 87, 0, 0), (51, .bipush 20, 0, 0)] := ⟨by decide +kernel, trivial, fkX5_33, fkX5_87, trivial, trivial⟩
theorem sX5_carFault_56 : JSeg (jm jdX5_carFault) [(56, .iconst 3, 0, 0)] := ⟨by decide +kernel, trivial, trivial⟩
theorem sX5_carFault_58 : JSeg (jm jdX5_carFault) [(58, .aload_n 0, 0, 0), (59, .iload_n 1, 0, 0)] := ⟨by decide +kernel, trivial, trivial, trivial⟩
theorem sX5_carFault_63 : JSeg (jm jdX5_carFault) [(63, .iload_n 2, 0, 0)] := ⟨by decide +kernel, trivial, trivial⟩
theorem sX5_carFault_67 : JSeg (jm jdX5_carFault) [(67, .iconst 5, 0, 0), (68, .goto 4, 0, 0)] := ⟨by decide +kernel, trivial, trivial, trivial⟩
theorem sX5_carFault_71 : JSeg (jm jdX5_carFault) [(71, .iconst 0, 0, 0)] := ⟨by decide +kernel, trivial, trivial⟩
theorem dX5_carFault_2 : decode cX5_carFault 2 = .ok (.invokevirtual 79, 3) := by decide +kernel
theorem dX5_carFault_5 : decode cX5_carFault 5 = .ok (.ifCond .ne 5, 3) := by decide +kernel
theorem dX5_carFault_9 : decode cX5_carFault 9 = .ok (.ireturn, 1) := by decide +kernel
theorem dX5_carFault_14 : decode cX5_carFault 14 = .ok (.invokestatic 71, 3) := by decide +kernel
theorem dX5_carFault_17 : decode cX5_carFault 17 = .ok (.ifCond .eq 25, 3) := by decide +kernel
theorem dX5_carFault_25 : decode cX5_carFault 25 = .ok (.invokestatic 71, 3) := by decide +kernel
theorem dX5_carFault_28 : decode cX5_carFault 28 = .ok (.ifCond .eq 14, 3) := by decide +kernel
theorem dX5_carFault_36 : decode cX5_carFault 36 = .ok (.invokestatic 71, 3) := by decide +kernel
theorem dX5_carFault_39 : decode cX5_carFault 39 = .ok (.ifCond .ne 5, 3) := by decide +kernel
theorem dX5_carFault_43 : decode cX5_carFault 43 = .ok (.ireturn, 1) := by decide +kernel
theorem dX5_carFault_53 : decode cX5_carFault 53 = .ok (.if_icmp .lt 5, 3) := by decide +kernel
theorem dX5_carFault_57 : decode cX5_carFault 57 = .ok (.ireturn, 1) := by decide +kernel
theorem dX5_carFault_60 : decode cX5_carFault 60 = .ok (.invokevirtual 90, 3) := by decide +kernel
theorem dX5_carFault_64 : decode cX5_carFault 64 = .ok (.if_icmp .ge 7, 3) := by decide +kernel
theorem dX5_carFault_72 : decode cX5_carFault 72 = .ok (.ireturn, 1) := by decide +kernel
theorem sX5_moveFault_0 : JSeg (jm jdX5_moveFault) [(0, .aload_n 0, 0, 0), (1, .iload_n 1, 0, 0)] := ⟨by decide +kernel, trivial, trivial, trivial⟩
theorem sX5_moveFault_8 : JSeg (jm jdX5_moveFault) [(8, .aload_n 0, 0, 0), (9, .iload_n 2, 0, 0)] := ⟨by decide +kernel, trivial, trivial, trivial⟩
theorem sX5_moveFault_16 : JSeg (jm jdX5_moveFault) [(16, .iconst 1, 0, 0)] := ⟨by decide +kernel, trivial, trivial⟩
theorem sX5_moveFault_18 : JSeg (jm jdX5_moveFault) [(18, .iload_n 1, 0, 0), (19, .iload_n 2, 0, 0)] := ⟨by decide +kernel, trivial, trivial, trivial⟩
theorem sX5_moveFault_23 : JSeg (jm jdX5_moveFault) [(23, .iload_n 3, 0, 0), (24, .iconst 1, 0, 0), (25, .bipush 9, 0, 0)] := ⟨by decide +kernel, trivial, trivial, trivial, trivial⟩
theorem sX5_moveFault_33 : JSeg (jm jdX5_moveFault) [(33, .iconst 2, 0, 0)] := ⟨by decide +kernel, trivial, trivial⟩
theorem sX5_moveFault_35 : JSeg (jm jdX5_moveFault) [(35, .aload_n 0, 0, 0), (36, .getfield 33, 5, 3), (39, .getfield 93, 0, 9), (42, .iload_n 1, 0, 0)] := ⟨by decide +kernel, trivial, fkX5_33, fkX5_93, trivial, trivial⟩
theorem sX5_moveFault_46 : JSeg (jm jdX5_moveFault) [(46, .iload_n 3, 0, 0)] := ⟨by decide +kernel, trivial, trivial⟩
theorem sX5_moveFault_50 : JSeg (jm jdX5_moveFault) [(50, .iconst 3, 0, 0)] := ⟨by decide +kernel, trivial, trivial⟩
theorem sX5_moveFault_52 : JSeg (jm jdX5_moveFault) [(52, .aload_n 0, 0, 0), (53, .getfield 26, 5, 2), (56, .iload_n 1, 0, 0), (57, .iload_n 2, 0, 0)] := ⟨by decide +kernel, trivial, fkX5_26, trivial, trivial, trivial⟩
theorem sX5_moveFault_61 : JSeg (jm jdX5_moveFault) [(61, .sipush 1000, 0, 0)] := ⟨by decide +kernel, trivial, trivial⟩
theorem sX5_moveFault_67 : JSeg (jm jdX5_moveFault) [(67, .iconst 4, 0, 0)] := ⟨by decide +kernel, trivial, trivial⟩
theorem sX5_moveFault_69 : JSeg (jm jdX5_moveFault) [(69, .aload_n 0, 0, 0), (70, .iload_n 2, 0, 0)] := ⟨by decide +kernel, trivial, trivial, trivial⟩
theorem sX5_moveFault_74 : JSeg (jm jdX5_moveFault) [(74, .aload_n 0, 0, 0), (75, .getfield 33, 5, 3), (78, .iload_n 1, 0, 0), (79, .iload_n 3, 0, 0)] := ⟨by decide +kernel, trivial, fkX5_33, trivial, trivial, trivial⟩
theorem sX5_moveFault_86 : JSeg (jm jdX5_moveFault) [(86, .iconst 5, 0, 0), (87, .goto 4, 0, 0)] := ⟨by decide +kernel, trivial, trivial, trivial⟩
theorem sX5_moveFault_90 : JSeg (jm jdX5_moveFault) [(90, .iconst 0, 0, 0)] := ⟨by decide +kernel, trivial, trivial⟩
theorem dX5_moveFault_2 : decode cX5_moveFault 2 = .ok (.invokevirtual 79, 3) := by decide +kernel
theorem dX5_moveFault_5 : decode cX5_moveFault 5 = .ok (.ifCond .eq 11, 3) := by decide +kernel
theorem dX5_moveFault_10 : decode cX5_moveFault 10 = .ok (.invokevirtual 79, 3) := by decide +kernel
theorem dX5_moveFault_13 : decode cX5_moveFault 13 = .ok (.ifCond .ne 5, 3) := by decide +kernel
theorem dX5_moveFault_17 : decode cX5_moveFault 17 = .ok (.ireturn, 1) := by decide +kernel
theorem dX5_moveFault_20 : decode cX5_moveFault 20 = .ok (.if_icmp .eq 13, 3) := by decide +kernel
theorem dX5_moveFault_27 : decode cX5_moveFault 27 = .ok (.invokestatic 71, 3) := by decide +kernel
theorem dX5_moveFault_30 : decode cX5_moveFault 30 = .ok (.ifCond .ne 5, 3) := by decide +kernel
theorem dX5_moveFault_34 : decode cX5_moveFault 34 = .ok (.ireturn, 1) := by decide +kernel
theorem dX5_moveFault_43 : decode cX5_moveFault 43 = .ok (.invokevirtual 64, 3) := by decide +kernel
theorem dX5_moveFault_47 : decode cX5_moveFault 47 = .ok (.if_icmp .ge 5, 3) := by decide +kernel
theorem dX5_moveFault_51 : decode cX5_moveFault 51 = .ok (.ireturn, 1) := by decide +kernel
theorem dX5_moveFault_58 : decode cX5_moveFault 58 = .ok (.invokevirtual 96, 3) := by decide +kernel
theorem dX5_moveFault_64 : decode cX5_moveFault 64 = .ok (.if_icmp .ne 5, 3) := by decide +kernel
theorem dX5_moveFault_68 : decode cX5_moveFault 68 = .ok (.ireturn, 1) := by decide +kernel
theorem dX5_moveFault_71 : decode cX5_moveFault 71 = .ok (.invokevirtual 90, 3) := by decide +kernel
theorem dX5_moveFault_80 : decode cX5_moveFault 80 = .ok (.invokevirtual 100, 3) := by decide +kernel
theorem dX5_moveFault_83 : decode cX5_moveFault 83 = .ok (.if_icmp .ge 7, 3) := by decide +kernel
theorem dX5_moveFault_91 : decode cX5_moveFault 91 = .ok (.ireturn, 1) := by decide +kernel
theorem sX5_minutesOfMove_0 : JSeg (jm jdX5_minutesOfMove) [(0, .aload_n 0, 0, 0), (1, .getfield 20, 5, 1), (4, .iload_n 2, 0, 0)] := ⟨by decide +kernel, trivial, fkX5_20, trivial, trivial⟩
theorem sX5_minutesOfMove_8 : JSeg (jm jdX5_minutesOfMove) [(8, .aload_n 0, 0, 0), (9, .getfield 33, 5, 3), (12, .iload_n 1, 0, 0), (13, .iload_n 3, 0, 0)] := ⟨by decide +kernel, trivial, fkX5_33, trivial, trivial, trivial⟩
theorem sX5_minutesOfMove_17 : JSeg (jm jdX5_minutesOfMove) [(17, .imul, 0, 0), (18, .istore 4, 0, 0), (20, .iconst 2, 0, 0), (21, .aload_n 0, 0, 0), (22, .getfield 26, 5, 2), (25, .iload_n 1, 0, 0), (26, .iload_n 2, 0, 0)] := ⟨by decide +kernel, trivial, trivial, trivial, trivial, fkX5_26, trivial, trivial, trivial⟩
theorem sX5_minutesOfMove_30 : JSeg (jm jdX5_minutesOfMove) [(30, .iadd, 0, 0), (31, .iload 4, 0, 0), (33, .iadd, 0, 0)] := ⟨by decide +kernel, trivial, trivial, trivial, trivial⟩
theorem dX5_minutesOfMove_5 : decode cX5_minutesOfMove 5 = .ok (.invokevirtual 64, 3) := by decide +kernel
theorem dX5_minutesOfMove_14 : decode cX5_minutesOfMove 14 = .ok (.invokevirtual 103, 3) := by decide +kernel
theorem dX5_minutesOfMove_27 : decode cX5_minutesOfMove 27 = .ok (.invokevirtual 96, 3) := by decide +kernel
theorem dX5_minutesOfMove_34 : decode cX5_minutesOfMove 34 = .ok (.ireturn, 1) := by decide +kernel
theorem sX5_move_0 : JSeg (jm jdX5_move) [(0, .aload_n 0, 0, 0), (1, .iload_n 1, 0, 0), (2, .iload_n 2, 0, 0), (3, .iload_n 3, 0, 0)] := ⟨by decide +kernel, trivial, trivial, trivial, trivial, trivial⟩
theorem sX5_move_7 : JSeg (jm jdX5_move) [(7, .istore 4, 0, 0), (9, .iconst 0, 0, 0), (10, .istore 5, 0, 0)] := ⟨by decide +kernel, trivial, trivial, trivial, trivial⟩
theorem sX5_move_12 : JSeg (jm jdX5_move) [(12, .iload 5, 0, 0), (14, .iload_n 3, 0, 0)] := ⟨by decide +kernel, trivial, trivial, trivial⟩
theorem sX5_move_18 : JSeg (jm jdX5_move) [(18, .aload_n 0, 0, 0), (19, .getfield 33, 5, 3), (22, .iload_n 1, 0, 0), (23, .iload_n 2, 0, 0)] := ⟨by decide +kernel, trivial, fkX5_33, trivial, trivial, trivial⟩
theorem sX5_move_27 : JSeg (jm jdX5_move) [(27, .iinc 5 1, 0, 0), (30, .goto (-18), 0, 0)] := ⟨by decide +kernel, trivial, trivial, trivial⟩
theorem sX5_move_33 : JSeg (jm jdX5_move) [(33, .aload_n 0, 0, 0), (34, .dup, 0, 0), (35, .getfield 47, 5, 4), (38, .iload 4, 0, 0), (40, .i2l, 0, 0), (41, .ladd, 0, 0)] := ⟨by decide +kernel, trivial, trivial, fkX5_47, trivial, trivial, trivial, trivial⟩
theorem sX5_move_45 : JSeg (jm jdX5_move) [(45, .aload_n 0, 0, 0), (46, .dup, 0, 0), (47, .getfield 51, 5, 5), (50, .iconst 1, 0, 0), (51, .iadd, 0, 0), (52, .putfield 51, 5, 5), (55, .iload 4, 0, 0)] := ⟨by decide +kernel, trivial, trivial, fkX5_51, trivial, trivial, fpX5_51, trivial, trivial⟩
theorem dX5_move_4 : decode cX5_move 4 = .ok (.invokevirtual 106, 3) := by decide +kernel
theorem dX5_move_15 : decode cX5_move 15 = .ok (.if_icmp .ge 18, 3) := by decide +kernel
theorem dX5_move_24 : decode cX5_move 24 = .ok (.invokevirtual 110, 3) := by decide +kernel
theorem dX5_move_42 : decode cX5_move 42 = .ok (.putfield 47, 3) := by decide +kernel
theorem dX5_move_57 : decode cX5_move 57 = .ok (.ireturn, 1) := by decide +kernel
theorem sX5_repairFault_0 : JSeg (jm jdX5_repairFault) [(0, .aload_n 0, 0, 0), (1, .getfield 33, 5, 3), (4, .iload_n 1, 0, 0)] := ⟨by decide +kernel, trivial, fkX5_33, trivial, trivial⟩
theorem sX5_repairFault_8 : JSeg (jm jdX5_repairFault) [(8, .istore_n 2, 0, 0), (9, .iload_n 2, 0, 0), (10, .iconst (-1), 0, 0)] := ⟨by decide +kernel, trivial, trivial, trivial, trivial⟩
theorem sX5_repairFault_14 : JSeg (jm jdX5_repairFault) [(14, .iconst 4, 0, 0)] := ⟨by decide +kernel, trivial, trivial⟩
theorem sX5_repairFault_16 : JSeg (jm jdX5_repairFault) [(16, .aload_n 0, 0, 0), (17, .getfield 33, 5, 3), (20, .getfield 116, 0, 4), (23, .iload_n 2, 0, 0)] := ⟨by decide +kernel, trivial, fkX5_33, fkX5_116, trivial, trivial⟩
theorem sX5_repairFault_27 : JSeg (jm jdX5_repairFault) [(27, .iconst 1, 0, 0)] := ⟨by decide +kernel, trivial, trivial⟩
theorem sX5_repairFault_31 : JSeg (jm jdX5_repairFault) [(31, .iconst 0, 0, 0), (32, .goto 4, 0, 0)] := ⟨by decide +kernel, trivial, trivial, trivial⟩
theorem sX5_repairFault_35 : JSeg (jm jdX5_repairFault) [(35, .iconst 3, 0, 0)] := ⟨by decide +kernel, trivial, trivial⟩
theorem dX5_repairFault_5 : decode cX5_repairFault 5 = .ok (.invokevirtual 113, 3) := by decide +kernel
theorem dX5_repairFault_11 : decode cX5_repairFault 11 = .ok (.if_icmp .ne 5, 3) := by decide +kernel
theorem dX5_repairFault_15 : decode cX5_repairFault 15 = .ok (.ireturn, 1) := by decide +kernel
theorem dX5_repairFault_24 : decode cX5_repairFault 24 = .ok (.invokevirtual 64, 3) := by decide +kernel
theorem dX5_repairFault_28 : decode cX5_repairFault 28 = .ok (.if_icmp .ne 7, 3) := by decide +kernel
theorem dX5_repairFault_36 : decode cX5_repairFault 36 = .ok (.ireturn, 1) := by decide +kernel
theorem sX5_trainFault_0 : JSeg (jm jdX5_trainFault) [(0, .aload_n 0, 0, 0), (1, .iload_n 1, 0, 0)] := ⟨by decide +kernel, trivial, trivial, trivial⟩
theorem sX5_trainFault_8 : JSeg (jm jdX5_trainFault) [(8, .iconst 1, 0, 0)] := ⟨by decide +kernel, trivial, trivial⟩
theorem sX5_trainFault_10 : JSeg (jm jdX5_trainFault) [(10, .iload_n 2, 0, 0), (11, .iconst 0, 0, 0), (12, .bipush 9, 0, 0)] := ⟨by decide +kernel, trivial, trivial, trivial, trivial⟩
theorem sX5_trainFault_20 : JSeg (jm jdX5_trainFault) [(20, .iconst 2, 0, 0)] := ⟨by decide +kernel, trivial, trivial⟩
theorem sX5_trainFault_22 : JSeg (jm jdX5_trainFault) [(22, .aload_n 0, 0, 0), (23, .getfield 33, 5, 3), (26, .iload_n 1, 0, 0), (27, .aload_n 0, 0, 0), (28, .getfield 33, 5, 3), (31, .getfield 93, 0, 9), (34, .iload_n 1, 0, 0)] := ⟨by decide +kernel, trivial, fkX5_33, trivial, trivial, fkX5_33, fkX5_93, trivial, trivial⟩
theorem sX5_trainFault_38 : JSeg (jm jdX5_trainFault) [(38, .iconst 1, 0, 0), (39, .isub, 0, 0)] := ⟨by decide +kernel, trivial, trivial, trivial⟩
theorem sX5_trainFault_43 : JSeg (jm jdX5_trainFault) [(43, .istore_n 3, 0, 0), (44, .iload_n 3, 0, 0), (45, .iconst (-1), 0, 0)] := ⟨by decide +kernel, trivial, trivial, trivial, trivial⟩
theorem sX5_trainFault_49 : JSeg (jm jdX5_trainFault) [(49, .aload_n 0, 0, 0), (50, .getfield 33, 5, 3), (53, .getfield 122, 0, 3), (56, .iload_n 3, 0, 0)] := ⟨by decide +kernel, trivial, fkX5_33, fkX5_122, trivial, trivial⟩
theorem sX5_trainFault_60 : JSeg (jm jdX5_trainFault) [(60, .iload_n 2, 0, 0)] := ⟨by decide +kernel, trivial, trivial⟩
theorem sX5_trainFault_64 : JSeg (jm jdX5_trainFault) [(64, .iconst 3, 0, 0)] := ⟨by decide +kernel, trivial, trivial⟩
theorem sX5_trainFault_66 : JSeg (jm jdX5_trainFault) [(66, .aload_n 0, 0, 0), (67, .getfield 33, 5, 3), (70, .iload_n 1, 0, 0), (71, .aload_n 0, 0, 0), (72, .getfield 33, 5, 3), (75, .iload_n 1, 0, 0)] := ⟨by decide +kernel, trivial, fkX5_33, trivial, trivial, fkX5_33, trivial, trivial⟩
theorem sX5_trainFault_85 : JSeg (jm jdX5_trainFault) [(85, .iconst 5, 0, 0), (86, .goto 4, 0, 0)] := ⟨by decide +kernel, trivial, trivial, trivial⟩
theorem sX5_trainFault_89 : JSeg (jm jdX5_trainFault) [(89, .iconst 0, 0, 0)] := ⟨by decide +kernel, trivial, trivial⟩
theorem dX5_trainFault_2 : decode cX5_trainFault 2 = .ok (.invokevirtual 79, 3) := by decide +kernel
theorem dX5_trainFault_5 : decode cX5_trainFault 5 = .ok (.ifCond .ne 5, 3) := by decide +kernel
theorem dX5_trainFault_9 : decode cX5_trainFault 9 = .ok (.ireturn, 1) := by decide +kernel
theorem dX5_trainFault_14 : decode cX5_trainFault 14 = .ok (.invokestatic 71, 3) := by decide +kernel
theorem dX5_trainFault_17 : decode cX5_trainFault 17 = .ok (.ifCond .ne 5, 3) := by decide +kernel
theorem dX5_trainFault_21 : decode cX5_trainFault 21 = .ok (.ireturn, 1) := by decide +kernel
theorem dX5_trainFault_35 : decode cX5_trainFault 35 = .ok (.invokevirtual 64, 3) := by decide +kernel
theorem dX5_trainFault_40 : decode cX5_trainFault 40 = .ok (.invokevirtual 119, 3) := by decide +kernel
theorem dX5_trainFault_46 : decode cX5_trainFault 46 = .ok (.if_icmp .eq 18, 3) := by decide +kernel
theorem dX5_trainFault_57 : decode cX5_trainFault 57 = .ok (.invokevirtual 64, 3) := by decide +kernel
theorem dX5_trainFault_61 : decode cX5_trainFault 61 = .ok (.if_icmp .eq 5, 3) := by decide +kernel
theorem dX5_trainFault_65 : decode cX5_trainFault 65 = .ok (.ireturn, 1) := by decide +kernel
theorem dX5_trainFault_76 : decode cX5_trainFault 76 = .ok (.invokevirtual 125, 3) := by decide +kernel
theorem dX5_trainFault_79 : decode cX5_trainFault 79 = .ok (.invokevirtual 103, 3) := by decide +kernel
theorem dX5_trainFault_82 : decode cX5_trainFault 82 = .ok (.ifCond .le 7, 3) := by decide +kernel
theorem dX5_trainFault_90 : decode cX5_trainFault 90 = .ok (.ireturn, 1) := by decide +kernel
theorem sX5_sendTrain_0 : JSeg (jm jdX5_sendTrain) [(0, .aload_n 0, 0, 0), (1, .getfield 33, 5, 3), (4, .iload_n 1, 0, 0)] := ⟨by decide +kernel, trivial, fkX5_33, trivial, trivial⟩
theorem sX5_sendTrain_8 : JSeg (jm jdX5_sendTrain) [(8, .istore_n 2, 0, 0), (9, .iconst 0, 0, 0), (10, .istore_n 3, 0, 0)] := ⟨by decide +kernel, trivial, trivial, trivial, trivial⟩
theorem sX5_sendTrain_11 : JSeg (jm jdX5_sendTrain) [(11, .iload_n 3, 0, 0), (12, .iload_n 2, 0, 0)] := ⟨by decide +kernel, trivial, trivial, trivial⟩
theorem sX5_sendTrain_16 : JSeg (jm jdX5_sendTrain) [(16, .aload_n 0, 0, 0), (17, .dup, 0, 0), (18, .getfield 58, 5, 7), (21, .aload_n 0, 0, 0), (22, .getfield 33, 5, 3), (25, .iload_n 1, 0, 0)] := ⟨by decide +kernel, trivial, trivial, fkX5_58, trivial, fkX5_33, trivial, trivial⟩
theorem sX5_sendTrain_29 : JSeg (jm jdX5_sendTrain) [(29, .i2l, 0, 0), (30, .ladd, 0, 0)] := ⟨by decide +kernel, trivial, trivial, trivial⟩
theorem sX5_sendTrain_34 : JSeg (jm jdX5_sendTrain) [(34, .iinc 3 1, 0, 0), (37, .goto (-26), 0, 0)] := ⟨by decide +kernel, trivial, trivial, trivial⟩
theorem sX5_sendTrain_40 : JSeg (jm jdX5_sendTrain) [(40, .aload_n 0, 0, 0), (41, .dup, 0, 0), (42, .getfield 55, 5, 6), (45, .iload_n 2, 0, 0), (46, .iadd, 0, 0), (47, .putfield 55, 5, 6), (50, .iload_n 2, 0, 0)] := ⟨by decide +kernel, trivial, trivial, fkX5_55, trivial, trivial, fpX5_55, trivial, trivial⟩
theorem dX5_sendTrain_5 : decode cX5_sendTrain 5 = .ok (.invokevirtual 125, 3) := by decide +kernel
theorem dX5_sendTrain_13 : decode cX5_sendTrain 13 = .ok (.if_icmp .ge 27, 3) := by decide +kernel
theorem dX5_sendTrain_26 : decode cX5_sendTrain 26 = .ok (.invokevirtual 128, 3) := by decide +kernel
theorem dX5_sendTrain_31 : decode cX5_sendTrain 31 = .ok (.putfield 58, 3) := by decide +kernel
theorem dX5_sendTrain_51 : decode cX5_sendTrain 51 = .ok (.ireturn, 1) := by decide +kernel
theorem sX5_nearestFor_0 : JSeg (jm jdX5_nearestFor) [(0, .iconst (-1), 0, 0), (1, .istore_n 2, 0, 0), (2, .iconst 0, 0, 0), (3, .istore_n 3, 0, 0), (4, .iconst 0, 0, 0), (5, .istore 4, 0, 0)] := ⟨by decide +kernel, trivial, trivial, trivial, trivial, trivial, trivial, trivial⟩
theorem sX5_nearestFor_7 : JSeg (jm jdX5_nearestFor) [(7, .iload 4, 0, 0), (9, .aload_n 0, 0, 0), (10, .getfield 26, 5, 2), (13, .getfield 61, 2, 0)] := ⟨by decide +kernel, trivial, trivial, fkX5_26, fkX5_61, trivial⟩
theorem sX5_nearestFor_19 : JSeg (jm jdX5_nearestFor) [(19, .aload_n 0, 0, 0), (20, .iload_n 1, 0, 0), (21, .iload 4, 0, 0), (23, .iconst 1, 0, 0)] := ⟨by decide +kernel, trivial, trivial, trivial, trivial, trivial⟩
theorem sX5_nearestFor_30 : JSeg (jm jdX5_nearestFor) [(30, .aload_n 0, 0, 0), (31, .iload_n 1, 0, 0), (32, .iload 4, 0, 0), (34, .iconst 1, 0, 0)] := ⟨by decide +kernel, trivial, trivial, trivial, trivial, trivial⟩
theorem sX5_nearestFor_38 : JSeg (jm jdX5_nearestFor) [(38, .istore 5, 0, 0), (40, .iload_n 2, 0, 0), (41, .iconst (-1), 0, 0)] := ⟨by decide +kernel, trivial, trivial, trivial, trivial⟩
theorem sX5_nearestFor_45 : JSeg (jm jdX5_nearestFor) [(45, .iload 5, 0, 0), (47, .iload_n 3, 0, 0)] := ⟨by decide +kernel, trivial, trivial, trivial⟩
theorem sX5_nearestFor_51 : JSeg (jm jdX5_nearestFor) [(51, .iload 5, 0, 0), (53, .iload_n 3, 0, 0)] := ⟨by decide +kernel, trivial, trivial, trivial⟩
theorem sX5_nearestFor_57 : JSeg (jm jdX5_nearestFor) [(57, .aload_n 0, 0, 0), (58, .iload 4, 0, 0)] := ⟨by decide +kernel, trivial, trivial, trivial⟩
theorem sX5_nearestFor_63 : JSeg (jm jdX5_nearestFor) [(63, .aload_n 0, 0, 0), (64, .iload_n 2, 0, 0)] := ⟨by decide +kernel, trivial, trivial, trivial⟩
theorem sX5_nearestFor_71 : JSeg (jm jdX5_nearestFor) [(71, .iload 4, 0, 0), (73, .istore_n 2, 0, 0), (74, .iload 5, 0, 0), (76, .istore_n 3, 0, 0)] := ⟨by decide +kernel, trivial, trivial, trivial, trivial, trivial⟩
theorem sX5_nearestFor_77 : JSeg (jm jdX5_nearestFor) [(77, .iinc 4 1, 0, 0), (80, .goto (-73), 0, 0)] := ⟨by decide +kernel, trivial, trivial, trivial⟩
theorem sX5_nearestFor_83 : JSeg (jm jdX5_nearestFor) [(83, .iload_n 2, 0, 0)] := ⟨by decide +kernel, trivial, trivial⟩
theorem dX5_nearestFor_16 : decode cX5_nearestFor 16 = .ok (.if_icmp .ge 67, 3) := by decide +kernel
theorem dX5_nearestFor_24 : decode cX5_nearestFor 24 = .ok (.invokevirtual 131, 3) := by decide +kernel
theorem dX5_nearestFor_27 : decode cX5_nearestFor 27 = .ok (.ifCond .ne 50, 3) := by decide +kernel
theorem dX5_nearestFor_35 : decode cX5_nearestFor 35 = .ok (.invokevirtual 106, 3) := by decide +kernel
theorem dX5_nearestFor_42 : decode cX5_nearestFor 42 = .ok (.if_icmp .eq 29, 3) := by decide +kernel
theorem dX5_nearestFor_48 : decode cX5_nearestFor 48 = .ok (.if_icmp .lt 23, 3) := by decide +kernel
theorem dX5_nearestFor_54 : decode cX5_nearestFor 54 = .ok (.if_icmp .ne 23, 3) := by decide +kernel
theorem dX5_nearestFor_60 : decode cX5_nearestFor 60 = .ok (.invokevirtual 90, 3) := by decide +kernel
theorem dX5_nearestFor_65 : decode cX5_nearestFor 65 = .ok (.invokevirtual 90, 3) := by decide +kernel
theorem dX5_nearestFor_68 : decode cX5_nearestFor 68 = .ok (.if_icmp .le 9, 3) := by decide +kernel
theorem dX5_nearestFor_84 : decode cX5_nearestFor 84 = .ok (.ireturn, 1) := by decide +kernel
theorem sX5_rankedTrack_0 : JSeg (jm jdX5_rankedTrack) [(0, .iconst 0, 0, 0), (1, .istore_n 2, 0, 0)] := ⟨by decide +kernel, trivial, trivial, trivial⟩
theorem sX5_rankedTrack_2 : JSeg (jm jdX5_rankedTrack) [(2, .iload_n 2, 0, 0), (3, .aload_n 0, 0, 0), (4, .getfield 26, 5, 2), (7, .getfield 61, 2, 0)] := ⟨by decide +kernel, trivial, trivial, fkX5_26, fkX5_61, trivial⟩
theorem sX5_rankedTrack_13 : JSeg (jm jdX5_rankedTrack) [(13, .aload_n 0, 0, 0), (14, .iload_n 2, 0, 0)] := ⟨by decide +kernel, trivial, trivial, trivial⟩
theorem sX5_rankedTrack_18 : JSeg (jm jdX5_rankedTrack) [(18, .iload_n 1, 0, 0)] := ⟨by decide +kernel, trivial, trivial⟩
theorem sX5_rankedTrack_22 : JSeg (jm jdX5_rankedTrack) [(22, .iload_n 2, 0, 0)] := ⟨by decide +kernel, trivial, trivial⟩
theorem sX5_rankedTrack_24 : JSeg (jm jdX5_rankedTrack) [(24, .iinc 2 1, 0, 0), (27, .goto (-25), 0, 0)] := ⟨by decide +kernel, trivial, trivial, trivial⟩
theorem sX5_rankedTrack_30 : JSeg (jm jdX5_rankedTrack) [(30, .iconst (-1), 0, 0)] := ⟨by decide +kernel, trivial, trivial⟩
theorem dX5_rankedTrack_10 : decode cX5_rankedTrack 10 = .ok (.if_icmp .ge 20, 3) := by decide +kernel
theorem dX5_rankedTrack_15 : decode cX5_rankedTrack 15 = .ok (.invokevirtual 134, 3) := by decide +kernel
theorem dX5_rankedTrack_19 : decode cX5_rankedTrack 19 = .ok (.if_icmp .ne 5, 3) := by decide +kernel
theorem dX5_rankedTrack_23 : decode cX5_rankedTrack 23 = .ok (.ireturn, 1) := by decide +kernel
theorem dX5_rankedTrack_31 : decode cX5_rankedTrack 31 = .ok (.ireturn, 1) := by decide +kernel
theorem sX5_rankOf_0 : JSeg (jm jdX5_rankOf) [(0, .iconst 0, 0, 0), (1, .istore_n 2, 0, 0), (2, .iconst 0, 0, 0), (3, .istore_n 3, 0, 0)] := ⟨by decide +kernel, trivial, trivial, trivial, trivial, trivial⟩
theorem sX5_rankOf_4 : JSeg (jm jdX5_rankOf) [(4, .iload_n 3, 0, 0), (5, .aload_n 0, 0, 0), (6, .getfield 26, 5, 2), (9, .getfield 61, 2, 0)] := ⟨by decide +kernel, trivial, trivial, fkX5_26, fkX5_61, trivial⟩
theorem sX5_rankOf_15 : JSeg (jm jdX5_rankOf) [(15, .aload_n 0, 0, 0), (16, .iload_n 3, 0, 0), (17, .iload_n 1, 0, 0)] := ⟨by decide +kernel, trivial, trivial, trivial, trivial⟩
theorem sX5_rankOf_24 : JSeg (jm jdX5_rankOf) [(24, .iinc 2 1, 0, 0)] := ⟨by decide +kernel, trivial, trivial⟩
theorem sX5_rankOf_27 : JSeg (jm jdX5_rankOf) [(27, .iinc 3 1, 0, 0), (30, .goto (-26), 0, 0)] := ⟨by decide +kernel, trivial, trivial, trivial⟩
theorem sX5_rankOf_33 : JSeg (jm jdX5_rankOf) [(33, .iload_n 2, 0, 0)] := ⟨by decide +kernel, trivial, trivial⟩
theorem dX5_rankOf_12 : decode cX5_rankOf 12 = .ok (.if_icmp .ge 21, 3) := by decide +kernel
theorem dX5_rankOf_18 : decode cX5_rankOf 18 = .ok (.invokevirtual 137, 3) := by decide +kernel
theorem dX5_rankOf_21 : decode cX5_rankOf 21 = .ok (.ifCond .eq 6, 3) := by decide +kernel
theorem dX5_rankOf_34 : decode cX5_rankOf 34 = .ok (.ireturn, 1) := by decide +kernel
theorem sX5_ranksBefore_0 : JSeg (jm jdX5_ranksBefore) [(0, .aload_n 0, 0, 0), (1, .iload_n 1, 0, 0)] := ⟨by decide +kernel, trivial, trivial, trivial⟩
theorem sX5_ranksBefore_5 : JSeg (jm jdX5_ranksBefore) [(5, .aload_n 0, 0, 0), (6, .iload_n 2, 0, 0)] := ⟨by decide +kernel, trivial, trivial, trivial⟩
theorem sX5_ranksBefore_13 : JSeg (jm jdX5_ranksBefore) [(13, .aload_n 0, 0, 0), (14, .iload_n 1, 0, 0)] := ⟨by decide +kernel, trivial, trivial, trivial⟩
theorem sX5_ranksBefore_18 : JSeg (jm jdX5_ranksBefore) [(18, .aload_n 0, 0, 0), (19, .iload_n 2, 0, 0)] := ⟨by decide +kernel, trivial, trivial, trivial⟩
theorem sX5_ranksBefore_26 : JSeg (jm jdX5_ranksBefore) [(26, .iconst 1, 0, 0), (27, .goto 4, 0, 0)] := ⟨by decide +kernel, trivial, trivial, trivial⟩
theorem sX5_ranksBefore_30 : JSeg (jm jdX5_ranksBefore) [(30, .iconst 0, 0, 0)] := ⟨by decide +kernel, trivial, trivial⟩
theorem sX5_ranksBefore_32 : JSeg (jm jdX5_ranksBefore) [(32, .aload_n 0, 0, 0), (33, .getfield 20, 5, 1), (36, .iload_n 1, 0, 0)] := ⟨by decide +kernel, trivial, fkX5_20, trivial, trivial⟩
theorem sX5_ranksBefore_40 : JSeg (jm jdX5_ranksBefore) [(40, .aload_n 0, 0, 0), (41, .getfield 20, 5, 1), (44, .iload_n 2, 0, 0)] := ⟨by decide +kernel, trivial, fkX5_20, trivial, trivial⟩
theorem sX5_ranksBefore_51 : JSeg (jm jdX5_ranksBefore) [(51, .aload_n 0, 0, 0), (52, .getfield 20, 5, 1), (55, .iload_n 1, 0, 0)] := ⟨by decide +kernel, trivial, fkX5_20, trivial, trivial⟩
theorem sX5_ranksBefore_59 : JSeg (jm jdX5_ranksBefore) [(59, .aload_n 0, 0, 0), (60, .getfield 20, 5, 1), (63, .iload_n 2, 0, 0)] := ⟨by decide +kernel, trivial, fkX5_20, trivial, trivial⟩
theorem sX5_ranksBefore_70 : JSeg (jm jdX5_ranksBefore) [(70, .iconst 1, 0, 0), (71, .goto 4, 0, 0)] := ⟨by decide +kernel, trivial, trivial, trivial⟩
theorem sX5_ranksBefore_74 : JSeg (jm jdX5_ranksBefore) [(74, .iconst 0, 0, 0)] := ⟨by decide +kernel, trivial, trivial⟩
theorem sX5_ranksBefore_76 : JSeg (jm jdX5_ranksBefore) [(76, .iload_n 1, 0, 0), (77, .iload_n 2, 0, 0)] := ⟨by decide +kernel, trivial, trivial, trivial⟩
theorem sX5_ranksBefore_81 : JSeg (jm jdX5_ranksBefore) [(81, .iconst 1, 0, 0), (82, .goto 4, 0, 0)] := ⟨by decide +kernel, trivial, trivial, trivial⟩
theorem sX5_ranksBefore_85 : JSeg (jm jdX5_ranksBefore) [(85, .iconst 0, 0, 0)] := ⟨by decide +kernel, trivial, trivial⟩
theorem dX5_ranksBefore_2 : decode cX5_ranksBefore 2 = .ok (.invokevirtual 90, 3) := by decide +kernel
theorem dX5_ranksBefore_7 : decode cX5_ranksBefore 7 = .ok (.invokevirtual 90, 3) := by decide +kernel
theorem dX5_ranksBefore_10 : decode cX5_ranksBefore 10 = .ok (.if_icmp .eq 22, 3) := by decide +kernel
theorem dX5_ranksBefore_15 : decode cX5_ranksBefore 15 = .ok (.invokevirtual 90, 3) := by decide +kernel
theorem dX5_ranksBefore_20 : decode cX5_ranksBefore 20 = .ok (.invokevirtual 90, 3) := by decide +kernel
theorem dX5_ranksBefore_23 : decode cX5_ranksBefore 23 = .ok (.if_icmp .le 7, 3) := by decide +kernel
theorem dX5_ranksBefore_31 : decode cX5_ranksBefore 31 = .ok (.ireturn, 1) := by decide +kernel
theorem dX5_ranksBefore_37 : decode cX5_ranksBefore 37 = .ok (.invokevirtual 64, 3) := by decide +kernel
theorem dX5_ranksBefore_45 : decode cX5_ranksBefore 45 = .ok (.invokevirtual 64, 3) := by decide +kernel
theorem dX5_ranksBefore_48 : decode cX5_ranksBefore 48 = .ok (.if_icmp .eq 28, 3) := by decide +kernel
theorem dX5_ranksBefore_56 : decode cX5_ranksBefore 56 = .ok (.invokevirtual 64, 3) := by decide +kernel
theorem dX5_ranksBefore_64 : decode cX5_ranksBefore 64 = .ok (.invokevirtual 64, 3) := by decide +kernel
theorem dX5_ranksBefore_67 : decode cX5_ranksBefore 67 = .ok (.if_icmp .ge 7, 3) := by decide +kernel
theorem dX5_ranksBefore_75 : decode cX5_ranksBefore 75 = .ok (.ireturn, 1) := by decide +kernel
theorem dX5_ranksBefore_78 : decode cX5_ranksBefore 78 = .ok (.if_icmp .ge 7, 3) := by decide +kernel
theorem dX5_ranksBefore_86 : decode cX5_ranksBefore 86 = .ok (.ireturn, 1) := by decide +kernel
theorem sX5_capacityOfAll_0 : JSeg (jm jdX5_capacityOfAll) [(0, .iconst 0, 0, 0), (1, .istore_n 1, 0, 0), (2, .iconst 0, 0, 0), (3, .istore_n 2, 0, 0)] := ⟨by decide +kernel, trivial, trivial, trivial, trivial, trivial⟩
theorem sX5_capacityOfAll_4 : JSeg (jm jdX5_capacityOfAll) [(4, .iload_n 2, 0, 0), (5, .aload_n 0, 0, 0), (6, .getfield 26, 5, 2), (9, .getfield 61, 2, 0)] := ⟨by decide +kernel, trivial, trivial, fkX5_26, fkX5_61, trivial⟩
theorem sX5_capacityOfAll_15 : JSeg (jm jdX5_capacityOfAll) [(15, .iload_n 1, 0, 0), (16, .aload_n 0, 0, 0), (17, .getfield 14, 5, 0), (20, .iload_n 2, 0, 0)] := ⟨by decide +kernel, trivial, trivial, fkX5_14, trivial, trivial⟩
theorem sX5_capacityOfAll_24 : JSeg (jm jdX5_capacityOfAll) [(24, .iadd, 0, 0), (25, .istore_n 1, 0, 0), (26, .iinc 2 1, 0, 0), (29, .goto (-25), 0, 0)] := ⟨by decide +kernel, trivial, trivial, trivial, trivial, trivial⟩
theorem sX5_capacityOfAll_32 : JSeg (jm jdX5_capacityOfAll) [(32, .iload_n 1, 0, 0)] := ⟨by decide +kernel, trivial, trivial⟩
theorem dX5_capacityOfAll_12 : decode cX5_capacityOfAll 12 = .ok (.if_icmp .ge 20, 3) := by decide +kernel
theorem dX5_capacityOfAll_21 : decode cX5_capacityOfAll 21 = .ok (.invokevirtual 64, 3) := by decide +kernel
theorem dX5_capacityOfAll_33 : decode cX5_capacityOfAll 33 = .ok (.ireturn, 1) := by decide +kernel
theorem sX5_usedOfAll_0 : JSeg (jm jdX5_usedOfAll) [(0, .iconst 0, 0, 0), (1, .istore_n 1, 0, 0), (2, .iconst 0, 0, 0), (3, .istore_n 2, 0, 0)] := ⟨by decide +kernel, trivial, trivial, trivial, trivial, trivial⟩
theorem sX5_usedOfAll_4 : JSeg (jm jdX5_usedOfAll) [(4, .iload_n 2, 0, 0), (5, .aload_n 0, 0, 0), (6, .getfield 26, 5, 2), (9, .getfield 61, 2, 0)] := ⟨by decide +kernel, trivial, trivial, fkX5_26, fkX5_61, trivial⟩
theorem sX5_usedOfAll_15 : JSeg (jm jdX5_usedOfAll) [(15, .iload_n 1, 0, 0), (16, .aload_n 0, 0, 0), (17, .getfield 33, 5, 3), (20, .getfield 68, 0, 10), (23, .iload_n 2, 0, 0)] := ⟨by decide +kernel, trivial, trivial, fkX5_33, fkX5_68, trivial, trivial⟩
theorem sX5_usedOfAll_27 : JSeg (jm jdX5_usedOfAll) [(27, .iadd, 0, 0), (28, .istore_n 1, 0, 0), (29, .iinc 2 1, 0, 0), (32, .goto (-28), 0, 0)] := ⟨by decide +kernel, trivial, trivial, trivial, trivial, trivial⟩
theorem sX5_usedOfAll_35 : JSeg (jm jdX5_usedOfAll) [(35, .iload_n 1, 0, 0)] := ⟨by decide +kernel, trivial, trivial⟩
theorem dX5_usedOfAll_12 : decode cX5_usedOfAll 12 = .ok (.if_icmp .ge 23, 3) := by decide +kernel
theorem dX5_usedOfAll_24 : decode cX5_usedOfAll 24 = .ok (.invokevirtual 64, 3) := by decide +kernel
theorem dX5_usedOfAll_36 : decode cX5_usedOfAll 36 = .ok (.ireturn, 1) := by decide +kernel
theorem sX5_tracksAreSound_0 : JSeg (jm jdX5_tracksAreSound) [(0, .iconst 0, 0, 0), (1, .istore_n 1, 0, 0)] := ⟨by decide +kernel, trivial, trivial, trivial⟩
theorem sX5_tracksAreSound_2 : JSeg (jm jdX5_tracksAreSound) [(2, .iload_n 1, 0, 0), (3, .aload_n 0, 0, 0), (4, .getfield 26, 5, 2), (7, .getfield 61, 2, 0)] := ⟨by decide +kernel, trivial, trivial, fkX5_26, fkX5_61, trivial⟩
theorem sX5_tracksAreSound_13 : JSeg (jm jdX5_tracksAreSound) [(13, .aload_n 0, 0, 0), (14, .getfield 33, 5, 3), (17, .iload_n 1, 0, 0)] := ⟨by decide +kernel, trivial, fkX5_33, trivial, trivial⟩
theorem sX5_tracksAreSound_21 : JSeg (jm jdX5_tracksAreSound) [(21, .istore_n 2, 0, 0), (22, .iload_n 2, 0, 0), (23, .aload_n 0, 0, 0), (24, .getfield 33, 5, 3), (27, .iload_n 1, 0, 0)] := ⟨by decide +kernel, trivial, trivial, trivial, fkX5_33, trivial, trivial⟩
theorem sX5_tracksAreSound_34 : JSeg (jm jdX5_tracksAreSound) [(34, .aload_n 0, 0, 0), (35, .getfield 33, 5, 3), (38, .iload_n 1, 0, 0)] := ⟨by decide +kernel, trivial, fkX5_33, trivial, trivial⟩
theorem sX5_tracksAreSound_42 : JSeg (jm jdX5_tracksAreSound) [(42, .iload_n 2, 0, 0)] := ⟨by decide +kernel, trivial, trivial⟩
theorem sX5_tracksAreSound_46 : JSeg (jm jdX5_tracksAreSound) [(46, .iconst 1, 0, 0), (47, .goto 4, 0, 0)] := ⟨by decide +kernel, trivial, trivial, trivial⟩
theorem sX5_tracksAreSound_50 : JSeg (jm jdX5_tracksAreSound) [(50, .iconst 0, 0, 0)] := ⟨by decide +kernel, trivial, trivial⟩
theorem sX5_tracksAreSound_54 : JSeg (jm jdX5_tracksAreSound) [(54, .aload_n 0, 0, 0), (55, .getfield 33, 5, 3), (58, .getfield 68, 0, 10), (61, .iload_n 1, 0, 0)] := ⟨by decide +kernel, trivial, fkX5_33, fkX5_68, trivial, trivial⟩
theorem sX5_tracksAreSound_65 : JSeg (jm jdX5_tracksAreSound) [(65, .aload_n 0, 0, 0), (66, .getfield 14, 5, 0), (69, .iload_n 1, 0, 0)] := ⟨by decide +kernel, trivial, fkX5_14, trivial, trivial⟩
theorem sX5_tracksAreSound_76 : JSeg (jm jdX5_tracksAreSound) [(76, .iconst 0, 0, 0)] := ⟨by decide +kernel, trivial, trivial⟩
theorem sX5_tracksAreSound_78 : JSeg (jm jdX5_tracksAreSound) [(78, .iinc 1 1, 0, 0), (81, .goto (-79), 0, 0)] := ⟨by decide +kernel, trivial, trivial, trivial⟩
theorem sX5_tracksAreSound_84 : JSeg (jm jdX5_tracksAreSound) [(84, .iconst 1, 0, 0)] := ⟨by decide +kernel, trivial, trivial⟩
theorem dX5_tracksAreSound_10 : decode cX5_tracksAreSound 10 = .ok (.if_icmp .ge 74, 3) := by decide +kernel
theorem dX5_tracksAreSound_18 : decode cX5_tracksAreSound 18 = .ok (.invokevirtual 140, 3) := by decide +kernel
theorem dX5_tracksAreSound_28 : decode cX5_tracksAreSound 28 = .ok (.invokevirtual 143, 3) := by decide +kernel
theorem dX5_tracksAreSound_31 : decode cX5_tracksAreSound 31 = .ok (.if_icmp .ne 45, 3) := by decide +kernel
theorem dX5_tracksAreSound_39 : decode cX5_tracksAreSound 39 = .ok (.invokevirtual 146, 3) := by decide +kernel
theorem dX5_tracksAreSound_43 : decode cX5_tracksAreSound 43 = .ok (.ifCond .ne 7, 3) := by decide +kernel
theorem dX5_tracksAreSound_51 : decode cX5_tracksAreSound 51 = .ok (.if_icmp .ne 25, 3) := by decide +kernel
theorem dX5_tracksAreSound_62 : decode cX5_tracksAreSound 62 = .ok (.invokevirtual 64, 3) := by decide +kernel
theorem dX5_tracksAreSound_70 : decode cX5_tracksAreSound 70 = .ok (.invokevirtual 64, 3) := by decide +kernel
theorem dX5_tracksAreSound_73 : decode cX5_tracksAreSound 73 = .ok (.if_icmp .le 5, 3) := by decide +kernel
theorem dX5_tracksAreSound_77 : decode cX5_tracksAreSound 77 = .ok (.ireturn, 1) := by decide +kernel
theorem dX5_tracksAreSound_85 : decode cX5_tracksAreSound 85 = .ok (.ireturn, 1) := by decide +kernel
