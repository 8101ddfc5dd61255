theorem sX1_init_0 : JSeg (jm jdX1_init) [(0, .aload_n 0, 0, 0)] := ⟨by decide +kernel, trivial, trivial⟩
theorem sX1_init_4 : JSeg (jm jdX1_init) [(4, .aload_n 0, 0, 0), (5, .bipush 8, 0, 0)] := ⟨by decide +kernel, trivial, trivial, trivial⟩
theorem sX1_init_13 : JSeg (jm jdX1_init) [(13, .aload_n 0, 0, 0)] := ⟨by decide +kernel, trivial, trivial⟩
theorem sX1_init_17 : JSeg (jm jdX1_init) [(17, .dup, 0, 0)] := ⟨by decide +kernel, trivial, trivial⟩
theorem sX1_init_24 : JSeg (jm jdX1_init) [(24, .iconst 0, 0, 0), (25, .istore_n 1, 0, 0)] := ⟨by decide +kernel, trivial, trivial, trivial⟩
theorem sX1_init_26 : JSeg (jm jdX1_init) [(26, .iload_n 1, 0, 0), (27, .aload_n 0, 0, 0), (28, .getfield 11, 1, 0), (31, .arraylength, 0, 0)] := ⟨by decide +kernel, trivial, trivial, fkX1_11, trivial, trivial⟩
theorem sX1_init_35 : JSeg (jm jdX1_init) [(35, .aload_n 0, 0, 0), (36, .getfield 11, 1, 0), (39, .iload_n 1, 0, 0)] := ⟨by decide +kernel, trivial, fkX1_11, trivial, trivial⟩
theorem sX1_init_43 : JSeg (jm jdX1_init) [(43, .dup, 0, 0)] := ⟨by decide +kernel, trivial, trivial⟩
theorem sX1_init_48 : JSeg (jm jdX1_init) [(48, .iinc 1 1, 0, 0), (51, .goto (-25), 0, 0)] := ⟨by decide +kernel, trivial, trivial, trivial⟩
theorem dX1_init_1 : decode cX1_init 1 = .ok (.invokespecial 3, 3) := by decide +kernel
theorem dX1_init_7 : decode cX1_init 7 = .ok (.anewarray 9, 3) := by decide +kernel
theorem dX1_init_10 : decode cX1_init 10 = .ok (.putfield 11, 3) := by decide +kernel
theorem dX1_init_14 : decode cX1_init 14 = .ok (.new 9, 3) := by decide +kernel
theorem dX1_init_18 : decode cX1_init 18 = .ok (.invokespecial 17, 3) := by decide +kernel
theorem dX1_init_21 : decode cX1_init 21 = .ok (.putfield 18, 3) := by decide +kernel
theorem dX1_init_32 : decode cX1_init 32 = .ok (.if_icmp .ge 22, 3) := by decide +kernel
theorem dX1_init_40 : decode cX1_init 40 = .ok (.new 9, 3) := by decide +kernel
theorem dX1_init_44 : decode cX1_init 44 = .ok (.invokespecial 17, 3) := by decide +kernel
theorem dX1_init_47 : decode cX1_init 47 = .ok (.aastore, 1) := by decide +kernel
theorem dX1_init_54 : decode cX1_init 54 = .ok (.return_, 1) := by decide +kernel
theorem fpX1_22 : FP0 RX1 22 1 1 := ⟨_, _, _, _, ci_X1, by decide, bw_of 188 (by decide +kernel) (by decide +kernel), rfl, rfl⟩
theorem fpX1_34 : FP0 RX1 34 1 2 := ⟨_, _, _, _, ci_X1, by decide, bw_of 189 (by decide +kernel) (by decide +kernel), rfl, rfl⟩
theorem sX1_remember_0 : JSeg (jm jdX1_remember) [(0, .aload_n 0, 0, 0), (1, .aload_n 0, 0, 0), (2, .getfield 22, 1, 1)] := ⟨by decide +kernel, trivial, trivial, fkX1_22, trivial⟩
theorem sX1_remember_8 : JSeg (jm jdX1_remember) [(8, .astore_n 2, 0, 0), (9, .aload_n 2, 0, 0)] := ⟨by decide +kernel, trivial, trivial, trivial⟩
theorem sX1_remember_13 : JSeg (jm jdX1_remember) [(13, .aload_n 2, 0, 0), (14, .aload_n 1, 0, 0)] := ⟨by decide +kernel, trivial, trivial, trivial⟩
theorem sX1_remember_18 : JSeg (jm jdX1_remember) [(18, .aload_n 0, 0, 0), (19, .aload_n 0, 0, 0), (20, .getfield 22, 1, 1), (23, .bipush 7, 0, 0)] := ⟨by decide +kernel, trivial, trivial, fkX1_22, trivial, trivial⟩
theorem sX1_remember_28 : JSeg (jm jdX1_remember) [(28, .aload_n 0, 0, 0), (29, .getfield 22, 1, 1), (32, .iconst 1, 0, 0), (33, .iadd, 0, 0), (34, .goto 4, 0, 0)] := ⟨by decide +kernel, trivial, fkX1_22, trivial, trivial, trivial, trivial⟩
theorem sX1_remember_37 : JSeg (jm jdX1_remember) [(37, .iconst 0, 0, 0)] := ⟨by decide +kernel, trivial, trivial⟩
theorem sX1_remember_38 : JSeg (jm jdX1_remember) [(38, .putfield 22, 1, 1), (41, .aload_n 0, 0, 0), (42, .bipush 8, 0, 0), (44, .aload_n 0, 0, 0), (45, .getfield 34, 1, 2), (48, .iconst 1, 0, 0), (49, .iadd, 0, 0)] := ⟨by decide +kernel, fpX1_22, trivial, trivial, trivial, fkX1_34, trivial, trivial, trivial⟩
theorem sX1_remember_53 : JSeg (jm jdX1_remember) [(53, .putfield 34, 1, 2)] := ⟨by decide +kernel, fpX1_34, trivial⟩
theorem dX1_remember_5 : decode cX1_remember 5 = .ok (.invokevirtual 26, 3) := by decide +kernel
theorem dX1_remember_10 : decode cX1_remember 10 = .ok (.ifnull 8, 3) := by decide +kernel
theorem dX1_remember_15 : decode cX1_remember 15 = .ok (.invokevirtual 30, 3) := by decide +kernel
theorem dX1_remember_25 : decode cX1_remember 25 = .ok (.if_icmp .ge 12, 3) := by decide +kernel
theorem dX1_remember_50 : decode cX1_remember 50 = .ok (.invokestatic 37, 3) := by decide +kernel
theorem dX1_remember_56 : decode cX1_remember 56 = .ok (.return_, 1) := by decide +kernel
theorem sX1_takeLatest_0 : JSeg (jm jdX1_takeLatest) [(0, .aload_n 0, 0, 0), (1, .aload_n 0, 0, 0), (2, .getfield 22, 1, 1)] := ⟨by decide +kernel, trivial, trivial, fkX1_22, trivial⟩
theorem sX1_takeLatest_8 : JSeg (jm jdX1_takeLatest) [(8, .aload_n 0, 0, 0), (9, .getfield 22, 1, 1), (12, .iconst 1, 0, 0), (13, .isub, 0, 0), (14, .goto 5, 0, 0)] := ⟨by decide +kernel, trivial, fkX1_22, trivial, trivial, trivial, trivial⟩
theorem sX1_takeLatest_17 : JSeg (jm jdX1_takeLatest) [(17, .bipush 7, 0, 0)] := ⟨by decide +kernel, trivial, trivial⟩
theorem sX1_takeLatest_19 : JSeg (jm jdX1_takeLatest) [(19, .putfield 22, 1, 1), (22, .aload_n 0, 0, 0), (23, .dup, 0, 0), (24, .getfield 34, 1, 2), (27, .iconst 1, 0, 0), (28, .isub, 0, 0), (29, .putfield 34, 1, 2), (32, .aload_n 0, 0, 0), (33, .aload_n 0, 0, 0), (34, .getfield 22, 1, 1)] := ⟨by decide +kernel, fpX1_22, trivial, trivial, fkX1_34, trivial, trivial, fpX1_34, trivial, trivial, fkX1_22, trivial⟩
theorem dX1_takeLatest_5 : decode cX1_takeLatest 5 = .ok (.ifCond .le 12, 3) := by decide +kernel
theorem dX1_takeLatest_37 : decode cX1_takeLatest 37 = .ok (.invokevirtual 26, 3) := by decide +kernel
theorem dX1_takeLatest_40 : decode cX1_takeLatest 40 = .ok (.areturn, 1) := by decide +kernel
theorem sX1_keep_0 : JSeg (jm jdX1_keep) [(0, .aload_n 0, 0, 0), (1, .getfield 18, 1, 3), (4, .aload_n 1, 0, 0)] := ⟨by decide +kernel, trivial, fkX1_18, trivial, trivial⟩
theorem sX1_keep_8 : JSeg (jm jdX1_keep) [(8, .aload_n 0, 0, 0), (9, .iconst 1, 0, 0)] := ⟨by decide +kernel, trivial, trivial, trivial⟩
theorem dX1_keep_5 : decode cX1_keep 5 = .ok (.invokevirtual 30, 3) := by decide +kernel
theorem dX1_keep_10 : decode cX1_keep 10 = .ok (.putfield 43, 3) := by decide +kernel
theorem dX1_keep_13 : decode cX1_keep 13 = .ok (.return_, 1) := by decide +kernel
theorem sX1_pastAt_0 : JSeg (jm jdX1_pastAt) [(0, .iload_n 1, 0, 0)] := ⟨by decide +kernel, trivial, trivial⟩
theorem sX1_pastAt_4 : JSeg (jm jdX1_pastAt) [(4, .iload_n 1, 0, 0), (5, .aload_n 0, 0, 0), (6, .getfield 11, 1, 0), (9, .arraylength, 0, 0)] := ⟨by decide +kernel, trivial, trivial, fkX1_11, trivial, trivial⟩
theorem sX1_pastAt_13 : JSeg (jm jdX1_pastAt) [(13, .aload_n 0, 0, 0), (14, .getfield 11, 1, 0), (17, .iload_n 1, 0, 0)] := ⟨by decide +kernel, trivial, fkX1_11, trivial, trivial⟩
theorem sX1_pastAt_19 : JSeg (jm jdX1_pastAt) [(19, .goto 4, 0, 0)] := ⟨by decide +kernel, trivial, trivial⟩
theorem sX1_pastAt_22 : JSeg (jm jdX1_pastAt) [(22, .aconst_null, 0, 0)] := ⟨by decide +kernel, trivial, trivial⟩
theorem dX1_pastAt_1 : decode cX1_pastAt 1 = .ok (.ifCond .lt 21, 3) := by decide +kernel
theorem dX1_pastAt_10 : decode cX1_pastAt 10 = .ok (.if_icmp .ge 12, 3) := by decide +kernel
theorem dX1_pastAt_18 : decode cX1_pastAt 18 = .ok (.aaload, 1) := by decide +kernel
theorem dX1_pastAt_23 : decode cX1_pastAt 23 = .ok (.areturn, 1) := by decide +kernel
theorem sX3_init_0 : JSeg (jm jdX3_init) [(0, .aload_n 0, 0, 0)] := ⟨by decide +kernel, trivial, trivial⟩
theorem sX3_init_4 : JSeg (jm jdX3_init) [(4, .aload_n 0, 0, 0), (5, .bipush 60, 0, 0)] := ⟨by decide +kernel, trivial, trivial, trivial⟩
theorem sX3_init_12 : JSeg (jm jdX3_init) [(12, .aload_n 0, 0, 0)] := ⟨by decide +kernel, trivial, trivial⟩
theorem sX3_init_16 : JSeg (jm jdX3_init) [(16, .dup, 0, 0), (17, .bipush 8, 0, 0)] := ⟨by decide +kernel, trivial, trivial, trivial⟩
theorem sX3_init_25 : JSeg (jm jdX3_init) [(25, .aload_n 0, 0, 0)] := ⟨by decide +kernel, trivial, trivial⟩
theorem sX3_init_29 : JSeg (jm jdX3_init) [(29, .dup, 0, 0), (30, .bipush 40, 0, 0)] := ⟨by decide +kernel, trivial, trivial, trivial⟩
theorem dX3_init_1 : decode cX3_init 1 = .ok (.invokespecial 3, 3) := by decide +kernel
theorem dX3_init_7 : decode cX3_init 7 = .ok (.newarray .char, 2) := by decide +kernel
theorem dX3_init_9 : decode cX3_init 9 = .ok (.putfield 9, 3) := by decide +kernel
theorem dX3_init_13 : decode cX3_init 13 = .ok (.new 15, 3) := by decide +kernel
theorem dX3_init_19 : decode cX3_init 19 = .ok (.invokespecial 17, 3) := by decide +kernel
theorem dX3_init_22 : decode cX3_init 22 = .ok (.putfield 20, 3) := by decide +kernel
theorem dX3_init_26 : decode cX3_init 26 = .ok (.new 15, 3) := by decide +kernel
theorem dX3_init_32 : decode cX3_init 32 = .ok (.invokespecial 17, 3) := by decide +kernel
theorem dX3_init_35 : decode cX3_init 35 = .ok (.putfield 24, 3) := by decide +kernel
theorem dX3_init_38 : decode cX3_init 38 = .ok (.return_, 1) := by decide +kernel
theorem fpX3_27 : FP0 RX3 27 3 1 := ⟨_, _, _, _, ci_X3, by decide, bw_of 215 (by decide +kernel) (by decide +kernel), rfl, rfl⟩
theorem sX3_add_0 : JSeg (jm jdX3_add) [(0, .aload_n 0, 0, 0), (1, .getfield 27, 3, 1)] := ⟨by decide +kernel, trivial, fkX3_27, trivial⟩
theorem sX3_add_7 : JSeg (jm jdX3_add) [(7, .aload_n 0, 0, 0), (8, .getfield 27, 3, 1), (11, .aload_n 0, 0, 0), (12, .getfield 9, 3, 0), (15, .arraylength, 0, 0)] := ⟨by decide +kernel, trivial, fkX3_27, trivial, fkX3_9, trivial, trivial⟩
theorem sX3_add_19 : JSeg (jm jdX3_add) [(19, .aload_n 0, 0, 0), (20, .getfield 9, 3, 0), (23, .aload_n 0, 0, 0), (24, .getfield 27, 3, 1), (27, .iload_n 1, 0, 0)] := ⟨by decide +kernel, trivial, fkX3_9, trivial, fkX3_27, trivial, trivial⟩
theorem sX3_add_29 : JSeg (jm jdX3_add) [(29, .aload_n 0, 0, 0), (30, .dup, 0, 0), (31, .getfield 27, 3, 1), (34, .iconst 1, 0, 0), (35, .iadd, 0, 0), (36, .putfield 27, 3, 1)] := ⟨by decide +kernel, trivial, trivial, fkX3_27, trivial, trivial, fpX3_27, trivial⟩
theorem sX3_add_39 : JSeg (jm jdX3_add) [(39, .aload_n 0, 0, 0), (40, .getfield 27, 3, 1)] := ⟨by decide +kernel, trivial, fkX3_27, trivial⟩
theorem dX3_add_4 : decode cX3_add 4 = .ok (.ifCond .lt 35, 3) := by decide +kernel
theorem dX3_add_16 : decode cX3_add 16 = .ok (.if_icmp .ge 23, 3) := by decide +kernel
theorem dX3_add_28 : decode cX3_add 28 = .ok (.castore, 1) := by decide +kernel
theorem dX3_add_43 : decode cX3_add 43 = .ok (.ireturn, 1) := by decide +kernel
theorem sX3_clear_0 : JSeg (jm jdX3_clear) [(0, .aload_n 0, 0, 0), (1, .iconst 0, 0, 0), (2, .putfield 27, 3, 1)] := ⟨by decide +kernel, trivial, trivial, fpX3_27, trivial⟩
theorem dX3_clear_5 : decode cX3_clear 5 = .ok (.return_, 1) := by decide +kernel
theorem sX3_value_0 : JSeg (jm jdX3_value) [(0, .aload_n 0, 0, 0), (1, .getfield 24, 3, 4), (4, .iload_n 1, 0, 0), (5, .iconst 5, 0, 0), (6, .imul, 0, 0), (7, .iload_n 2, 0, 0), (8, .iadd, 0, 0)] := ⟨by decide +kernel, trivial, fkX3_24, trivial, trivial, trivial, trivial, trivial, trivial⟩
theorem dX3_value_9 : decode cX3_value 9 = .ok (.invokevirtual 31, 3) := by decide +kernel
theorem dX3_value_12 : decode cX3_value 12 = .ok (.ireturn, 1) := by decide +kernel
theorem fpX3_35 : FP0 RX3 35 3 5 := ⟨_, _, _, _, ci_X3, by decide, bw_of 222 (by decide +kernel) (by decide +kernel), rfl, rfl⟩
theorem fpX3_38 : FP0 RX3 38 3 2 := ⟨_, _, _, _, ci_X3, by decide, bw_of 217 (by decide +kernel) (by decide +kernel), rfl, rfl⟩
theorem sX3_parse_0 : JSeg (jm jdX3_parse) [(0, .aload_n 0, 0, 0), (1, .iconst 0, 0, 0), (2, .putfield 35, 3, 5), (5, .aload_n 0, 0, 0), (6, .iconst 0, 0, 0), (7, .putfield 38, 3, 2), (10, .iconst 0, 0, 0), (11, .istore_n 1, 0, 0)] := ⟨by decide +kernel, trivial, trivial, fpX3_35, trivial, trivial, fpX3_38, trivial, trivial, trivial⟩
theorem sX3_parse_12 : JSeg (jm jdX3_parse) [(12, .iload_n 1, 0, 0), (13, .bipush 60, 0, 0)] := ⟨by decide +kernel, trivial, trivial, trivial⟩
theorem sX3_parse_18 : JSeg (jm jdX3_parse) [(18, .aload_n 0, 0, 0)] := ⟨by decide +kernel, trivial, trivial⟩
theorem sX3_parse_25 : JSeg (jm jdX3_parse) [(25, .aload_n 0, 0, 0), (26, .getfield 35, 3, 5)] := ⟨by decide +kernel, trivial, fkX3_35, trivial⟩
theorem sX3_parse_30 : JSeg (jm jdX3_parse) [(30, .aload_n 0, 0, 0), (31, .getfield 35, 3, 5), (34, .aload_n 0, 0, 0), (35, .getfield 27, 3, 1)] := ⟨by decide +kernel, trivial, fkX3_35, trivial, fkX3_27, trivial⟩
theorem sX3_parse_41 : JSeg (jm jdX3_parse) [(41, .iconst (-1), 0, 0)] := ⟨by decide +kernel, trivial, trivial⟩
theorem sX3_parse_43 : JSeg (jm jdX3_parse) [(43, .aload_n 0, 0, 0), (44, .aload_n 0, 0, 0), (45, .getfield 35, 3, 5)] := ⟨by decide +kernel, trivial, trivial, fkX3_35, trivial⟩
theorem sX3_parse_51 : JSeg (jm jdX3_parse) [(51, .bipush 59, 0, 0)] := ⟨by decide +kernel, trivial, trivial⟩
theorem sX3_parse_56 : JSeg (jm jdX3_parse) [(56, .aload_n 0, 0, 0), (57, .getfield 35, 3, 5)] := ⟨by decide +kernel, trivial, fkX3_35, trivial⟩
theorem sX3_parse_61 : JSeg (jm jdX3_parse) [(61, .aload_n 0, 0, 0), (62, .dup, 0, 0), (63, .getfield 35, 3, 5), (66, .iconst 1, 0, 0), (67, .iadd, 0, 0), (68, .putfield 35, 3, 5), (71, .iinc 1 1, 0, 0), (74, .goto (-62), 0, 0)] := ⟨by decide +kernel, trivial, trivial, fkX3_35, trivial, trivial, fpX3_35, trivial, trivial, trivial⟩
theorem sX3_parse_77 : JSeg (jm jdX3_parse) [(77, .aload_n 0, 0, 0), (78, .getfield 35, 3, 5)] := ⟨by decide +kernel, trivial, fkX3_35, trivial⟩
theorem dX3_parse_15 : decode cX3_parse 15 = .ok (.if_icmp .ge 62, 3) := by decide +kernel
theorem dX3_parse_19 : decode cX3_parse 19 = .ok (.invokevirtual 41, 3) := by decide +kernel
theorem dX3_parse_22 : decode cX3_parse 22 = .ok (.ifCond .ne 8, 3) := by decide +kernel
theorem dX3_parse_29 : decode cX3_parse 29 = .ok (.ireturn, 1) := by decide +kernel
theorem dX3_parse_38 : decode cX3_parse 38 = .ok (.if_icmp .lt 5, 3) := by decide +kernel
theorem dX3_parse_42 : decode cX3_parse 42 = .ok (.ireturn, 1) := by decide +kernel
theorem dX3_parse_48 : decode cX3_parse 48 = .ok (.invokevirtual 45, 3) := by decide +kernel
theorem dX3_parse_53 : decode cX3_parse 53 = .ok (.if_icmp .eq 8, 3) := by decide +kernel
theorem dX3_parse_60 : decode cX3_parse 60 = .ok (.ireturn, 1) := by decide +kernel
theorem dX3_parse_81 : decode cX3_parse 81 = .ok (.ireturn, 1) := by decide +kernel
theorem sX3_readCommand_0 : JSeg (jm jdX3_readCommand) [(0, .aload_n 0, 0, 0), (1, .getfield 35, 3, 5), (4, .istore_n 1, 0, 0), (5, .iload_n 1, 0, 0), (6, .istore_n 2, 0, 0), (7, .iconst 0, 0, 0), (8, .istore_n 3, 0, 0)] := ⟨by decide +kernel, trivial, fkX3_35, trivial, trivial, trivial, trivial, trivial, trivial⟩
theorem sX3_readCommand_9 : JSeg (jm jdX3_readCommand) [(9, .iload_n 3, 0, 0), (10, .bipush 7, 0, 0)] := ⟨by decide +kernel, trivial, trivial, trivial⟩
theorem sX3_readCommand_15 : JSeg (jm jdX3_readCommand) [(15, .aload_n 0, 0, 0), (16, .iload_n 3, 0, 0)] := ⟨by decide +kernel, trivial, trivial, trivial⟩
theorem sX3_readCommand_20 : JSeg (jm jdX3_readCommand) [(20, .iload_n 1, 0, 0)] := ⟨by decide +kernel, trivial, trivial⟩
theorem sX3_readCommand_27 : JSeg (jm jdX3_readCommand) [(27, .aload_n 0, 0, 0), (28, .getfield 20, 3, 3), (31, .aload_n 0, 0, 0), (32, .getfield 38, 3, 2), (35, .iload_n 3, 0, 0)] := ⟨by decide +kernel, trivial, fkX3_20, trivial, fkX3_38, trivial, trivial⟩
theorem sX3_readCommand_39 : JSeg (jm jdX3_readCommand) [(39, .aload_n 0, 0, 0), (40, .dup, 0, 0), (41, .getfield 38, 3, 2), (44, .iconst 1, 0, 0), (45, .iadd, 0, 0), (46, .putfield 38, 3, 2), (49, .iconst 1, 0, 0)] := ⟨by decide +kernel, trivial, trivial, fkX3_38, trivial, trivial, fpX3_38, trivial, trivial⟩
theorem sX3_readCommand_51 : JSeg (jm jdX3_readCommand) [(51, .iload_n 2, 0, 0), (52, .aload_n 0, 0, 0), (53, .getfield 35, 3, 5)] := ⟨by decide +kernel, trivial, trivial, fkX3_35, trivial⟩
theorem sX3_readCommand_59 : JSeg (jm jdX3_readCommand) [(59, .istore_n 2, 0, 0), (60, .iinc 3 1, 0, 0), (63, .goto (-54), 0, 0)] := ⟨by decide +kernel, trivial, trivial, trivial, trivial⟩
theorem sX3_readCommand_66 : JSeg (jm jdX3_readCommand) [(66, .aload_n 0, 0, 0), (67, .iload_n 2, 0, 0), (68, .putfield 35, 3, 5), (71, .iconst 0, 0, 0)] := ⟨by decide +kernel, trivial, trivial, fpX3_35, trivial, trivial⟩
theorem dX3_readCommand_12 : decode cX3_readCommand 12 = .ok (.if_icmp .ge 54, 3) := by decide +kernel
theorem dX3_readCommand_17 : decode cX3_readCommand 17 = .ok (.invokestatic 48, 3) := by decide +kernel
theorem dX3_readCommand_21 : decode cX3_readCommand 21 = .ok (.invokevirtual 52, 3) := by decide +kernel
theorem dX3_readCommand_24 : decode cX3_readCommand 24 = .ok (.ifCond .eq 27, 3) := by decide +kernel
theorem dX3_readCommand_36 : decode cX3_readCommand 36 = .ok (.invokevirtual 56, 3) := by decide +kernel
theorem dX3_readCommand_50 : decode cX3_readCommand 50 = .ok (.ireturn, 1) := by decide +kernel
theorem dX3_readCommand_56 : decode cX3_readCommand 56 = .ok (.invokestatic 60, 3) := by decide +kernel
theorem dX3_readCommand_72 : decode cX3_readCommand 72 = .ok (.ireturn, 1) := by decide +kernel
theorem sX3_shapeOf_0 : JSeg (jm jdX3_shapeOf) [(0, .iload_n 0, 0, 0)] := ⟨by decide +kernel, trivial, trivial⟩
theorem dX3_shapeOf_1 : decode cX3_shapeOf 1 = .ok (.tableswitch 61 0 6 #[43, 46, 49, 52, 55, 58, 61], 43) := by decide +kernel
theorem dX3_shapeOf_44 : decode cX3_shapeOf 44 = .ok (.ldc 66, 2) := by decide +kernel
theorem dX3_shapeOf_46 : decode cX3_shapeOf 46 = .ok (.areturn, 1) := by decide +kernel
theorem dX3_shapeOf_47 : decode cX3_shapeOf 47 = .ok (.ldc 68, 2) := by decide +kernel
theorem dX3_shapeOf_49 : decode cX3_shapeOf 49 = .ok (.areturn, 1) := by decide +kernel
theorem dX3_shapeOf_50 : decode cX3_shapeOf 50 = .ok (.ldc 70, 2) := by decide +kernel
theorem dX3_shapeOf_52 : decode cX3_shapeOf 52 = .ok (.areturn, 1) := by decide +kernel
theorem dX3_shapeOf_53 : decode cX3_shapeOf 53 = .ok (.ldc 72, 2) := by decide +kernel
theorem dX3_shapeOf_55 : decode cX3_shapeOf 55 = .ok (.areturn, 1) := by decide +kernel
theorem dX3_shapeOf_56 : decode cX3_shapeOf 56 = .ok (.ldc 74, 2) := by decide +kernel
theorem dX3_shapeOf_58 : decode cX3_shapeOf 58 = .ok (.areturn, 1) := by decide +kernel
theorem dX3_shapeOf_59 : decode cX3_shapeOf 59 = .ok (.ldc 76, 2) := by decide +kernel
theorem dX3_shapeOf_61 : decode cX3_shapeOf 61 = .ok (.areturn, 1) := by decide +kernel
theorem dX3_shapeOf_62 : decode cX3_shapeOf 62 = .ok (.ldc 78, 2) := by decide +kernel
theorem dX3_shapeOf_64 : decode cX3_shapeOf 64 = .ok (.areturn, 1) := by decide +kernel
theorem fpX3_80 : FP0 RX3 80 3 6 := ⟨_, _, _, _, ci_X3, by decide, bw_of 223 (by decide +kernel) (by decide +kernel), rfl, rfl⟩
theorem sX3_fits_0 : JSeg (jm jdX3_fits) [(0, .aload_n 0, 0, 0), (1, .iload_n 2, 0, 0), (2, .putfield 35, 3, 5), (5, .aload_n 0, 0, 0), (6, .aload_n 0, 0, 0), (7, .getfield 38, 3, 2), (10, .iconst 5, 0, 0), (11, .imul, 0, 0), (12, .putfield 80, 3, 6), (15, .iconst 0, 0, 0), (16, .istore_n 3, 0, 0)] := ⟨by decide +kernel, trivial, trivial, fpX3_35, trivial, trivial, fkX3_38, trivial, trivial, fpX3_80, trivial, trivial, trivial⟩
theorem sX3_fits_17 : JSeg (jm jdX3_fits) [(17, .iload_n 3, 0, 0), (18, .aload_n 1, 0, 0)] := ⟨by decide +kernel, trivial, trivial, trivial⟩
theorem sX3_fits_25 : JSeg (jm jdX3_fits) [(25, .aload_n 0, 0, 0), (26, .aload_n 1, 0, 0), (27, .iload_n 3, 0, 0)] := ⟨by decide +kernel, trivial, trivial, trivial, trivial⟩
theorem sX3_fits_37 : JSeg (jm jdX3_fits) [(37, .iconst 0, 0, 0)] := ⟨by decide +kernel, trivial, trivial⟩
theorem sX3_fits_39 : JSeg (jm jdX3_fits) [(39, .iinc 3 1, 0, 0), (42, .goto (-25), 0, 0)] := ⟨by decide +kernel, trivial, trivial, trivial⟩
theorem sX3_fits_45 : JSeg (jm jdX3_fits) [(45, .iconst 1, 0, 0)] := ⟨by decide +kernel, trivial, trivial⟩
theorem dX3_fits_19 : decode cX3_fits 19 = .ok (.invokevirtual 83, 3) := by decide +kernel
theorem dX3_fits_22 : decode cX3_fits 22 = .ok (.if_icmp .ge 23, 3) := by decide +kernel
theorem dX3_fits_28 : decode cX3_fits 28 = .ok (.invokevirtual 88, 3) := by decide +kernel
theorem dX3_fits_31 : decode cX3_fits 31 = .ok (.invokevirtual 92, 3) := by decide +kernel
theorem dX3_fits_34 : decode cX3_fits 34 = .ok (.ifCond .ne 5, 3) := by decide +kernel
theorem dX3_fits_38 : decode cX3_fits 38 = .ok (.ireturn, 1) := by decide +kernel
theorem dX3_fits_46 : decode cX3_fits 46 = .ok (.ireturn, 1) := by decide +kernel
theorem sX3_readPart_0 : JSeg (jm jdX3_readPart) [(0, .iload_n 1, 0, 0), (1, .bipush 68, 0, 0)] := ⟨by decide +kernel, trivial, trivial, trivial⟩
theorem sX3_readPart_6 : JSeg (jm jdX3_readPart) [(6, .aload_n 0, 0, 0), (7, .iconst 1, 0, 0)] := ⟨by decide +kernel, trivial, trivial, trivial⟩
theorem sX3_readPart_12 : JSeg (jm jdX3_readPart) [(12, .iload_n 1, 0, 0), (13, .bipush 78, 0, 0)] := ⟨by decide +kernel, trivial, trivial, trivial⟩
theorem sX3_readPart_18 : JSeg (jm jdX3_readPart) [(18, .aload_n 0, 0, 0), (19, .iconst 2, 0, 0)] := ⟨by decide +kernel, trivial, trivial, trivial⟩
theorem sX3_readPart_24 : JSeg (jm jdX3_readPart) [(24, .iload_n 1, 0, 0), (25, .bipush 33, 0, 0)] := ⟨by decide +kernel, trivial, trivial, trivial⟩
theorem sX3_readPart_30 : JSeg (jm jdX3_readPart) [(30, .aload_n 0, 0, 0), (31, .getfield 24, 3, 4), (34, .aload_n 0, 0, 0), (35, .getfield 80, 3, 6), (38, .aload_n 0, 0, 0), (39, .bipush 33, 0, 0)] := ⟨by decide +kernel, trivial, fkX3_24, trivial, fkX3_80, trivial, trivial, trivial⟩
theorem sX3_readPart_47 : JSeg (jm jdX3_readPart) [(47, .iconst 1, 0, 0), (48, .goto 4, 0, 0)] := ⟨by decide +kernel, trivial, trivial, trivial⟩
theorem sX3_readPart_51 : JSeg (jm jdX3_readPart) [(51, .iconst 0, 0, 0)] := ⟨by decide +kernel, trivial, trivial⟩
theorem sX3_readPart_55 : JSeg (jm jdX3_readPart) [(55, .aload_n 0, 0, 0), (56, .dup, 0, 0), (57, .getfield 80, 3, 6), (60, .iconst 1, 0, 0), (61, .iadd, 0, 0), (62, .putfield 80, 3, 6), (65, .iconst 1, 0, 0)] := ⟨by decide +kernel, trivial, trivial, fkX3_80, trivial, trivial, fpX3_80, trivial, trivial⟩
theorem sX3_readPart_67 : JSeg (jm jdX3_readPart) [(67, .aload_n 0, 0, 0), (68, .iload_n 1, 0, 0)] := ⟨by decide +kernel, trivial, trivial, trivial⟩
theorem dX3_readPart_3 : decode cX3_readPart 3 = .ok (.if_icmp .ne 9, 3) := by decide +kernel
theorem dX3_readPart_8 : decode cX3_readPart 8 = .ok (.invokevirtual 96, 3) := by decide +kernel
theorem dX3_readPart_11 : decode cX3_readPart 11 = .ok (.ireturn, 1) := by decide +kernel
theorem dX3_readPart_15 : decode cX3_readPart 15 = .ok (.if_icmp .ne 9, 3) := by decide +kernel
theorem dX3_readPart_20 : decode cX3_readPart 20 = .ok (.invokevirtual 96, 3) := by decide +kernel
theorem dX3_readPart_23 : decode cX3_readPart 23 = .ok (.ireturn, 1) := by decide +kernel
theorem dX3_readPart_27 : decode cX3_readPart 27 = .ok (.if_icmp .ne 40, 3) := by decide +kernel
theorem dX3_readPart_41 : decode cX3_readPart 41 = .ok (.invokevirtual 100, 3) := by decide +kernel
theorem dX3_readPart_44 : decode cX3_readPart 44 = .ok (.ifCond .eq 7, 3) := by decide +kernel
theorem dX3_readPart_52 : decode cX3_readPart 52 = .ok (.invokevirtual 56, 3) := by decide +kernel
theorem dX3_readPart_66 : decode cX3_readPart 66 = .ok (.ireturn, 1) := by decide +kernel
theorem dX3_readPart_69 : decode cX3_readPart 69 = .ok (.invokevirtual 100, 3) := by decide +kernel
theorem dX3_readPart_72 : decode cX3_readPart 72 = .ok (.ireturn, 1) := by decide +kernel
theorem sX3_readNumber_0 : JSeg (jm jdX3_readNumber) [(0, .iconst 0, 0, 0), (1, .istore_n 2, 0, 0), (2, .iconst 0, 0, 0), (3, .istore_n 3, 0, 0)] := ⟨by decide +kernel, trivial, trivial, trivial, trivial, trivial⟩
theorem sX3_readNumber_4 : JSeg (jm jdX3_readNumber) [(4, .iload_n 3, 0, 0), (5, .iload_n 1, 0, 0)] := ⟨by decide +kernel, trivial, trivial, trivial⟩
theorem sX3_readNumber_9 : JSeg (jm jdX3_readNumber) [(9, .aload_n 0, 0, 0), (10, .aload_n 0, 0, 0), (11, .getfield 35, 3, 5)] := ⟨by decide +kernel, trivial, trivial, fkX3_35, trivial⟩
theorem sX3_readNumber_23 : JSeg (jm jdX3_readNumber) [(23, .iload_n 2, 0, 0), (24, .bipush 10, 0, 0), (26, .imul, 0, 0), (27, .aload_n 0, 0, 0), (28, .aload_n 0, 0, 0), (29, .getfield 35, 3, 5)] := ⟨by decide +kernel, trivial, trivial, trivial, trivial, trivial, fkX3_35, trivial⟩
theorem sX3_readNumber_35 : JSeg (jm jdX3_readNumber) [(35, .iadd, 0, 0), (36, .bipush 48, 0, 0), (38, .isub, 0, 0), (39, .istore_n 2, 0, 0), (40, .iinc 3 1, 0, 0), (43, .aload_n 0, 0, 0), (44, .dup, 0, 0), (45, .getfield 35, 3, 5), (48, .iconst 1, 0, 0), (49, .iadd, 0, 0), (50, .putfield 35, 3, 5), (53, .goto (-49), 0, 0)] := ⟨by decide +kernel, trivial, trivial, trivial, trivial, trivial, trivial, trivial, fkX3_35, trivial, trivial, fpX3_35, trivial, trivial⟩
theorem sX3_readNumber_56 : JSeg (jm jdX3_readNumber) [(56, .aload_n 0, 0, 0), (57, .getfield 24, 3, 4), (60, .aload_n 0, 0, 0), (61, .getfield 80, 3, 6), (64, .iload_n 2, 0, 0)] := ⟨by decide +kernel, trivial, fkX3_24, trivial, fkX3_80, trivial, trivial⟩
theorem sX3_readNumber_68 : JSeg (jm jdX3_readNumber) [(68, .aload_n 0, 0, 0), (69, .dup, 0, 0), (70, .getfield 80, 3, 6), (73, .iconst 1, 0, 0), (74, .iadd, 0, 0), (75, .putfield 80, 3, 6), (78, .iload_n 3, 0, 0)] := ⟨by decide +kernel, trivial, trivial, fkX3_80, trivial, trivial, fpX3_80, trivial, trivial⟩
theorem sX3_readNumber_82 : JSeg (jm jdX3_readNumber) [(82, .iconst 1, 0, 0), (83, .goto 4, 0, 0)] := ⟨by decide +kernel, trivial, trivial, trivial⟩
theorem sX3_readNumber_86 : JSeg (jm jdX3_readNumber) [(86, .iconst 0, 0, 0)] := ⟨by decide +kernel, trivial, trivial⟩
theorem dX3_readNumber_6 : decode cX3_readNumber 6 = .ok (.if_icmp .ge 50, 3) := by decide +kernel
theorem dX3_readNumber_14 : decode cX3_readNumber 14 = .ok (.invokevirtual 45, 3) := by decide +kernel
theorem dX3_readNumber_17 : decode cX3_readNumber 17 = .ok (.invokestatic 103, 3) := by decide +kernel
theorem dX3_readNumber_20 : decode cX3_readNumber 20 = .ok (.ifCond .eq 36, 3) := by decide +kernel
theorem dX3_readNumber_32 : decode cX3_readNumber 32 = .ok (.invokevirtual 45, 3) := by decide +kernel
theorem dX3_readNumber_65 : decode cX3_readNumber 65 = .ok (.invokevirtual 56, 3) := by decide +kernel
theorem dX3_readNumber_79 : decode cX3_readNumber 79 = .ok (.ifCond .le 7, 3) := by decide +kernel
theorem dX3_readNumber_87 : decode cX3_readNumber 87 = .ok (.ireturn, 1) := by decide +kernel
theorem sX3_readSign_0 : JSeg (jm jdX3_readSign) [(0, .aload_n 0, 0, 0), (1, .aload_n 0, 0, 0), (2, .getfield 35, 3, 5)] := ⟨by decide +kernel, trivial, trivial, fkX3_35, trivial⟩
theorem sX3_readSign_8 : JSeg (jm jdX3_readSign) [(8, .iload_n 1, 0, 0)] := ⟨by decide +kernel, trivial, trivial⟩
theorem sX3_readSign_12 : JSeg (jm jdX3_readSign) [(12, .iconst 0, 0, 0)] := ⟨by decide +kernel, trivial, trivial⟩
theorem sX3_readSign_14 : JSeg (jm jdX3_readSign) [(14, .aload_n 0, 0, 0), (15, .dup, 0, 0), (16, .getfield 35, 3, 5), (19, .iconst 1, 0, 0), (20, .iadd, 0, 0), (21, .putfield 35, 3, 5), (24, .iconst 1, 0, 0)] := ⟨by decide +kernel, trivial, trivial, fkX3_35, trivial, trivial, fpX3_35, trivial, trivial⟩
theorem dX3_readSign_5 : decode cX3_readSign 5 = .ok (.invokevirtual 45, 3) := by decide +kernel
theorem dX3_readSign_9 : decode cX3_readSign 9 = .ok (.if_icmp .eq 5, 3) := by decide +kernel
theorem dX3_readSign_13 : decode cX3_readSign 13 = .ok (.ireturn, 1) := by decide +kernel
theorem dX3_readSign_25 : decode cX3_readSign 25 = .ok (.ireturn, 1) := by decide +kernel
theorem sX3_isDigit_0 : JSeg (jm jdX3_isDigit) [(0, .iload_n 0, 0, 0), (1, .bipush 48, 0, 0)] := ⟨by decide +kernel, trivial, trivial, trivial⟩
theorem sX3_isDigit_6 : JSeg (jm jdX3_isDigit) [(6, .iload_n 0, 0, 0), (7, .bipush 57, 0, 0)] := ⟨by decide +kernel, trivial, trivial, trivial⟩
theorem sX3_isDigit_12 : JSeg (jm jdX3_isDigit) [(12, .iconst 1, 0, 0), (13, .goto 4, 0, 0)] := ⟨by decide +kernel, trivial, trivial, trivial⟩
theorem sX3_isDigit_16 : JSeg (jm jdX3_isDigit) [(16, .iconst 0, 0, 0)] := ⟨by decide +kernel, trivial, trivial⟩
theorem dX3_isDigit_3 : decode cX3_isDigit 3 = .ok (.if_icmp .lt 13, 3) := by decide +kernel
theorem dX3_isDigit_9 : decode cX3_isDigit 9 = .ok (.if_icmp .gt 7, 3) := by decide +kernel
theorem dX3_isDigit_17 : decode cX3_isDigit 17 = .ok (.ireturn, 1) := by decide +kernel
theorem sX3_signAt_0 : JSeg (jm jdX3_signAt) [(0, .iload_n 1, 0, 0)] := ⟨by decide +kernel, trivial, trivial⟩
theorem sX3_signAt_4 : JSeg (jm jdX3_signAt) [(4, .iload_n 1, 0, 0), (5, .aload_n 0, 0, 0), (6, .getfield 27, 3, 1)] := ⟨by decide +kernel, trivial, trivial, fkX3_27, trivial⟩
theorem sX3_signAt_12 : JSeg (jm jdX3_signAt) [(12, .iload_n 1, 0, 0), (13, .aload_n 0, 0, 0), (14, .getfield 9, 3, 0), (17, .arraylength, 0, 0)] := ⟨by decide +kernel, trivial, trivial, fkX3_9, trivial, trivial⟩
theorem sX3_signAt_21 : JSeg (jm jdX3_signAt) [(21, .aload_n 0, 0, 0), (22, .getfield 9, 3, 0), (25, .iload_n 1, 0, 0)] := ⟨by decide +kernel, trivial, fkX3_9, trivial, trivial⟩
theorem sX3_signAt_27 : JSeg (jm jdX3_signAt) [(27, .goto 4, 0, 0)] := ⟨by decide +kernel, trivial, trivial⟩
theorem sX3_signAt_30 : JSeg (jm jdX3_signAt) [(30, .iconst (-1), 0, 0)] := ⟨by decide +kernel, trivial, trivial⟩
theorem dX3_signAt_1 : decode cX3_signAt 1 = .ok (.ifCond .lt 29, 3) := by decide +kernel
theorem dX3_signAt_9 : decode cX3_signAt 9 = .ok (.if_icmp .ge 21, 3) := by decide +kernel
theorem dX3_signAt_18 : decode cX3_signAt 18 = .ok (.if_icmp .ge 12, 3) := by decide +kernel
theorem dX3_signAt_26 : decode cX3_signAt 26 = .ok (.caload, 1) := by decide +kernel
theorem dX3_signAt_31 : decode cX3_signAt 31 = .ok (.ireturn, 1) := by decide +kernel
theorem fpX6_40 : FP0 RX6 40 6 5 := ⟨_, _, _, _, ci_X6, by decide, bw_of 278 (by decide +kernel) (by decide +kernel), rfl, rfl⟩
theorem fpX6_44 : FP0 RX6 44 6 6 := ⟨_, _, _, _, ci_X6, by decide, bw_of 279 (by decide +kernel) (by decide +kernel), rfl, rfl⟩
theorem sX6_init_0 : JSeg (jm jdX6_init) [(0, .aload_n 0, 0, 0)] := ⟨by decide +kernel, trivial, trivial⟩
theorem sX6_init_4 : JSeg (jm jdX6_init) [(4, .aload_n 0, 0, 0)] := ⟨by decide +kernel, trivial, trivial⟩
theorem sX6_init_8 : JSeg (jm jdX6_init) [(8, .dup, 0, 0)] := ⟨by decide +kernel, trivial, trivial⟩
theorem sX6_init_15 : JSeg (jm jdX6_init) [(15, .aload_n 0, 0, 0)] := ⟨by decide +kernel, trivial, trivial⟩
theorem sX6_init_19 : JSeg (jm jdX6_init) [(19, .dup, 0, 0)] := ⟨by decide +kernel, trivial, trivial⟩
theorem sX6_init_26 : JSeg (jm jdX6_init) [(26, .aload_n 0, 0, 0)] := ⟨by decide +kernel, trivial, trivial⟩
theorem sX6_init_30 : JSeg (jm jdX6_init) [(30, .dup, 0, 0)] := ⟨by decide +kernel, trivial, trivial⟩
theorem sX6_init_37 : JSeg (jm jdX6_init) [(37, .aload_n 0, 0, 0)] := ⟨by decide +kernel, trivial, trivial⟩
theorem sX6_init_41 : JSeg (jm jdX6_init) [(41, .dup, 0, 0)] := ⟨by decide +kernel, trivial, trivial⟩
theorem sX6_init_48 : JSeg (jm jdX6_init) [(48, .aload_n 0, 0, 0)] := ⟨by decide +kernel, trivial, trivial⟩
theorem sX6_init_52 : JSeg (jm jdX6_init) [(52, .dup, 0, 0)] := ⟨by decide +kernel, trivial, trivial⟩
theorem sX6_init_59 : JSeg (jm jdX6_init) [(59, .aload_n 0, 0, 0), (60, .iconst (-1), 0, 0), (61, .putfield 40, 6, 5), (64, .aload_n 0, 0, 0), (65, .iconst (-1), 0, 0), (66, .putfield 44, 6, 6)] := ⟨by decide +kernel, trivial, trivial, fpX6_40, trivial, trivial, fpX6_44, trivial⟩
theorem dX6_init_1 : decode cX6_init 1 = .ok (.invokespecial 1, 3) := by decide +kernel
theorem dX6_init_5 : decode cX6_init 5 = .ok (.new 7, 3) := by decide +kernel
theorem dX6_init_9 : decode cX6_init 9 = .ok (.invokespecial 9, 3) := by decide +kernel
theorem dX6_init_12 : decode cX6_init 12 = .ok (.putfield 10, 3) := by decide +kernel
theorem dX6_init_16 : decode cX6_init 16 = .ok (.new 7, 3) := by decide +kernel
theorem dX6_init_20 : decode cX6_init 20 = .ok (.invokespecial 9, 3) := by decide +kernel
theorem dX6_init_23 : decode cX6_init 23 = .ok (.putfield 16, 3) := by decide +kernel
theorem dX6_init_27 : decode cX6_init 27 = .ok (.new 19, 3) := by decide +kernel
theorem dX6_init_31 : decode cX6_init 31 = .ok (.invokespecial 21, 3) := by decide +kernel
theorem dX6_init_34 : decode cX6_init 34 = .ok (.putfield 22, 3) := by decide +kernel
theorem dX6_init_38 : decode cX6_init 38 = .ok (.new 26, 3) := by decide +kernel
theorem dX6_init_42 : decode cX6_init 42 = .ok (.invokespecial 28, 3) := by decide +kernel
theorem dX6_init_45 : decode cX6_init 45 = .ok (.putfield 29, 3) := by decide +kernel
theorem dX6_init_49 : decode cX6_init 49 = .ok (.new 33, 3) := by decide +kernel
theorem dX6_init_53 : decode cX6_init 53 = .ok (.invokespecial 35, 3) := by decide +kernel
theorem dX6_init_56 : decode cX6_init 56 = .ok (.putfield 36, 3) := by decide +kernel
theorem dX6_init_69 : decode cX6_init 69 = .ok (.return_, 1) := by decide +kernel
theorem sX6_addTrack_0 : JSeg (jm jdX6_addTrack) [(0, .aload_n 0, 0, 0), (1, .getfield 10, 6, 0), (4, .iload_n 1, 0, 0), (5, .iload_n 2, 0, 0)] := ⟨by decide +kernel, trivial, fkX6_10, trivial, trivial, trivial⟩
theorem sX6_addTrack_12 : JSeg (jm jdX6_addTrack) [(12, .aload_n 0, 0, 0), (13, .getfield 22, 6, 2), (16, .aload_n 0, 0, 0), (17, .getfield 10, 6, 0)] := ⟨by decide +kernel, trivial, fkX6_22, trivial, fkX6_10, trivial⟩
theorem sX6_addTrack_23 : JSeg (jm jdX6_addTrack) [(23, .aload_n 0, 0, 0), (24, .getfield 10, 6, 0), (27, .iload_n 1, 0, 0), (28, .iload_n 2, 0, 0)] := ⟨by decide +kernel, trivial, fkX6_10, trivial, trivial, trivial⟩
theorem dX6_addTrack_6 : decode cX6_addTrack 6 = .ok (.invokevirtual 47, 3) := by decide +kernel
theorem dX6_addTrack_9 : decode cX6_addTrack 9 = .ok (.invokestatic 51, 3) := by decide +kernel
theorem dX6_addTrack_20 : decode cX6_addTrack 20 = .ok (.invokevirtual 55, 3) := by decide +kernel
theorem dX6_addTrack_29 : decode cX6_addTrack 29 = .ok (.invokevirtual 59, 3) := by decide +kernel
theorem dX6_addTrack_32 : decode cX6_addTrack 32 = .ok (.ireturn, 1) := by decide +kernel
theorem sX6_connect_0 : JSeg (jm jdX6_connect) [(0, .aload_n 0, 0, 0), (1, .getfield 10, 6, 0), (4, .iload_n 1, 0, 0), (5, .iload_n 2, 0, 0)] := ⟨by decide +kernel, trivial, fkX6_10, trivial, trivial, trivial⟩
theorem sX6_connect_12 : JSeg (jm jdX6_connect) [(12, .aload_n 0, 0, 0), (13, .getfield 22, 6, 2), (16, .aload_n 0, 0, 0), (17, .getfield 10, 6, 0)] := ⟨by decide +kernel, trivial, fkX6_22, trivial, fkX6_10, trivial⟩
theorem sX6_connect_23 : JSeg (jm jdX6_connect) [(23, .aload_n 0, 0, 0), (24, .getfield 10, 6, 0), (27, .getfield 65, 5, 2), (30, .iload_n 1, 0, 0), (31, .iload_n 2, 0, 0)] := ⟨by decide +kernel, trivial, fkX6_10, fkX6_65, trivial, trivial, trivial⟩
theorem dX6_connect_6 : decode cX6_connect 6 = .ok (.invokevirtual 62, 3) := by decide +kernel
theorem dX6_connect_9 : decode cX6_connect 9 = .ok (.invokestatic 51, 3) := by decide +kernel
theorem dX6_connect_20 : decode cX6_connect 20 = .ok (.invokevirtual 55, 3) := by decide +kernel
theorem dX6_connect_32 : decode cX6_connect 32 = .ok (.invokevirtual 69, 3) := by decide +kernel
theorem dX6_connect_35 : decode cX6_connect 35 = .ok (.ireturn, 1) := by decide +kernel
theorem sX6_disconnect_0 : JSeg (jm jdX6_disconnect) [(0, .aload_n 0, 0, 0), (1, .getfield 10, 6, 0), (4, .iload_n 1, 0, 0), (5, .iload_n 2, 0, 0)] := ⟨by decide +kernel, trivial, fkX6_10, trivial, trivial, trivial⟩
theorem sX6_disconnect_12 : JSeg (jm jdX6_disconnect) [(12, .aload_n 0, 0, 0), (13, .getfield 22, 6, 2), (16, .aload_n 0, 0, 0), (17, .getfield 10, 6, 0)] := ⟨by decide +kernel, trivial, fkX6_22, trivial, fkX6_10, trivial⟩
theorem sX6_disconnect_23 : JSeg (jm jdX6_disconnect) [(23, .aload_n 0, 0, 0), (24, .getfield 10, 6, 0), (27, .getfield 65, 5, 2), (30, .iload_n 1, 0, 0), (31, .iload_n 2, 0, 0)] := ⟨by decide +kernel, trivial, fkX6_10, fkX6_65, trivial, trivial, trivial⟩
theorem dX6_disconnect_6 : decode cX6_disconnect 6 = .ok (.invokevirtual 74, 3) := by decide +kernel
theorem dX6_disconnect_9 : decode cX6_disconnect 9 = .ok (.invokestatic 51, 3) := by decide +kernel
theorem dX6_disconnect_20 : decode cX6_disconnect 20 = .ok (.invokevirtual 55, 3) := by decide +kernel
theorem dX6_disconnect_32 : decode cX6_disconnect 32 = .ok (.invokevirtual 77, 3) := by decide +kernel
theorem dX6_disconnect_35 : decode cX6_disconnect 35 = .ok (.ireturn, 1) := by decide +kernel
theorem sX6_addCar_0 : JSeg (jm jdX6_addCar) [(0, .aload_n 0, 0, 0), (1, .getfield 10, 6, 0), (4, .iload_n 1, 0, 0), (5, .iload_n 2, 0, 0), (6, .iload_n 3, 0, 0), (7, .iload 4, 0, 0)] := ⟨by decide +kernel, trivial, fkX6_10, trivial, trivial, trivial, trivial, trivial⟩
theorem sX6_addCar_15 : JSeg (jm jdX6_addCar) [(15, .aload_n 0, 0, 0), (16, .getfield 22, 6, 2), (19, .aload_n 0, 0, 0), (20, .getfield 10, 6, 0)] := ⟨by decide +kernel, trivial, fkX6_22, trivial, fkX6_10, trivial⟩
theorem sX6_addCar_26 : JSeg (jm jdX6_addCar) [(26, .aload_n 0, 0, 0), (27, .getfield 10, 6, 0), (30, .getfield 84, 5, 3), (33, .iload_n 1, 0, 0), (34, .iload_n 2, 0, 0), (35, .iload_n 3, 0, 0), (36, .iload 4, 0, 0), (38, .iload 5, 0, 0)] := ⟨by decide +kernel, trivial, fkX6_10, fkX6_84, trivial, trivial, trivial, trivial, trivial, trivial⟩
theorem dX6_addCar_9 : decode cX6_addCar 9 = .ok (.invokevirtual 80, 3) := by decide +kernel
theorem dX6_addCar_12 : decode cX6_addCar 12 = .ok (.invokestatic 51, 3) := by decide +kernel
theorem dX6_addCar_23 : decode cX6_addCar 23 = .ok (.invokevirtual 55, 3) := by decide +kernel
theorem dX6_addCar_40 : decode cX6_addCar 40 = .ok (.invokevirtual 88, 3) := by decide +kernel
theorem dX6_addCar_43 : decode cX6_addCar 43 = .ok (.ireturn, 1) := by decide +kernel
theorem sX6_shunt_0 : JSeg (jm jdX6_shunt) [(0, .aload_n 0, 0, 0), (1, .getfield 10, 6, 0), (4, .iload_n 1, 0, 0), (5, .iload_n 2, 0, 0), (6, .iload_n 3, 0, 0)] := ⟨by decide +kernel, trivial, fkX6_10, trivial, trivial, trivial, trivial⟩
theorem sX6_shunt_13 : JSeg (jm jdX6_shunt) [(13, .aload_n 0, 0, 0), (14, .getfield 22, 6, 2), (17, .aload_n 0, 0, 0), (18, .getfield 10, 6, 0)] := ⟨by decide +kernel, trivial, fkX6_22, trivial, fkX6_10, trivial⟩
theorem sX6_shunt_24 : JSeg (jm jdX6_shunt) [(24, .aload_n 0, 0, 0), (25, .getfield 10, 6, 0), (28, .iload_n 1, 0, 0), (29, .iload_n 2, 0, 0), (30, .iload_n 3, 0, 0)] := ⟨by decide +kernel, trivial, fkX6_10, trivial, trivial, trivial, trivial⟩
theorem dX6_shunt_7 : decode cX6_shunt 7 = .ok (.invokevirtual 94, 3) := by decide +kernel
theorem dX6_shunt_10 : decode cX6_shunt 10 = .ok (.invokestatic 51, 3) := by decide +kernel
theorem dX6_shunt_21 : decode cX6_shunt 21 = .ok (.invokevirtual 55, 3) := by decide +kernel
theorem dX6_shunt_31 : decode cX6_shunt 31 = .ok (.invokevirtual 98, 3) := by decide +kernel
theorem dX6_shunt_34 : decode cX6_shunt 34 = .ok (.ireturn, 1) := by decide +kernel
theorem sX6_repair_0 : JSeg (jm jdX6_repair) [(0, .aload_n 0, 0, 0), (1, .getfield 10, 6, 0), (4, .iload_n 1, 0, 0)] := ⟨by decide +kernel, trivial, fkX6_10, trivial, trivial⟩
theorem sX6_repair_11 : JSeg (jm jdX6_repair) [(11, .aload_n 0, 0, 0), (12, .getfield 22, 6, 2), (15, .aload_n 0, 0, 0), (16, .getfield 10, 6, 0)] := ⟨by decide +kernel, trivial, fkX6_22, trivial, fkX6_10, trivial⟩
theorem sX6_repair_22 : JSeg (jm jdX6_repair) [(22, .aload_n 0, 0, 0), (23, .getfield 10, 6, 0), (26, .getfield 84, 5, 3), (29, .iload_n 1, 0, 0)] := ⟨by decide +kernel, trivial, fkX6_10, fkX6_84, trivial, trivial⟩
theorem dX6_repair_5 : decode cX6_repair 5 = .ok (.invokevirtual 101, 3) := by decide +kernel
theorem dX6_repair_8 : decode cX6_repair 8 = .ok (.invokestatic 51, 3) := by decide +kernel
theorem dX6_repair_19 : decode cX6_repair 19 = .ok (.invokevirtual 55, 3) := by decide +kernel
theorem dX6_repair_30 : decode cX6_repair 30 = .ok (.invokevirtual 105, 3) := by decide +kernel
theorem dX6_repair_33 : decode cX6_repair 33 = .ok (.ireturn, 1) := by decide +kernel
theorem sX6_depart_0 : JSeg (jm jdX6_depart) [(0, .aload_n 0, 0, 0), (1, .getfield 10, 6, 0), (4, .iload_n 1, 0, 0), (5, .iload_n 2, 0, 0)] := ⟨by decide +kernel, trivial, fkX6_10, trivial, trivial, trivial⟩
theorem sX6_depart_12 : JSeg (jm jdX6_depart) [(12, .aload_n 0, 0, 0), (13, .getfield 22, 6, 2), (16, .aload_n 0, 0, 0), (17, .getfield 10, 6, 0)] := ⟨by decide +kernel, trivial, fkX6_22, trivial, fkX6_10, trivial⟩
theorem sX6_depart_23 : JSeg (jm jdX6_depart) [(23, .aload_n 0, 0, 0), (24, .getfield 10, 6, 0), (27, .iload_n 1, 0, 0)] := ⟨by decide +kernel, trivial, fkX6_10, trivial, trivial⟩
theorem dX6_depart_6 : decode cX6_depart 6 = .ok (.invokevirtual 108, 3) := by decide +kernel
theorem dX6_depart_9 : decode cX6_depart 9 = .ok (.invokestatic 51, 3) := by decide +kernel
theorem dX6_depart_20 : decode cX6_depart 20 = .ok (.invokevirtual 55, 3) := by decide +kernel
theorem dX6_depart_28 : decode cX6_depart 28 = .ok (.invokevirtual 111, 3) := by decide +kernel
theorem dX6_depart_31 : decode cX6_depart 31 = .ok (.ireturn, 1) := by decide +kernel
theorem sX6_trackCount_0 : JSeg (jm jdX6_trackCount) [(0, .aload_n 0, 0, 0), (1, .getfield 10, 6, 0), (4, .getfield 65, 5, 2), (7, .getfield 114, 2, 0)] := ⟨by decide +kernel, trivial, fkX6_10, fkX6_65, fkX6_114, trivial⟩
theorem dX6_trackCount_10 : decode cX6_trackCount 10 = .ok (.ireturn, 1) := by decide +kernel
theorem sX6_freeLength_0 : JSeg (jm jdX6_freeLength) [(0, .aload_n 0, 0, 0), (1, .iload_n 1, 0, 0)] := ⟨by decide +kernel, trivial, trivial, trivial⟩
theorem sX6_freeLength_5 : JSeg (jm jdX6_freeLength) [(5, .aload_n 0, 0, 0), (6, .getfield 10, 6, 0), (9, .iload_n 1, 0, 0)] := ⟨by decide +kernel, trivial, fkX6_10, trivial, trivial⟩
theorem dX6_freeLength_2 : decode cX6_freeLength 2 = .ok (.invokevirtual 117, 3) := by decide +kernel
theorem dX6_freeLength_10 : decode cX6_freeLength 10 = .ok (.invokevirtual 120, 3) := by decide +kernel
theorem dX6_freeLength_13 : decode cX6_freeLength 13 = .ok (.ireturn, 1) := by decide +kernel
theorem sX6_carsOn_0 : JSeg (jm jdX6_carsOn) [(0, .aload_n 0, 0, 0), (1, .iload_n 1, 0, 0)] := ⟨by decide +kernel, trivial, trivial, trivial⟩
theorem sX6_carsOn_5 : JSeg (jm jdX6_carsOn) [(5, .aload_n 0, 0, 0), (6, .getfield 10, 6, 0), (9, .getfield 84, 5, 3), (12, .getfield 123, 0, 9), (15, .iload_n 1, 0, 0)] := ⟨by decide +kernel, trivial, fkX6_10, fkX6_84, fkX6_123, trivial, trivial⟩
theorem dX6_carsOn_2 : decode cX6_carsOn 2 = .ok (.invokevirtual 117, 3) := by decide +kernel
theorem dX6_carsOn_16 : decode cX6_carsOn 16 = .ok (.invokevirtual 127, 3) := by decide +kernel
theorem dX6_carsOn_19 : decode cX6_carsOn 19 = .ok (.ireturn, 1) := by decide +kernel
theorem sX6_weightOn_0 : JSeg (jm jdX6_weightOn) [(0, .aload_n 0, 0, 0), (1, .iload_n 1, 0, 0)] := ⟨by decide +kernel, trivial, trivial, trivial⟩
theorem sX6_weightOn_5 : JSeg (jm jdX6_weightOn) [(5, .aload_n 0, 0, 0), (6, .getfield 10, 6, 0), (9, .getfield 84, 5, 3), (12, .iload_n 1, 0, 0)] := ⟨by decide +kernel, trivial, fkX6_10, fkX6_84, trivial, trivial⟩
theorem dX6_weightOn_2 : decode cX6_weightOn 2 = .ok (.invokevirtual 117, 3) := by decide +kernel
theorem dX6_weightOn_13 : decode cX6_weightOn 13 = .ok (.invokevirtual 132, 3) := by decide +kernel
theorem dX6_weightOn_16 : decode cX6_weightOn 16 = .ok (.ireturn, 1) := by decide +kernel
theorem sX6_carAt_0 : JSeg (jm jdX6_carAt) [(0, .aload_n 0, 0, 0), (1, .iload_n 1, 0, 0)] := ⟨by decide +kernel, trivial, trivial, trivial⟩
theorem sX6_carAt_5 : JSeg (jm jdX6_carAt) [(5, .aload_n 0, 0, 0), (6, .getfield 10, 6, 0), (9, .getfield 84, 5, 3), (12, .iload_n 1, 0, 0), (13, .iload_n 2, 0, 0)] := ⟨by decide +kernel, trivial, fkX6_10, fkX6_84, trivial, trivial, trivial⟩
theorem sX6_carAt_17 : JSeg (jm jdX6_carAt) [(17, .istore_n 3, 0, 0), (18, .iload_n 3, 0, 0), (19, .iconst (-1), 0, 0)] := ⟨by decide +kernel, trivial, trivial, trivial, trivial⟩
theorem sX6_carAt_26 : JSeg (jm jdX6_carAt) [(26, .dup, 0, 0)] := ⟨by decide +kernel, trivial, trivial⟩
theorem sX6_carAt_33 : JSeg (jm jdX6_carAt) [(33, .aload_n 0, 0, 0), (34, .getfield 10, 6, 0), (37, .getfield 84, 5, 3), (40, .getfield 145, 0, 2), (43, .iload_n 3, 0, 0)] := ⟨by decide +kernel, trivial, fkX6_10, fkX6_84, fkX6_145, trivial, trivial⟩
theorem dX6_carAt_2 : decode cX6_carAt 2 = .ok (.invokevirtual 117, 3) := by decide +kernel
theorem dX6_carAt_14 : decode cX6_carAt 14 = .ok (.invokevirtual 135, 3) := by decide +kernel
theorem dX6_carAt_20 : decode cX6_carAt 20 = .ok (.if_icmp .ne 13, 3) := by decide +kernel
theorem dX6_carAt_23 : decode cX6_carAt 23 = .ok (.new 138, 3) := by decide +kernel
theorem dX6_carAt_27 : decode cX6_carAt 27 = .ok (.ldc 140, 2) := by decide +kernel
theorem dX6_carAt_29 : decode cX6_carAt 29 = .ok (.invokespecial 142, 3) := by decide +kernel
theorem dX6_carAt_32 : decode cX6_carAt 32 = .ok (.athrow, 1) := by decide +kernel
theorem dX6_carAt_44 : decode cX6_carAt 44 = .ok (.invokevirtual 127, 3) := by decide +kernel
theorem dX6_carAt_47 : decode cX6_carAt 47 = .ok (.ireturn, 1) := by decide +kernel
theorem sX6_isSorted_0 : JSeg (jm jdX6_isSorted) [(0, .aload_n 0, 0, 0), (1, .iload_n 1, 0, 0)] := ⟨by decide +kernel, trivial, trivial, trivial⟩
theorem sX6_isSorted_5 : JSeg (jm jdX6_isSorted) [(5, .aload_n 0, 0, 0), (6, .getfield 10, 6, 0), (9, .getfield 84, 5, 3), (12, .iload_n 1, 0, 0)] := ⟨by decide +kernel, trivial, fkX6_10, fkX6_84, trivial, trivial⟩
theorem dX6_isSorted_2 : decode cX6_isSorted 2 = .ok (.invokevirtual 117, 3) := by decide +kernel
theorem dX6_isSorted_13 : decode cX6_isSorted 13 = .ok (.invokevirtual 148, 3) := by decide +kernel
theorem dX6_isSorted_16 : decode cX6_isSorted 16 = .ok (.ireturn, 1) := by decide +kernel
theorem sX6_disorder_0 : JSeg (jm jdX6_disorder) [(0, .aload_n 0, 0, 0), (1, .iload_n 1, 0, 0)] := ⟨by decide +kernel, trivial, trivial, trivial⟩
theorem sX6_disorder_5 : JSeg (jm jdX6_disorder) [(5, .aload_n 0, 0, 0), (6, .getfield 10, 6, 0), (9, .getfield 84, 5, 3), (12, .iload_n 1, 0, 0)] := ⟨by decide +kernel, trivial, fkX6_10, fkX6_84, trivial, trivial⟩
theorem dX6_disorder_2 : decode cX6_disorder 2 = .ok (.invokevirtual 117, 3) := by decide +kernel
theorem dX6_disorder_13 : decode cX6_disorder 13 = .ok (.invokevirtual 152, 3) := by decide +kernel
theorem dX6_disorder_16 : decode cX6_disorder 16 = .ok (.ireturn, 1) := by decide +kernel
theorem sX6_disorderByInsertion_0 : JSeg (jm jdX6_disorderByInsertion) [(0, .aload_n 0, 0, 0), (1, .iload_n 1, 0, 0)] := ⟨by decide +kernel, trivial, trivial, trivial⟩
theorem sX6_disorderByInsertion_5 : JSeg (jm jdX6_disorderByInsertion) [(5, .aload_n 0, 0, 0), (6, .getfield 10, 6, 0), (9, .getfield 84, 5, 3), (12, .iload_n 1, 0, 0)] := ⟨by decide +kernel, trivial, fkX6_10, fkX6_84, trivial, trivial⟩
theorem dX6_disorderByInsertion_2 : decode cX6_disorderByInsertion 2 = .ok (.invokevirtual 117, 3) := by decide +kernel
theorem dX6_disorderByInsertion_13 : decode cX6_disorderByInsertion 13 = .ok (.invokevirtual 155, 3) := by decide +kernel
theorem dX6_disorderByInsertion_16 : decode cX6_disorderByInsertion 16 = .ok (.ireturn, 1) := by decide +kernel
theorem sX6_trainLength_0 : JSeg (jm jdX6_trainLength) [(0, .aload_n 0, 0, 0), (1, .iload_n 1, 0, 0)] := ⟨by decide +kernel, trivial, trivial, trivial⟩
theorem sX6_trainLength_5 : JSeg (jm jdX6_trainLength) [(5, .aload_n 0, 0, 0), (6, .getfield 10, 6, 0), (9, .getfield 84, 5, 3), (12, .iload_n 1, 0, 0)] := ⟨by decide +kernel, trivial, fkX6_10, fkX6_84, trivial, trivial⟩
theorem dX6_trainLength_2 : decode cX6_trainLength 2 = .ok (.invokevirtual 117, 3) := by decide +kernel
theorem dX6_trainLength_13 : decode cX6_trainLength 13 = .ok (.invokevirtual 158, 3) := by decide +kernel
theorem dX6_trainLength_16 : decode cX6_trainLength 16 = .ok (.ireturn, 1) := by decide +kernel
theorem sX6_trackAtRank_0 : JSeg (jm jdX6_trackAtRank) [(0, .aload_n 0, 0, 0), (1, .getfield 10, 6, 0), (4, .iload_n 1, 0, 0)] := ⟨by decide +kernel, trivial, fkX6_10, trivial, trivial⟩
theorem sX6_trackAtRank_8 : JSeg (jm jdX6_trackAtRank) [(8, .istore_n 2, 0, 0), (9, .iload_n 2, 0, 0), (10, .iconst (-1), 0, 0)] := ⟨by decide +kernel, trivial, trivial, trivial, trivial⟩
theorem sX6_trackAtRank_17 : JSeg (jm jdX6_trackAtRank) [(17, .dup, 0, 0)] := ⟨by decide +kernel, trivial, trivial⟩
theorem sX6_trackAtRank_24 : JSeg (jm jdX6_trackAtRank) [(24, .iload_n 2, 0, 0)] := ⟨by decide +kernel, trivial, trivial⟩
theorem dX6_trackAtRank_5 : decode cX6_trackAtRank 5 = .ok (.invokevirtual 161, 3) := by decide +kernel
theorem dX6_trackAtRank_11 : decode cX6_trackAtRank 11 = .ok (.if_icmp .ne 13, 3) := by decide +kernel
theorem dX6_trackAtRank_14 : decode cX6_trackAtRank 14 = .ok (.new 138, 3) := by decide +kernel
theorem dX6_trackAtRank_18 : decode cX6_trackAtRank 18 = .ok (.ldc 164, 2) := by decide +kernel
theorem dX6_trackAtRank_20 : decode cX6_trackAtRank 20 = .ok (.invokespecial 142, 3) := by decide +kernel
theorem dX6_trackAtRank_23 : decode cX6_trackAtRank 23 = .ok (.athrow, 1) := by decide +kernel
theorem dX6_trackAtRank_25 : decode cX6_trackAtRank 25 = .ok (.ireturn, 1) := by decide +kernel
theorem sX6_areConnected_0 : JSeg (jm jdX6_areConnected) [(0, .aload_n 0, 0, 0), (1, .iload_n 1, 0, 0)] := ⟨by decide +kernel, trivial, trivial, trivial⟩
theorem sX6_areConnected_5 : JSeg (jm jdX6_areConnected) [(5, .aload_n 0, 0, 0), (6, .iload_n 2, 0, 0)] := ⟨by decide +kernel, trivial, trivial, trivial⟩
theorem sX6_areConnected_10 : JSeg (jm jdX6_areConnected) [(10, .aload_n 0, 0, 0), (11, .getfield 10, 6, 0), (14, .getfield 65, 5, 2), (17, .iload_n 1, 0, 0), (18, .iload_n 2, 0, 0)] := ⟨by decide +kernel, trivial, fkX6_10, fkX6_65, trivial, trivial, trivial⟩
theorem dX6_areConnected_2 : decode cX6_areConnected 2 = .ok (.invokevirtual 117, 3) := by decide +kernel
theorem dX6_areConnected_7 : decode cX6_areConnected 7 = .ok (.invokevirtual 117, 3) := by decide +kernel
theorem dX6_areConnected_19 : decode cX6_areConnected 19 = .ok (.invokevirtual 166, 3) := by decide +kernel
theorem dX6_areConnected_22 : decode cX6_areConnected 22 = .ok (.ireturn, 1) := by decide +kernel
theorem sX6_routeLength_0 : JSeg (jm jdX6_routeLength) [(0, .aload_n 0, 0, 0), (1, .iload_n 1, 0, 0)] := ⟨by decide +kernel, trivial, trivial, trivial⟩
theorem sX6_routeLength_5 : JSeg (jm jdX6_routeLength) [(5, .aload_n 0, 0, 0), (6, .iload_n 2, 0, 0)] := ⟨by decide +kernel, trivial, trivial, trivial⟩
theorem sX6_routeLength_10 : JSeg (jm jdX6_routeLength) [(10, .aload_n 0, 0, 0), (11, .getfield 10, 6, 0), (14, .getfield 65, 5, 2), (17, .iload_n 1, 0, 0), (18, .iload_n 2, 0, 0)] := ⟨by decide +kernel, trivial, fkX6_10, fkX6_65, trivial, trivial, trivial⟩
theorem dX6_routeLength_2 : decode cX6_routeLength 2 = .ok (.invokevirtual 117, 3) := by decide +kernel
theorem dX6_routeLength_7 : decode cX6_routeLength 7 = .ok (.invokevirtual 117, 3) := by decide +kernel
theorem dX6_routeLength_19 : decode cX6_routeLength 19 = .ok (.invokevirtual 170, 3) := by decide +kernel
theorem dX6_routeLength_22 : decode cX6_routeLength 22 = .ok (.invokestatic 173, 3) := by decide +kernel
theorem dX6_routeLength_25 : decode cX6_routeLength 25 = .ok (.ireturn, 1) := by decide +kernel
theorem sX6_routeLengthByMatrix_0 : JSeg (jm jdX6_routeLengthByMatrix) [(0, .aload_n 0, 0, 0), (1, .iload_n 1, 0, 0)] := ⟨by decide +kernel, trivial, trivial, trivial⟩
theorem sX6_routeLengthByMatrix_5 : JSeg (jm jdX6_routeLengthByMatrix) [(5, .aload_n 0, 0, 0), (6, .iload_n 2, 0, 0)] := ⟨by decide +kernel, trivial, trivial, trivial⟩
theorem sX6_routeLengthByMatrix_10 : JSeg (jm jdX6_routeLengthByMatrix) [(10, .aload_n 0, 0, 0), (11, .getfield 10, 6, 0), (14, .getfield 65, 5, 2), (17, .iload_n 1, 0, 0), (18, .iload_n 2, 0, 0)] := ⟨by decide +kernel, trivial, fkX6_10, fkX6_65, trivial, trivial, trivial⟩
theorem dX6_routeLengthByMatrix_2 : decode cX6_routeLengthByMatrix 2 = .ok (.invokevirtual 117, 3) := by decide +kernel
theorem dX6_routeLengthByMatrix_7 : decode cX6_routeLengthByMatrix 7 = .ok (.invokevirtual 117, 3) := by decide +kernel
theorem dX6_routeLengthByMatrix_19 : decode cX6_routeLengthByMatrix 19 = .ok (.invokevirtual 176, 3) := by decide +kernel
theorem dX6_routeLengthByMatrix_22 : decode cX6_routeLengthByMatrix 22 = .ok (.invokestatic 173, 3) := by decide +kernel
theorem dX6_routeLengthByMatrix_25 : decode cX6_routeLengthByMatrix 25 = .ok (.ireturn, 1) := by decide +kernel
theorem sX6_routeTrack_0 : JSeg (jm jdX6_routeTrack) [(0, .aload_n 0, 0, 0), (1, .iload_n 1, 0, 0)] := ⟨by decide +kernel, trivial, trivial, trivial⟩
theorem sX6_routeTrack_5 : JSeg (jm jdX6_routeTrack) [(5, .aload_n 0, 0, 0), (6, .iload_n 2, 0, 0)] := ⟨by decide +kernel, trivial, trivial, trivial⟩
theorem sX6_routeTrack_10 : JSeg (jm jdX6_routeTrack) [(10, .aload_n 0, 0, 0), (11, .getfield 10, 6, 0), (14, .getfield 65, 5, 2), (17, .iload_n 1, 0, 0), (18, .iload_n 2, 0, 0)] := ⟨by decide +kernel, trivial, fkX6_10, fkX6_65, trivial, trivial, trivial⟩
theorem sX6_routeTrack_25 : JSeg (jm jdX6_routeTrack) [(25, .istore 4, 0, 0), (27, .iload_n 3, 0, 0)] := ⟨by decide +kernel, trivial, trivial, trivial⟩
theorem sX6_routeTrack_31 : JSeg (jm jdX6_routeTrack) [(31, .iload_n 3, 0, 0), (32, .iload 4, 0, 0)] := ⟨by decide +kernel, trivial, trivial, trivial⟩
theorem sX6_routeTrack_40 : JSeg (jm jdX6_routeTrack) [(40, .dup, 0, 0)] := ⟨by decide +kernel, trivial, trivial⟩
theorem sX6_routeTrack_47 : JSeg (jm jdX6_routeTrack) [(47, .aload_n 0, 0, 0), (48, .getfield 10, 6, 0), (51, .getfield 65, 5, 2), (54, .iload_n 1, 0, 0), (55, .iload_n 2, 0, 0), (56, .iload_n 3, 0, 0)] := ⟨by decide +kernel, trivial, fkX6_10, fkX6_65, trivial, trivial, trivial, trivial⟩
theorem dX6_routeTrack_2 : decode cX6_routeTrack 2 = .ok (.invokevirtual 117, 3) := by decide +kernel
theorem dX6_routeTrack_7 : decode cX6_routeTrack 7 = .ok (.invokevirtual 117, 3) := by decide +kernel
theorem dX6_routeTrack_19 : decode cX6_routeTrack 19 = .ok (.invokevirtual 170, 3) := by decide +kernel
theorem dX6_routeTrack_22 : decode cX6_routeTrack 22 = .ok (.invokestatic 173, 3) := by decide +kernel
theorem dX6_routeTrack_28 : decode cX6_routeTrack 28 = .ok (.ifCond .lt 9, 3) := by decide +kernel
theorem dX6_routeTrack_34 : decode cX6_routeTrack 34 = .ok (.if_icmp .le 13, 3) := by decide +kernel
theorem dX6_routeTrack_37 : decode cX6_routeTrack 37 = .ok (.new 138, 3) := by decide +kernel
theorem dX6_routeTrack_41 : decode cX6_routeTrack 41 = .ok (.ldc 179, 2) := by decide +kernel
theorem dX6_routeTrack_43 : decode cX6_routeTrack 43 = .ok (.invokespecial 142, 3) := by decide +kernel
theorem dX6_routeTrack_46 : decode cX6_routeTrack 46 = .ok (.athrow, 1) := by decide +kernel
theorem dX6_routeTrack_57 : decode cX6_routeTrack 57 = .ok (.invokevirtual 181, 3) := by decide +kernel
theorem dX6_routeTrack_60 : decode cX6_routeTrack 60 = .ok (.ireturn, 1) := by decide +kernel
theorem sX6_shuntingTime_0 : JSeg (jm jdX6_shuntingTime) [(0, .aload_n 0, 0, 0), (1, .getfield 10, 6, 0), (4, .iload_n 1, 0, 0), (5, .iload_n 2, 0, 0), (6, .iload_n 3, 0, 0)] := ⟨by decide +kernel, trivial, fkX6_10, trivial, trivial, trivial, trivial⟩
theorem sX6_shuntingTime_10 : JSeg (jm jdX6_shuntingTime) [(10, .istore 4, 0, 0), (12, .iload 4, 0, 0), (14, .iconst 3, 0, 0)] := ⟨by decide +kernel, trivial, trivial, trivial, trivial⟩
theorem sX6_shuntingTime_18 : JSeg (jm jdX6_shuntingTime) [(18, .iload 4, 0, 0), (20, .iconst 5, 0, 0)] := ⟨by decide +kernel, trivial, trivial, trivial⟩
theorem sX6_shuntingTime_24 : JSeg (jm jdX6_shuntingTime) [(24, .iconst 4, 0, 0), (25, .goto 5, 0, 0)] := ⟨by decide +kernel, trivial, trivial, trivial⟩
theorem sX6_shuntingTime_28 : JSeg (jm jdX6_shuntingTime) [(28, .iload 4, 0, 0)] := ⟨by decide +kernel, trivial, trivial⟩
theorem sX6_shuntingTime_33 : JSeg (jm jdX6_shuntingTime) [(33, .aload_n 0, 0, 0), (34, .getfield 10, 6, 0), (37, .iload_n 1, 0, 0), (38, .iload_n 2, 0, 0), (39, .iload_n 3, 0, 0)] := ⟨by decide +kernel, trivial, fkX6_10, trivial, trivial, trivial, trivial⟩
theorem dX6_shuntingTime_7 : decode cX6_shuntingTime 7 = .ok (.invokevirtual 94, 3) := by decide +kernel
theorem dX6_shuntingTime_15 : decode cX6_shuntingTime 15 = .ok (.if_icmp .eq 9, 3) := by decide +kernel
theorem dX6_shuntingTime_21 : decode cX6_shuntingTime 21 = .ok (.if_icmp .ne 7, 3) := by decide +kernel
theorem dX6_shuntingTime_30 : decode cX6_shuntingTime 30 = .ok (.invokestatic 51, 3) := by decide +kernel
theorem dX6_shuntingTime_40 : decode cX6_shuntingTime 40 = .ok (.invokevirtual 184, 3) := by decide +kernel
theorem dX6_shuntingTime_43 : decode cX6_shuntingTime 43 = .ok (.ireturn, 1) := by decide +kernel
theorem sX6_nearestFreeTrack_0 : JSeg (jm jdX6_nearestFreeTrack) [(0, .aload_n 0, 0, 0), (1, .iload_n 1, 0, 0)] := ⟨by decide +kernel, trivial, trivial, trivial⟩
theorem sX6_nearestFreeTrack_5 : JSeg (jm jdX6_nearestFreeTrack) [(5, .aload_n 0, 0, 0), (6, .getfield 10, 6, 0), (9, .iload_n 1, 0, 0)] := ⟨by decide +kernel, trivial, fkX6_10, trivial, trivial⟩
theorem sX6_nearestFreeTrack_13 : JSeg (jm jdX6_nearestFreeTrack) [(13, .istore_n 2, 0, 0), (14, .iload_n 2, 0, 0), (15, .iconst (-1), 0, 0)] := ⟨by decide +kernel, trivial, trivial, trivial, trivial⟩
theorem sX6_nearestFreeTrack_22 : JSeg (jm jdX6_nearestFreeTrack) [(22, .dup, 0, 0)] := ⟨by decide +kernel, trivial, trivial⟩
theorem sX6_nearestFreeTrack_29 : JSeg (jm jdX6_nearestFreeTrack) [(29, .iload_n 2, 0, 0)] := ⟨by decide +kernel, trivial, trivial⟩
theorem dX6_nearestFreeTrack_2 : decode cX6_nearestFreeTrack 2 = .ok (.invokevirtual 117, 3) := by decide +kernel
theorem dX6_nearestFreeTrack_10 : decode cX6_nearestFreeTrack 10 = .ok (.invokevirtual 187, 3) := by decide +kernel
theorem dX6_nearestFreeTrack_16 : decode cX6_nearestFreeTrack 16 = .ok (.if_icmp .ne 13, 3) := by decide +kernel
theorem dX6_nearestFreeTrack_19 : decode cX6_nearestFreeTrack 19 = .ok (.new 138, 3) := by decide +kernel
theorem dX6_nearestFreeTrack_23 : decode cX6_nearestFreeTrack 23 = .ok (.ldc 190, 2) := by decide +kernel
theorem dX6_nearestFreeTrack_25 : decode cX6_nearestFreeTrack 25 = .ok (.invokespecial 142, 3) := by decide +kernel
theorem dX6_nearestFreeTrack_28 : decode cX6_nearestFreeTrack 28 = .ok (.athrow, 1) := by decide +kernel
theorem dX6_nearestFreeTrack_30 : decode cX6_nearestFreeTrack 30 = .ok (.ireturn, 1) := by decide +kernel
theorem sX6_carCount_0 : JSeg (jm jdX6_carCount) [(0, .aload_n 0, 0, 0), (1, .getfield 10, 6, 0), (4, .getfield 84, 5, 3), (7, .getfield 192, 0, 0)] := ⟨by decide +kernel, trivial, fkX6_10, fkX6_84, fkX6_192, trivial⟩
theorem dX6_carCount_10 : decode cX6_carCount 10 = .ok (.ireturn, 1) := by decide +kernel
theorem sX6_isInYard_0 : JSeg (jm jdX6_isInYard) [(0, .aload_n 0, 0, 0), (1, .getfield 10, 6, 0), (4, .getfield 84, 5, 3), (7, .iload_n 1, 0, 0)] := ⟨by decide +kernel, trivial, fkX6_10, fkX6_84, trivial, trivial⟩
theorem sX6_isInYard_11 : JSeg (jm jdX6_isInYard) [(11, .iconst (-1), 0, 0)] := ⟨by decide +kernel, trivial, trivial⟩
theorem sX6_isInYard_15 : JSeg (jm jdX6_isInYard) [(15, .iconst 1, 0, 0), (16, .goto 4, 0, 0)] := ⟨by decide +kernel, trivial, trivial, trivial⟩
theorem sX6_isInYard_19 : JSeg (jm jdX6_isInYard) [(19, .iconst 0, 0, 0)] := ⟨by decide +kernel, trivial, trivial⟩
theorem dX6_isInYard_8 : decode cX6_isInYard 8 = .ok (.invokevirtual 195, 3) := by decide +kernel
theorem dX6_isInYard_12 : decode cX6_isInYard 12 = .ok (.if_icmp .eq 7, 3) := by decide +kernel
theorem dX6_isInYard_20 : decode cX6_isInYard 20 = .ok (.ireturn, 1) := by decide +kernel
theorem sX6_carsBehind_0 : JSeg (jm jdX6_carsBehind) [(0, .aload_n 0, 0, 0), (1, .getfield 10, 6, 0), (4, .getfield 84, 5, 3), (7, .aload_n 0, 0, 0), (8, .iload_n 1, 0, 0)] := ⟨by decide +kernel, trivial, fkX6_10, fkX6_84, trivial, trivial, trivial⟩
theorem dX6_carsBehind_9 : decode cX6_carsBehind 9 = .ok (.invokevirtual 201, 3) := by decide +kernel
theorem dX6_carsBehind_12 : decode cX6_carsBehind 12 = .ok (.invokevirtual 204, 3) := by decide +kernel
theorem dX6_carsBehind_15 : decode cX6_carsBehind 15 = .ok (.ireturn, 1) := by decide +kernel
theorem sX6_destination_0 : JSeg (jm jdX6_destination) [(0, .aload_n 0, 0, 0), (1, .getfield 10, 6, 0), (4, .getfield 84, 5, 3), (7, .getfield 207, 0, 3), (10, .aload_n 0, 0, 0), (11, .iload_n 1, 0, 0)] := ⟨by decide +kernel, trivial, fkX6_10, fkX6_84, fkX6_207, trivial, trivial, trivial⟩
theorem dX6_destination_12 : decode cX6_destination 12 = .ok (.invokevirtual 201, 3) := by decide +kernel
theorem dX6_destination_15 : decode cX6_destination 15 = .ok (.invokevirtual 127, 3) := by decide +kernel
theorem dX6_destination_18 : decode cX6_destination 18 = .ok (.ireturn, 1) := by decide +kernel
theorem sX6_isDefective_0 : JSeg (jm jdX6_isDefective) [(0, .aload_n 0, 0, 0), (1, .getfield 10, 6, 0), (4, .getfield 84, 5, 3), (7, .getfield 210, 0, 4), (10, .aload_n 0, 0, 0), (11, .iload_n 1, 0, 0)] := ⟨by decide +kernel, trivial, fkX6_10, fkX6_84, fkX6_210, trivial, trivial, trivial⟩
theorem sX6_isDefective_18 : JSeg (jm jdX6_isDefective) [(18, .iconst 1, 0, 0)] := ⟨by decide +kernel, trivial, trivial⟩
theorem sX6_isDefective_22 : JSeg (jm jdX6_isDefective) [(22, .iconst 1, 0, 0), (23, .goto 4, 0, 0)] := ⟨by decide +kernel, trivial, trivial, trivial⟩
theorem sX6_isDefective_26 : JSeg (jm jdX6_isDefective) [(26, .iconst 0, 0, 0)] := ⟨by decide +kernel, trivial, trivial⟩
theorem dX6_isDefective_12 : decode cX6_isDefective 12 = .ok (.invokevirtual 201, 3) := by decide +kernel
theorem dX6_isDefective_15 : decode cX6_isDefective 15 = .ok (.invokevirtual 127, 3) := by decide +kernel
theorem dX6_isDefective_19 : decode cX6_isDefective 19 = .ok (.if_icmp .ne 7, 3) := by decide +kernel
theorem dX6_isDefective_27 : decode cX6_isDefective 27 = .ok (.ireturn, 1) := by decide +kernel
theorem sX6_carsFor_0 : JSeg (jm jdX6_carsFor) [(0, .iload_n 1, 0, 0), (1, .iconst 0, 0, 0), (2, .bipush 9, 0, 0)] := ⟨by decide +kernel, trivial, trivial, trivial, trivial⟩
theorem sX6_carsFor_13 : JSeg (jm jdX6_carsFor) [(13, .dup, 0, 0)] := ⟨by decide +kernel, trivial, trivial⟩
theorem sX6_carsFor_20 : JSeg (jm jdX6_carsFor) [(20, .aload_n 0, 0, 0), (21, .getfield 10, 6, 0), (24, .getfield 84, 5, 3), (27, .iload_n 1, 0, 0)] := ⟨by decide +kernel, trivial, fkX6_10, fkX6_84, trivial, trivial⟩
theorem dX6_carsFor_4 : decode cX6_carsFor 4 = .ok (.invokestatic 213, 3) := by decide +kernel
theorem dX6_carsFor_7 : decode cX6_carsFor 7 = .ok (.ifCond .ne 13, 3) := by decide +kernel
theorem dX6_carsFor_10 : decode cX6_carsFor 10 = .ok (.new 217, 3) := by decide +kernel
theorem dX6_carsFor_14 : decode cX6_carsFor 14 = .ok (.ldc 219, 2) := by decide +kernel
theorem dX6_carsFor_16 : decode cX6_carsFor 16 = .ok (.invokespecial 221, 3) := by decide +kernel
theorem dX6_carsFor_19 : decode cX6_carsFor 19 = .ok (.athrow, 1) := by decide +kernel
theorem dX6_carsFor_28 : decode cX6_carsFor 28 = .ok (.invokevirtual 222, 3) := by decide +kernel
theorem dX6_carsFor_31 : decode cX6_carsFor 31 = .ok (.ireturn, 1) := by decide +kernel
theorem sX6_carAtRank_0 : JSeg (jm jdX6_carAtRank) [(0, .aload_n 0, 0, 0), (1, .getfield 10, 6, 0), (4, .getfield 84, 5, 3), (7, .iload_n 1, 0, 0)] := ⟨by decide +kernel, trivial, fkX6_10, fkX6_84, trivial, trivial⟩
theorem sX6_carAtRank_11 : JSeg (jm jdX6_carAtRank) [(11, .istore_n 2, 0, 0), (12, .iload_n 2, 0, 0), (13, .iconst (-1), 0, 0)] := ⟨by decide +kernel, trivial, trivial, trivial, trivial⟩
theorem sX6_carAtRank_20 : JSeg (jm jdX6_carAtRank) [(20, .dup, 0, 0)] := ⟨by decide +kernel, trivial, trivial⟩
theorem sX6_carAtRank_27 : JSeg (jm jdX6_carAtRank) [(27, .aload_n 0, 0, 0), (28, .getfield 10, 6, 0), (31, .getfield 84, 5, 3), (34, .getfield 145, 0, 2), (37, .iload_n 2, 0, 0)] := ⟨by decide +kernel, trivial, fkX6_10, fkX6_84, fkX6_145, trivial, trivial⟩
theorem dX6_carAtRank_8 : decode cX6_carAtRank 8 = .ok (.invokevirtual 225, 3) := by decide +kernel
theorem dX6_carAtRank_14 : decode cX6_carAtRank 14 = .ok (.if_icmp .ne 13, 3) := by decide +kernel
theorem dX6_carAtRank_17 : decode cX6_carAtRank 17 = .ok (.new 138, 3) := by decide +kernel
theorem dX6_carAtRank_21 : decode cX6_carAtRank 21 = .ok (.ldc 228, 2) := by decide +kernel
theorem dX6_carAtRank_23 : decode cX6_carAtRank 23 = .ok (.invokespecial 142, 3) := by decide +kernel
theorem dX6_carAtRank_26 : decode cX6_carAtRank 26 = .ok (.athrow, 1) := by decide +kernel
theorem dX6_carAtRank_38 : decode cX6_carAtRank 38 = .ok (.invokevirtual 127, 3) := by decide +kernel
theorem dX6_carAtRank_41 : decode cX6_carAtRank 41 = .ok (.ireturn, 1) := by decide +kernel
theorem sX6_time_0 : JSeg (jm jdX6_time) [(0, .aload_n 0, 0, 0), (1, .getfield 10, 6, 0), (4, .getfield 230, 5, 4)] := ⟨by decide +kernel, trivial, fkX6_10, fkX6_230, trivial⟩
theorem dX6_time_7 : decode cX6_time 7 = .ok (.lreturn, 1) := by decide +kernel
theorem sX6_moveCount_0 : JSeg (jm jdX6_moveCount) [(0, .aload_n 0, 0, 0), (1, .getfield 10, 6, 0), (4, .getfield 234, 5, 5)] := ⟨by decide +kernel, trivial, fkX6_10, fkX6_234, trivial⟩
theorem dX6_moveCount_7 : decode cX6_moveCount 7 = .ok (.ireturn, 1) := by decide +kernel
theorem sX6_departedCars_0 : JSeg (jm jdX6_departedCars) [(0, .aload_n 0, 0, 0), (1, .getfield 10, 6, 0), (4, .getfield 237, 5, 6)] := ⟨by decide +kernel, trivial, fkX6_10, fkX6_237, trivial⟩
theorem dX6_departedCars_7 : decode cX6_departedCars 7 = .ok (.ireturn, 1) := by decide +kernel
theorem sX6_departedWeight_0 : JSeg (jm jdX6_departedWeight) [(0, .aload_n 0, 0, 0), (1, .getfield 10, 6, 0), (4, .getfield 240, 5, 7)] := ⟨by decide +kernel, trivial, fkX6_10, fkX6_240, trivial⟩
theorem dX6_departedWeight_7 : decode cX6_departedWeight 7 = .ok (.lreturn, 1) := by decide +kernel
theorem sX6_meanMoveTime_0 : JSeg (jm jdX6_meanMoveTime) [(0, .aload_n 0, 0, 0), (1, .getfield 10, 6, 0), (4, .getfield 234, 5, 5)] := ⟨by decide +kernel, trivial, fkX6_10, fkX6_234, trivial⟩
theorem sX6_meanMoveTime_13 : JSeg (jm jdX6_meanMoveTime) [(13, .dup, 0, 0)] := ⟨by decide +kernel, trivial, trivial⟩
theorem sX6_meanMoveTime_20 : JSeg (jm jdX6_meanMoveTime) [(20, .aload_n 0, 0, 0), (21, .getfield 10, 6, 0), (24, .getfield 230, 5, 4), (27, .l2d, 0, 0), (28, .aload_n 0, 0, 0), (29, .getfield 10, 6, 0), (32, .getfield 234, 5, 5), (35, .i2d, 0, 0)] := ⟨by decide +kernel, trivial, fkX6_10, fkX6_230, trivial, trivial, fkX6_10, fkX6_234, trivial, trivial⟩
theorem dX6_meanMoveTime_7 : decode cX6_meanMoveTime 7 = .ok (.ifCond .ne 13, 3) := by decide +kernel
theorem dX6_meanMoveTime_10 : decode cX6_meanMoveTime 10 = .ok (.new 243, 3) := by decide +kernel
theorem dX6_meanMoveTime_14 : decode cX6_meanMoveTime 14 = .ok (.ldc 245, 2) := by decide +kernel
theorem dX6_meanMoveTime_16 : decode cX6_meanMoveTime 16 = .ok (.invokespecial 247, 3) := by decide +kernel
theorem dX6_meanMoveTime_19 : decode cX6_meanMoveTime 19 = .ok (.athrow, 1) := by decide +kernel
theorem dX6_meanMoveTime_36 : decode cX6_meanMoveTime 36 = .ok (.ddiv, 1) := by decide +kernel
theorem dX6_meanMoveTime_37 : decode cX6_meanMoveTime 37 = .ok (.dreturn, 1) := by decide +kernel
theorem sX6_usedShare_0 : JSeg (jm jdX6_usedShare) [(0, .aload_n 0, 0, 0), (1, .getfield 10, 6, 0)] := ⟨by decide +kernel, trivial, fkX6_10, trivial⟩
theorem sX6_usedShare_7 : JSeg (jm jdX6_usedShare) [(7, .istore_n 1, 0, 0), (8, .iload_n 1, 0, 0)] := ⟨by decide +kernel, trivial, trivial, trivial⟩
theorem sX6_usedShare_15 : JSeg (jm jdX6_usedShare) [(15, .dup, 0, 0)] := ⟨by decide +kernel, trivial, trivial⟩
theorem sX6_usedShare_22 : JSeg (jm jdX6_usedShare) [(22, .aload_n 0, 0, 0), (23, .getfield 10, 6, 0)] := ⟨by decide +kernel, trivial, fkX6_10, trivial⟩
theorem sX6_usedShare_29 : JSeg (jm jdX6_usedShare) [(29, .i2f, 0, 0), (30, .iload_n 1, 0, 0), (31, .i2f, 0, 0)] := ⟨by decide +kernel, trivial, trivial, trivial, trivial⟩
theorem dX6_usedShare_4 : decode cX6_usedShare 4 = .ok (.invokevirtual 248, 3) := by decide +kernel
theorem dX6_usedShare_9 : decode cX6_usedShare 9 = .ok (.ifCond .ne 13, 3) := by decide +kernel
theorem dX6_usedShare_12 : decode cX6_usedShare 12 = .ok (.new 243, 3) := by decide +kernel
theorem dX6_usedShare_16 : decode cX6_usedShare 16 = .ok (.ldc 252, 2) := by decide +kernel
theorem dX6_usedShare_18 : decode cX6_usedShare 18 = .ok (.invokespecial 247, 3) := by decide +kernel
theorem dX6_usedShare_21 : decode cX6_usedShare 21 = .ok (.athrow, 1) := by decide +kernel
theorem dX6_usedShare_26 : decode cX6_usedShare 26 = .ok (.invokevirtual 254, 3) := by decide +kernel
theorem dX6_usedShare_32 : decode cX6_usedShare 32 = .ok (.fdiv, 1) := by decide +kernel
theorem dX6_usedShare_33 : decode cX6_usedShare 33 = .ok (.freturn, 1) := by decide +kernel
theorem sX6_isConsistent_0 : JSeg (jm jdX6_isConsistent) [(0, .aload_n 0, 0, 0), (1, .getfield 10, 6, 0), (4, .getfield 65, 5, 2)] := ⟨by decide +kernel, trivial, fkX6_10, fkX6_65, trivial⟩
theorem sX6_isConsistent_13 : JSeg (jm jdX6_isConsistent) [(13, .aload_n 0, 0, 0), (14, .getfield 10, 6, 0)] := ⟨by decide +kernel, trivial, fkX6_10, trivial⟩
theorem sX6_isConsistent_23 : JSeg (jm jdX6_isConsistent) [(23, .iconst 1, 0, 0), (24, .goto 4, 0, 0)] := ⟨by decide +kernel, trivial, trivial, trivial⟩
theorem sX6_isConsistent_27 : JSeg (jm jdX6_isConsistent) [(27, .iconst 0, 0, 0)] := ⟨by decide +kernel, trivial, trivial⟩
theorem dX6_isConsistent_7 : decode cX6_isConsistent 7 = .ok (.invokevirtual 257, 3) := by decide +kernel
theorem dX6_isConsistent_10 : decode cX6_isConsistent 10 = .ok (.ifCond .eq 17, 3) := by decide +kernel
theorem dX6_isConsistent_17 : decode cX6_isConsistent 17 = .ok (.invokevirtual 261, 3) := by decide +kernel
theorem dX6_isConsistent_20 : decode cX6_isConsistent 20 = .ok (.ifCond .eq 7, 3) := by decide +kernel
theorem dX6_isConsistent_28 : decode cX6_isConsistent 28 = .ok (.ireturn, 1) := by decide +kernel
theorem sX6_append_0 : JSeg (jm jdX6_append) [(0, .aload_n 0, 0, 0), (1, .getfield 29, 6, 3), (4, .getfield 264, 3, 1), (7, .bipush 60, 0, 0)] := ⟨by decide +kernel, trivial, fkX6_29, fkX6_264, trivial, trivial⟩
theorem sX6_append_15 : JSeg (jm jdX6_append) [(15, .dup, 0, 0)] := ⟨by decide +kernel, trivial, trivial⟩
theorem sX6_append_23 : JSeg (jm jdX6_append) [(23, .aload_n 0, 0, 0), (24, .getfield 29, 6, 3), (27, .iload_n 1, 0, 0)] := ⟨by decide +kernel, trivial, fkX6_29, trivial, trivial⟩
theorem dX6_append_9 : decode cX6_append 9 = .ok (.if_icmp .lt 14, 3) := by decide +kernel
theorem dX6_append_12 : decode cX6_append 12 = .ok (.new 267, 3) := by decide +kernel
theorem dX6_append_16 : decode cX6_append 16 = .ok (.ldc_w 269, 3) := by decide +kernel
theorem dX6_append_19 : decode cX6_append 19 = .ok (.invokespecial 271, 3) := by decide +kernel
theorem dX6_append_22 : decode cX6_append 22 = .ok (.athrow, 1) := by decide +kernel
theorem dX6_append_28 : decode cX6_append 28 = .ok (.invokevirtual 272, 3) := by decide +kernel
theorem dX6_append_31 : decode cX6_append 31 = .ok (.ireturn, 1) := by decide +kernel
theorem sX6_run_0 : JSeg (jm jdX6_run) [(0, .aload_n 0, 0, 0), (1, .getfield 29, 6, 3)] := ⟨by decide +kernel, trivial, fkX6_29, trivial⟩
theorem sX6_run_7 : JSeg (jm jdX6_run) [(7, .istore_n 1, 0, 0), (8, .aload_n 0, 0, 0), (9, .getfield 29, 6, 3)] := ⟨by decide +kernel, trivial, trivial, fkX6_29, trivial⟩
theorem sX6_run_15 : JSeg (jm jdX6_run) [(15, .iload_n 1, 0, 0), (16, .iconst (-1), 0, 0)] := ⟨by decide +kernel, trivial, trivial, trivial⟩
theorem sX6_run_20 : JSeg (jm jdX6_run) [(20, .aload_n 0, 0, 0), (21, .iload_n 1, 0, 0), (22, .putfield 40, 6, 5)] := ⟨by decide +kernel, trivial, trivial, fpX6_40, trivial⟩
theorem sX6_run_28 : JSeg (jm jdX6_run) [(28, .dup, 0, 0)] := ⟨by decide +kernel, trivial, trivial⟩
theorem sX6_run_36 : JSeg (jm jdX6_run) [(36, .aload_n 0, 0, 0), (37, .getfield 16, 6, 1), (40, .aload_n 0, 0, 0), (41, .getfield 10, 6, 0)] := ⟨by decide +kernel, trivial, fkX6_16, trivial, fkX6_10, trivial⟩
theorem sX6_run_47 : JSeg (jm jdX6_run) [(47, .iconst 0, 0, 0), (48, .istore_n 2, 0, 0)] := ⟨by decide +kernel, trivial, trivial, trivial⟩
theorem sX6_run_49 : JSeg (jm jdX6_run) [(49, .iload_n 2, 0, 0), (50, .aload_n 0, 0, 0), (51, .getfield 29, 6, 3), (54, .getfield 287, 3, 2)] := ⟨by decide +kernel, trivial, trivial, fkX6_29, fkX6_287, trivial⟩
theorem sX6_run_60 : JSeg (jm jdX6_run) [(60, .aload_n 0, 0, 0), (61, .iload_n 2, 0, 0)] := ⟨by decide +kernel, trivial, trivial, trivial⟩
theorem sX6_run_68 : JSeg (jm jdX6_run) [(68, .aload_n 0, 0, 0), (69, .getfield 10, 6, 0), (72, .aload_n 0, 0, 0), (73, .getfield 16, 6, 1)] := ⟨by decide +kernel, trivial, fkX6_10, trivial, fkX6_16, trivial⟩
theorem sX6_run_79 : JSeg (jm jdX6_run) [(79, .aload_n 0, 0, 0), (80, .iload_n 2, 0, 0), (81, .putfield 44, 6, 6)] := ⟨by decide +kernel, trivial, trivial, fpX6_44, trivial⟩
theorem sX6_run_87 : JSeg (jm jdX6_run) [(87, .dup, 0, 0)] := ⟨by decide +kernel, trivial, trivial⟩
theorem sX6_run_95 : JSeg (jm jdX6_run) [(95, .aload_n 0, 0, 0), (96, .iload_n 2, 0, 0)] := ⟨by decide +kernel, trivial, trivial, trivial⟩
theorem sX6_run_100 : JSeg (jm jdX6_run) [(100, .iinc 2 1, 0, 0), (103, .goto (-54), 0, 0)] := ⟨by decide +kernel, trivial, trivial, trivial⟩
theorem sX6_run_106 : JSeg (jm jdX6_run) [(106, .aload_n 0, 0, 0), (107, .getfield 22, 6, 2), (110, .aload_n 0, 0, 0), (111, .getfield 16, 6, 1)] := ⟨by decide +kernel, trivial, fkX6_22, trivial, fkX6_16, trivial⟩
theorem sX6_run_117 : JSeg (jm jdX6_run) [(117, .aload_n 0, 0, 0), (118, .getfield 29, 6, 3), (121, .getfield 287, 3, 2)] := ⟨by decide +kernel, trivial, fkX6_29, fkX6_287, trivial⟩
theorem dX6_run_4 : decode cX6_run 4 = .ok (.invokevirtual 276, 3) := by decide +kernel
theorem dX6_run_12 : decode cX6_run 12 = .ok (.invokevirtual 279, 3) := by decide +kernel
theorem dX6_run_17 : decode cX6_run 17 = .ok (.if_icmp .eq 19, 3) := by decide +kernel
theorem dX6_run_25 : decode cX6_run 25 = .ok (.new 217, 3) := by decide +kernel
theorem dX6_run_29 : decode cX6_run 29 = .ok (.ldc_w 282, 3) := by decide +kernel
theorem dX6_run_32 : decode cX6_run 32 = .ok (.invokespecial 221, 3) := by decide +kernel
theorem dX6_run_35 : decode cX6_run 35 = .ok (.athrow, 1) := by decide +kernel
theorem dX6_run_44 : decode cX6_run 44 = .ok (.invokevirtual 284, 3) := by decide +kernel
theorem dX6_run_57 : decode cX6_run 57 = .ok (.if_icmp .ge 49, 3) := by decide +kernel
theorem dX6_run_62 : decode cX6_run 62 = .ok (.invokevirtual 290, 3) := by decide +kernel
theorem dX6_run_65 : decode cX6_run 65 = .ok (.ifCond .eq 30, 3) := by decide +kernel
theorem dX6_run_76 : decode cX6_run 76 = .ok (.invokevirtual 284, 3) := by decide +kernel
theorem dX6_run_84 : decode cX6_run 84 = .ok (.new 293, 3) := by decide +kernel
theorem dX6_run_88 : decode cX6_run 88 = .ok (.ldc_w 295, 3) := by decide +kernel
theorem dX6_run_91 : decode cX6_run 91 = .ok (.invokespecial 297, 3) := by decide +kernel
theorem dX6_run_94 : decode cX6_run 94 = .ok (.athrow, 1) := by decide +kernel
theorem dX6_run_97 : decode cX6_run 97 = .ok (.invokevirtual 298, 3) := by decide +kernel
theorem dX6_run_114 : decode cX6_run 114 = .ok (.invokevirtual 55, 3) := by decide +kernel
theorem dX6_run_124 : decode cX6_run 124 = .ok (.ireturn, 1) := by decide +kernel
theorem sX6_errorPosition_0 : JSeg (jm jdX6_errorPosition) [(0, .aload_n 0, 0, 0), (1, .getfield 40, 6, 5), (4, .iconst (-1), 0, 0)] := ⟨by decide +kernel, trivial, fkX6_40, trivial, trivial⟩
theorem sX6_errorPosition_11 : JSeg (jm jdX6_errorPosition) [(11, .dup, 0, 0)] := ⟨by decide +kernel, trivial, trivial⟩
theorem sX6_errorPosition_19 : JSeg (jm jdX6_errorPosition) [(19, .aload_n 0, 0, 0), (20, .getfield 40, 6, 5)] := ⟨by decide +kernel, trivial, fkX6_40, trivial⟩
theorem dX6_errorPosition_5 : decode cX6_errorPosition 5 = .ok (.if_icmp .ne 14, 3) := by decide +kernel
theorem dX6_errorPosition_8 : decode cX6_errorPosition 8 = .ok (.new 138, 3) := by decide +kernel
theorem dX6_errorPosition_12 : decode cX6_errorPosition 12 = .ok (.ldc_w 301, 3) := by decide +kernel
theorem dX6_errorPosition_15 : decode cX6_errorPosition 15 = .ok (.invokespecial 142, 3) := by decide +kernel
theorem dX6_errorPosition_18 : decode cX6_errorPosition 18 = .ok (.athrow, 1) := by decide +kernel
theorem dX6_errorPosition_23 : decode cX6_errorPosition 23 = .ok (.ireturn, 1) := by decide +kernel
theorem sX6_failedCommand_0 : JSeg (jm jdX6_failedCommand) [(0, .aload_n 0, 0, 0), (1, .getfield 44, 6, 6), (4, .iconst (-1), 0, 0)] := ⟨by decide +kernel, trivial, fkX6_44, trivial, trivial⟩
theorem sX6_failedCommand_11 : JSeg (jm jdX6_failedCommand) [(11, .dup, 0, 0)] := ⟨by decide +kernel, trivial, trivial⟩
theorem sX6_failedCommand_19 : JSeg (jm jdX6_failedCommand) [(19, .aload_n 0, 0, 0), (20, .getfield 44, 6, 6)] := ⟨by decide +kernel, trivial, fkX6_44, trivial⟩
theorem dX6_failedCommand_5 : decode cX6_failedCommand 5 = .ok (.if_icmp .ne 14, 3) := by decide +kernel
theorem dX6_failedCommand_8 : decode cX6_failedCommand 8 = .ok (.new 138, 3) := by decide +kernel
theorem dX6_failedCommand_12 : decode cX6_failedCommand 12 = .ok (.ldc_w 303, 3) := by decide +kernel
theorem dX6_failedCommand_15 : decode cX6_failedCommand 15 = .ok (.invokespecial 142, 3) := by decide +kernel
theorem dX6_failedCommand_18 : decode cX6_failedCommand 18 = .ok (.athrow, 1) := by decide +kernel
theorem dX6_failedCommand_23 : decode cX6_failedCommand 23 = .ok (.ireturn, 1) := by decide +kernel
theorem sX6_writeTrack_0 : JSeg (jm jdX6_writeTrack) [(0, .aload_n 0, 0, 0), (1, .iload_n 1, 0, 0)] := ⟨by decide +kernel, trivial, trivial, trivial⟩
theorem sX6_writeTrack_5 : JSeg (jm jdX6_writeTrack) [(5, .aload_n 0, 0, 0), (6, .getfield 36, 6, 4), (9, .iconst 0, 0, 0)] := ⟨by decide +kernel, trivial, fkX6_36, trivial, trivial⟩
theorem sX6_writeTrack_13 : JSeg (jm jdX6_writeTrack) [(13, .aload_n 0, 0, 0), (14, .getfield 36, 6, 4), (17, .iload_n 1, 0, 0)] := ⟨by decide +kernel, trivial, fkX6_36, trivial, trivial⟩
theorem sX6_writeTrack_21 : JSeg (jm jdX6_writeTrack) [(21, .bipush 47, 0, 0)] := ⟨by decide +kernel, trivial, trivial⟩
theorem sX6_writeTrack_26 : JSeg (jm jdX6_writeTrack) [(26, .aload_n 0, 0, 0), (27, .getfield 10, 6, 0), (30, .getfield 315, 5, 1), (33, .iload_n 1, 0, 0)] := ⟨by decide +kernel, trivial, fkX6_10, fkX6_315, trivial, trivial⟩
theorem sX6_writeTrack_40 : JSeg (jm jdX6_writeTrack) [(40, .pop, 0, 0), (41, .aload_n 0, 0, 0), (42, .getfield 36, 6, 4), (45, .bipush 91, 0, 0)] := ⟨by decide +kernel, trivial, trivial, fkX6_36, trivial, trivial⟩
theorem sX6_writeTrack_50 : JSeg (jm jdX6_writeTrack) [(50, .aload_n 0, 0, 0), (51, .getfield 10, 6, 0), (54, .getfield 84, 5, 3), (57, .getfield 318, 0, 10), (60, .iload_n 1, 0, 0)] := ⟨by decide +kernel, trivial, fkX6_10, fkX6_84, fkX6_318, trivial, trivial⟩
theorem sX6_writeTrack_67 : JSeg (jm jdX6_writeTrack) [(67, .pop, 0, 0), (68, .aload_n 0, 0, 0), (69, .getfield 36, 6, 4), (72, .bipush 47, 0, 0)] := ⟨by decide +kernel, trivial, trivial, fkX6_36, trivial, trivial⟩
theorem sX6_writeTrack_77 : JSeg (jm jdX6_writeTrack) [(77, .aload_n 0, 0, 0), (78, .getfield 10, 6, 0), (81, .getfield 321, 5, 0), (84, .iload_n 1, 0, 0)] := ⟨by decide +kernel, trivial, fkX6_10, fkX6_321, trivial, trivial⟩
theorem sX6_writeTrack_91 : JSeg (jm jdX6_writeTrack) [(91, .bipush 93, 0, 0)] := ⟨by decide +kernel, trivial, trivial⟩
theorem sX6_writeTrack_96 : JSeg (jm jdX6_writeTrack) [(96, .pop, 0, 0), (97, .aload_n 0, 0, 0), (98, .getfield 10, 6, 0), (101, .getfield 84, 5, 3), (104, .getfield 123, 0, 9), (107, .iload_n 1, 0, 0)] := ⟨by decide +kernel, trivial, trivial, fkX6_10, fkX6_84, fkX6_123, trivial, trivial⟩
theorem sX6_writeTrack_111 : JSeg (jm jdX6_writeTrack) [(111, .istore_n 2, 0, 0), (112, .iconst 0, 0, 0), (113, .istore_n 3, 0, 0)] := ⟨by decide +kernel, trivial, trivial, trivial, trivial⟩
theorem sX6_writeTrack_114 : JSeg (jm jdX6_writeTrack) [(114, .iload_n 3, 0, 0), (115, .iload_n 2, 0, 0)] := ⟨by decide +kernel, trivial, trivial, trivial⟩
theorem sX6_writeTrack_119 : JSeg (jm jdX6_writeTrack) [(119, .aload_n 0, 0, 0), (120, .aload_n 0, 0, 0), (121, .getfield 10, 6, 0), (124, .getfield 84, 5, 3), (127, .iload_n 1, 0, 0), (128, .iload_n 3, 0, 0)] := ⟨by decide +kernel, trivial, trivial, fkX6_10, fkX6_84, trivial, trivial, trivial⟩
theorem sX6_writeTrack_135 : JSeg (jm jdX6_writeTrack) [(135, .iinc 3 1, 0, 0), (138, .goto (-24), 0, 0)] := ⟨by decide +kernel, trivial, trivial, trivial⟩
theorem sX6_writeTrack_141 : JSeg (jm jdX6_writeTrack) [(141, .aload_n 0, 0, 0), (142, .getfield 36, 6, 4)] := ⟨by decide +kernel, trivial, fkX6_36, trivial⟩
theorem dX6_writeTrack_2 : decode cX6_writeTrack 2 = .ok (.invokevirtual 117, 3) := by decide +kernel
theorem dX6_writeTrack_10 : decode cX6_writeTrack 10 = .ok (.invokevirtual 305, 3) := by decide +kernel
theorem dX6_writeTrack_18 : decode cX6_writeTrack 18 = .ok (.invokevirtual 308, 3) := by decide +kernel
theorem dX6_writeTrack_23 : decode cX6_writeTrack 23 = .ok (.invokevirtual 312, 3) := by decide +kernel
theorem dX6_writeTrack_34 : decode cX6_writeTrack 34 = .ok (.invokevirtual 127, 3) := by decide +kernel
theorem dX6_writeTrack_37 : decode cX6_writeTrack 37 = .ok (.invokevirtual 308, 3) := by decide +kernel
theorem dX6_writeTrack_47 : decode cX6_writeTrack 47 = .ok (.invokevirtual 312, 3) := by decide +kernel
theorem dX6_writeTrack_61 : decode cX6_writeTrack 61 = .ok (.invokevirtual 127, 3) := by decide +kernel
theorem dX6_writeTrack_64 : decode cX6_writeTrack 64 = .ok (.invokevirtual 308, 3) := by decide +kernel
theorem dX6_writeTrack_74 : decode cX6_writeTrack 74 = .ok (.invokevirtual 312, 3) := by decide +kernel
theorem dX6_writeTrack_85 : decode cX6_writeTrack 85 = .ok (.invokevirtual 127, 3) := by decide +kernel
theorem dX6_writeTrack_88 : decode cX6_writeTrack 88 = .ok (.invokevirtual 308, 3) := by decide +kernel
theorem dX6_writeTrack_93 : decode cX6_writeTrack 93 = .ok (.invokevirtual 312, 3) := by decide +kernel
theorem dX6_writeTrack_108 : decode cX6_writeTrack 108 = .ok (.invokevirtual 127, 3) := by decide +kernel
theorem dX6_writeTrack_116 : decode cX6_writeTrack 116 = .ok (.if_icmp .ge 25, 3) := by decide +kernel
theorem dX6_writeTrack_129 : decode cX6_writeTrack 129 = .ok (.invokevirtual 135, 3) := by decide +kernel
theorem dX6_writeTrack_132 : decode cX6_writeTrack 132 = .ok (.invokevirtual 324, 3) := by decide +kernel
theorem dX6_writeTrack_145 : decode cX6_writeTrack 145 = .ok (.invokevirtual 327, 3) := by decide +kernel
theorem dX6_writeTrack_148 : decode cX6_writeTrack 148 = .ok (.ireturn, 1) := by decide +kernel
theorem sX6_outputAt_0 : JSeg (jm jdX6_outputAt) [(0, .iload_n 1, 0, 0)] := ⟨by decide +kernel, trivial, trivial⟩
theorem sX6_outputAt_4 : JSeg (jm jdX6_outputAt) [(4, .iload_n 1, 0, 0), (5, .aload_n 0, 0, 0), (6, .getfield 36, 6, 4)] := ⟨by decide +kernel, trivial, trivial, fkX6_36, trivial⟩
theorem sX6_outputAt_18 : JSeg (jm jdX6_outputAt) [(18, .dup, 0, 0)] := ⟨by decide +kernel, trivial, trivial⟩
theorem sX6_outputAt_26 : JSeg (jm jdX6_outputAt) [(26, .aload_n 0, 0, 0), (27, .getfield 36, 6, 4), (30, .iload_n 1, 0, 0)] := ⟨by decide +kernel, trivial, fkX6_36, trivial, trivial⟩
theorem dX6_outputAt_1 : decode cX6_outputAt 1 = .ok (.ifCond .lt 14, 3) := by decide +kernel
theorem dX6_outputAt_9 : decode cX6_outputAt 9 = .ok (.invokevirtual 327, 3) := by decide +kernel
theorem dX6_outputAt_12 : decode cX6_outputAt 12 = .ok (.if_icmp .lt 14, 3) := by decide +kernel
theorem dX6_outputAt_15 : decode cX6_outputAt 15 = .ok (.new 329, 3) := by decide +kernel
theorem dX6_outputAt_19 : decode cX6_outputAt 19 = .ok (.ldc_w 331, 3) := by decide +kernel
theorem dX6_outputAt_22 : decode cX6_outputAt 22 = .ok (.invokespecial 333, 3) := by decide +kernel
theorem dX6_outputAt_25 : decode cX6_outputAt 25 = .ok (.athrow, 1) := by decide +kernel
theorem dX6_outputAt_31 : decode cX6_outputAt 31 = .ok (.invokevirtual 334, 3) := by decide +kernel
theorem dX6_outputAt_34 : decode cX6_outputAt 34 = .ok (.ireturn, 1) := by decide +kernel
theorem sX6_undo_0 : JSeg (jm jdX6_undo) [(0, .aload_n 0, 0, 0), (1, .getfield 22, 6, 2), (4, .getfield 338, 1, 2)] := ⟨by decide +kernel, trivial, fkX6_22, fkX6_338, trivial⟩
theorem sX6_undo_13 : JSeg (jm jdX6_undo) [(13, .dup, 0, 0)] := ⟨by decide +kernel, trivial, trivial⟩
theorem sX6_undo_21 : JSeg (jm jdX6_undo) [(21, .aload_n 0, 0, 0), (22, .getfield 10, 6, 0), (25, .aload_n 0, 0, 0), (26, .getfield 22, 6, 2)] := ⟨by decide +kernel, trivial, fkX6_10, trivial, fkX6_22, trivial⟩
theorem sX6_undo_35 : JSeg (jm jdX6_undo) [(35, .aload_n 0, 0, 0), (36, .getfield 22, 6, 2), (39, .getfield 338, 1, 2)] := ⟨by decide +kernel, trivial, fkX6_22, fkX6_338, trivial⟩
theorem dX6_undo_7 : decode cX6_undo 7 = .ok (.ifCond .ne 14, 3) := by decide +kernel
theorem dX6_undo_10 : decode cX6_undo 10 = .ok (.new 267, 3) := by decide +kernel
theorem dX6_undo_14 : decode cX6_undo 14 = .ok (.ldc_w 341, 3) := by decide +kernel
theorem dX6_undo_17 : decode cX6_undo 17 = .ok (.invokespecial 271, 3) := by decide +kernel
theorem dX6_undo_20 : decode cX6_undo 20 = .ok (.athrow, 1) := by decide +kernel
theorem dX6_undo_29 : decode cX6_undo 29 = .ok (.invokevirtual 343, 3) := by decide +kernel
theorem dX6_undo_32 : decode cX6_undo 32 = .ok (.invokevirtual 284, 3) := by decide +kernel
theorem dX6_undo_42 : decode cX6_undo 42 = .ok (.ireturn, 1) := by decide +kernel
theorem sX6_save_0 : JSeg (jm jdX6_save) [(0, .aload_n 0, 0, 0), (1, .getfield 22, 6, 2), (4, .aload_n 0, 0, 0), (5, .getfield 10, 6, 0)] := ⟨by decide +kernel, trivial, fkX6_22, trivial, fkX6_10, trivial⟩
theorem dX6_save_8 : decode cX6_save 8 = .ok (.invokevirtual 347, 3) := by decide +kernel
theorem dX6_save_11 : decode cX6_save 11 = .ok (.return_, 1) := by decide +kernel
theorem fpX6_338 : FP0 RX6 338 1 2 := ⟨_, _, _, _, ci_X1, by decide, bw_of 190 (by decide +kernel) (by decide +kernel), rfl, rfl⟩
theorem sX6_restore_0 : JSeg (jm jdX6_restore) [(0, .aload_n 0, 0, 0), (1, .getfield 22, 6, 2), (4, .getfield 350, 1, 4)] := ⟨by decide +kernel, trivial, fkX6_22, fkX6_350, trivial⟩
theorem sX6_restore_13 : JSeg (jm jdX6_restore) [(13, .dup, 0, 0)] := ⟨by decide +kernel, trivial, trivial⟩
theorem sX6_restore_21 : JSeg (jm jdX6_restore) [(21, .aload_n 0, 0, 0), (22, .getfield 10, 6, 0), (25, .aload_n 0, 0, 0), (26, .getfield 22, 6, 2), (29, .getfield 356, 1, 3)] := ⟨by decide +kernel, trivial, fkX6_10, trivial, fkX6_22, fkX6_356, trivial⟩
theorem sX6_restore_35 : JSeg (jm jdX6_restore) [(35, .aload_n 0, 0, 0), (36, .getfield 22, 6, 2), (39, .iconst 0, 0, 0), (40, .putfield 338, 1, 2)] := ⟨by decide +kernel, trivial, fkX6_22, trivial, fpX6_338, trivial⟩
theorem dX6_restore_7 : decode cX6_restore 7 = .ok (.ifCond .ne 14, 3) := by decide +kernel
theorem dX6_restore_10 : decode cX6_restore 10 = .ok (.new 267, 3) := by decide +kernel
theorem dX6_restore_14 : decode cX6_restore 14 = .ok (.ldc_w 354, 3) := by decide +kernel
theorem dX6_restore_17 : decode cX6_restore 17 = .ok (.invokespecial 271, 3) := by decide +kernel
theorem dX6_restore_20 : decode cX6_restore 20 = .ok (.athrow, 1) := by decide +kernel
theorem dX6_restore_32 : decode cX6_restore 32 = .ok (.invokevirtual 284, 3) := by decide +kernel
theorem dX6_restore_43 : decode cX6_restore 43 = .ok (.return_, 1) := by decide +kernel
theorem sX6_isWithin_0 : JSeg (jm jdX6_isWithin) [(0, .iload_n 0, 0, 0), (1, .iload_n 1, 0, 0)] := ⟨by decide +kernel, trivial, trivial, trivial⟩
theorem sX6_isWithin_5 : JSeg (jm jdX6_isWithin) [(5, .iload_n 0, 0, 0), (6, .iload_n 2, 0, 0)] := ⟨by decide +kernel, trivial, trivial, trivial⟩
theorem sX6_isWithin_10 : JSeg (jm jdX6_isWithin) [(10, .iconst 1, 0, 0), (11, .goto 4, 0, 0)] := ⟨by decide +kernel, trivial, trivial, trivial⟩
theorem sX6_isWithin_14 : JSeg (jm jdX6_isWithin) [(14, .iconst 0, 0, 0)] := ⟨by decide +kernel, trivial, trivial⟩
theorem dX6_isWithin_2 : decode cX6_isWithin 2 = .ok (.if_icmp .lt 12, 3) := by decide +kernel
theorem dX6_isWithin_7 : decode cX6_isWithin 7 = .ok (.if_icmp .gt 7, 3) := by decide +kernel
theorem dX6_isWithin_15 : decode cX6_isWithin 15 = .ok (.ireturn, 1) := by decide +kernel
theorem sX6_refuse_0 : JSeg (jm jdX6_refuse) [(0, .iload_n 0, 0, 0)] := ⟨by decide +kernel, trivial, trivial⟩
theorem sX6_refuse_39 : JSeg (jm jdX6_refuse) [(39, .dup, 0, 0)] := ⟨by decide +kernel, trivial, trivial⟩
theorem sX6_refuse_50 : JSeg (jm jdX6_refuse) [(50, .dup, 0, 0)] := ⟨by decide +kernel, trivial, trivial⟩
theorem sX6_refuse_61 : JSeg (jm jdX6_refuse) [(61, .dup, 0, 0)] := ⟨by decide +kernel, trivial, trivial⟩
theorem sX6_refuse_72 : JSeg (jm jdX6_refuse) [(72, .dup, 0, 0)] := ⟨by decide +kernel, trivial, trivial⟩
theorem sX6_refuse_83 : JSeg (jm jdX6_refuse) [(83, .dup, 0, 0)] := ⟨by decide +kernel, trivial, trivial⟩
theorem dX6_refuse_1 : decode cX6_refuse 1 = .ok (.tableswitch 90 1 5 #[35, 46, 57, 68, 79], 35) := by decide +kernel
theorem dX6_refuse_36 : decode cX6_refuse 36 = .ok (.new 329, 3) := by decide +kernel
theorem dX6_refuse_40 : decode cX6_refuse 40 = .ok (.ldc_w 359, 3) := by decide +kernel
theorem dX6_refuse_43 : decode cX6_refuse 43 = .ok (.invokespecial 333, 3) := by decide +kernel
theorem dX6_refuse_46 : decode cX6_refuse 46 = .ok (.athrow, 1) := by decide +kernel
theorem dX6_refuse_47 : decode cX6_refuse 47 = .ok (.new 217, 3) := by decide +kernel
theorem dX6_refuse_51 : decode cX6_refuse 51 = .ok (.ldc_w 361, 3) := by decide +kernel
theorem dX6_refuse_54 : decode cX6_refuse 54 = .ok (.invokespecial 221, 3) := by decide +kernel
theorem dX6_refuse_57 : decode cX6_refuse 57 = .ok (.athrow, 1) := by decide +kernel
theorem dX6_refuse_58 : decode cX6_refuse 58 = .ok (.new 267, 3) := by decide +kernel
theorem dX6_refuse_62 : decode cX6_refuse 62 = .ok (.ldc_w 363, 3) := by decide +kernel
theorem dX6_refuse_65 : decode cX6_refuse 65 = .ok (.invokespecial 271, 3) := by decide +kernel
theorem dX6_refuse_68 : decode cX6_refuse 68 = .ok (.athrow, 1) := by decide +kernel
theorem dX6_refuse_69 : decode cX6_refuse 69 = .ok (.new 138, 3) := by decide +kernel
theorem dX6_refuse_73 : decode cX6_refuse 73 = .ok (.ldc_w 365, 3) := by decide +kernel
theorem dX6_refuse_76 : decode cX6_refuse 76 = .ok (.invokespecial 142, 3) := by decide +kernel
theorem dX6_refuse_79 : decode cX6_refuse 79 = .ok (.athrow, 1) := by decide +kernel
theorem dX6_refuse_80 : decode cX6_refuse 80 = .ok (.new 293, 3) := by decide +kernel
theorem dX6_refuse_84 : decode cX6_refuse 84 = .ok (.ldc_w 367, 3) := by decide +kernel
theorem dX6_refuse_87 : decode cX6_refuse 87 = .ok (.invokespecial 297, 3) := by decide +kernel
theorem dX6_refuse_90 : decode cX6_refuse 90 = .ok (.athrow, 1) := by decide +kernel
theorem dX6_refuse_91 : decode cX6_refuse 91 = .ok (.return_, 1) := by decide +kernel
theorem sX6_requireTrack_0 : JSeg (jm jdX6_requireTrack) [(0, .aload_n 0, 0, 0), (1, .getfield 10, 6, 0), (4, .iload_n 1, 0, 0)] := ⟨by decide +kernel, trivial, fkX6_10, trivial, trivial⟩
theorem sX6_requireTrack_14 : JSeg (jm jdX6_requireTrack) [(14, .dup, 0, 0)] := ⟨by decide +kernel, trivial, trivial⟩
theorem dX6_requireTrack_5 : decode cX6_requireTrack 5 = .ok (.invokevirtual 369, 3) := by decide +kernel
theorem dX6_requireTrack_8 : decode cX6_requireTrack 8 = .ok (.ifCond .ne 14, 3) := by decide +kernel
theorem dX6_requireTrack_11 : decode cX6_requireTrack 11 = .ok (.new 329, 3) := by decide +kernel
theorem dX6_requireTrack_15 : decode cX6_requireTrack 15 = .ok (.ldc_w 359, 3) := by decide +kernel
theorem dX6_requireTrack_18 : decode cX6_requireTrack 18 = .ok (.invokespecial 333, 3) := by decide +kernel
theorem dX6_requireTrack_21 : decode cX6_requireTrack 21 = .ok (.athrow, 1) := by decide +kernel
theorem dX6_requireTrack_22 : decode cX6_requireTrack 22 = .ok (.return_, 1) := by decide +kernel
theorem sX6_requireCar_0 : JSeg (jm jdX6_requireCar) [(0, .aload_n 0, 0, 0), (1, .getfield 10, 6, 0), (4, .getfield 84, 5, 3), (7, .iload_n 1, 0, 0)] := ⟨by decide +kernel, trivial, fkX6_10, fkX6_84, trivial, trivial⟩
theorem sX6_requireCar_11 : JSeg (jm jdX6_requireCar) [(11, .istore_n 2, 0, 0), (12, .iload_n 2, 0, 0), (13, .iconst (-1), 0, 0)] := ⟨by decide +kernel, trivial, trivial, trivial, trivial⟩
theorem sX6_requireCar_20 : JSeg (jm jdX6_requireCar) [(20, .dup, 0, 0)] := ⟨by decide +kernel, trivial, trivial⟩
theorem sX6_requireCar_28 : JSeg (jm jdX6_requireCar) [(28, .iload_n 2, 0, 0)] := ⟨by decide +kernel, trivial, trivial⟩
theorem dX6_requireCar_8 : decode cX6_requireCar 8 = .ok (.invokevirtual 195, 3) := by decide +kernel
theorem dX6_requireCar_14 : decode cX6_requireCar 14 = .ok (.if_icmp .ne 14, 3) := by decide +kernel
theorem dX6_requireCar_17 : decode cX6_requireCar 17 = .ok (.new 138, 3) := by decide +kernel
theorem dX6_requireCar_21 : decode cX6_requireCar 21 = .ok (.ldc_w 372, 3) := by decide +kernel
theorem dX6_requireCar_24 : decode cX6_requireCar 24 = .ok (.invokespecial 142, 3) := by decide +kernel
theorem dX6_requireCar_27 : decode cX6_requireCar 27 = .ok (.athrow, 1) := by decide +kernel
theorem dX6_requireCar_29 : decode cX6_requireCar 29 = .ok (.ireturn, 1) := by decide +kernel
theorem sX6_requireRoute_0 : JSeg (jm jdX6_requireRoute) [(0, .iload_n 0, 0, 0), (1, .sipush 1000, 0, 0)] := ⟨by decide +kernel, trivial, trivial, trivial⟩
theorem sX6_requireRoute_10 : JSeg (jm jdX6_requireRoute) [(10, .dup, 0, 0)] := ⟨by decide +kernel, trivial, trivial⟩
theorem sX6_requireRoute_18 : JSeg (jm jdX6_requireRoute) [(18, .iload_n 0, 0, 0)] := ⟨by decide +kernel, trivial, trivial⟩
theorem dX6_requireRoute_4 : decode cX6_requireRoute 4 = .ok (.if_icmp .ne 14, 3) := by decide +kernel
theorem dX6_requireRoute_7 : decode cX6_requireRoute 7 = .ok (.new 138, 3) := by decide +kernel
theorem dX6_requireRoute_11 : decode cX6_requireRoute 11 = .ok (.ldc_w 374, 3) := by decide +kernel
theorem dX6_requireRoute_14 : decode cX6_requireRoute 14 = .ok (.invokespecial 142, 3) := by decide +kernel
theorem dX6_requireRoute_17 : decode cX6_requireRoute 17 = .ok (.athrow, 1) := by decide +kernel
theorem dX6_requireRoute_19 : decode cX6_requireRoute 19 = .ok (.ireturn, 1) := by decide +kernel
theorem sX6_writeCar_0 : JSeg (jm jdX6_writeCar) [(0, .aload_n 0, 0, 0), (1, .getfield 36, 6, 4), (4, .bipush 32, 0, 0)] := ⟨by decide +kernel, trivial, fkX6_36, trivial, trivial⟩
theorem sX6_writeCar_9 : JSeg (jm jdX6_writeCar) [(9, .aload_n 0, 0, 0), (10, .getfield 10, 6, 0), (13, .getfield 84, 5, 3), (16, .getfield 145, 0, 2), (19, .iload_n 1, 0, 0)] := ⟨by decide +kernel, trivial, fkX6_10, fkX6_84, fkX6_145, trivial, trivial⟩
theorem sX6_writeCar_26 : JSeg (jm jdX6_writeCar) [(26, .pop, 0, 0), (27, .aload_n 0, 0, 0), (28, .getfield 36, 6, 4), (31, .bipush 58, 0, 0)] := ⟨by decide +kernel, trivial, trivial, fkX6_36, trivial, trivial⟩
theorem sX6_writeCar_36 : JSeg (jm jdX6_writeCar) [(36, .aload_n 0, 0, 0), (37, .getfield 10, 6, 0), (40, .getfield 84, 5, 3), (43, .getfield 207, 0, 3), (46, .iload_n 1, 0, 0)] := ⟨by decide +kernel, trivial, fkX6_10, fkX6_84, fkX6_207, trivial, trivial⟩
theorem sX6_writeCar_53 : JSeg (jm jdX6_writeCar) [(53, .pop, 0, 0), (54, .aload_n 0, 0, 0), (55, .getfield 10, 6, 0), (58, .getfield 84, 5, 3), (61, .getfield 210, 0, 4), (64, .iload_n 1, 0, 0)] := ⟨by decide +kernel, trivial, trivial, fkX6_10, fkX6_84, fkX6_210, trivial, trivial⟩
theorem sX6_writeCar_68 : JSeg (jm jdX6_writeCar) [(68, .iconst 1, 0, 0)] := ⟨by decide +kernel, trivial, trivial⟩
theorem sX6_writeCar_72 : JSeg (jm jdX6_writeCar) [(72, .aload_n 0, 0, 0), (73, .getfield 36, 6, 4), (76, .bipush 33, 0, 0)] := ⟨by decide +kernel, trivial, fkX6_36, trivial, trivial⟩
theorem sX6_writeCar_81 : JSeg (jm jdX6_writeCar) [(81, .pop, 0, 0)] := ⟨by decide +kernel, trivial, trivial⟩
theorem dX6_writeCar_6 : decode cX6_writeCar 6 = .ok (.invokevirtual 312, 3) := by decide +kernel
theorem dX6_writeCar_20 : decode cX6_writeCar 20 = .ok (.invokevirtual 127, 3) := by decide +kernel
theorem dX6_writeCar_23 : decode cX6_writeCar 23 = .ok (.invokevirtual 308, 3) := by decide +kernel
theorem dX6_writeCar_33 : decode cX6_writeCar 33 = .ok (.invokevirtual 312, 3) := by decide +kernel
theorem dX6_writeCar_47 : decode cX6_writeCar 47 = .ok (.invokevirtual 127, 3) := by decide +kernel
theorem dX6_writeCar_50 : decode cX6_writeCar 50 = .ok (.invokevirtual 308, 3) := by decide +kernel
theorem dX6_writeCar_65 : decode cX6_writeCar 65 = .ok (.invokevirtual 127, 3) := by decide +kernel
theorem dX6_writeCar_69 : decode cX6_writeCar 69 = .ok (.if_icmp .ne 13, 3) := by decide +kernel
theorem dX6_writeCar_78 : decode cX6_writeCar 78 = .ok (.invokevirtual 312, 3) := by decide +kernel
theorem dX6_writeCar_82 : decode cX6_writeCar 82 = .ok (.return_, 1) := by decide +kernel
theorem sX6_faultOfCommand_0 : JSeg (jm jdX6_faultOfCommand) [(0, .aload_n 0, 0, 0), (1, .getfield 29, 6, 3), (4, .iload_n 1, 0, 0), (5, .iconst 0, 0, 0)] := ⟨by decide +kernel, trivial, fkX6_29, trivial, trivial, trivial⟩
theorem sX6_faultOfCommand_9 : JSeg (jm jdX6_faultOfCommand) [(9, .istore_n 2, 0, 0), (10, .aload_n 0, 0, 0), (11, .getfield 29, 6, 3), (14, .iload_n 1, 0, 0), (15, .iconst 1, 0, 0)] := ⟨by decide +kernel, trivial, trivial, fkX6_29, trivial, trivial, trivial⟩
theorem sX6_faultOfCommand_19 : JSeg (jm jdX6_faultOfCommand) [(19, .istore_n 3, 0, 0), (20, .aload_n 0, 0, 0), (21, .getfield 29, 6, 3), (24, .iload_n 1, 0, 0), (25, .iconst 2, 0, 0)] := ⟨by decide +kernel, trivial, trivial, fkX6_29, trivial, trivial, trivial⟩
theorem sX6_faultOfCommand_29 : JSeg (jm jdX6_faultOfCommand) [(29, .istore 4, 0, 0), (31, .aload_n 0, 0, 0), (32, .getfield 29, 6, 3), (35, .getfield 379, 3, 3), (38, .iload_n 1, 0, 0)] := ⟨by decide +kernel, trivial, trivial, fkX6_29, fkX6_379, trivial, trivial⟩
theorem sX6_faultOfCommand_84 : JSeg (jm jdX6_faultOfCommand) [(84, .aload_n 0, 0, 0), (85, .getfield 10, 6, 0), (88, .iload_n 2, 0, 0), (89, .iload_n 3, 0, 0)] := ⟨by decide +kernel, trivial, fkX6_10, trivial, trivial, trivial⟩
theorem sX6_faultOfCommand_94 : JSeg (jm jdX6_faultOfCommand) [(94, .aload_n 0, 0, 0), (95, .getfield 10, 6, 0), (98, .iload_n 2, 0, 0), (99, .iload_n 3, 0, 0)] := ⟨by decide +kernel, trivial, fkX6_10, trivial, trivial, trivial⟩
theorem sX6_faultOfCommand_104 : JSeg (jm jdX6_faultOfCommand) [(104, .aload_n 0, 0, 0), (105, .getfield 10, 6, 0), (108, .iload_n 2, 0, 0), (109, .iload_n 3, 0, 0)] := ⟨by decide +kernel, trivial, fkX6_10, trivial, trivial, trivial⟩
theorem sX6_faultOfCommand_114 : JSeg (jm jdX6_faultOfCommand) [(114, .aload_n 0, 0, 0), (115, .getfield 10, 6, 0), (118, .iload_n 2, 0, 0), (119, .iload_n 3, 0, 0), (120, .iload 4, 0, 0), (122, .aload_n 0, 0, 0), (123, .getfield 29, 6, 3), (126, .iload_n 1, 0, 0), (127, .iconst 3, 0, 0)] := ⟨by decide +kernel, trivial, fkX6_10, trivial, trivial, trivial, trivial, fkX6_29, trivial, trivial, trivial⟩
theorem sX6_faultOfCommand_135 : JSeg (jm jdX6_faultOfCommand) [(135, .aload_n 0, 0, 0), (136, .getfield 10, 6, 0), (139, .iload_n 2, 0, 0), (140, .iload_n 3, 0, 0), (141, .iload 4, 0, 0)] := ⟨by decide +kernel, trivial, fkX6_10, trivial, trivial, trivial, trivial⟩
theorem sX6_faultOfCommand_147 : JSeg (jm jdX6_faultOfCommand) [(147, .aload_n 0, 0, 0), (148, .getfield 10, 6, 0), (151, .iload_n 2, 0, 0)] := ⟨by decide +kernel, trivial, fkX6_10, trivial, trivial⟩
theorem sX6_faultOfCommand_156 : JSeg (jm jdX6_faultOfCommand) [(156, .aload_n 0, 0, 0), (157, .getfield 10, 6, 0), (160, .iload_n 2, 0, 0), (161, .iload_n 3, 0, 0)] := ⟨by decide +kernel, trivial, fkX6_10, trivial, trivial, trivial⟩
theorem dX6_faultOfCommand_6 : decode cX6_faultOfCommand 6 = .ok (.invokevirtual 376, 3) := by decide +kernel
theorem dX6_faultOfCommand_16 : decode cX6_faultOfCommand 16 = .ok (.invokevirtual 376, 3) := by decide +kernel
theorem dX6_faultOfCommand_26 : decode cX6_faultOfCommand 26 = .ok (.invokevirtual 376, 3) := by decide +kernel
theorem dX6_faultOfCommand_39 : decode cX6_faultOfCommand 39 = .ok (.invokevirtual 127, 3) := by decide +kernel
theorem dX6_faultOfCommand_42 : decode cX6_faultOfCommand 42 = .ok (.tableswitch 114 0 6 #[42, 52, 62, 72, 93, 105, 114], 42) := by decide +kernel
theorem dX6_faultOfCommand_90 : decode cX6_faultOfCommand 90 = .ok (.invokevirtual 47, 3) := by decide +kernel
theorem dX6_faultOfCommand_93 : decode cX6_faultOfCommand 93 = .ok (.ireturn, 1) := by decide +kernel
theorem dX6_faultOfCommand_100 : decode cX6_faultOfCommand 100 = .ok (.invokevirtual 62, 3) := by decide +kernel
theorem dX6_faultOfCommand_103 : decode cX6_faultOfCommand 103 = .ok (.ireturn, 1) := by decide +kernel
theorem dX6_faultOfCommand_110 : decode cX6_faultOfCommand 110 = .ok (.invokevirtual 74, 3) := by decide +kernel
theorem dX6_faultOfCommand_113 : decode cX6_faultOfCommand 113 = .ok (.ireturn, 1) := by decide +kernel
theorem dX6_faultOfCommand_128 : decode cX6_faultOfCommand 128 = .ok (.invokevirtual 376, 3) := by decide +kernel
theorem dX6_faultOfCommand_131 : decode cX6_faultOfCommand 131 = .ok (.invokevirtual 80, 3) := by decide +kernel
theorem dX6_faultOfCommand_134 : decode cX6_faultOfCommand 134 = .ok (.ireturn, 1) := by decide +kernel
theorem dX6_faultOfCommand_143 : decode cX6_faultOfCommand 143 = .ok (.invokevirtual 94, 3) := by decide +kernel
theorem dX6_faultOfCommand_146 : decode cX6_faultOfCommand 146 = .ok (.ireturn, 1) := by decide +kernel
theorem dX6_faultOfCommand_152 : decode cX6_faultOfCommand 152 = .ok (.invokevirtual 101, 3) := by decide +kernel
theorem dX6_faultOfCommand_155 : decode cX6_faultOfCommand 155 = .ok (.ireturn, 1) := by decide +kernel
theorem dX6_faultOfCommand_162 : decode cX6_faultOfCommand 162 = .ok (.invokevirtual 108, 3) := by decide +kernel
theorem dX6_faultOfCommand_165 : decode cX6_faultOfCommand 165 = .ok (.ireturn, 1) := by decide +kernel
theorem sX6_carryOut_0 : JSeg (jm jdX6_carryOut) [(0, .aload_n 0, 0, 0), (1, .getfield 29, 6, 3), (4, .iload_n 1, 0, 0), (5, .iconst 0, 0, 0)] := ⟨by decide +kernel, trivial, fkX6_29, trivial, trivial, trivial⟩
theorem sX6_carryOut_9 : JSeg (jm jdX6_carryOut) [(9, .istore_n 2, 0, 0), (10, .aload_n 0, 0, 0), (11, .getfield 29, 6, 3), (14, .iload_n 1, 0, 0), (15, .iconst 1, 0, 0)] := ⟨by decide +kernel, trivial, trivial, fkX6_29, trivial, trivial, trivial⟩
theorem sX6_carryOut_19 : JSeg (jm jdX6_carryOut) [(19, .istore_n 3, 0, 0), (20, .aload_n 0, 0, 0), (21, .getfield 29, 6, 3), (24, .iload_n 1, 0, 0), (25, .iconst 2, 0, 0)] := ⟨by decide +kernel, trivial, trivial, fkX6_29, trivial, trivial, trivial⟩
theorem sX6_carryOut_29 : JSeg (jm jdX6_carryOut) [(29, .istore 4, 0, 0), (31, .aload_n 0, 0, 0), (32, .getfield 29, 6, 3), (35, .getfield 379, 3, 3), (38, .iload_n 1, 0, 0)] := ⟨by decide +kernel, trivial, trivial, fkX6_29, fkX6_379, trivial, trivial⟩
theorem sX6_carryOut_84 : JSeg (jm jdX6_carryOut) [(84, .aload_n 0, 0, 0), (85, .getfield 10, 6, 0), (88, .iload_n 2, 0, 0), (89, .iload_n 3, 0, 0)] := ⟨by decide +kernel, trivial, fkX6_10, trivial, trivial, trivial⟩
theorem sX6_carryOut_93 : JSeg (jm jdX6_carryOut) [(93, .pop, 0, 0), (94, .goto 123, 0, 0)] := ⟨by decide +kernel, trivial, trivial, trivial⟩
theorem sX6_carryOut_97 : JSeg (jm jdX6_carryOut) [(97, .aload_n 0, 0, 0), (98, .getfield 10, 6, 0), (101, .getfield 65, 5, 2), (104, .iload_n 2, 0, 0), (105, .iload_n 3, 0, 0)] := ⟨by decide +kernel, trivial, fkX6_10, fkX6_65, trivial, trivial, trivial⟩
theorem sX6_carryOut_109 : JSeg (jm jdX6_carryOut) [(109, .pop, 0, 0), (110, .goto 107, 0, 0)] := ⟨by decide +kernel, trivial, trivial, trivial⟩
theorem sX6_carryOut_113 : JSeg (jm jdX6_carryOut) [(113, .aload_n 0, 0, 0), (114, .getfield 10, 6, 0), (117, .getfield 65, 5, 2), (120, .iload_n 2, 0, 0), (121, .iload_n 3, 0, 0)] := ⟨by decide +kernel, trivial, fkX6_10, fkX6_65, trivial, trivial, trivial⟩
theorem sX6_carryOut_125 : JSeg (jm jdX6_carryOut) [(125, .pop, 0, 0), (126, .goto 91, 0, 0)] := ⟨by decide +kernel, trivial, trivial, trivial⟩
theorem sX6_carryOut_129 : JSeg (jm jdX6_carryOut) [(129, .aload_n 0, 0, 0), (130, .getfield 29, 6, 3), (133, .iload_n 1, 0, 0), (134, .iconst 4, 0, 0)] := ⟨by decide +kernel, trivial, fkX6_29, trivial, trivial, trivial⟩
theorem sX6_carryOut_138 : JSeg (jm jdX6_carryOut) [(138, .iconst 1, 0, 0)] := ⟨by decide +kernel, trivial, trivial⟩
theorem sX6_carryOut_142 : JSeg (jm jdX6_carryOut) [(142, .iconst 1, 0, 0), (143, .goto 4, 0, 0)] := ⟨by decide +kernel, trivial, trivial, trivial⟩
theorem sX6_carryOut_146 : JSeg (jm jdX6_carryOut) [(146, .iconst 0, 0, 0)] := ⟨by decide +kernel, trivial, trivial⟩
theorem sX6_carryOut_147 : JSeg (jm jdX6_carryOut) [(147, .istore 5, 0, 0), (149, .aload_n 0, 0, 0), (150, .getfield 10, 6, 0), (153, .getfield 84, 5, 3), (156, .iload_n 2, 0, 0), (157, .iload_n 3, 0, 0), (158, .iload 4, 0, 0), (160, .aload_n 0, 0, 0), (161, .getfield 29, 6, 3), (164, .iload_n 1, 0, 0), (165, .iconst 3, 0, 0)] := ⟨by decide +kernel, trivial, trivial, fkX6_10, fkX6_84, trivial, trivial, trivial, trivial, fkX6_29, trivial, trivial, trivial⟩
theorem sX6_carryOut_169 : JSeg (jm jdX6_carryOut) [(169, .iload 5, 0, 0)] := ⟨by decide +kernel, trivial, trivial⟩
theorem sX6_carryOut_174 : JSeg (jm jdX6_carryOut) [(174, .pop, 0, 0), (175, .goto 42, 0, 0)] := ⟨by decide +kernel, trivial, trivial, trivial⟩
theorem sX6_carryOut_178 : JSeg (jm jdX6_carryOut) [(178, .aload_n 0, 0, 0), (179, .getfield 10, 6, 0), (182, .iload_n 2, 0, 0), (183, .iload_n 3, 0, 0), (184, .iload 4, 0, 0)] := ⟨by decide +kernel, trivial, fkX6_10, trivial, trivial, trivial, trivial⟩
theorem sX6_carryOut_189 : JSeg (jm jdX6_carryOut) [(189, .pop, 0, 0), (190, .goto 27, 0, 0)] := ⟨by decide +kernel, trivial, trivial, trivial⟩
theorem sX6_carryOut_193 : JSeg (jm jdX6_carryOut) [(193, .aload_n 0, 0, 0), (194, .getfield 10, 6, 0), (197, .getfield 84, 5, 3), (200, .iload_n 2, 0, 0)] := ⟨by decide +kernel, trivial, fkX6_10, fkX6_84, trivial, trivial⟩
theorem sX6_carryOut_204 : JSeg (jm jdX6_carryOut) [(204, .pop, 0, 0), (205, .goto 12, 0, 0)] := ⟨by decide +kernel, trivial, trivial, trivial⟩
theorem sX6_carryOut_208 : JSeg (jm jdX6_carryOut) [(208, .aload_n 0, 0, 0), (209, .getfield 10, 6, 0), (212, .iload_n 2, 0, 0)] := ⟨by decide +kernel, trivial, fkX6_10, trivial, trivial⟩
theorem sX6_carryOut_216 : JSeg (jm jdX6_carryOut) [(216, .pop, 0, 0)] := ⟨by decide +kernel, trivial, trivial⟩
theorem dX6_carryOut_6 : decode cX6_carryOut 6 = .ok (.invokevirtual 376, 3) := by decide +kernel
theorem dX6_carryOut_16 : decode cX6_carryOut 16 = .ok (.invokevirtual 376, 3) := by decide +kernel
theorem dX6_carryOut_26 : decode cX6_carryOut 26 = .ok (.invokevirtual 376, 3) := by decide +kernel
theorem dX6_carryOut_39 : decode cX6_carryOut 39 = .ok (.invokevirtual 127, 3) := by decide +kernel
theorem dX6_carryOut_42 : decode cX6_carryOut 42 = .ok (.tableswitch 166 0 6 #[42, 55, 71, 87, 136, 151, 166], 42) := by decide +kernel
theorem dX6_carryOut_90 : decode cX6_carryOut 90 = .ok (.invokevirtual 59, 3) := by decide +kernel
theorem dX6_carryOut_106 : decode cX6_carryOut 106 = .ok (.invokevirtual 69, 3) := by decide +kernel
theorem dX6_carryOut_122 : decode cX6_carryOut 122 = .ok (.invokevirtual 77, 3) := by decide +kernel
theorem dX6_carryOut_135 : decode cX6_carryOut 135 = .ok (.invokevirtual 376, 3) := by decide +kernel
theorem dX6_carryOut_139 : decode cX6_carryOut 139 = .ok (.if_icmp .ne 7, 3) := by decide +kernel
theorem dX6_carryOut_166 : decode cX6_carryOut 166 = .ok (.invokevirtual 376, 3) := by decide +kernel
theorem dX6_carryOut_171 : decode cX6_carryOut 171 = .ok (.invokevirtual 88, 3) := by decide +kernel
theorem dX6_carryOut_186 : decode cX6_carryOut 186 = .ok (.invokevirtual 98, 3) := by decide +kernel
theorem dX6_carryOut_201 : decode cX6_carryOut 201 = .ok (.invokevirtual 105, 3) := by decide +kernel
theorem dX6_carryOut_213 : decode cX6_carryOut 213 = .ok (.invokevirtual 111, 3) := by decide +kernel
theorem dX6_carryOut_217 : decode cX6_carryOut 217 = .ok (.return_, 1) := by decide +kernel
