theorem sX1_init_0 : JSeg (jm jdX1_init) [(0, .aload_n 0, 0, 0)] := ⟨by decide +kernel, trivial, trivial⟩
theorem sX1_init_4 : JSeg (jm jdX1_init) [(4, .aload_n 0, 0, 0), (5, .bipush 8, 0, 0)] := ⟨by decide +kernel, trivial, trivial, trivial⟩
theorem sX1_init_13 : JSeg (jm jdX1_init) [(13, .aload_n 0, 0, 0)] := ⟨by decide +kernel, trivial, trivial⟩
theorem sX1_init_17 : JSeg (jm jdX1_init) [(17, .dup, 0, 0)] := ⟨by decide +kernel, trivial, trivial⟩
theorem sX1_init_24 : JSeg (jm jdX1_init) [(24, .iconst 0, 0, 0), (25, .istore_n 1, 0, 0)] := ⟨by decide +kernel, trivial, trivial, trivial⟩
theorem sX1_init_26 : JSeg (jm jdX1_init) [(26, .iload_n 1, 0, 0), (27, .aload_n 0, 0, 0), (28, .getfield 11, 1, 0), (31, .arraylength, 0, 0)] := ⟨by decide +kernel, trivial, trivial, fkX1_11, trivial, trivial⟩
theorem sX1_init_35 : JSeg (jm jdX1_init) [(35, .aload_n 0, 0, 0), (36, .getfield 11, 1, 0), (39, .iload_n 1, 0, 0)] := ⟨by decide +kernel, trivial, fkX1_11, trivial, trivial⟩
theorem sX1_init_43 : JSeg (jm jdX1_init) [(43, .dup, 0, 0)] := ⟨by decide +kernel, trivial, trivial⟩
theorem sX1_init_48 : JSeg (jm jdX1_init) [(48, .iinc 1 1, 0, 0), (51, .goto (-25), 0, 0)] := ⟨by decide +kernel, trivial, trivial, trivial⟩
theorem dX1_init_1 : decode cX1_init 1 = .ok (.invokespecial 3, 3) := by decide +kernel
theorem dX1_init_7 : decode cX1_init 7 = .ok (.anewarray 9, 3) := by decide +kernel
theorem dX1_init_10 : decode cX1_init 10 = .ok (.putfield 11, 3) := by decide +kernel
theorem dX1_init_14 : decode cX1_init 14 = .ok (.new 9, 3) := by decide +kernel
theorem dX1_init_18 : decode cX1_init 18 = .ok (.invokespecial 17, 3) := by decide +kernel
theorem dX1_init_21 : decode cX1_init 21 = .ok (.putfield 18, 3) := by decide +kernel
theorem dX1_init_32 : decode cX1_init 32 = .ok (.if_icmp .ge 22, 3) := by decide +kernel
theorem dX1_init_40 : decode cX1_init 40 = .ok (.new 9, 3) := by decide +kernel
theorem dX1_init_44 : decode cX1_init 44 = .ok (.invokespecial 17, 3) := by decide +kernel
theorem dX1_init_47 : decode cX1_init 47 = .ok (.aastore, 1) := by decide +kernel
theorem dX1_init_54 : decode cX1_init 54 = .ok (.return_, 1) := by decide +kernel
theorem fpX1_22 : FP0 RX1 22 1 1 := ⟨_, _, _, _, ci_X1, by decide, bw_of 190 (by decide +kernel) (by decide +kernel), rfl, rfl⟩
theorem fpX1_34 : FP0 RX1 34 1 2 := ⟨_, _, _, _, ci_X1, by decide, bw_of 191 (by decide +kernel) (by decide +kernel), rfl, rfl⟩
theorem sX1_remember_0 : JSeg (jm jdX1_remember) [(0, .aload_n 0, 0, 0), (1, .aload_n 0, 0, 0), (2, .getfield 22, 1, 1)] := ⟨by decide +kernel, trivial, trivial, fkX1_22, trivial⟩
theorem sX1_remember_8 : JSeg (jm jdX1_remember) [(8, .astore_n 2, 0, 0), (9, .aload_n 2, 0, 0)] := ⟨by decide +kernel, trivial, trivial, trivial⟩
theorem sX1_remember_13 : JSeg (jm jdX1_remember) [(13, .aload_n 2, 0, 0), (14, .aload_n 1, 0, 0)] := ⟨by decide +kernel, trivial, trivial, trivial⟩
theorem sX1_remember_18 : JSeg (jm jdX1_remember) [(18, .aload_n 0, 0, 0), (19, .aload_n 0, 0, 0), (20, .getfield 22, 1, 1), (23, .bipush 7, 0, 0)] := ⟨by decide +kernel, trivial, trivial, fkX1_22, trivial, trivial⟩
theorem sX1_remember_28 : JSeg (jm jdX1_remember) [(28, .aload_n 0, 0, 0), (29, .getfield 22, 1, 1), (32, .iconst 1, 0, 0), (33, .iadd, 0, 0), (34, .goto 4, 0, 0)] := ⟨by decide +kernel, trivial, fkX1_22, trivial, trivial, trivial, trivial⟩
theorem sX1_remember_37 : JSeg (jm jdX1_remember) [(37, .iconst 0, 0, 0)] := ⟨by decide +kernel, trivial, trivial⟩
theorem sX1_remember_38 : JSeg (jm jdX1_remember) [(38, .putfield 22, 1, 1), (41, .aload_n 0, 0, 0), (42, .bipush 8, 0, 0), (44, .aload_n 0, 0, 0), (45, .getfield 34, 1, 2), (48, .iconst 1, 0, 0), (49, .iadd, 0, 0)] := ⟨by decide +kernel, fpX1_22, trivial, trivial, trivial, fkX1_34, trivial, trivial, trivial⟩
theorem sX1_remember_53 : JSeg (jm jdX1_remember) [(53, .putfield 34, 1, 2)] := ⟨by decide +kernel, fpX1_34, trivial⟩
theorem dX1_remember_5 : decode cX1_remember 5 = .ok (.invokevirtual 26, 3) := by decide +kernel
theorem dX1_remember_10 : decode cX1_remember 10 = .ok (.ifnull 8, 3) := by decide +kernel
theorem dX1_remember_15 : decode cX1_remember 15 = .ok (.invokevirtual 30, 3) := by decide +kernel
theorem dX1_remember_25 : decode cX1_remember 25 = .ok (.if_icmp .ge 12, 3) := by decide +kernel
theorem dX1_remember_50 : decode cX1_remember 50 = .ok (.invokestatic 37, 3) := by decide +kernel
theorem dX1_remember_56 : decode cX1_remember 56 = .ok (.return_, 1) := by decide +kernel
theorem sX1_takeLatest_0 : JSeg (jm jdX1_takeLatest) [(0, .aload_n 0, 0, 0), (1, .aload_n 0, 0, 0), (2, .getfield 22, 1, 1)] := ⟨by decide +kernel, trivial, trivial, fkX1_22, trivial⟩
theorem sX1_takeLatest_8 : JSeg (jm jdX1_takeLatest) [(8, .aload_n 0, 0, 0), (9, .getfield 22, 1, 1), (12, .iconst 1, 0, 0), (13, .isub, 0, 0), (14, .goto 5, 0, 0)] := ⟨by decide +kernel, trivial, fkX1_22, trivial, trivial, trivial, trivial⟩
theorem sX1_takeLatest_17 : JSeg (jm jdX1_takeLatest) [(17, .bipush 7, 0, 0)] := ⟨by decide +kernel, trivial, trivial⟩
theorem sX1_takeLatest_19 : JSeg (jm jdX1_takeLatest) [(19, .putfield 22, 1, 1), (22, .aload_n 0, 0, 0), (23, .dup, 0, 0), (24, .getfield 34, 1, 2), (27, .iconst 1, 0, 0), (28, .isub, 0, 0), (29, .putfield 34, 1, 2), (32, .aload_n 0, 0, 0), (33, .aload_n 0, 0, 0), (34, .getfield 22, 1, 1)] := ⟨by decide +kernel, fpX1_22, trivial, trivial, fkX1_34, trivial, trivial, fpX1_34, trivial, trivial, fkX1_22, trivial⟩
theorem dX1_takeLatest_5 : decode cX1_takeLatest 5 = .ok (.ifCond .le 12, 3) := by decide +kernel
theorem dX1_takeLatest_37 : decode cX1_takeLatest 37 = .ok (.invokevirtual 26, 3) := by decide +kernel
theorem dX1_takeLatest_40 : decode cX1_takeLatest 40 = .ok (.areturn, 1) := by decide +kernel
theorem sX1_keep_0 : JSeg (jm jdX1_keep) [(0, .aload_n 0, 0, 0), (1, .getfield 18, 1, 3), (4, .aload_n 1, 0, 0)] := ⟨by decide +kernel, trivial, fkX1_18, trivial, trivial⟩
theorem sX1_keep_8 : JSeg (jm jdX1_keep) [(8, .aload_n 0, 0, 0), (9, .iconst 1, 0, 0)] := ⟨by decide +kernel, trivial, trivial, trivial⟩
theorem dX1_keep_5 : decode cX1_keep 5 = .ok (.invokevirtual 30, 3) := by decide +kernel
theorem dX1_keep_10 : decode cX1_keep 10 = .ok (.putfield 43, 3) := by decide +kernel
theorem dX1_keep_13 : decode cX1_keep 13 = .ok (.return_, 1) := by decide +kernel
theorem sX1_pastAt_0 : JSeg (jm jdX1_pastAt) [(0, .iload_n 1, 0, 0)] := ⟨by decide +kernel, trivial, trivial⟩
theorem sX1_pastAt_4 : JSeg (jm jdX1_pastAt) [(4, .iload_n 1, 0, 0), (5, .aload_n 0, 0, 0), (6, .getfield 11, 1, 0), (9, .arraylength, 0, 0)] := ⟨by decide +kernel, trivial, trivial, fkX1_11, trivial, trivial⟩
theorem sX1_pastAt_13 : JSeg (jm jdX1_pastAt) [(13, .aload_n 0, 0, 0), (14, .getfield 11, 1, 0), (17, .iload_n 1, 0, 0)] := ⟨by decide +kernel, trivial, fkX1_11, trivial, trivial⟩
theorem sX1_pastAt_19 : JSeg (jm jdX1_pastAt) [(19, .goto 4, 0, 0)] := ⟨by decide +kernel, trivial, trivial⟩
theorem sX1_pastAt_22 : JSeg (jm jdX1_pastAt) [(22, .aconst_null, 0, 0)] := ⟨by decide +kernel, trivial, trivial⟩
theorem dX1_pastAt_1 : decode cX1_pastAt 1 = .ok (.ifCond .lt 21, 3) := by decide +kernel
theorem dX1_pastAt_10 : decode cX1_pastAt 10 = .ok (.if_icmp .ge 12, 3) := by decide +kernel
theorem dX1_pastAt_18 : decode cX1_pastAt 18 = .ok (.aaload, 1) := by decide +kernel
theorem dX1_pastAt_23 : decode cX1_pastAt 23 = .ok (.areturn, 1) := by decide +kernel
theorem sX3_init_0 : JSeg (jm jdX3_init) [(0, .aload_n 0, 0, 0)] := ⟨by decide +kernel, trivial, trivial⟩
theorem sX3_init_4 : JSeg (jm jdX3_init) [(4, .aload_n 0, 0, 0), (5, .bipush 60, 0, 0)] := ⟨by decide +kernel, trivial, trivial, trivial⟩
theorem sX3_init_12 : JSeg (jm jdX3_init) [(12, .aload_n 0, 0, 0)] := ⟨by decide +kernel, trivial, trivial⟩
theorem sX3_init_16 : JSeg (jm jdX3_init) [(16, .dup, 0, 0), (17, .bipush 8, 0, 0)] := ⟨by decide +kernel, trivial, trivial, trivial⟩
theorem sX3_init_25 : JSeg (jm jdX3_init) [(25, .aload_n 0, 0, 0)] := ⟨by decide +kernel, trivial, trivial⟩
theorem sX3_init_29 : JSeg (jm jdX3_init) [(29, .dup, 0, 0), (30, .bipush 40, 0, 0)] := ⟨by decide +kernel, trivial, trivial, trivial⟩
theorem dX3_init_1 : decode cX3_init 1 = .ok (.invokespecial 3, 3) := by decide +kernel
theorem dX3_init_7 : decode cX3_init 7 = .ok (.newarray .char, 2) := by decide +kernel
theorem dX3_init_9 : decode cX3_init 9 = .ok (.putfield 9, 3) := by decide +kernel
theorem dX3_init_13 : decode cX3_init 13 = .ok (.new 15, 3) := by decide +kernel
theorem dX3_init_19 : decode cX3_init 19 = .ok (.invokespecial 17, 3) := by decide +kernel
theorem dX3_init_22 : decode cX3_init 22 = .ok (.putfield 20, 3) := by decide +kernel
theorem dX3_init_26 : decode cX3_init 26 = .ok (.new 15, 3) := by decide +kernel
theorem dX3_init_32 : decode cX3_init 32 = .ok (.invokespecial 17, 3) := by decide +kernel
theorem dX3_init_35 : decode cX3_init 35 = .ok (.putfield 24, 3) := by decide +kernel
theorem dX3_init_38 : decode cX3_init 38 = .ok (.return_, 1) := by decide +kernel
theorem fpX3_27 : FP0 RX3 27 3 1 := ⟨_, _, _, _, ci_X3, by decide, bw_of 217 (by decide +kernel) (by decide +kernel), rfl, rfl⟩
theorem sX3_add_0 : JSeg (jm jdX3_add) [(0, .aload_n 0, 0, 0), (1, .getfield 27, 3, 1)] := ⟨by decide +kernel, trivial, fkX3_27, trivial⟩
theorem sX3_add_7 : JSeg (jm jdX3_add) [(7, .aload_n 0, 0, 0), (8, .getfield 27, 3, 1), (11, .aload_n 0, 0, 0), (12, .getfield 9, 3, 0), (15, .arraylength, 0, 0)] := ⟨by decide +kernel, trivial, fkX3_27, trivial, fkX3_9, trivial, trivial⟩
theorem sX3_add_19 : JSeg (jm jdX3_add) [(19, .aload_n 0, 0, 0), (20, .getfield 9, 3, 0), (23, .aload_n 0, 0, 0), (24, .getfield 27, 3, 1), (27, .iload_n 1, 0, 0)] := ⟨by decide +kernel, trivial, fkX3_9, trivial, fkX3_27, trivial, trivial⟩
theorem sX3_add_29 : JSeg (jm jdX3_add) [(29, .aload_n 0, 0, 0), (30, .dup, 0, 0), (31, .getfield 27, 3, 1), (34, .iconst 1, 0, 0), (35, .iadd, 0, 0), (36, .putfield 27, 3, 1)] := ⟨by decide +kernel, trivial, trivial, fkX3_27, trivial, trivial, fpX3_27, trivial⟩
theorem sX3_add_39 : JSeg (jm jdX3_add) [(39, .aload_n 0, 0, 0), (40, .getfield 27, 3, 1)] := ⟨by decide +kernel, trivial, fkX3_27, trivial⟩
theorem dX3_add_4 : decode cX3_add 4 = .ok (.ifCond .lt 35, 3) := by decide +kernel
theorem dX3_add_16 : decode cX3_add 16 = .ok (.if_icmp .ge 23, 3) := by decide +kernel
theorem dX3_add_28 : decode cX3_add 28 = .ok (.castore, 1) := by decide +kernel
theorem dX3_add_43 : decode cX3_add 43 = .ok (.ireturn, 1) := by decide +kernel
theorem sX3_clear_0 : JSeg (jm jdX3_clear) [(0, .aload_n 0, 0, 0), (1, .iconst 0, 0, 0), (2, .putfield 27, 3, 1)] := ⟨by decide +kernel, trivial, trivial, fpX3_27, trivial⟩
theorem dX3_clear_5 : decode cX3_clear 5 = .ok (.return_, 1) := by decide +kernel
theorem sX3_value_0 : JSeg (jm jdX3_value) [(0, .aload_n 0, 0, 0), (1, .getfield 24, 3, 4), (4, .iload_n 1, 0, 0), (5, .iconst 5, 0, 0), (6, .imul, 0, 0), (7, .iload_n 2, 0, 0), (8, .iadd, 0, 0)] := ⟨by decide +kernel, trivial, fkX3_24, trivial, trivial, trivial, trivial, trivial, trivial⟩
theorem dX3_value_9 : decode cX3_value 9 = .ok (.invokevirtual 31, 3) := by decide +kernel
theorem dX3_value_12 : decode cX3_value 12 = .ok (.ireturn, 1) := by decide +kernel
theorem fpX3_35 : FP0 RX3 35 3 5 := ⟨_, _, _, _, ci_X3, by decide, bw_of 224 (by decide +kernel) (by decide +kernel), rfl, rfl⟩
theorem fpX3_38 : FP0 RX3 38 3 2 := ⟨_, _, _, _, ci_X3, by decide, bw_of 219 (by decide +kernel) (by decide +kernel), rfl, rfl⟩
theorem sX3_parse_0 : JSeg (jm jdX3_parse) [(0, .aload_n 0, 0, 0), (1, .iconst 0, 0, 0), (2, .putfield 35, 3, 5), (5, .aload_n 0, 0, 0), (6, .iconst 0, 0, 0), (7, .putfield 38, 3, 2), (10, .iconst 0, 0, 0), (11, .istore_n 1, 0, 0)] := ⟨by decide +kernel, trivial, trivial, fpX3_35, trivial, trivial, fpX3_38, trivial, trivial, trivial⟩
theorem sX3_parse_12 : JSeg (jm jdX3_parse) [(12, .iload_n 1, 0, 0), (13, .bipush 60, 0, 0)] := ⟨by decide +kernel, trivial, trivial, trivial⟩
theorem sX3_parse_18 : JSeg (jm jdX3_parse) [(18, .aload_n 0, 0, 0)] := ⟨by decide +kernel, trivial, trivial⟩
theorem sX3_parse_25 : JSeg (jm jdX3_parse) [(25, .aload_n 0, 0, 0), (26, .getfield 35, 3, 5)] := ⟨by decide +kernel, trivial, fkX3_35, trivial⟩
theorem sX3_parse_30 : JSeg (jm jdX3_parse) [(30, .aload_n 0, 0, 0), (31, .getfield 35, 3, 5), (34, .aload_n 0, 0, 0), (35, .getfield 27, 3, 1)] := ⟨by decide +kernel, trivial, fkX3_35, trivial, fkX3_27, trivial⟩
theorem sX3_parse_41 : JSeg (jm jdX3_parse) [(41, .iconst (-1), 0, 0)] := ⟨by decide +kernel, trivial, trivial⟩
theorem sX3_parse_43 : JSeg (jm jdX3_parse) [(43, .aload_n 0, 0, 0), (44, .aload_n 0, 0, 0), (45, .getfield 35, 3, 5)] := ⟨by decide +kernel, trivial, trivial, fkX3_35, trivial⟩
theorem sX3_parse_51 : JSeg (jm jdX3_parse) [(51, .bipush 59, 0, 0)] := ⟨by decide +kernel, trivial, trivial⟩
theorem sX3_parse_56 : JSeg (jm jdX3_parse) [(56, .aload_n 0, 0, 0), (57, .getfield 35, 3, 5)] := ⟨by decide +kernel, trivial, fkX3_35, trivial⟩
theorem sX3_parse_61 : JSeg (jm jdX3_parse) [(61, .aload_n 0, 0, 0), (62, .dup, 0, 0), (63, .getfield 35, 3, 5), (66, .iconst 1, 0, 0), (67, .iadd, 0, 0), (68, .putfield 35, 3, 5), (71, .iinc 1 1, 0, 0), (74, .goto (-62), 0, 0)] := ⟨by decide +kernel, trivial, trivial, fkX3_35, trivial, trivial, fpX3_35, trivial, trivial, trivial⟩
theorem sX3_parse_77 : JSeg (jm jdX3_parse) [(77, .aload_n 0, 0, 0), (78, .getfield 35, 3, 5)] := ⟨by decide +kernel, trivial, fkX3_35, trivial⟩
theorem dX3_parse_15 : decode cX3_parse 15 = .ok (.if_icmp .ge 62, 3) := by decide +kernel
theorem dX3_parse_19 : decode cX3_parse 19 = .ok (.invokevirtual 41, 3) := by decide +kernel
theorem dX3_parse_22 : decode cX3_parse 22 = .ok (.ifCond .ne 8, 3) := by decide +kernel
theorem dX3_parse_29 : decode cX3_parse 29 = .ok (.ireturn, 1) := by decide +kernel
theorem dX3_parse_38 : decode cX3_parse 38 = .ok (.if_icmp .lt 5, 3) := by decide +kernel
theorem dX3_parse_42 : decode cX3_parse 42 = .ok (.ireturn, 1) := by decide +kernel
theorem dX3_parse_48 : decode cX3_parse 48 = .ok (.invokevirtual 45, 3) := by decide +kernel
theorem dX3_parse_53 : decode cX3_parse 53 = .ok (.if_icmp .eq 8, 3) := by decide +kernel
theorem dX3_parse_60 : decode cX3_parse 60 = .ok (.ireturn, 1) := by decide +kernel
theorem dX3_parse_81 : decode cX3_parse 81 = .ok (.ireturn, 1) := by decide +kernel
theorem sX3_readCommand_0 : JSeg (jm jdX3_readCommand) [(0, .aload_n 0, 0, 0), (1, .getfield 35, 3, 5), (4, .istore_n 1, 0, 0), (5, .iload_n 1, 0, 0), (6, .istore_n 2, 0, 0), (7, .iconst 0, 0, 0), (8, .istore_n 3, 0, 0)] := ⟨by decide +kernel, trivial, fkX3_35, trivial, trivial, trivial, trivial, trivial, trivial⟩
theorem sX3_readCommand_9 : JSeg (jm jdX3_readCommand) [(9, .iload_n 3, 0, 0), (10, .bipush 7, 0, 0)] := ⟨by decide +kernel, trivial, trivial, trivial⟩
theorem sX3_readCommand_15 : JSeg (jm jdX3_readCommand) [(15, .aload_n 0, 0, 0), (16, .iload_n 3, 0, 0)] := ⟨by decide +kernel, trivial, trivial, trivial⟩
theorem sX3_readCommand_20 : JSeg (jm jdX3_readCommand) [(20, .iload_n 1, 0, 0)] := ⟨by decide +kernel, trivial, trivial⟩
theorem sX3_readCommand_27 : JSeg (jm jdX3_readCommand) [(27, .aload_n 0, 0, 0), (28, .getfield 20, 3, 3), (31, .aload_n 0, 0, 0), (32, .getfield 38, 3, 2), (35, .iload_n 3, 0, 0)] := ⟨by decide +kernel, trivial, fkX3_20, trivial, fkX3_38, trivial, trivial⟩
theorem sX3_readCommand_39 : JSeg (jm jdX3_readCommand) [(39, .aload_n 0, 0, 0), (40, .dup, 0, 0), (41, .getfield 38, 3, 2), (44, .iconst 1, 0, 0), (45, .iadd, 0, 0), (46, .putfield 38, 3, 2), (49, .iconst 1, 0, 0)] := ⟨by decide +kernel, trivial, trivial, fkX3_38, trivial, trivial, fpX3_38, trivial, trivial⟩
theorem sX3_readCommand_51 : JSeg (jm jdX3_readCommand) [(51, .iload_n 2, 0, 0), (52, .aload_n 0, 0, 0), (53, .getfield 35, 3, 5)] := ⟨by decide +kernel, trivial, trivial, fkX3_35, trivial⟩
theorem sX3_readCommand_59 : JSeg (jm jdX3_readCommand) [(59, .istore_n 2, 0, 0), (60, .iinc 3 1, 0, 0), (63, .goto (-54), 0, 0)] := ⟨by decide +kernel, trivial, trivial, trivial, trivial⟩
theorem sX3_readCommand_66 : JSeg (jm jdX3_readCommand) [(66, .aload_n 0, 0, 0), (67, .iload_n 2, 0, 0), (68, .putfield 35, 3, 5), (71, .iconst 0, 0, 0)] := ⟨by decide +kernel, trivial, trivial, fpX3_35, trivial, trivial⟩
theorem dX3_readCommand_12 : decode cX3_readCommand 12 = .ok (.if_icmp .ge 54, 3) := by decide +kernel
theorem dX3_readCommand_17 : decode cX3_readCommand 17 = .ok (.invokestatic 48, 3) := by decide +kernel
theorem dX3_readCommand_21 : decode cX3_readCommand 21 = .ok (.invokevirtual 52, 3) := by decide +kernel
theorem dX3_readCommand_24 : decode cX3_readCommand 24 = .ok (.ifCond .eq 27, 3) := by decide +kernel
theorem dX3_readCommand_36 : decode cX3_readCommand 36 = .ok (.invokevirtual 56, 3) := by decide +kernel
theorem dX3_readCommand_50 : decode cX3_readCommand 50 = .ok (.ireturn, 1) := by decide +kernel
theorem dX3_readCommand_56 : decode cX3_readCommand 56 = .ok (.invokestatic 60, 3) := by decide +kernel
theorem dX3_readCommand_72 : decode cX3_readCommand 72 = .ok (.ireturn, 1) := by decide +kernel
theorem sX3_shapeOf_0 : JSeg (jm jdX3_shapeOf) [(0, .iload_n 0, 0, 0)] := ⟨by decide +kernel, trivial, trivial⟩
theorem dX3_shapeOf_1 : decode cX3_shapeOf 1 = .ok (.tableswitch 61 0 6 #[43, 46, 49, 52, 55, 58, 61], 43) := by decide +kernel
theorem dX3_shapeOf_44 : decode cX3_shapeOf 44 = .ok (.ldc 66, 2) := by decide +kernel
theorem dX3_shapeOf_46 : decode cX3_shapeOf 46 = .ok (.areturn, 1) := by decide +kernel
theorem dX3_shapeOf_47 : decode cX3_shapeOf 47 = .ok (.ldc 68, 2) := by decide +kernel
theorem dX3_shapeOf_49 : decode cX3_shapeOf 49 = .ok (.areturn, 1) := by decide +kernel
theorem dX3_shapeOf_50 : decode cX3_shapeOf 50 = .ok (.ldc 70, 2) := by decide +kernel
theorem dX3_shapeOf_52 : decode cX3_shapeOf 52 = .ok (.areturn, 1) := by decide +kernel
theorem dX3_shapeOf_53 : decode cX3_shapeOf 53 = .ok (.ldc 72, 2) := by decide +kernel
theorem dX3_shapeOf_55 : decode cX3_shapeOf 55 = .ok (.areturn, 1) := by decide +kernel
theorem dX3_shapeOf_56 : decode cX3_shapeOf 56 = .ok (.ldc 74, 2) := by decide +kernel
theorem dX3_shapeOf_58 : decode cX3_shapeOf 58 = .ok (.areturn, 1) := by decide +kernel
theorem dX3_shapeOf_59 : decode cX3_shapeOf 59 = .ok (.ldc 76, 2) := by decide +kernel
theorem dX3_shapeOf_61 : decode cX3_shapeOf 61 = .ok (.areturn, 1) := by decide +kernel
theorem dX3_shapeOf_62 : decode cX3_shapeOf 62 = .ok (.ldc 78, 2) := by decide +kernel
theorem dX3_shapeOf_64 : decode cX3_shapeOf 64 = .ok (.areturn, 1) := by decide +kernel
theorem fpX3_80 : FP0 RX3 80 3 6 := ⟨_, _, _, _, ci_X3, by decide, bw_of 225 (by decide +kernel) (by decide +kernel), rfl, rfl⟩
theorem sX3_fits_0 : JSeg (jm jdX3_fits) [(0, .aload_n 0, 0, 0), (1, .iload_n 2, 0, 0), (2, .putfield 35, 3, 5), (5, .aload_n 0, 0, 0), (6, .iconst 0, 0, 0), (7, .putfield 80, 3, 6), (10, .iconst 0, 0, 0), (11, .istore_n 3, 0, 0)] := ⟨by decide +kernel, trivial, trivial, fpX3_35, trivial, trivial, fpX3_80, trivial, trivial, trivial⟩
theorem sX3_fits_12 : JSeg (jm jdX3_fits) [(12, .iload_n 3, 0, 0), (13, .aload_n 1, 0, 0)] := ⟨by decide +kernel, trivial, trivial, trivial⟩
theorem sX3_fits_20 : JSeg (jm jdX3_fits) [(20, .aload_n 0, 0, 0), (21, .aload_n 1, 0, 0), (22, .iload_n 3, 0, 0)] := ⟨by decide +kernel, trivial, trivial, trivial, trivial⟩
theorem sX3_fits_32 : JSeg (jm jdX3_fits) [(32, .iconst 0, 0, 0)] := ⟨by decide +kernel, trivial, trivial⟩
theorem sX3_fits_34 : JSeg (jm jdX3_fits) [(34, .iinc 3 1, 0, 0), (37, .goto (-25), 0, 0)] := ⟨by decide +kernel, trivial, trivial, trivial⟩
theorem sX3_fits_40 : JSeg (jm jdX3_fits) [(40, .iconst 1, 0, 0)] := ⟨by decide +kernel, trivial, trivial⟩
theorem dX3_fits_14 : decode cX3_fits 14 = .ok (.invokevirtual 83, 3) := by decide +kernel
theorem dX3_fits_17 : decode cX3_fits 17 = .ok (.if_icmp .ge 23, 3) := by decide +kernel
theorem dX3_fits_23 : decode cX3_fits 23 = .ok (.invokevirtual 88, 3) := by decide +kernel
theorem dX3_fits_26 : decode cX3_fits 26 = .ok (.invokevirtual 92, 3) := by decide +kernel
theorem dX3_fits_29 : decode cX3_fits 29 = .ok (.ifCond .ne 5, 3) := by decide +kernel
theorem dX3_fits_33 : decode cX3_fits 33 = .ok (.ireturn, 1) := by decide +kernel
theorem dX3_fits_41 : decode cX3_fits 41 = .ok (.ireturn, 1) := by decide +kernel
theorem sX3_readPart_0 : JSeg (jm jdX3_readPart) [(0, .iload_n 1, 0, 0), (1, .bipush 68, 0, 0)] := ⟨by decide +kernel, trivial, trivial, trivial⟩
theorem sX3_readPart_6 : JSeg (jm jdX3_readPart) [(6, .aload_n 0, 0, 0), (7, .iconst 1, 0, 0)] := ⟨by decide +kernel, trivial, trivial, trivial⟩
theorem sX3_readPart_12 : JSeg (jm jdX3_readPart) [(12, .iload_n 1, 0, 0), (13, .bipush 78, 0, 0)] := ⟨by decide +kernel, trivial, trivial, trivial⟩
theorem sX3_readPart_18 : JSeg (jm jdX3_readPart) [(18, .aload_n 0, 0, 0), (19, .iconst 2, 0, 0)] := ⟨by decide +kernel, trivial, trivial, trivial⟩
theorem sX3_readPart_24 : JSeg (jm jdX3_readPart) [(24, .iload_n 1, 0, 0), (25, .bipush 33, 0, 0)] := ⟨by decide +kernel, trivial, trivial, trivial⟩
theorem sX3_readPart_30 : JSeg (jm jdX3_readPart) [(30, .aload_n 0, 0, 0), (31, .aload_n 0, 0, 0), (32, .bipush 33, 0, 0)] := ⟨by decide +kernel, trivial, trivial, trivial, trivial⟩
theorem sX3_readPart_40 : JSeg (jm jdX3_readPart) [(40, .iconst 1, 0, 0), (41, .goto 4, 0, 0)] := ⟨by decide +kernel, trivial, trivial, trivial⟩
theorem sX3_readPart_44 : JSeg (jm jdX3_readPart) [(44, .iconst 0, 0, 0)] := ⟨by decide +kernel, trivial, trivial⟩
theorem sX3_readPart_48 : JSeg (jm jdX3_readPart) [(48, .iconst 1, 0, 0)] := ⟨by decide +kernel, trivial, trivial⟩
theorem sX3_readPart_50 : JSeg (jm jdX3_readPart) [(50, .aload_n 0, 0, 0), (51, .iload_n 1, 0, 0)] := ⟨by decide +kernel, trivial, trivial, trivial⟩
theorem dX3_readPart_3 : decode cX3_readPart 3 = .ok (.if_icmp .ne 9, 3) := by decide +kernel
theorem dX3_readPart_8 : decode cX3_readPart 8 = .ok (.invokevirtual 96, 3) := by decide +kernel
theorem dX3_readPart_11 : decode cX3_readPart 11 = .ok (.ireturn, 1) := by decide +kernel
theorem dX3_readPart_15 : decode cX3_readPart 15 = .ok (.if_icmp .ne 9, 3) := by decide +kernel
theorem dX3_readPart_20 : decode cX3_readPart 20 = .ok (.invokevirtual 96, 3) := by decide +kernel
theorem dX3_readPart_23 : decode cX3_readPart 23 = .ok (.ireturn, 1) := by decide +kernel
theorem dX3_readPart_27 : decode cX3_readPart 27 = .ok (.if_icmp .ne 23, 3) := by decide +kernel
theorem dX3_readPart_34 : decode cX3_readPart 34 = .ok (.invokevirtual 100, 3) := by decide +kernel
theorem dX3_readPart_37 : decode cX3_readPart 37 = .ok (.ifCond .eq 7, 3) := by decide +kernel
theorem dX3_readPart_45 : decode cX3_readPart 45 = .ok (.invokevirtual 103, 3) := by decide +kernel
theorem dX3_readPart_49 : decode cX3_readPart 49 = .ok (.ireturn, 1) := by decide +kernel
theorem dX3_readPart_52 : decode cX3_readPart 52 = .ok (.invokevirtual 100, 3) := by decide +kernel
theorem dX3_readPart_55 : decode cX3_readPart 55 = .ok (.ireturn, 1) := by decide +kernel
theorem sX3_readNumber_0 : JSeg (jm jdX3_readNumber) [(0, .iconst 0, 0, 0), (1, .istore_n 2, 0, 0), (2, .iconst 0, 0, 0), (3, .istore_n 3, 0, 0)] := ⟨by decide +kernel, trivial, trivial, trivial, trivial, trivial⟩
theorem sX3_readNumber_4 : JSeg (jm jdX3_readNumber) [(4, .iload_n 3, 0, 0), (5, .iload_n 1, 0, 0)] := ⟨by decide +kernel, trivial, trivial, trivial⟩
theorem sX3_readNumber_9 : JSeg (jm jdX3_readNumber) [(9, .aload_n 0, 0, 0), (10, .aload_n 0, 0, 0), (11, .getfield 35, 3, 5)] := ⟨by decide +kernel, trivial, trivial, fkX3_35, trivial⟩
theorem sX3_readNumber_23 : JSeg (jm jdX3_readNumber) [(23, .iload_n 2, 0, 0), (24, .bipush 10, 0, 0), (26, .imul, 0, 0), (27, .aload_n 0, 0, 0), (28, .aload_n 0, 0, 0), (29, .getfield 35, 3, 5)] := ⟨by decide +kernel, trivial, trivial, trivial, trivial, trivial, fkX3_35, trivial⟩
theorem sX3_readNumber_35 : JSeg (jm jdX3_readNumber) [(35, .iadd, 0, 0), (36, .bipush 48, 0, 0), (38, .isub, 0, 0), (39, .istore_n 2, 0, 0), (40, .iinc 3 1, 0, 0), (43, .aload_n 0, 0, 0), (44, .dup, 0, 0), (45, .getfield 35, 3, 5), (48, .iconst 1, 0, 0), (49, .iadd, 0, 0), (50, .putfield 35, 3, 5), (53, .goto (-49), 0, 0)] := ⟨by decide +kernel, trivial, trivial, trivial, trivial, trivial, trivial, trivial, fkX3_35, trivial, trivial, fpX3_35, trivial, trivial⟩
theorem sX3_readNumber_56 : JSeg (jm jdX3_readNumber) [(56, .aload_n 0, 0, 0), (57, .iload_n 2, 0, 0)] := ⟨by decide +kernel, trivial, trivial, trivial⟩
theorem sX3_readNumber_61 : JSeg (jm jdX3_readNumber) [(61, .iload_n 3, 0, 0)] := ⟨by decide +kernel, trivial, trivial⟩
theorem sX3_readNumber_65 : JSeg (jm jdX3_readNumber) [(65, .iconst 1, 0, 0), (66, .goto 4, 0, 0)] := ⟨by decide +kernel, trivial, trivial, trivial⟩
theorem sX3_readNumber_69 : JSeg (jm jdX3_readNumber) [(69, .iconst 0, 0, 0)] := ⟨by decide +kernel, trivial, trivial⟩
theorem dX3_readNumber_6 : decode cX3_readNumber 6 = .ok (.if_icmp .ge 50, 3) := by decide +kernel
theorem dX3_readNumber_14 : decode cX3_readNumber 14 = .ok (.invokevirtual 45, 3) := by decide +kernel
theorem dX3_readNumber_17 : decode cX3_readNumber 17 = .ok (.invokestatic 106, 3) := by decide +kernel
theorem dX3_readNumber_20 : decode cX3_readNumber 20 = .ok (.ifCond .eq 36, 3) := by decide +kernel
theorem dX3_readNumber_32 : decode cX3_readNumber 32 = .ok (.invokevirtual 45, 3) := by decide +kernel
theorem dX3_readNumber_58 : decode cX3_readNumber 58 = .ok (.invokevirtual 103, 3) := by decide +kernel
theorem dX3_readNumber_62 : decode cX3_readNumber 62 = .ok (.ifCond .le 7, 3) := by decide +kernel
theorem dX3_readNumber_70 : decode cX3_readNumber 70 = .ok (.ireturn, 1) := by decide +kernel
theorem sX3_readSign_0 : JSeg (jm jdX3_readSign) [(0, .aload_n 0, 0, 0), (1, .aload_n 0, 0, 0), (2, .getfield 35, 3, 5)] := ⟨by decide +kernel, trivial, trivial, fkX3_35, trivial⟩
theorem sX3_readSign_8 : JSeg (jm jdX3_readSign) [(8, .iload_n 1, 0, 0)] := ⟨by decide +kernel, trivial, trivial⟩
theorem sX3_readSign_12 : JSeg (jm jdX3_readSign) [(12, .iconst 0, 0, 0)] := ⟨by decide +kernel, trivial, trivial⟩
theorem sX3_readSign_14 : JSeg (jm jdX3_readSign) [(14, .aload_n 0, 0, 0), (15, .dup, 0, 0), (16, .getfield 35, 3, 5), (19, .iconst 1, 0, 0), (20, .iadd, 0, 0), (21, .putfield 35, 3, 5), (24, .iconst 1, 0, 0)] := ⟨by decide +kernel, trivial, trivial, fkX3_35, trivial, trivial, fpX3_35, trivial, trivial⟩
theorem dX3_readSign_5 : decode cX3_readSign 5 = .ok (.invokevirtual 45, 3) := by decide +kernel
theorem dX3_readSign_9 : decode cX3_readSign 9 = .ok (.if_icmp .eq 5, 3) := by decide +kernel
theorem dX3_readSign_13 : decode cX3_readSign 13 = .ok (.ireturn, 1) := by decide +kernel
theorem dX3_readSign_25 : decode cX3_readSign 25 = .ok (.ireturn, 1) := by decide +kernel
theorem sX3_keepValue_0 : JSeg (jm jdX3_keepValue) [(0, .aload_n 0, 0, 0), (1, .getfield 24, 3, 4), (4, .aload_n 0, 0, 0), (5, .getfield 38, 3, 2), (8, .iconst 5, 0, 0), (9, .imul, 0, 0), (10, .aload_n 0, 0, 0), (11, .getfield 80, 3, 6), (14, .iadd, 0, 0), (15, .iload_n 1, 0, 0)] := ⟨by decide +kernel, trivial, fkX3_24, trivial, fkX3_38, trivial, trivial, trivial, fkX3_80, trivial, trivial, trivial⟩
theorem sX3_keepValue_19 : JSeg (jm jdX3_keepValue) [(19, .aload_n 0, 0, 0), (20, .dup, 0, 0), (21, .getfield 80, 3, 6), (24, .iconst 1, 0, 0), (25, .iadd, 0, 0), (26, .putfield 80, 3, 6)] := ⟨by decide +kernel, trivial, trivial, fkX3_80, trivial, trivial, fpX3_80, trivial⟩
theorem dX3_keepValue_16 : decode cX3_keepValue 16 = .ok (.invokevirtual 56, 3) := by decide +kernel
theorem dX3_keepValue_29 : decode cX3_keepValue 29 = .ok (.return_, 1) := by decide +kernel
theorem sX3_isDigit_0 : JSeg (jm jdX3_isDigit) [(0, .iload_n 0, 0, 0), (1, .bipush 48, 0, 0)] := ⟨by decide +kernel, trivial, trivial, trivial⟩
theorem sX3_isDigit_6 : JSeg (jm jdX3_isDigit) [(6, .iload_n 0, 0, 0), (7, .bipush 57, 0, 0)] := ⟨by decide +kernel, trivial, trivial, trivial⟩
theorem sX3_isDigit_12 : JSeg (jm jdX3_isDigit) [(12, .iconst 1, 0, 0), (13, .goto 4, 0, 0)] := ⟨by decide +kernel, trivial, trivial, trivial⟩
theorem sX3_isDigit_16 : JSeg (jm jdX3_isDigit) [(16, .iconst 0, 0, 0)] := ⟨by decide +kernel, trivial, trivial⟩
theorem dX3_isDigit_3 : decode cX3_isDigit 3 = .ok (.if_icmp .lt 13, 3) := by decide +kernel
theorem dX3_isDigit_9 : decode cX3_isDigit 9 = .ok (.if_icmp .gt 7, 3) := by decide +kernel
theorem dX3_isDigit_17 : decode cX3_isDigit 17 = .ok (.ireturn, 1) := by decide +kernel
theorem sX3_signAt_0 : JSeg (jm jdX3_signAt) [(0, .iload_n 1, 0, 0)] := ⟨by decide +kernel, trivial, trivial⟩
theorem sX3_signAt_4 : JSeg (jm jdX3_signAt) [(4, .iload_n 1, 0, 0), (5, .aload_n 0, 0, 0), (6, .getfield 27, 3, 1)] := ⟨by decide +kernel, trivial, trivial, fkX3_27, trivial⟩
theorem sX3_signAt_12 : JSeg (jm jdX3_signAt) [(12, .iload_n 1, 0, 0), (13, .aload_n 0, 0, 0), (14, .getfield 9, 3, 0), (17, .arraylength, 0, 0)] := ⟨by decide +kernel, trivial, trivial, fkX3_9, trivial, trivial⟩
theorem sX3_signAt_21 : JSeg (jm jdX3_signAt) [(21, .aload_n 0, 0, 0), (22, .getfield 9, 3, 0), (25, .iload_n 1, 0, 0)] := ⟨by decide +kernel, trivial, fkX3_9, trivial, trivial⟩
theorem sX3_signAt_27 : JSeg (jm jdX3_signAt) [(27, .goto 4, 0, 0)] := ⟨by decide +kernel, trivial, trivial⟩
theorem sX3_signAt_30 : JSeg (jm jdX3_signAt) [(30, .iconst (-1), 0, 0)] := ⟨by decide +kernel, trivial, trivial⟩
theorem dX3_signAt_1 : decode cX3_signAt 1 = .ok (.ifCond .lt 29, 3) := by decide +kernel
theorem dX3_signAt_9 : decode cX3_signAt 9 = .ok (.if_icmp .ge 21, 3) := by decide +kernel
theorem dX3_signAt_18 : decode cX3_signAt 18 = .ok (.if_icmp .ge 12, 3) := by decide +kernel
theorem dX3_signAt_26 : decode cX3_signAt 26 = .ok (.caload, 1) := by decide +kernel
theorem dX3_signAt_31 : decode cX3_signAt 31 = .ok (.ireturn, 1) := by decide +kernel
