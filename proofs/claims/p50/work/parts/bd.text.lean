/-! texts made at run time: append(String), toString -/
theorem dbJ5_append_cf1ce : DB jdJ5_append_cf1ce := ⟨(bw_of 1027 (by decide +kernel) (by decide +kernel)), (bw_of 8 (by decide +kernel) (by decide +kernel)), by decide +kernel, by decide +kernel⟩
theorem dnJ5_append_cf1ce : Cond.instanceMethod yJ5_append_cf1ce ∈ BW := (bw_of 1026 (by decide +kernel) (by decide +kernel))
theorem dmJ5_append_cf1ce : Cond.sameMethod RJ5 RJ5 "append" "(Ljava/lang/String;)Ljava/lang/AbstractStringBuilder;" ∈ BW := (bw_of 1420 (by decide +kernel) (by decide +kernel))
theorem dbJ5_putStringAt_47b60 : DB jdJ5_putStringAt_47b60 := ⟨(bw_of 1085 (by decide +kernel) (by decide +kernel)), (bw_of 8 (by decide +kernel) (by decide +kernel)), by decide +kernel, by decide +kernel⟩
theorem dnJ5_putStringAt_47b60 : Cond.instanceMethod yJ5_putStringAt_47b60 ∈ BW := (bw_of 1084 (by decide +kernel) (by decide +kernel))
theorem dmJ5_putStringAt_47b60 : Cond.sameMethod RJ5 RJ5 "putStringAt" "(ILjava/lang/String;)V" ∈ BW := (bw_of 1424 (by decide +kernel) (by decide +kernel))
theorem dpJ5_putStringAt_47b60 : Cond.privateMethod yJ5_putStringAt_47b60 ∈ FA := List.mem_filter.mpr ⟨List.mem_of_getElem? (show tables_1[1083]? = some _ by decide +kernel), by decide +kernel⟩
theorem dlJ5_putStringAt_47b60 {X : JX} : ∀ (args : Array Value) (s : State), KK X s → (Cond.selects RJ4 yJ5_putStringAt_47b60 yJ5_putStringAt_47b60).before args s = true := fun args s hK => sel_priv (by decide +kernel) (hK.word dJ4n args) (hK.word dmJ5_putStringAt_47b60 args) (hK.faw dpJ5_putStringAt_47b60 args) (hK.word dnJ5_putStringAt_47b60 args)
theorem dbJ5_inflateIfNeededFor_a7421 : DB jdJ5_inflateIfNeededFor_a7421 := ⟨(bw_of 1089 (by decide +kernel) (by decide +kernel)), (bw_of 8 (by decide +kernel) (by decide +kernel)), by decide +kernel, by decide +kernel⟩
theorem dnJ5_inflateIfNeededFor_a7421 : Cond.instanceMethod yJ5_inflateIfNeededFor_a7421 ∈ BW := (bw_of 1088 (by decide +kernel) (by decide +kernel))
theorem dmJ5_inflateIfNeededFor_a7421 : Cond.sameMethod RJ5 RJ5 "inflateIfNeededFor" "(Ljava/lang/String;)V" ∈ BW := (bw_of 1425 (by decide +kernel) (by decide +kernel))
theorem dpJ5_inflateIfNeededFor_a7421 : Cond.privateMethod yJ5_inflateIfNeededFor_a7421 ∈ FA := List.mem_filter.mpr ⟨List.mem_of_getElem? (show tables_1[1087]? = some _ by decide +kernel), by decide +kernel⟩
theorem dlJ5_inflateIfNeededFor_a7421 {X : JX} : ∀ (args : Array Value) (s : State), KK X s → (Cond.selects RJ4 yJ5_inflateIfNeededFor_a7421 yJ5_inflateIfNeededFor_a7421).before args s = true := fun args s hK => sel_priv (by decide +kernel) (hK.word dJ4n args) (hK.word dmJ5_inflateIfNeededFor_a7421 args) (hK.faw dpJ5_inflateIfNeededFor_a7421 args) (hK.word dnJ5_inflateIfNeededFor_a7421 args)
theorem dbJ5_getValue_6d5f1 : DB jdJ5_getValue_6d5f1 := ⟨(bw_of 1158 (by decide +kernel) (by decide +kernel)), (bw_of 8 (by decide +kernel) (by decide +kernel)), by decide +kernel, by decide +kernel⟩
theorem dnJ5_getValue_6d5f1 : Cond.instanceMethod yJ5_getValue_6d5f1 ∈ BW := (bw_of 1155 (by decide +kernel) (by decide +kernel))
theorem dmJ5_getValue_6d5f1 : Cond.sameMethod RJ5 RJ5 "getValue" "()[B" ∈ BW := (bw_of 1156 (by decide +kernel) (by decide +kernel))
theorem dlJ5_getValue_6d5f1 {X : JX} : ∀ (args : Array Value) (s : State), KK X s → (Cond.selects RJ4 yJ5_getValue_6d5f1 yJ5_getValue_6d5f1).before args s = true := fun args s hK => hK.word (bw_of 1157 (by decide +kernel) (by decide +kernel)) args
theorem dlJ54_length : Cond.selects RJ4 yJ5_length_8abf5 yJ4_length_8abf5 ∈ BW := (bw_of 1162 (by decide +kernel) (by decide +kernel))
theorem sJ4_append_15ec4_0 : JSeg (jm jdJ4_append_15ec4) [(0, .aload_n 0, 0, 0), (1, .aload_n 1, 0, 0)] := ⟨by decide +kernel, trivial, trivial, trivial⟩
theorem sJ4_append_15ec4_5 : JSeg (jm jdJ4_append_15ec4) [(5, .pop, 0, 0), (6, .aload_n 0, 0, 0)] := ⟨by decide +kernel, trivial, trivial, trivial⟩
theorem dJ4_append_15ec4_2 : decode cJ4_append_15ec4 2 = .ok (.invokespecial 29, 3) := by decide +kernel
theorem dJ4_append_15ec4_7 : decode cJ4_append_15ec4 7 = .ok (.areturn, 1) := by decide +kernel
theorem sJ5_append_cf1ce_0 : JSeg (jm jdJ5_append_cf1ce) [(0, .aload_n 1, 0, 0)] := ⟨by decide +kernel, trivial, trivial⟩
theorem sJ5_append_cf1ce_4 : JSeg (jm jdJ5_append_cf1ce) [(4, .aload_n 0, 0, 0)] := ⟨by decide +kernel, trivial, trivial⟩
theorem sJ5_append_cf1ce_9 : JSeg (jm jdJ5_append_cf1ce) [(9, .aload_n 1, 0, 0)] := ⟨by decide +kernel, trivial, trivial⟩
theorem sJ5_append_cf1ce_13 : JSeg (jm jdJ5_append_cf1ce) [(13, .istore_n 2, 0, 0), (14, .aload_n 0, 0, 0), (15, .aload_n 0, 0, 0), (16, .getfield 79, 8, 3), (19, .iload_n 2, 0, 0), (20, .iadd, 0, 0)] := ⟨by decide +kernel, trivial, trivial, trivial, fkJ5_79, trivial, trivial, trivial⟩
theorem sJ5_append_cf1ce_24 : JSeg (jm jdJ5_append_cf1ce) [(24, .aload_n 0, 0, 0), (25, .aload_n 0, 0, 0), (26, .getfield 79, 8, 3), (29, .aload_n 1, 0, 0)] := ⟨by decide +kernel, trivial, trivial, fkJ5_79, trivial, trivial⟩
theorem sJ5_append_cf1ce_33 : JSeg (jm jdJ5_append_cf1ce) [(33, .aload_n 0, 0, 0), (34, .dup, 0, 0), (35, .getfield 79, 8, 3), (38, .iload_n 2, 0, 0), (39, .iadd, 0, 0), (40, .putfield 79, 8, 3), (43, .aload_n 0, 0, 0)] := ⟨by decide +kernel, trivial, trivial, fkJ5_79, trivial, trivial, fpJ5_79, trivial, trivial⟩
theorem dJ5_append_cf1ce_1 : decode cJ5_append_cf1ce 1 = .ok (.ifnonnull 8, 3) := by decide +kernel
theorem dJ5_append_cf1ce_5 : decode cJ5_append_cf1ce 5 = .ok (.invokevirtual 204, 3) := by decide +kernel
theorem dJ5_append_cf1ce_8 : decode cJ5_append_cf1ce 8 = .ok (.areturn, 1) := by decide +kernel
theorem dJ5_append_cf1ce_10 : decode cJ5_append_cf1ce 10 = .ok (.invokevirtual 32, 3) := by decide +kernel
theorem dJ5_append_cf1ce_21 : decode cJ5_append_cf1ce 21 = .ok (.invokevirtual 100, 3) := by decide +kernel
theorem dJ5_append_cf1ce_30 : decode cJ5_append_cf1ce 30 = .ok (.invokevirtual 208, 3) := by decide +kernel
theorem dJ5_append_cf1ce_44 : decode cJ5_append_cf1ce 44 = .ok (.areturn, 1) := by decide +kernel
theorem sJ5_putStringAt_47b60_0 : JSeg (jm jdJ5_putStringAt_47b60) [(0, .aload_n 0, 0, 0), (1, .aload_n 2, 0, 0)] := ⟨by decide +kernel, trivial, trivial, trivial⟩
theorem sJ5_putStringAt_47b60_5 : JSeg (jm jdJ5_putStringAt_47b60) [(5, .aload_n 2, 0, 0), (6, .aload_n 0, 0, 0), (7, .getfield 15, 8, 0), (10, .iload_n 1, 0, 0), (11, .aload_n 0, 0, 0), (12, .getfield 22, 8, 1)] := ⟨by decide +kernel, trivial, trivial, fkJ5_15, trivial, trivial, fkJ5_22, trivial⟩
theorem dJ5_putStringAt_47b60_2 : decode cJ5_putStringAt_47b60 2 = .ok (.invokevirtual 397, 3) := by decide +kernel
theorem dJ5_putStringAt_47b60_15 : decode cJ5_putStringAt_47b60 15 = .ok (.invokevirtual 399, 3) := by decide +kernel
theorem dJ5_putStringAt_47b60_18 : decode cJ5_putStringAt_47b60 18 = .ok (.return_, 1) := by decide +kernel
theorem sJ5_inflateIfNeededFor_a7421_6 : JSeg (jm jdJ5_inflateIfNeededFor_a7421) [(6, .aload_n 0, 0, 0), (7, .getfield 22, 8, 1), (10, .aload_n 1, 0, 0)] := ⟨by decide +kernel, trivial, fkJ5_22, trivial, trivial⟩
theorem sJ5_inflateIfNeededFor_a7421_17 : JSeg (jm jdJ5_inflateIfNeededFor_a7421) [(17, .aload_n 0, 0, 0)] := ⟨by decide +kernel, trivial, trivial⟩
theorem dJ5_inflateIfNeededFor_a7421_0 : decode cJ5_inflateIfNeededFor_a7421 0 = .ok (.getstatic 18, 3) := by decide +kernel
theorem dJ5_inflateIfNeededFor_a7421_3 : decode cJ5_inflateIfNeededFor_a7421 3 = .ok (.ifCond .eq 18, 3) := by decide +kernel
theorem dJ5_inflateIfNeededFor_a7421_11 : decode cJ5_inflateIfNeededFor_a7421 11 = .ok (.invokevirtual 40, 3) := by decide +kernel
theorem dJ5_inflateIfNeededFor_a7421_14 : decode cJ5_inflateIfNeededFor_a7421 14 = .ok (.if_icmp .eq 7, 3) := by decide +kernel
theorem dJ5_inflateIfNeededFor_a7421_18 : decode cJ5_inflateIfNeededFor_a7421 18 = .ok (.invokevirtual 195, 3) := by decide +kernel
theorem dJ5_inflateIfNeededFor_a7421_21 : decode cJ5_inflateIfNeededFor_a7421 21 = .ok (.return_, 1) := by decide +kernel
theorem sJ0_getBytes_840e7_0 : JSeg (jm jdJ0_getBytes_840e7) [(0, .aload_n 0, 0, 0)] := ⟨by decide +kernel, trivial, trivial⟩
theorem sJ0_getBytes_840e7_4 : JSeg (jm jdJ0_getBytes_840e7) [(4, .iload_n 3, 0, 0)] := ⟨by decide +kernel, trivial, trivial⟩
theorem sJ0_getBytes_840e7_8 : JSeg (jm jdJ0_getBytes_840e7) [(8, .aload_n 0, 0, 0)] := ⟨by decide +kernel, trivial, trivial⟩
theorem sJ0_getBytes_840e7_12 : JSeg (jm jdJ0_getBytes_840e7) [(12, .iconst 0, 0, 0), (13, .aload_n 1, 0, 0), (14, .iload_n 2, 0, 0), (15, .iload_n 3, 0, 0), (16, .ishl, 0, 0), (17, .aload_n 0, 0, 0)] := ⟨by decide +kernel, trivial, trivial, trivial, trivial, trivial, trivial, trivial⟩
theorem sJ0_getBytes_840e7_21 : JSeg (jm jdJ0_getBytes_840e7) [(21, .arraylength, 0, 0)] := ⟨by decide +kernel, trivial, trivial⟩
theorem sJ0_getBytes_840e7_25 : JSeg (jm jdJ0_getBytes_840e7) [(25, .goto 18, 0, 0)] := ⟨by decide +kernel, trivial, trivial⟩
theorem sJ0_getBytes_840e7_28 : JSeg (jm jdJ0_getBytes_840e7) [(28, .aload_n 0, 0, 0)] := ⟨by decide +kernel, trivial, trivial⟩
theorem sJ0_getBytes_840e7_32 : JSeg (jm jdJ0_getBytes_840e7) [(32, .iconst 0, 0, 0), (33, .aload_n 1, 0, 0), (34, .iload_n 2, 0, 0), (35, .aload_n 0, 0, 0)] := ⟨by decide +kernel, trivial, trivial, trivial, trivial, trivial⟩
theorem sJ0_getBytes_840e7_39 : JSeg (jm jdJ0_getBytes_840e7) [(39, .arraylength, 0, 0)] := ⟨by decide +kernel, trivial, trivial⟩
theorem dJ0_getBytes_840e7_1 : decode cJ0_getBytes_840e7 1 = .ok (.invokevirtual 335, 3) := by decide +kernel
theorem dJ0_getBytes_840e7_5 : decode cJ0_getBytes_840e7 5 = .ok (.if_icmp .ne 23, 3) := by decide +kernel
theorem dJ0_getBytes_840e7_9 : decode cJ0_getBytes_840e7 9 = .ok (.getfield 9, 3) := by decide +kernel
theorem dJ0_getBytes_840e7_18 : decode cJ0_getBytes_840e7 18 = .ok (.getfield 9, 3) := by decide +kernel
theorem dJ0_getBytes_840e7_22 : decode cJ0_getBytes_840e7 22 = .ok (.invokestatic 212, 3) := by decide +kernel
theorem dJ0_getBytes_840e7_29 : decode cJ0_getBytes_840e7 29 = .ok (.getfield 9, 3) := by decide +kernel
theorem dJ0_getBytes_840e7_36 : decode cJ0_getBytes_840e7 36 = .ok (.getfield 9, 3) := by decide +kernel
theorem dJ0_getBytes_840e7_40 : decode cJ0_getBytes_840e7 40 = .ok (.invokestatic 106, 3) := by decide +kernel
theorem dJ0_getBytes_840e7_43 : decode cJ0_getBytes_840e7 43 = .ok (.return_, 1) := by decide +kernel
theorem sJ4_toString_0e30d_3 : JSeg (jm jdJ4_toString_0e30d) [(3, .dup, 0, 0), (4, .aload_n 0, 0, 0)] := ⟨by decide +kernel, trivial, trivial, trivial⟩
theorem dJ4_toString_0e30d_0 : decode cJ4_toString_0e30d 0 = .ok (.new 18, 3) := by decide +kernel
theorem dJ4_toString_0e30d_5 : decode cJ4_toString_0e30d 5 = .ok (.invokespecial 137, 3) := by decide +kernel
theorem dJ4_toString_0e30d_8 : decode cJ4_toString_0e30d 8 = .ok (.areturn, 1) := by decide +kernel
theorem sJ0_init_81219_0 : JSeg (jm jdJ0_init_81219) [(0, .aload_n 0, 0, 0), (1, .aload_n 1, 0, 0), (2, .aconst_null, 0, 0)] := ⟨by decide +kernel, trivial, trivial, trivial, trivial⟩
theorem dJ0_init_81219_3 : decode cJ0_init_81219 3 = .ok (.invokespecial 489, 3) := by decide +kernel
theorem dJ0_init_81219_6 : decode cJ0_init_81219 6 = .ok (.return_, 1) := by decide +kernel
theorem sJ0_init_db425_0 : JSeg (jm jdJ0_init_db425) [(0, .aload_n 0, 0, 0)] := ⟨by decide +kernel, trivial, trivial⟩
theorem sJ0_init_db425_4 : JSeg (jm jdJ0_init_db425) [(4, .aload_n 1, 0, 0)] := ⟨by decide +kernel, trivial, trivial⟩
theorem sJ0_init_db425_8 : JSeg (jm jdJ0_init_db425) [(8, .astore_n 3, 0, 0), (9, .aload_n 1, 0, 0)] := ⟨by decide +kernel, trivial, trivial, trivial⟩
theorem sJ0_init_db425_13 : JSeg (jm jdJ0_init_db425) [(13, .istore 4, 0, 0), (15, .aload_n 1, 0, 0)] := ⟨by decide +kernel, trivial, trivial, trivial⟩
theorem sJ0_init_db425_22 : JSeg (jm jdJ0_init_db425) [(22, .aload_n 0, 0, 0), (23, .iconst 0, 0, 0)] := ⟨by decide +kernel, trivial, trivial, trivial⟩
theorem sJ0_init_db425_27 : JSeg (jm jdJ0_init_db425) [(27, .aload_n 0, 0, 0), (28, .aload_n 3, 0, 0), (29, .iconst 0, 0, 0), (30, .iload 4, 0, 0)] := ⟨by decide +kernel, trivial, trivial, trivial, trivial, trivial⟩
theorem sJ0_init_db425_38 : JSeg (jm jdJ0_init_db425) [(38, .goto 59, 0, 0)] := ⟨by decide +kernel, trivial, trivial⟩
theorem sJ0_init_db425_47 : JSeg (jm jdJ0_init_db425) [(47, .aload_n 1, 0, 0), (48, .getfield 1048, 8, 2)] := ⟨by decide +kernel, trivial, fkJ0_1048, trivial⟩
theorem sJ0_init_db425_54 : JSeg (jm jdJ0_init_db425) [(54, .aload_n 0, 0, 0), (55, .aload_n 3, 0, 0), (56, .iconst 0, 0, 0), (57, .iload 4, 0, 0)] := ⟨by decide +kernel, trivial, trivial, trivial, trivial, trivial⟩
theorem sJ0_init_db425_65 : JSeg (jm jdJ0_init_db425) [(65, .aload_n 0, 0, 0), (66, .aload_n 0, 0, 0)] := ⟨by decide +kernel, trivial, trivial, trivial⟩
theorem sJ0_init_db425_70 : JSeg (jm jdJ0_init_db425) [(70, .iload 4, 0, 0)] := ⟨by decide +kernel, trivial, trivial⟩
theorem sJ0_init_db425_79 : JSeg (jm jdJ0_init_db425) [(79, .aload_n 0, 0, 0), (80, .iconst 1, 0, 0)] := ⟨by decide +kernel, trivial, trivial, trivial⟩
theorem sJ0_init_db425_84 : JSeg (jm jdJ0_init_db425) [(84, .aload_n 0, 0, 0), (85, .aload_n 3, 0, 0), (86, .iconst 0, 0, 0), (87, .iload 4, 0, 0), (89, .iconst 1, 0, 0), (90, .ishl, 0, 0)] := ⟨by decide +kernel, trivial, trivial, trivial, trivial, trivial, trivial, trivial⟩
theorem dJ0_init_db425_1 : decode cJ0_init_db425 1 = .ok (.invokespecial 1, 3) := by decide +kernel
theorem dJ0_init_db425_5 : decode cJ0_init_db425 5 = .ok (.invokevirtual 552, 3) := by decide +kernel
theorem dJ0_init_db425_10 : decode cJ0_init_db425 10 = .ok (.invokevirtual 549, 3) := by decide +kernel
theorem dJ0_init_db425_16 : decode cJ0_init_db425 16 = .ok (.invokevirtual 1047, 3) := by decide +kernel
theorem dJ0_init_db425_19 : decode cJ0_init_db425 19 = .ok (.ifCond .eq 22, 3) := by decide +kernel
theorem dJ0_init_db425_24 : decode cJ0_init_db425 24 = .ok (.putfield 15, 3) := by decide +kernel
theorem dJ0_init_db425_32 : decode cJ0_init_db425 32 = .ok (.invokestatic 54, 3) := by decide +kernel
theorem dJ0_init_db425_35 : decode cJ0_init_db425 35 = .ok (.putfield 9, 3) := by decide +kernel
theorem dJ0_init_db425_41 : decode cJ0_init_db425 41 = .ok (.getstatic 38, 3) := by decide +kernel
theorem dJ0_init_db425_44 : decode cJ0_init_db425 44 = .ok (.ifCond .eq 35, 3) := by decide +kernel
theorem dJ0_init_db425_51 : decode cJ0_init_db425 51 = .ok (.ifCond .eq 28, 3) := by decide +kernel
theorem dJ0_init_db425_59 : decode cJ0_init_db425 59 = .ok (.invokestatic 1051, 3) := by decide +kernel
theorem dJ0_init_db425_62 : decode cJ0_init_db425 62 = .ok (.putfield 9, 3) := by decide +kernel
theorem dJ0_init_db425_67 : decode cJ0_init_db425 67 = .ok (.getfield 9, 3) := by decide +kernel
theorem dJ0_init_db425_72 : decode cJ0_init_db425 72 = .ok (.invokestatic 47, 3) := by decide +kernel
theorem dJ0_init_db425_75 : decode cJ0_init_db425 75 = .ok (.putfield 15, 3) := by decide +kernel
theorem dJ0_init_db425_78 : decode cJ0_init_db425 78 = .ok (.return_, 1) := by decide +kernel
theorem dJ0_init_db425_81 : decode cJ0_init_db425 81 = .ok (.putfield 15, 3) := by decide +kernel
theorem dJ0_init_db425_91 : decode cJ0_init_db425 91 = .ok (.invokestatic 54, 3) := by decide +kernel
theorem dJ0_init_db425_94 : decode cJ0_init_db425 94 = .ok (.putfield 9, 3) := by decide +kernel
theorem dJ0_init_db425_97 : decode cJ0_init_db425 97 = .ok (.return_, 1) := by decide +kernel
theorem sJ5_getValue_6d5f1_0 : JSeg (jm jdJ5_getValue_6d5f1) [(0, .aload_n 0, 0, 0), (1, .getfield 15, 8, 0)] := ⟨by decide +kernel, trivial, fkJ5_15, trivial⟩
theorem dJ5_getValue_6d5f1_4 : decode cJ5_getValue_6d5f1 4 = .ok (.areturn, 1) := by decide +kernel
theorem sJ7_copyOfRange_39247_0 : JSeg (jm jdJ7_copyOfRange_39247) [(0, .iload_n 1, 0, 0)] := ⟨by decide +kernel, trivial, trivial⟩
theorem sJ7_copyOfRange_39247_4 : JSeg (jm jdJ7_copyOfRange_39247) [(4, .iload_n 2, 0, 0), (5, .aload_n 0, 0, 0), (6, .arraylength, 0, 0)] := ⟨by decide +kernel, trivial, trivial, trivial, trivial⟩
theorem sJ7_copyOfRange_39247_10 : JSeg (jm jdJ7_copyOfRange_39247) [(10, .aload_n 0, 0, 0), (11, .iload_n 1, 0, 0), (12, .iload_n 2, 0, 0)] := ⟨by decide +kernel, trivial, trivial, trivial, trivial⟩
theorem sJ7_copyOfRange_39247_17 : JSeg (jm jdJ7_copyOfRange_39247) [(17, .aload_n 0, 0, 0)] := ⟨by decide +kernel, trivial, trivial⟩
theorem dJ7_copyOfRange_39247_1 : decode cJ7_copyOfRange_39247 1 = .ok (.ifCond .ne 9, 3) := by decide +kernel
theorem dJ7_copyOfRange_39247_7 : decode cJ7_copyOfRange_39247 7 = .ok (.if_icmp .eq 10, 3) := by decide +kernel
theorem dJ7_copyOfRange_39247_13 : decode cJ7_copyOfRange_39247 13 = .ok (.invokestatic 339, 3) := by decide +kernel
theorem dJ7_copyOfRange_39247_16 : decode cJ7_copyOfRange_39247 16 = .ok (.areturn, 1) := by decide +kernel
theorem dJ7_copyOfRange_39247_18 : decode cJ7_copyOfRange_39247 18 = .ok (.invokevirtual 310, 3) := by decide +kernel
theorem dJ7_copyOfRange_39247_21 : decode cJ7_copyOfRange_39247 21 = .ok (.checkcast 311, 3) := by decide +kernel
theorem dJ7_copyOfRange_39247_24 : decode cJ7_copyOfRange_39247 24 = .ok (.areturn, 1) := by decide +kernel
theorem sJ7_copyOfRangeByte_39247_0 : JSeg (jm jdJ7_copyOfRangeByte_39247) [(0, .iload_n 1, 0, 0), (1, .iload_n 2, 0, 0)] := ⟨by decide +kernel, trivial, trivial, trivial⟩
theorem sJ7_copyOfRangeByte_39247_5 : JSeg (jm jdJ7_copyOfRangeByte_39247) [(5, .iload_n 2, 0, 0), (6, .iload_n 1, 0, 0), (7, .isub, 0, 0), (8, .istore_n 3, 0, 0), (9, .iload_n 3, 0, 0)] := ⟨by decide +kernel, trivial, trivial, trivial, trivial, trivial, trivial⟩
theorem sJ7_copyOfRangeByte_39247_12 : JSeg (jm jdJ7_copyOfRangeByte_39247) [(12, .astore 4, 0, 0), (14, .aload_n 0, 0, 0), (15, .iload_n 1, 0, 0), (16, .aload 4, 0, 0), (18, .iconst 0, 0, 0), (19, .aload_n 0, 0, 0), (20, .arraylength, 0, 0), (21, .iload_n 1, 0, 0), (22, .isub, 0, 0), (23, .iload_n 3, 0, 0)] := ⟨by decide +kernel, trivial, trivial, trivial, trivial, trivial, trivial, trivial, trivial, trivial, trivial, trivial⟩
theorem sJ7_copyOfRangeByte_39247_30 : JSeg (jm jdJ7_copyOfRangeByte_39247) [(30, .aload 4, 0, 0)] := ⟨by decide +kernel, trivial, trivial⟩
theorem dJ7_copyOfRangeByte_39247_2 : decode cJ7_copyOfRangeByte_39247 2 = .ok (.invokestatic 343, 3) := by decide +kernel
theorem dJ7_copyOfRangeByte_39247_10 : decode cJ7_copyOfRangeByte_39247 10 = .ok (.newarray .byte, 2) := by decide +kernel
theorem dJ7_copyOfRangeByte_39247_24 : decode cJ7_copyOfRangeByte_39247 24 = .ok (.invokestatic 304, 3) := by decide +kernel
theorem dJ7_copyOfRangeByte_39247_27 : decode cJ7_copyOfRangeByte_39247 27 = .ok (.invokestatic 150, 3) := by decide +kernel
theorem dJ7_copyOfRangeByte_39247_32 : decode cJ7_copyOfRangeByte_39247 32 = .ok (.areturn, 1) := by decide +kernel
theorem sJ7_checkLength_df160_0 : JSeg (jm jdJ7_checkLength_df160) [(0, .iload_n 1, 0, 0), (1, .iload_n 0, 0, 0)] := ⟨by decide +kernel, trivial, trivial, trivial⟩
theorem sJ7_checkLength_df160_8 : JSeg (jm jdJ7_checkLength_df160) [(8, .dup, 0, 0)] := ⟨by decide +kernel, trivial, trivial⟩
theorem sJ7_checkLength_df160_12 : JSeg (jm jdJ7_checkLength_df160) [(12, .dup, 0, 0)] := ⟨by decide +kernel, trivial, trivial⟩
theorem sJ7_checkLength_df160_16 : JSeg (jm jdJ7_checkLength_df160) [(16, .iload_n 0, 0, 0)] := ⟨by decide +kernel, trivial, trivial⟩
theorem sJ7_checkLength_df160_26 : JSeg (jm jdJ7_checkLength_df160) [(26, .iload_n 1, 0, 0)] := ⟨by decide +kernel, trivial, trivial⟩
theorem dJ7_checkLength_df160_2 : decode cJ7_checkLength_df160 2 = .ok (.if_icmp .ge 35, 3) := by decide +kernel
theorem dJ7_checkLength_df160_5 : decode cJ7_checkLength_df160 5 = .ok (.new 43, 3) := by decide +kernel
theorem dJ7_checkLength_df160_9 : decode cJ7_checkLength_df160 9 = .ok (.new 45, 3) := by decide +kernel
theorem dJ7_checkLength_df160_13 : decode cJ7_checkLength_df160 13 = .ok (.invokespecial 47, 3) := by decide +kernel
theorem dJ7_checkLength_df160_17 : decode cJ7_checkLength_df160 17 = .ok (.invokevirtual 54, 3) := by decide +kernel
theorem dJ7_checkLength_df160_20 : decode cJ7_checkLength_df160 20 = .ok (.ldc_w 337, 3) := by decide +kernel
theorem dJ7_checkLength_df160_23 : decode cJ7_checkLength_df160 23 = .ok (.invokevirtual 50, 3) := by decide +kernel
theorem dJ7_checkLength_df160_27 : decode cJ7_checkLength_df160 27 = .ok (.invokevirtual 54, 3) := by decide +kernel
theorem dJ7_checkLength_df160_30 : decode cJ7_checkLength_df160 30 = .ok (.invokevirtual 61, 3) := by decide +kernel
theorem dJ7_checkLength_df160_33 : decode cJ7_checkLength_df160 33 = .ok (.invokespecial 65, 3) := by decide +kernel
theorem dJ7_checkLength_df160_36 : decode cJ7_checkLength_df160 36 = .ok (.athrow, 1) := by decide +kernel
theorem dJ7_checkLength_df160_37 : decode cJ7_checkLength_df160 37 = .ok (.return_, 1) := by decide +kernel
section TXT
variable {X : JX} {M : JM} {d mc ms : Nat} {Q : JR → Prop} {pc : Nat} {ls : List (Option Value)} {st : List Value} {h : MH}
theorem Ev.nnR {x : Nat} {off : Int} {tgt : Nat} (hdg : decode M.2.1 pc = .ok (.ifnonnull off, 3)) (ht : (pc : Int) + off = (tgt : Int)) (k : Ev X M d mc ms Q tgt ls st h) : Ev X M d mc ms Q pc ls (.ref x :: st) h := by
  intro p ev R s m args below meth c H locs cells slots lsA hB hK hH hS hL hR
  exact lv_ifnonnull hB.1 hB.2.1 hdg ht (k p ev R s m args below meth c H locs cells slots lsA hB hK hH hS hL hR)
/-- a call whose reference names another method than the one that is run -/
theorem Ev.callVO {q : JD} {x : MethodName} {b0 : ByteArray} {m0 : Nat} {r0 : Option FieldType} {owner : String} {idx d' mc1 ms1 : Nat} {As rest : List Value} {Q' : JR → Prop} {b ci N : Nat} {C : String} {T : u_T} {fs : List (Value ⊕ Bool)} (hq : DB q) (hin : Cond.instanceMethod q.1 ∈ BW) (hse : Cond.selects C x q.1 ∈ BW) (hsm : Cond.sameMethod x.cls owner x.name x.desc ∈ BW) (hdi : Cond.instanceMethod ⟨owner, x.name, x.desc⟩ ∈ BW) (hdc : Cond.code ⟨owner, x.name, x.desc⟩ b0 m0 r0 ∈ BW) (how : owner ≠ "java/lang/invoke/MethodHandle" ∧ owner ≠ "java/lang/invoke/VarHandle") (hxd : (parseMethodDescriptor x.desc).map (fun d => d.parameters.length) = some q.2.2.2.2) (hl : Cond.methodLink M.1.cls idx x ∈ BW) (es : zS h b = some (.inr (ci, fs))) (hci : jcl[ci]? = some (C, T, N)) (hdg : decode M.2.1 pc = .ok (.invokevirtual idx, 3)) (hm : MT X d' mc1 ms1 q (.ref b :: As) h Q') (hd : d' + 1 ≤ d ∧ q.2.2.1 + 19 + 40 * d' ≤ 40 * d) (hc : mc1 ≤ mc ∧ ms1 ≤ ms) (hn : As.length = q.2.2.2.2) (hw : (rest.map fun v => v.category).sum ≤ 8) (kk : ∀ v h', Q' (.inl (v, h')) → Ev X M d (mc - mc1) (ms - ms1) Q (pc + 3) ls (v.toList ++ rest) h') (kx : ∀ E h', Q' (.inr (E, h')) → EvX X M d (mc - mc1) (ms - ms1) Q pc ls E h') : Ev X M d mc ms Q pc ls (As.reverse ++ .ref b :: rest) h := by
  intro p ev R s m args below meth c H locs cells slots lsA hB hK hH hS hL hR
  have hcw : va_CU R s args M.1.cls C owner idx x q.1 q.2.1 q.2.2.1 q.2.2.2.1 [Cond.code q.1 q.2.1 q.2.2.1 q.2.2.2.1] ({ frames := d', cells := mc1, slots := ms1, locals := 40 * d' } : Room) mc1 ms1 q.2.2.2.2 := by
    refine ⟨⟨rfl, rfl, by show d' + 1 ≤ R.frames; omega, by show 8 + (q.2.2.1 + 11) + 40 * d' ≤ R.locals; omega, fun w hw a' U hW => ?_, List.mem_cons_self⟩, hK.word hq.1 args, hK.word hq.2.1 args, how, fun sig hs => ?_, hK.word hl args, hK.word hsm args, va_Decl.of (hK.word hdi args) (hK.word hdc args), hK.word hse args, hK.word hin args⟩
    · rw [List.mem_singleton.mp hw]
      exact word_at hW (bw_good hq.1) (hK.word hq.1 args)
    · rw [hs] at hxd
      exact (Option.some.inj hxd).symm
  refine ev_run (a := _) (vx_runU (C := C) (owner := owner) (x := x) (b := jA X b) (Ts := BW) (As := As.map (trV X)) ⟨hB.1, hB.2.1, hB.2.2.1, hB.2.2.2.1, fun w hw => hK.word hw args⟩ hm hcw ⟨fb_MT, va_recv (ci := ci) (q0 := b) (fs := fs.mapIdx (fE X h b)) hK.2.1 hH.2.2.2 hci (by rw [ws_at (hH.lt es), cE_obj es (by have := jcl_lt hci; omega)]), fun U hU hW => ⟨rfl, by rw [hU]; exact hH, hK.call hS hU hW⟩⟩ rfl (by rw [List.length_map]; exact hn) (hL.1) (by simp [trV]) (lv_room (by rw [List.map_map]; simpa [Function.comp_def, trV_cat] using hw)) hdg (by omega)) hB hK hS hL hR hc kk kx
/-- a text's bytes copied into an array -/
def cpyT (h : MH) (i a p : Nat) : MH := (zN h, zS h, fun b j => if b = a then (if p ≤ j ∧ j < p + jshl.getD i 0 then (jshb.getD i []).getD (j - p) 0 else zI h a j) else zI h b j, zL h, zD h)
theorem Ev.copyT {i p n1 a idx : Nat} (hX : JXok X) (hi : i < jnS) (es1 : zS h a = some (.inl (.byte, n1))) (h1 : p + jshl.getD i 0 ≤ n1) (hn1 : n1 ≤ 100000) (hfit : ∀ j, j < jshl.getD i 0 → fits .byte (.int ((jshb.getD i []).getD j 0)) = true)
    (hl : Cond.methodLink M.1.cls idx arraycopyName ∈ BW) (hw : (st.map fun v => v.category).sum ≤ 8) (hd : 2 ≤ d) (hdg : decode M.2.1 pc = .ok (.invokestatic idx, 3)) (k : Ev X M d mc ms Q (pc + 3) ls st (cpyT h i a p)) :
    Ev X M d mc ms Q pc ls (.int (nI (jshl.getD i 0)) :: .int (nI p) :: .ref a :: .int 0 :: .ref (BIG + 100 + i) :: st) h := by
  intro p0 ev R s m args below meth c H locs cells slots lsA hB hK hH hS hL hR
  obtain ⟨n, hn⟩ : ∃ n, n = jshl.getD i 0 := ⟨_, rfl⟩
  obtain ⟨f, hf⟩ : ∃ f : Nat → Int32, f = fun j => (jshb.getD i []).getD j 0 := ⟨_, rfl⟩
  have hcp : zI (cpyT h i a p) a = fun j => if p ≤ j ∧ j < p + n then f (j - p) else zI h a j := by
    funext j
    rw [hn, hf]
    show (if a = a then _ else _) = _
    rw [if_pos rfl]
  obtain ⟨cell, t1, t2, t3, t4, t5, t6, t7⟩ := (hK.ks.2.1.1 i hi).2.2.2
  have hc : (nI n).toNatClampNeg = n := nI_clamp (by omega)
  have hcp0 : (nI p).toNatClampNeg = p := nI_clamp (by omega)
  have hnI : (nI n).toInt = (n : Int) := nI_toInt (by omega)
  have hpI : (nI p).toInt = (p : Int) := nI_toInt (by omega)
  have q1 := hH.at (hH.lt es1)
  rw [cE_arr es1] at q1
  have hc1 : H[jA X a]? = some (vp_cell (jC X .byte) (n1, .inl (zI h a))) := q1
  have hc0 : H[jA X (BIG + 100 + i)]? = some cell := by rw [hS.2.1 _ (Array.getElem?_eq_some_iff.mp t1).1 t7]; exact t1
  obtain ⟨-, k1, hk1, cm1, hkk1⟩ := (hK.2.1.2 2 _ (show (jty X)[2]? = some (jC X .byte, .byte) from rfl)).1 n1 (fun j => .int (zI h a j))
  have hkk1 : k1.kind = .array cm1 .byte := hkk1
  obtain ⟨tv, k0, hk0, cm0, hkk0⟩ := t2
  rw [← hn] at t4 t5 t6
  have hget : ∀ j, j < n → cell.slots.getD (0 + j) .null = .int (f j) := fun j hj => by
    rw [Nat.zero_add, Array.getD_eq_getD_getElem?, t6 j hj, hf]
    rfl
  rw [← hn]
  intro T hT XT
  obtain ⟨vm', X', step⟩ := XT.arraycopy hB.1 hB.2.2.2.1 (hK.word hl args) (hK.word (w := Cond.native arraycopyName) (by decide +kernel) args) (hK.word (w := Cond.static arraycopyName) (by decide +kernel) args) (hK.word (w := Cond.initialized "java/lang/System") (by decide +kernel) args)
    (src := jA X (BIG + 100 + i)) (dst := jA X a) (cs := cell) (cd := arrV (jC X .byte) n1 (fun j => .int (zI h a j))) (srcPos := 0) (destPos := nI p) (n := nI n) (by rw [hT]; exact hc0) (by rw [hT]; exact hc1)
    tv (fun _ g => by cases g) t3 (fun g => by cases g) hk0 hk1 hkk0 hkk1 (by decide) (by decide) (nI_pos (by omega)) (nI_pos (by omega))
    (by rw [hnI]; show ¬ (0 : Int) + _ > _; omega)
    (by rw [hnI, hpI]; show ¬ _ > ((arrV (jC X .byte) n1 (fun j => .int (zI h a j))).slots.size : Int); rw [arrV_size]; omega)
    (fun vm₁ _ j hj => by
      rw [hc] at hj
      have e : cell.slots.getD ((0 : Int32).toNatClampNeg + j) .null = .int (f j) := hget j hj
      exact ⟨by rw [e, hf]; exact hfit j (by rw [← hn]; exact hj), by rw [e]; exact trivial⟩)
    (g := F0 m pc lsA (.int (nI n) :: .int (nI p) :: .ref (jA X a) :: .int 0 :: .ref (jA X (BIG + 100 + i)) :: st.map (trV X))) rfl (by rw [hB.2.2.1]; exact hL.1) (rest := st.map (trV X)) rfl (by rw [hB.2.1]; exact hdg) (by omega)
    (by show 2 * 0 + ((st.map (trV X)).map fun v => v.category).sum + _ ≤ _; rw [st_cat]; have := nfw_le; omega)
  have e1 := va_copied (fun z => .int z) (jC X .byte) (jC X .byte) f (zI h a) (sp := 0) (dp := p) (n := n) (n0 := n) (n1 := n1) (by omega)
  have e0 : cell.stretch 0 n = (arrV (jC X .byte) n (fun j => .int (f j))).stretch 0 n := by
    unfold Cell.stretch
    refine List.map_congr_left fun j hj => ?_
    have hj := List.mem_range.mp hj
    rw [hget j hj, Nat.zero_add, Array.getD_eq_getD_getElem?, arrV_read _ _ hj]
    rfl
  have e2 : copied cell (arrV (jC X .byte) n1 (fun j => .int (zI h a j))) 0 (nI p) (nI n) = vp_cell (jC X .byte) (n1, .inl (zI (cpyT h i a p) a)) := by
    unfold copied
    rw [show (0 : Int32).toNatClampNeg = 0 from rfl, hc, hcp0, e0]
    refine e1.trans ?_
    rw [vp_cell_i]
    congr 1
    funext j
    show Value.int (va_cpy f (zI h a) 0 p n j) = Value.int (zI (cpyT h i a p) a j)
    rw [hcp]
    simp [va_cpy]
  rw [e2] at X' step
  have hl9 : jA X a < H.size := (Array.getElem?_eq_some_iff.mp hc1).1
  generalize hce : vp_cell (jC X .byte) (n1, .inl (zI (cpyT h i a p) a)) = ce at X' step
  have hheap : ((T.setVm vm').setCell (jA X a) ce).heap = H.setIfInBounds (jA X a) ce := by rw [← hT]; rfl
  have oq : ∀ q : Nat, q ≠ jA X a → (H.setIfInBounds (jA X a) ce)[q]? = H[q]? := fun q hq => by simp [Array.getElem?_setIfInBounds, Ne.symm hq]
  have hn9 : Hd X (cpyT h i a p) (H.setIfInBounds (jA X a) ce) := by
    refine hH.upd (h' := cpyT h i a p) hX (hH.lt es1) rfl (fun _ => rfl) (fun j hj => cE_congr rfl ?_ rfl rfl) ?_ (by simp) oq
    · funext q
      show (if j = a then _ else zI h j q) = zI h j q
      rw [if_neg hj]
    · rw [cE_arr (h := cpyT h i a p) (n := n1) (ty := .byte) es1]
      show (H.setIfInBounds (jA X a) ce)[jA X a]? = some (vp_cell (jC X .byte) (n1, .inl (zI (cpyT h i a p) a)))
      rw [hce]
      simp [Array.getElem?_setIfInBounds, hl9]
  obtain ⟨t, a1, b1⟩ := k p0 ev R s m args below meth c _ _ cells slots lsA hB hK hn9 ⟨by simp; exact hS.1, fun q g1 g2 => by
      rw [oq q (fun e => g2 (by rw [e]; exact hH.A hX (hH.lt es1)))]
      exact hS.2.1 q g1 g2, fun q hq => by
      rcases List.mem_append.mp hq with g | g
      · exact hS.2.2 q g
      · obtain ⟨z, -, hz⟩ := List.mem_map.mp g
        rw [← hz]
        exact hH.A hX (hH.lt es1)⟩ hL hR _ hheap X'
  exact ⟨t, step t a1, b1⟩
end TXT
section TXB
variable {X : JX} {d N v cap i p : Nat} {T : Nat → Option JS} {I : HI} {L : HL} {Dd : HD} {w : List Int32} {P : PF}
theorem jsh_fit : ∀ i, i < jnS → ∀ j, j < 40 → fits .byte (.int ((jshb.getD i []).getD j 0)) = true := by decide +kernel
theorem c_infB (hX : JXok X) (hd : 1 ≤ d) (hi : i < jnS) (hc0 : I 394 1 = 0) : MT X d 0 0 jdJ5_inflateIfNeededFor_a7421 [.ref 394, .ref (jsh0 + i)] (N, SB v T, I, L, Dd) (fun R => R = .inl (none, (N, SB v T, I, L, Dd))) := by
  refine MT.mk dbJ5_inflateIfNeededFor_a7421 ?_
  refine Ev.getsCS (by decide +kernel) dJ5_inflateIfNeededFor_a7421_0 ?_
  refine Ev.if_eq (tgt := 21) dJ5_inflateIfNeededFor_a7421_3 (by decide) (fun b1 => absurd b1 (by decide)) (fun b1 => ?_)
  refine Ev.sg hX (sJ5_inflateIfNeededFor_a7421_6.sub 0 1) (pc' := 7) (ls' := [some (.ref 394), some (.ref (jsh0 + i))]) (st' := [.ref 394]) (h' := (N, SB v T, I, L, Dd)) rfl ?_
  refine Ev.getf (sJ5_inflateIfNeededFor_a7421_6.lk 1 (q := (7, .getfield 22, 8, 1)) rfl) rfl rfl (sJ5_inflateIfNeededFor_a7421_6.dc 1 (q := (7, .getfield 22, 8, 1)) rfl) ?_
  show Ev _ _ _ _ _ _ 10 [some (.ref 394), some (.ref (jsh0 + i))] [.int (I 394 1)] (N, SB v T, I, L, Dd)
  rw [hc0]
  refine Ev.sg hX (sJ5_inflateIfNeededFor_a7421_6.sub 2 1) (pc' := 11) (ls' := [some (.ref 394), some (.ref (jsh0 + i))]) (st' := [.ref (jsh0 + i), .int 0]) (h' := (N, SB v T, I, L, Dd)) rfl ?_
  refine Ev.callVK (As := []) (rest := [.int 0]) hi rfl dvJ0_coder_7d493 mkJ5_40 dJ5_inflateIfNeededFor_a7421_11 (c_coder (d := d - 1) hX (Nat.zero_le _) hi) ⟨by omega, by show 1 + 19 + 40 * _ ≤ 40 * _; omega⟩ ⟨by omega, by omega⟩ rfl (Nat.le_of_ble_eq_true rfl) (fun v9 h9 e9 => ?_) (fun E9 h9 e9 => nomatch e9)
  cases e9
  show Ev _ _ _ _ _ _ 14 [some (.ref 394), some (.ref (jsh0 + i))] [.int 0, .int 0] (N, SB v T, I, L, Dd)
  refine Ev.icmp_eq (tgt := 21) dJ5_inflateIfNeededFor_a7421_14 (by decide) (fun b2 => ?_) (fun b2 => absurd rfl b2)
  refine Ev.vret dJ5_inflateIfNeededFor_a7421_21 rfl ?_
  rfl
theorem c_getBB (hX : JXok X) (hd : 2 ≤ d) (hi : i < jnS) (hv : SB v T v = some (.inl (.byte, cap))) (hcap : cap ≤ 700) (hp : p + jshl.getD i 0 ≤ cap) : MT X d 0 0 jdJ0_getBytes_840e7 [.ref (jsh0 + i), .ref v, .int (nI p), .int 0] (N, SB v T, I, L, Dd) (fun R => R = .inl (none, cpyT (N, SB v T, I, L, Dd) i v p)) := by
  refine MT.mk dvJ0_getBytes_840e7.1 ?_
  refine Ev.sg hX sJ0_getBytes_840e7_0 (pc' := 1) (ls' := [some (.ref (jsh0 + i)), some (.ref v), some (.int (nI p)), some (.int 0)]) (st' := [.ref (jsh0 + i)]) (h' := (N, SB v T, I, L, Dd)) rfl ?_
  refine Ev.callVK (As := []) (rest := []) hi rfl dvJ0_coder_7d493 mkJ0_335 dJ0_getBytes_840e7_1 (c_coder (d := d - 1) hX (Nat.zero_le _) hi) ⟨by omega, by show 1 + 19 + 40 * _ ≤ 40 * _; omega⟩ ⟨by omega, by omega⟩ rfl (Nat.le_of_ble_eq_true rfl) (fun v9 h9 e9 => ?_) (fun E9 h9 e9 => nomatch e9)
  cases e9
  show Ev _ _ _ _ _ _ 4 [some (.ref (jsh0 + i)), some (.ref v), some (.int (nI p)), some (.int 0)] [.int 0] (N, SB v T, I, L, Dd)
  refine Ev.sg hX sJ0_getBytes_840e7_4 (pc' := 5) (ls' := [some (.ref (jsh0 + i)), some (.ref v), some (.int (nI p)), some (.int 0)]) (st' := [.int 0, .int 0]) (h' := (N, SB v T, I, L, Dd)) rfl ?_
  refine Ev.icmp_ne (tgt := 28) dJ0_getBytes_840e7_5 (by decide) (fun b1 => absurd rfl b1) (fun b1 => ?_)
  refine Ev.sg hX (sJ0_getBytes_840e7_8.sub 0 1) (pc' := 9) (ls' := [some (.ref (jsh0 + i)), some (.ref v), some (.int (nI p)), some (.int 0)]) (st' := [.ref (jsh0 + i)]) (h' := (N, SB v T, I, L, Dd)) rfl ?_
  refine Ev.getSV hi (by decide +kernel) dJ0_getBytes_840e7_9 ?_
  refine Ev.sg hX (sJ0_getBytes_840e7_12.sub 0 6) (pc' := 18) (ls' := [some (.ref (jsh0 + i)), some (.ref v), some (.int (nI p)), some (.int 0)]) (st' := [.ref (jsh0 + i), .int (nI p <<< (0 &&& 31)), .ref v, .int 0, .ref (BIG + 100 + i)]) (h' := (N, SB v T, I, L, Dd)) rfl ?_
  refine Ev.getSV hi (by decide +kernel) dJ0_getBytes_840e7_18 ?_
  rw [shl0]
  refine Ev.alenS hi (sJ0_getBytes_840e7_21.dc 0 (q := (21, .arraylength, 0, 0)) rfl) ?_
  refine Ev.copyT (i := i) (p := p) hX hi hv hp (by omega) (fun j hj => jsh_fit i hi j (by have := jshl_leN i hi; omega)) (by decide +kernel) (Nat.le_of_ble_eq_true rfl) hd dJ0_getBytes_840e7_22 ?_
  refine Ev.sg hX sJ0_getBytes_840e7_25 (pc' := 43) (ls' := [some (.ref (jsh0 + i)), some (.ref v), some (.int (nI p)), some (.int 0)]) (st' := []) (h' := cpyT (N, SB v T, I, L, Dd) i v p) rfl ?_
  refine Ev.vret dJ0_getBytes_840e7_43 rfl ?_
  rfl
theorem c_putSB (hX : JXok X) (hd : 3 ≤ d) (hi : i < jnS) (hv : SB v T v = some (.inl (.byte, cap))) (hc0 : I 394 1 = 0) (hcap : cap ≤ 700) (hp : p + jshl.getD i 0 ≤ cap) : MT X d 0 0 jdJ5_putStringAt_47b60 [.ref 394, .int (nI p), .ref (jsh0 + i)] (N, SB v T, I, L, Dd) (fun R => R = .inl (none, cpyT (N, SB v T, I, L, Dd) i v p)) := by
  refine MT.mk dbJ5_putStringAt_47b60 ?_
  refine Ev.sg hX sJ5_putStringAt_47b60_0 (pc' := 2) (ls' := [some (.ref 394), some (.int (nI p)), some (.ref (jsh0 + i))]) (st' := [.ref (jsh0 + i), .ref 394]) (h' := (N, SB v T, I, L, Dd)) rfl ?_
  refine Ev.callVU (As := [.ref (jsh0 + i)]) (rest := []) dbJ5_inflateIfNeededFor_a7421 dnJ5_inflateIfNeededFor_a7421 dlJ5_inflateIfNeededFor_a7421 mkJ5_397 rfl rfl dJ5_putStringAt_47b60_2 (c_infB (d := d - 1) hX (by omega) hi hc0) ⟨by omega, by show 2 + 19 + 40 * _ ≤ 40 * _; omega⟩ ⟨Nat.le_refl _, Nat.le_refl _⟩ rfl (Nat.le_of_ble_eq_true rfl) (fun v9 h9 e9 => ?_) (fun E9 h9 e9 => nomatch e9)
  cases e9
  show Ev _ _ _ _ _ _ 5 [some (.ref 394), some (.int (nI p)), some (.ref (jsh0 + i))] [] (N, SB v T, I, L, Dd)
  refine Ev.sg hX (sJ5_putStringAt_47b60_5.sub 0 2) (pc' := 7) (ls' := [some (.ref 394), some (.int (nI p)), some (.ref (jsh0 + i))]) (st' := [.ref 394, .ref (jsh0 + i)]) (h' := (N, SB v T, I, L, Dd)) rfl ?_
  refine Ev.getf (sJ5_putStringAt_47b60_5.lk 2 (q := (7, .getfield 15, 8, 0)) rfl) rfl rfl (sJ5_putStringAt_47b60_5.dc 2 (q := (7, .getfield 15, 8, 0)) rfl) ?_
  show Ev _ _ _ _ _ _ 10 [some (.ref 394), some (.int (nI p)), some (.ref (jsh0 + i))] [.ref v, .ref (jsh0 + i)] (N, SB v T, I, L, Dd)
  refine Ev.sg hX (sJ5_putStringAt_47b60_5.sub 3 2) (pc' := 12) (ls' := [some (.ref 394), some (.int (nI p)), some (.ref (jsh0 + i))]) (st' := [.ref 394, .int (nI p), .ref v, .ref (jsh0 + i)]) (h' := (N, SB v T, I, L, Dd)) rfl ?_
  refine Ev.getf (sJ5_putStringAt_47b60_5.lk 5 (q := (12, .getfield 22, 8, 1)) rfl) rfl rfl (sJ5_putStringAt_47b60_5.dc 5 (q := (12, .getfield 22, 8, 1)) rfl) ?_
  show Ev _ _ _ _ _ _ 15 [some (.ref 394), some (.int (nI p)), some (.ref (jsh0 + i))] [.int (I 394 1), .int (nI p), .ref v, .ref (jsh0 + i)] (N, SB v T, I, L, Dd)
  rw [hc0]
  refine Ev.callVK (As := [.ref v, .int (nI p), .int 0]) (rest := []) hi rfl dvJ0_getBytes_840e7 mkJ5_399 dJ5_putStringAt_47b60_15 (c_getBB (d := d - 1) hX (by omega) hi hv hcap hp) ⟨by omega, by show 4 + 19 + 40 * _ ≤ 40 * _; omega⟩ ⟨by omega, by omega⟩ rfl (Nat.le_of_ble_eq_true rfl) (fun v9 h9 e9 => ?_) (fun E9 h9 e9 => nomatch e9)
  cases e9
  show Ev _ _ _ _ _ _ 18 [some (.ref 394), some (.int (nI p)), some (.ref (jsh0 + i))] [] _
  refine Ev.vret dJ5_putStringAt_47b60_18 rfl ?_
  rfl
theorem c_appS5B (hX : JXok X) (hd : 5 ≤ d) (hi : i < jnS) (h : LnB P w cap N v T I L Dd) (hq2 : w.length + jshl.getD i 0 ≤ 2 * cap + 2) (h700 : w.length + jshl.getD i 0 ≤ cap ∨ 2 * cap + 2 ≤ 700) (hNB : N + 1 < BIG) : MT X d (gc cap (w.length + jshl.getD i 0)) (gs cap (w.length + jshl.getD i 0)) jdJ5_append_cf1ce [.ref 394, .ref (jsh0 + i)] (N, SB v T, I, L, Dd) (fun R => ∃ N' v' T' I', R = .inl (some (.ref 394), (N', SB v' T', I', L, Dd)) ∧ LnB P (w ++ jshb.getD i []) (gr cap (w.length + jshl.getD i 0)) N' v' T' I' L Dd ∧ Fr I I' ∧ N' = N + gc cap (w.length + jshl.getD i 0)) := by
  have hlen : (jshb.getD i []).length = jshl.getD i 0 := jsh_len i hi
  have hl40 := jshl_leN i hi
  have hle := h.le
  refine MT.mk dbJ5_append_cf1ce ?_
  refine Ev.sg hX sJ5_append_cf1ce_0 (pc' := 1) (ls' := [some (.ref 394), some (.ref (jsh0 + i)), none]) (st' := [.ref (jsh0 + i)]) (h' := (N, SB v T, I, L, Dd)) rfl ?_
  refine Ev.nnR (tgt := 9) dJ5_append_cf1ce_1 (by decide) ?_
  refine Ev.sg hX sJ5_append_cf1ce_9 (pc' := 10) (ls' := [some (.ref 394), some (.ref (jsh0 + i)), none]) (st' := [.ref (jsh0 + i)]) (h' := (N, SB v T, I, L, Dd)) rfl ?_
  refine Ev.callVK (As := []) (rest := []) hi rfl dvJ0_length_8abf5 mkJ5_32 dJ5_append_cf1ce_10 (c_strLen (d := d - 1) hX (by omega) hi) ⟨by omega, by show 1 + 19 + 40 * _ ≤ 40 * _; omega⟩ ⟨Nat.zero_le _, Nat.zero_le _⟩ rfl (Nat.le_of_ble_eq_true rfl) (fun v9 h9 e9 => ?_) (fun E9 h9 e9 => nomatch e9)
  cases e9
  obtain ⟨n, hn⟩ : ∃ n, n = jshl.getD i 0 := ⟨_, rfl⟩
  rw [← hn] at hlen hl40 hq2 h700 ⊢
  obtain ⟨hv, h3, h4, h5, hn3, hc0, h8, h9, h10, h11⟩ := id h
  show Ev _ _ _ _ _ _ 13 [some (.ref 394), some (.ref (jsh0 + i)), none] [.int (nI n)] (N, SB v T, I, L, Dd)
  refine Ev.sg hX (sJ5_append_cf1ce_13.sub 0 3) (pc' := 16) (ls' := [some (.ref 394), some (.ref (jsh0 + i)), some (.int (nI n))]) (st' := [.ref 394, .ref 394]) (h' := (N, SB v T, I, L, Dd)) rfl ?_
  refine Ev.getf (sJ5_append_cf1ce_13.lk 3 (q := (16, .getfield 79, 8, 3)) rfl) rfl rfl (sJ5_append_cf1ce_13.dc 3 (q := (16, .getfield 79, 8, 3)) rfl) ?_
  show Ev _ _ _ _ _ _ 19 [some (.ref 394), some (.ref (jsh0 + i)), some (.int (nI n))] [.int (I 394 3), .ref 394] (N, SB v T, I, L, Dd)
  rw [hn3]
  refine Ev.sg hX (sJ5_append_cf1ce_13.sub 4 2) (pc' := 21) (ls' := [some (.ref 394), some (.ref (jsh0 + i)), some (.int (nI n))]) (st' := [.int (nI w.length + nI n), .ref 394]) (h' := (N, SB v T, I, L, Dd)) rfl ?_
  rw [nI_add]
  refine Ev.callVU (As := [.int (nI (w.length + n))]) (rest := []) dbJ5_ensureCapacityInternal_d00df dnJ5_ensureCapacityInternal_d00df dlJ5_ensureCapacityInternal_d00df mkJ5_100 rfl rfl dJ5_append_cf1ce_21 (c_ensB (d := d - 1) hX (by omega) h hq2 h700 hNB) ⟨by omega, by show 3 + 19 + 40 * _ ≤ 40 * _; omega⟩ ⟨Nat.le_refl _, Nat.le_refl _⟩ rfl (Nat.le_of_ble_eq_true rfl) (fun v9 h9 e9 => ?_) (fun E9 h9 e9 => nomatch e9)
  obtain ⟨N1, v1, T1, I1, e9, g0, gF, gN⟩ := e9
  cases e9
  have g := g0
  obtain ⟨hv1, g3, g4, g5, gn3, gc0, g8, g9, g10, g11⟩ := g0
  show Ev _ _ _ _ _ _ 24 [some (.ref 394), some (.ref (jsh0 + i)), some (.int (nI n))] [] (N1, SB v1 T1, I1, L, Dd)
  refine Ev.sg hX (sJ5_append_cf1ce_24.sub 0 2) (pc' := 26) (ls' := [some (.ref 394), some (.ref (jsh0 + i)), some (.int (nI n))]) (st' := [.ref 394, .ref 394]) (h' := (N1, SB v1 T1, I1, L, Dd)) rfl ?_
  refine Ev.getf (sJ5_append_cf1ce_24.lk 2 (q := (26, .getfield 79, 8, 3)) rfl) rfl rfl (sJ5_append_cf1ce_24.dc 2 (q := (26, .getfield 79, 8, 3)) rfl) ?_
  show Ev _ _ _ _ _ _ 29 [some (.ref 394), some (.ref (jsh0 + i)), some (.int (nI n))] [.int (I1 394 3), .ref 394] (N1, SB v1 T1, I1, L, Dd)
  rw [gn3]
  refine Ev.sg hX (sJ5_append_cf1ce_24.sub 3 1) (pc' := 30) (ls' := [some (.ref 394), some (.ref (jsh0 + i)), some (.int (nI n))]) (st' := [.ref (jsh0 + i), .int (nI w.length), .ref 394]) (h' := (N1, SB v1 T1, I1, L, Dd)) rfl ?_
  refine Ev.callVU (As := [.int (nI w.length), .ref (jsh0 + i)]) (rest := []) dbJ5_putStringAt_47b60 dnJ5_putStringAt_47b60 dlJ5_putStringAt_47b60 mkJ5_208 rfl rfl dJ5_append_cf1ce_30 (c_putSB (d := d - 1) hX (by omega) hi hv1 gc0 (gr_700 _ _ hle.2.2 h700) (by rw [← hn]; exact gr_le _ _ hq2)) ⟨by omega, by show 3 + 19 + 40 * _ ≤ 40 * _; omega⟩ ⟨Nat.zero_le _, Nat.zero_le _⟩ rfl (Nat.le_of_ble_eq_true rfl) (fun v9 h9 e9 => ?_) (fun E9 h9 e9 => nomatch e9)
  cases e9
  have hv394 := g.v394
  obtain ⟨I2, hI2⟩ : ∃ I2 : HI, I2 = fun b j => if b = v1 then (if w.length ≤ j ∧ j < w.length + n then (jshb.getD i []).getD (j - w.length) 0 else I1 v1 j) else I1 b j := ⟨_, rfl⟩
  have eh : cpyT (N1, SB v1 T1, I1, L, Dd) i v1 w.length = (N1, SB v1 T1, I2, L, Dd) := by
    rw [hI2, hn]
    rfl
  rw [eh]
  have k3 : I2 394 3 = nI w.length := by
    rw [hI2]
    show (if 394 = v1 then _ else _) = _
    rw [if_neg (Ne.symm hv394)]
    exact gn3
  have k1 : I2 394 1 = 0 := by
    rw [hI2]
    show (if 394 = v1 then _ else _) = _
    rw [if_neg (Ne.symm hv394)]
    exact gc0
  show Ev _ _ _ _ _ _ 33 [some (.ref 394), some (.ref (jsh0 + i)), some (.int (nI n))] [] (N1, SB v1 T1, I2, L, Dd)
  refine Ev.sg hX (sJ5_append_cf1ce_33.sub 0 2) (pc' := 35) (ls' := [some (.ref 394), some (.ref (jsh0 + i)), some (.int (nI n))]) (st' := [.ref 394, .ref 394]) (h' := (N1, SB v1 T1, I2, L, Dd)) rfl ?_
  refine Ev.getf (sJ5_append_cf1ce_33.lk 2 (q := (35, .getfield 79, 8, 3)) rfl) rfl rfl (sJ5_append_cf1ce_33.dc 2 (q := (35, .getfield 79, 8, 3)) rfl) ?_
  show Ev _ _ _ _ _ _ 38 [some (.ref 394), some (.ref (jsh0 + i)), some (.int (nI n))] [.int (I2 394 3), .ref 394] (N1, SB v1 T1, I2, L, Dd)
  rw [k3]
  refine Ev.sg hX (sJ5_append_cf1ce_33.sub 3 2) (pc' := 40) (ls' := [some (.ref 394), some (.ref (jsh0 + i)), some (.int (nI n))]) (st' := [.int (nI w.length + nI n), .ref 394]) (h' := (N1, SB v1 T1, I2, L, Dd)) rfl ?_
  rw [nI_add]
  refine Ev.putf hX fpJ5_79 (show SB v1 T1 394 = some (sbS v1) from rfl) rfl (sJ5_append_cf1ce_33.dc 5 (q := (40, .putfield 79, 8, 3)) rfl) ?_
  show Ev _ _ _ _ _ _ 43 [some (.ref 394), some (.ref (jsh0 + i)), some (.int (nI n))] [] (N1, SB v1 T1, up2 I2 394 3 (nI (w.length + n)), L, Dd)
  refine Ev.sg hX (sJ5_append_cf1ce_33.sub 6 1) (pc' := 44) (ls' := [some (.ref 394), some (.ref (jsh0 + i)), some (.int (nI n))]) (st' := [.ref 394]) (h' := (N1, SB v1 T1, up2 I2 394 3 (nI (w.length + n)), L, Dd)) rfl ?_
  refine Ev.aret dJ5_append_cf1ce_44 rfl (Or.inl ⟨_, rfl⟩) ?_
  refine ⟨N1, v1, T1, _, rfl, g.put (ds := jshb.getD i []) (by rw [hlen]; exact gr_le _ _ hq2) ?_ ?_ (fun j => ?_) (fun x hx => ?_) (fun a h1 h2 => ?_), gF.tr (fun a ha => ?_), gN⟩
  · rw [up2_at, if_pos rfl, hlen]
  · rw [up2_at, if_neg (by decide)]; exact k1
  · rw [up2_ne hv394, hI2, hlen]
    show (if v1 = v1 then _ else _) = _
    rw [if_pos rfl]
  · obtain ⟨j, hj, rfl⟩ := List.getElem_of_mem hx
    have := jsh_fit i hi j (by omega)
    rw [List.getD_eq_getElem?_getD, List.getElem?_eq_getElem hj] at this
    exact this
  · rw [up2_ne h1, hI2]
    funext j
    show (if a = v1 then _ else _) = _
    rw [if_neg h2]
  · have hne : a ≠ v1 := by
      intro q
      omega
    rw [up2_ne (by omega), hI2]
    funext j
    show (if a = v1 then _ else _) = _
    rw [if_neg hne]
theorem c_appSB (hX : JXok X) (hd : 6 ≤ d) (hi : i < jnS) (h : LnB P w cap N v T I L Dd) (hq2 : w.length + jshl.getD i 0 ≤ 2 * cap + 2) (h700 : w.length + jshl.getD i 0 ≤ cap ∨ 2 * cap + 2 ≤ 700) (hNB : N + 1 < BIG) : MT X d (gc cap (w.length + jshl.getD i 0)) (gs cap (w.length + jshl.getD i 0)) jdJ4_append_15ec4 [.ref 394, .ref (jsh0 + i)] (N, SB v T, I, L, Dd) (fun R => ∃ N' v' T' I', R = .inl (some (.ref 394), (N', SB v' T', I', L, Dd)) ∧ LnB P (w ++ jshb.getD i []) (gr cap (w.length + jshl.getD i 0)) N' v' T' I' L Dd ∧ Fr I I' ∧ N' = N + gc cap (w.length + jshl.getD i 0)) := by
  refine MT.mk dvJ4_append_15ec4.1 ?_
  refine Ev.sg hX sJ4_append_15ec4_0 (pc' := 2) (ls' := [some (.ref 394), some (.ref (jsh0 + i))]) (st' := [.ref (jsh0 + i), .ref 394]) (h' := (N, SB v T, I, L, Dd)) rfl ?_
  refine Ev.callSU (As := [.ref (jsh0 + i)]) (rest := []) dbJ5_append_cf1ce dnJ5_append_cf1ce dmJ5_append_cf1ce dJ45 (by decide) mkJ4_29 rfl rfl dJ4_append_15ec4_2 (c_appS5B (d := d - 1) hX (by omega) hi h hq2 h700 hNB) ⟨by omega, by show 3 + 19 + 40 * _ ≤ 40 * _; omega⟩ ⟨Nat.le_refl _, Nat.le_refl _⟩ rfl (Nat.le_of_ble_eq_true rfl) (fun v9 h9 e9 => ?_) (fun E9 h9 e9 => nomatch e9)
  obtain ⟨N1, v1, T1, I1, e9, gr9⟩ := e9
  cases e9
  show Ev _ _ _ _ _ _ 5 [some (.ref 394), some (.ref (jsh0 + i))] [.ref 394] (N1, SB v1 T1, I1, L, Dd)
  refine Ev.sg hX sJ4_append_15ec4_5 (pc' := 7) (ls' := [some (.ref 394), some (.ref (jsh0 + i))]) (st' := [.ref 394]) (h' := (N1, SB v1 T1, I1, L, Dd)) rfl ?_
  refine Ev.aret dJ4_append_15ec4_7 rfl (Or.inl ⟨_, rfl⟩) ?_
  exact ⟨N1, v1, T1, I1, rfl, gr9⟩
end TXB
