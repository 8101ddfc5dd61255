theorem sX4_init_0 : JSeg (jm jdX4_init) [(0, .aload_n 0, 0, 0)] := ⟨by decide +kernel, trivial, trivial⟩
theorem sX4_init_4 : JSeg (jm jdX4_init) [(4, .aload_n 0, 0, 0), (5, .iload_n 1, 0, 0)] := ⟨by decide +kernel, trivial, trivial, trivial⟩
theorem sX4_init_9 : JSeg (jm jdX4_init) [(9, .iconst 0, 0, 0), (10, .goto 4, 0, 0)] := ⟨by decide +kernel, trivial, trivial, trivial⟩
theorem sX4_init_13 : JSeg (jm jdX4_init) [(13, .iload_n 1, 0, 0)] := ⟨by decide +kernel, trivial, trivial⟩
theorem dX4_init_1 : decode cX4_init 1 = .ok (.invokespecial 1, 3) := by decide +kernel
theorem dX4_init_6 : decode cX4_init 6 = .ok (.ifCond .ge 7, 3) := by decide +kernel
theorem dX4_init_14 : decode cX4_init 14 = .ok (.newarray .int, 2) := by decide +kernel
theorem dX4_init_16 : decode cX4_init 16 = .ok (.putfield 7, 3) := by decide +kernel
theorem dX4_init_19 : decode cX4_init 19 = .ok (.return_, 1) := by decide +kernel
theorem sX4_get_0 : JSeg (jm jdX4_get) [(0, .iload_n 1, 0, 0)] := ⟨by decide +kernel, trivial, trivial⟩
theorem sX4_get_4 : JSeg (jm jdX4_get) [(4, .iload_n 1, 0, 0), (5, .aload_n 0, 0, 0), (6, .getfield 7, 4, 0), (9, .arraylength, 0, 0)] := ⟨by decide +kernel, trivial, trivial, fkX4_7, trivial, trivial⟩
theorem sX4_get_13 : JSeg (jm jdX4_get) [(13, .aload_n 0, 0, 0), (14, .getfield 7, 4, 0), (17, .iload_n 1, 0, 0)] := ⟨by decide +kernel, trivial, fkX4_7, trivial, trivial⟩
theorem sX4_get_19 : JSeg (jm jdX4_get) [(19, .goto 4, 0, 0)] := ⟨by decide +kernel, trivial, trivial⟩
theorem sX4_get_22 : JSeg (jm jdX4_get) [(22, .iconst 0, 0, 0)] := ⟨by decide +kernel, trivial, trivial⟩
theorem dX4_get_1 : decode cX4_get 1 = .ok (.ifCond .lt 21, 3) := by decide +kernel
theorem dX4_get_10 : decode cX4_get 10 = .ok (.if_icmp .ge 12, 3) := by decide +kernel
theorem dX4_get_18 : decode cX4_get 18 = .ok (.iaload, 1) := by decide +kernel
theorem dX4_get_23 : decode cX4_get 23 = .ok (.ireturn, 1) := by decide +kernel
theorem sX4_set_0 : JSeg (jm jdX4_set) [(0, .iload_n 1, 0, 0)] := ⟨by decide +kernel, trivial, trivial⟩
theorem sX4_set_4 : JSeg (jm jdX4_set) [(4, .iload_n 1, 0, 0), (5, .aload_n 0, 0, 0), (6, .getfield 7, 4, 0), (9, .arraylength, 0, 0)] := ⟨by decide +kernel, trivial, trivial, fkX4_7, trivial, trivial⟩
theorem sX4_set_13 : JSeg (jm jdX4_set) [(13, .aload_n 0, 0, 0), (14, .getfield 7, 4, 0), (17, .iload_n 1, 0, 0), (18, .iload_n 2, 0, 0)] := ⟨by decide +kernel, trivial, fkX4_7, trivial, trivial, trivial⟩
theorem dX4_set_1 : decode cX4_set 1 = .ok (.ifCond .lt 19, 3) := by decide +kernel
theorem dX4_set_10 : decode cX4_set 10 = .ok (.if_icmp .ge 10, 3) := by decide +kernel
theorem dX4_set_19 : decode cX4_set 19 = .ok (.iastore, 1) := by decide +kernel
theorem dX4_set_20 : decode cX4_set 20 = .ok (.return_, 1) := by decide +kernel
theorem sX4_increase_0 : JSeg (jm jdX4_increase) [(0, .aload_n 0, 0, 0), (1, .iload_n 1, 0, 0), (2, .aload_n 0, 0, 0), (3, .iload_n 1, 0, 0)] := ⟨by decide +kernel, trivial, trivial, trivial, trivial, trivial⟩
theorem sX4_increase_7 : JSeg (jm jdX4_increase) [(7, .iload_n 2, 0, 0), (8, .iadd, 0, 0)] := ⟨by decide +kernel, trivial, trivial, trivial⟩
theorem dX4_increase_4 : decode cX4_increase 4 = .ok (.invokevirtual 13, 3) := by decide +kernel
theorem dX4_increase_9 : decode cX4_increase 9 = .ok (.invokevirtual 17, 3) := by decide +kernel
theorem dX4_increase_12 : decode cX4_increase 12 = .ok (.return_, 1) := by decide +kernel
theorem sX4_fill_0 : JSeg (jm jdX4_fill) [(0, .iconst 0, 0, 0), (1, .istore_n 2, 0, 0)] := ⟨by decide +kernel, trivial, trivial, trivial⟩
theorem sX4_fill_2 : JSeg (jm jdX4_fill) [(2, .iload_n 2, 0, 0), (3, .aload_n 0, 0, 0), (4, .getfield 7, 4, 0), (7, .arraylength, 0, 0)] := ⟨by decide +kernel, trivial, trivial, fkX4_7, trivial, trivial⟩
theorem sX4_fill_11 : JSeg (jm jdX4_fill) [(11, .aload_n 0, 0, 0), (12, .getfield 7, 4, 0), (15, .iload_n 2, 0, 0), (16, .iload_n 1, 0, 0)] := ⟨by decide +kernel, trivial, fkX4_7, trivial, trivial, trivial⟩
theorem sX4_fill_18 : JSeg (jm jdX4_fill) [(18, .iinc 2 1, 0, 0), (21, .goto (-19), 0, 0)] := ⟨by decide +kernel, trivial, trivial, trivial⟩
theorem dX4_fill_8 : decode cX4_fill 8 = .ok (.if_icmp .ge 16, 3) := by decide +kernel
theorem dX4_fill_17 : decode cX4_fill 17 = .ok (.iastore, 1) := by decide +kernel
theorem dX4_fill_24 : decode cX4_fill 24 = .ok (.return_, 1) := by decide +kernel
theorem sX4_copy_0 : JSeg (jm jdX4_copy) [(0, .aload_n 1, 0, 0)] := ⟨by decide +kernel, trivial, trivial⟩
theorem sX4_copy_4 : JSeg (jm jdX4_copy) [(4, .aload_n 1, 0, 0), (5, .getfield 7, 4, 0), (8, .iconst 0, 0, 0), (9, .aload_n 0, 0, 0), (10, .getfield 7, 4, 0), (13, .iconst 0, 0, 0), (14, .aload_n 0, 0, 0), (15, .getfield 7, 4, 0), (18, .arraylength, 0, 0), (19, .aload_n 1, 0, 0), (20, .getfield 7, 4, 0), (23, .arraylength, 0, 0)] := ⟨by decide +kernel, trivial, fkX4_7, trivial, trivial, fkX4_7, trivial, trivial, fkX4_7, trivial, trivial, fkX4_7, trivial, trivial⟩
theorem dX4_copy_1 : decode cX4_copy 1 = .ok (.ifnull 29, 3) := by decide +kernel
theorem dX4_copy_24 : decode cX4_copy 24 = .ok (.invokestatic 21, 3) := by decide +kernel
theorem dX4_copy_27 : decode cX4_copy 27 = .ok (.invokestatic 27, 3) := by decide +kernel
theorem dX4_copy_30 : decode cX4_copy 30 = .ok (.return_, 1) := by decide +kernel
