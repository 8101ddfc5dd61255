/-! the law's methods: rows 1 -/
abbrev jdL_addTrack : JD := (yL_addTrack, cL_addTrack, 5, some .int, 4)
abbrev hhL_addTrack : JHs := [(0, 10, 13, 13), (0, 10, 17, 15)]
theorem dhL_addTrack : DSH jdL_addTrack hhL_addTrack := ⟨⟨(bw_of 422 (by decide +kernel) (by decide +kernel)), (bw_of 0 (by decide +kernel) (by decide +kernel)), by decide +kernel, by decide +kernel⟩, (bw_of 421 (by decide +kernel) (by decide +kernel))⟩
theorem sL_addTrack_0 : JSeg (jmH jdL_addTrack hhL_addTrack) [(0, .aload_n 3, 0, 0), (1, .iconst 0, 0, 0), (2, .aload_n 0, 0, 0), (3, .iload_n 1, 0, 0), (4, .iload_n 2, 0, 0)] := ⟨by decide +kernel, trivial, trivial, trivial, trivial, trivial, trivial⟩
theorem sL_addTrack_8 : JSeg (jmH jdL_addTrack hhL_addTrack) [(8, .i2l, 0, 0)] := ⟨by decide +kernel, trivial, trivial⟩
theorem sL_addTrack_10 : JSeg (jmH jdL_addTrack hhL_addTrack) [(10, .goto 11, 0, 0)] := ⟨by decide +kernel, trivial, trivial⟩
theorem sL_addTrack_13 : JSeg (jmH jdL_addTrack hhL_addTrack) [(13, .astore 4, 0, 0), (15, .iconst 1, 0, 0)] := ⟨by decide +kernel, trivial, trivial, trivial⟩
theorem sL_addTrack_17 : JSeg (jmH jdL_addTrack hhL_addTrack) [(17, .astore 4, 0, 0), (19, .iconst 2, 0, 0)] := ⟨by decide +kernel, trivial, trivial, trivial⟩
theorem sL_addTrack_21 : JSeg (jmH jdL_addTrack hhL_addTrack) [(21, .iconst 0, 0, 0)] := ⟨by decide +kernel, trivial, trivial⟩
theorem dL_addTrack_5 : decode cL_addTrack 5 = .ok (.invokevirtual 7, 3) := by decide +kernel
theorem dL_addTrack_9 : decode cL_addTrack 9 = .ok (.lastore, 1) := by decide +kernel
theorem dL_addTrack_16 : decode cL_addTrack 16 = .ok (.ireturn, 1) := by decide +kernel
theorem dL_addTrack_20 : decode cL_addTrack 20 = .ok (.ireturn, 1) := by decide +kernel
theorem dL_addTrack_22 : decode cL_addTrack 22 = .ok (.ireturn, 1) := by decide +kernel
abbrev jdL_connect : JD := (yL_connect, cL_connect, 5, some .int, 4)
abbrev hhL_connect : JHs := [(0, 10, 13, 20), (0, 10, 17, 13), (0, 10, 21, 15)]
theorem dhL_connect : DSH jdL_connect hhL_connect := ⟨⟨(bw_of 591 (by decide +kernel) (by decide +kernel)), (bw_of 0 (by decide +kernel) (by decide +kernel)), by decide +kernel, by decide +kernel⟩, (bw_of 590 (by decide +kernel) (by decide +kernel))⟩
theorem sL_connect_0 : JSeg (jmH jdL_connect hhL_connect) [(0, .aload_n 3, 0, 0), (1, .iconst 0, 0, 0), (2, .aload_n 0, 0, 0), (3, .iload_n 1, 0, 0), (4, .iload_n 2, 0, 0)] := ⟨by decide +kernel, trivial, trivial, trivial, trivial, trivial, trivial⟩
theorem sL_connect_8 : JSeg (jmH jdL_connect hhL_connect) [(8, .i2l, 0, 0)] := ⟨by decide +kernel, trivial, trivial⟩
theorem sL_connect_10 : JSeg (jmH jdL_connect hhL_connect) [(10, .goto 15, 0, 0)] := ⟨by decide +kernel, trivial, trivial⟩
theorem sL_connect_13 : JSeg (jmH jdL_connect hhL_connect) [(13, .astore 4, 0, 0), (15, .iconst 1, 0, 0)] := ⟨by decide +kernel, trivial, trivial, trivial⟩
theorem sL_connect_17 : JSeg (jmH jdL_connect hhL_connect) [(17, .astore 4, 0, 0), (19, .iconst 2, 0, 0)] := ⟨by decide +kernel, trivial, trivial, trivial⟩
theorem sL_connect_21 : JSeg (jmH jdL_connect hhL_connect) [(21, .astore 4, 0, 0), (23, .iconst 3, 0, 0)] := ⟨by decide +kernel, trivial, trivial, trivial⟩
theorem sL_connect_25 : JSeg (jmH jdL_connect hhL_connect) [(25, .iconst 0, 0, 0)] := ⟨by decide +kernel, trivial, trivial⟩
theorem dL_connect_5 : decode cL_connect 5 = .ok (.invokevirtual 17, 3) := by decide +kernel
theorem dL_connect_9 : decode cL_connect 9 = .ok (.lastore, 1) := by decide +kernel
theorem dL_connect_16 : decode cL_connect 16 = .ok (.ireturn, 1) := by decide +kernel
theorem dL_connect_20 : decode cL_connect 20 = .ok (.ireturn, 1) := by decide +kernel
theorem dL_connect_24 : decode cL_connect 24 = .ok (.ireturn, 1) := by decide +kernel
theorem dL_connect_26 : decode cL_connect 26 = .ok (.ireturn, 1) := by decide +kernel
abbrev jdL_disconnect : JD := (yL_disconnect, cL_disconnect, 5, some .int, 4)
abbrev hhL_disconnect : JHs := [(0, 10, 13, 20), (0, 10, 17, 15)]
theorem dhL_disconnect : DSH jdL_disconnect hhL_disconnect := ⟨⟨(bw_of 632 (by decide +kernel) (by decide +kernel)), (bw_of 0 (by decide +kernel) (by decide +kernel)), by decide +kernel, by decide +kernel⟩, (bw_of 631 (by decide +kernel) (by decide +kernel))⟩
theorem sL_disconnect_0 : JSeg (jmH jdL_disconnect hhL_disconnect) [(0, .aload_n 3, 0, 0), (1, .iconst 0, 0, 0), (2, .aload_n 0, 0, 0), (3, .iload_n 1, 0, 0), (4, .iload_n 2, 0, 0)] := ⟨by decide +kernel, trivial, trivial, trivial, trivial, trivial, trivial⟩
theorem sL_disconnect_8 : JSeg (jmH jdL_disconnect hhL_disconnect) [(8, .i2l, 0, 0)] := ⟨by decide +kernel, trivial, trivial⟩
theorem sL_disconnect_10 : JSeg (jmH jdL_disconnect hhL_disconnect) [(10, .goto 11, 0, 0)] := ⟨by decide +kernel, trivial, trivial⟩
theorem sL_disconnect_13 : JSeg (jmH jdL_disconnect hhL_disconnect) [(13, .astore 4, 0, 0), (15, .iconst 1, 0, 0)] := ⟨by decide +kernel, trivial, trivial, trivial⟩
theorem sL_disconnect_17 : JSeg (jmH jdL_disconnect hhL_disconnect) [(17, .astore 4, 0, 0), (19, .iconst 2, 0, 0)] := ⟨by decide +kernel, trivial, trivial, trivial⟩
theorem sL_disconnect_21 : JSeg (jmH jdL_disconnect hhL_disconnect) [(21, .iconst 0, 0, 0)] := ⟨by decide +kernel, trivial, trivial⟩
theorem dL_disconnect_5 : decode cL_disconnect 5 = .ok (.invokevirtual 22, 3) := by decide +kernel
theorem dL_disconnect_9 : decode cL_disconnect 9 = .ok (.lastore, 1) := by decide +kernel
theorem dL_disconnect_16 : decode cL_disconnect 16 = .ok (.ireturn, 1) := by decide +kernel
theorem dL_disconnect_20 : decode cL_disconnect 20 = .ok (.ireturn, 1) := by decide +kernel
theorem dL_disconnect_22 : decode cL_disconnect 22 = .ok (.ireturn, 1) := by decide +kernel
abbrev jdL_addCar : JD := (yL_addCar, cL_addCar, 8, some .int, 7)
abbrev hhL_addCar : JHs := [(0, 16, 19, 20), (0, 16, 23, 13), (0, 16, 27, 15), (0, 16, 31, 29)]
theorem dhL_addCar : DSH jdL_addCar hhL_addCar := ⟨⟨(bw_of 647 (by decide +kernel) (by decide +kernel)), (bw_of 0 (by decide +kernel) (by decide +kernel)), by decide +kernel, by decide +kernel⟩, (bw_of 646 (by decide +kernel) (by decide +kernel))⟩
theorem sL_addCar_0 : JSeg (jmH jdL_addCar hhL_addCar) [(0, .aload 6, 0, 0), (2, .iconst 0, 0, 0), (3, .aload_n 0, 0, 0), (4, .iload_n 1, 0, 0), (5, .iload_n 2, 0, 0), (6, .iload_n 3, 0, 0), (7, .iload 4, 0, 0), (9, .iload 5, 0, 0)] := ⟨by decide +kernel, trivial, trivial, trivial, trivial, trivial, trivial, trivial, trivial, trivial⟩
theorem sL_addCar_14 : JSeg (jmH jdL_addCar hhL_addCar) [(14, .i2l, 0, 0)] := ⟨by decide +kernel, trivial, trivial⟩
theorem sL_addCar_16 : JSeg (jmH jdL_addCar hhL_addCar) [(16, .goto 19, 0, 0)] := ⟨by decide +kernel, trivial, trivial⟩
theorem sL_addCar_19 : JSeg (jmH jdL_addCar hhL_addCar) [(19, .astore 7, 0, 0), (21, .iconst 1, 0, 0)] := ⟨by decide +kernel, trivial, trivial, trivial⟩
theorem sL_addCar_23 : JSeg (jmH jdL_addCar hhL_addCar) [(23, .astore 7, 0, 0), (25, .iconst 2, 0, 0)] := ⟨by decide +kernel, trivial, trivial, trivial⟩
theorem sL_addCar_27 : JSeg (jmH jdL_addCar hhL_addCar) [(27, .astore 7, 0, 0), (29, .iconst 3, 0, 0)] := ⟨by decide +kernel, trivial, trivial, trivial⟩
theorem sL_addCar_31 : JSeg (jmH jdL_addCar hhL_addCar) [(31, .astore 7, 0, 0), (33, .iconst 4, 0, 0)] := ⟨by decide +kernel, trivial, trivial, trivial⟩
theorem sL_addCar_35 : JSeg (jmH jdL_addCar hhL_addCar) [(35, .iconst 0, 0, 0)] := ⟨by decide +kernel, trivial, trivial⟩
theorem dL_addCar_11 : decode cL_addCar 11 = .ok (.invokevirtual 25, 3) := by decide +kernel
theorem dL_addCar_15 : decode cL_addCar 15 = .ok (.lastore, 1) := by decide +kernel
theorem dL_addCar_22 : decode cL_addCar 22 = .ok (.ireturn, 1) := by decide +kernel
theorem dL_addCar_26 : decode cL_addCar 26 = .ok (.ireturn, 1) := by decide +kernel
theorem dL_addCar_30 : decode cL_addCar 30 = .ok (.ireturn, 1) := by decide +kernel
theorem dL_addCar_34 : decode cL_addCar 34 = .ok (.ireturn, 1) := by decide +kernel
theorem dL_addCar_36 : decode cL_addCar 36 = .ok (.ireturn, 1) := by decide +kernel
abbrev jdL_shunt : JD := (yL_shunt, cL_shunt, 6, some .int, 5)
abbrev hhL_shunt : JHs := [(0, 12, 15, 20), (0, 12, 19, 13), (0, 12, 23, 15), (0, 12, 27, 35), (0, 12, 31, 29)]
theorem dhL_shunt : DSH jdL_shunt hhL_shunt := ⟨⟨(bw_of 685 (by decide +kernel) (by decide +kernel)), (bw_of 0 (by decide +kernel) (by decide +kernel)), by decide +kernel, by decide +kernel⟩, (bw_of 684 (by decide +kernel) (by decide +kernel))⟩
theorem sL_shunt_0 : JSeg (jmH jdL_shunt hhL_shunt) [(0, .aload 4, 0, 0), (2, .iconst 0, 0, 0), (3, .aload_n 0, 0, 0), (4, .iload_n 1, 0, 0), (5, .iload_n 2, 0, 0), (6, .iload_n 3, 0, 0)] := ⟨by decide +kernel, trivial, trivial, trivial, trivial, trivial, trivial, trivial⟩
theorem sL_shunt_10 : JSeg (jmH jdL_shunt hhL_shunt) [(10, .i2l, 0, 0)] := ⟨by decide +kernel, trivial, trivial⟩
theorem sL_shunt_12 : JSeg (jmH jdL_shunt hhL_shunt) [(12, .goto 23, 0, 0)] := ⟨by decide +kernel, trivial, trivial⟩
theorem sL_shunt_15 : JSeg (jmH jdL_shunt hhL_shunt) [(15, .astore 5, 0, 0), (17, .iconst 1, 0, 0)] := ⟨by decide +kernel, trivial, trivial, trivial⟩
theorem sL_shunt_19 : JSeg (jmH jdL_shunt hhL_shunt) [(19, .astore 5, 0, 0), (21, .iconst 2, 0, 0)] := ⟨by decide +kernel, trivial, trivial, trivial⟩
theorem sL_shunt_23 : JSeg (jmH jdL_shunt hhL_shunt) [(23, .astore 5, 0, 0), (25, .iconst 3, 0, 0)] := ⟨by decide +kernel, trivial, trivial, trivial⟩
theorem sL_shunt_27 : JSeg (jmH jdL_shunt hhL_shunt) [(27, .astore 5, 0, 0), (29, .iconst 4, 0, 0)] := ⟨by decide +kernel, trivial, trivial, trivial⟩
theorem sL_shunt_31 : JSeg (jmH jdL_shunt hhL_shunt) [(31, .astore 5, 0, 0), (33, .iconst 5, 0, 0)] := ⟨by decide +kernel, trivial, trivial, trivial⟩
theorem sL_shunt_35 : JSeg (jmH jdL_shunt hhL_shunt) [(35, .iconst 0, 0, 0)] := ⟨by decide +kernel, trivial, trivial⟩
theorem dL_shunt_7 : decode cL_shunt 7 = .ok (.invokevirtual 31, 3) := by decide +kernel
theorem dL_shunt_11 : decode cL_shunt 11 = .ok (.lastore, 1) := by decide +kernel
theorem dL_shunt_18 : decode cL_shunt 18 = .ok (.ireturn, 1) := by decide +kernel
theorem dL_shunt_22 : decode cL_shunt 22 = .ok (.ireturn, 1) := by decide +kernel
theorem dL_shunt_26 : decode cL_shunt 26 = .ok (.ireturn, 1) := by decide +kernel
theorem dL_shunt_30 : decode cL_shunt 30 = .ok (.ireturn, 1) := by decide +kernel
theorem dL_shunt_34 : decode cL_shunt 34 = .ok (.ireturn, 1) := by decide +kernel
theorem dL_shunt_36 : decode cL_shunt 36 = .ok (.ireturn, 1) := by decide +kernel
abbrev jdL_repair : JD := (yL_repair, cL_repair, 4, some .int, 3)
abbrev hhL_repair : JHs := [(0, 9, 12, 35), (0, 9, 15, 15)]
theorem dhL_repair : DSH jdL_repair hhL_repair := ⟨⟨(bw_of 733 (by decide +kernel) (by decide +kernel)), (bw_of 0 (by decide +kernel) (by decide +kernel)), by decide +kernel, by decide +kernel⟩, (bw_of 732 (by decide +kernel) (by decide +kernel))⟩
theorem sL_repair_0 : JSeg (jmH jdL_repair hhL_repair) [(0, .aload_n 2, 0, 0), (1, .iconst 0, 0, 0), (2, .aload_n 0, 0, 0), (3, .iload_n 1, 0, 0)] := ⟨by decide +kernel, trivial, trivial, trivial, trivial, trivial⟩
theorem sL_repair_7 : JSeg (jmH jdL_repair hhL_repair) [(7, .i2l, 0, 0)] := ⟨by decide +kernel, trivial, trivial⟩
theorem sL_repair_9 : JSeg (jmH jdL_repair hhL_repair) [(9, .goto 9, 0, 0)] := ⟨by decide +kernel, trivial, trivial⟩
theorem sL_repair_12 : JSeg (jmH jdL_repair hhL_repair) [(12, .astore_n 3, 0, 0), (13, .iconst 1, 0, 0)] := ⟨by decide +kernel, trivial, trivial, trivial⟩
theorem sL_repair_15 : JSeg (jmH jdL_repair hhL_repair) [(15, .astore_n 3, 0, 0), (16, .iconst 2, 0, 0)] := ⟨by decide +kernel, trivial, trivial, trivial⟩
theorem sL_repair_18 : JSeg (jmH jdL_repair hhL_repair) [(18, .iconst 0, 0, 0)] := ⟨by decide +kernel, trivial, trivial⟩
theorem dL_repair_4 : decode cL_repair 4 = .ok (.invokevirtual 37, 3) := by decide +kernel
theorem dL_repair_8 : decode cL_repair 8 = .ok (.lastore, 1) := by decide +kernel
theorem dL_repair_14 : decode cL_repair 14 = .ok (.ireturn, 1) := by decide +kernel
theorem dL_repair_17 : decode cL_repair 17 = .ok (.ireturn, 1) := by decide +kernel
theorem dL_repair_19 : decode cL_repair 19 = .ok (.ireturn, 1) := by decide +kernel
abbrev jdL_depart : JD := (yL_depart, cL_depart, 5, some .int, 4)
abbrev hhL_depart : JHs := [(0, 10, 13, 20), (0, 10, 17, 13), (0, 10, 21, 15), (0, 10, 25, 29)]
theorem dhL_depart : DSH jdL_depart hhL_depart := ⟨⟨(bw_of 750 (by decide +kernel) (by decide +kernel)), (bw_of 0 (by decide +kernel) (by decide +kernel)), by decide +kernel, by decide +kernel⟩, (bw_of 749 (by decide +kernel) (by decide +kernel))⟩
theorem sL_depart_0 : JSeg (jmH jdL_depart hhL_depart) [(0, .aload_n 3, 0, 0), (1, .iconst 0, 0, 0), (2, .aload_n 0, 0, 0), (3, .iload_n 1, 0, 0), (4, .iload_n 2, 0, 0)] := ⟨by decide +kernel, trivial, trivial, trivial, trivial, trivial, trivial⟩
theorem sL_depart_8 : JSeg (jmH jdL_depart hhL_depart) [(8, .i2l, 0, 0)] := ⟨by decide +kernel, trivial, trivial⟩
theorem sL_depart_10 : JSeg (jmH jdL_depart hhL_depart) [(10, .goto 19, 0, 0)] := ⟨by decide +kernel, trivial, trivial⟩
theorem sL_depart_13 : JSeg (jmH jdL_depart hhL_depart) [(13, .astore 4, 0, 0), (15, .iconst 1, 0, 0)] := ⟨by decide +kernel, trivial, trivial, trivial⟩
theorem sL_depart_17 : JSeg (jmH jdL_depart hhL_depart) [(17, .astore 4, 0, 0), (19, .iconst 2, 0, 0)] := ⟨by decide +kernel, trivial, trivial, trivial⟩
theorem sL_depart_21 : JSeg (jmH jdL_depart hhL_depart) [(21, .astore 4, 0, 0), (23, .iconst 3, 0, 0)] := ⟨by decide +kernel, trivial, trivial, trivial⟩
theorem sL_depart_25 : JSeg (jmH jdL_depart hhL_depart) [(25, .astore 4, 0, 0), (27, .iconst 4, 0, 0)] := ⟨by decide +kernel, trivial, trivial, trivial⟩
theorem sL_depart_29 : JSeg (jmH jdL_depart hhL_depart) [(29, .iconst 0, 0, 0)] := ⟨by decide +kernel, trivial, trivial⟩
theorem dL_depart_5 : decode cL_depart 5 = .ok (.invokevirtual 41, 3) := by decide +kernel
theorem dL_depart_9 : decode cL_depart 9 = .ok (.lastore, 1) := by decide +kernel
theorem dL_depart_16 : decode cL_depart 16 = .ok (.ireturn, 1) := by decide +kernel
theorem dL_depart_20 : decode cL_depart 20 = .ok (.ireturn, 1) := by decide +kernel
theorem dL_depart_24 : decode cL_depart 24 = .ok (.ireturn, 1) := by decide +kernel
theorem dL_depart_28 : decode cL_depart 28 = .ok (.ireturn, 1) := by decide +kernel
theorem dL_depart_30 : decode cL_depart 30 = .ok (.ireturn, 1) := by decide +kernel
abbrev jdL_freeLength : JD := (yL_freeLength, cL_freeLength, 4, some .int, 3)
abbrev hhL_freeLength : JHs := [(0, 9, 12, 20)]
theorem dhL_freeLength : DSH jdL_freeLength hhL_freeLength := ⟨⟨(bw_of 774 (by decide +kernel) (by decide +kernel)), (bw_of 0 (by decide +kernel) (by decide +kernel)), by decide +kernel, by decide +kernel⟩, (bw_of 773 (by decide +kernel) (by decide +kernel))⟩
theorem sL_freeLength_0 : JSeg (jmH jdL_freeLength hhL_freeLength) [(0, .aload_n 2, 0, 0), (1, .iconst 0, 0, 0), (2, .aload_n 0, 0, 0), (3, .iload_n 1, 0, 0)] := ⟨by decide +kernel, trivial, trivial, trivial, trivial, trivial⟩
theorem sL_freeLength_7 : JSeg (jmH jdL_freeLength hhL_freeLength) [(7, .i2l, 0, 0)] := ⟨by decide +kernel, trivial, trivial⟩
theorem sL_freeLength_9 : JSeg (jmH jdL_freeLength hhL_freeLength) [(9, .goto 6, 0, 0)] := ⟨by decide +kernel, trivial, trivial⟩
theorem sL_freeLength_12 : JSeg (jmH jdL_freeLength hhL_freeLength) [(12, .astore_n 3, 0, 0), (13, .iconst 1, 0, 0)] := ⟨by decide +kernel, trivial, trivial, trivial⟩
theorem sL_freeLength_15 : JSeg (jmH jdL_freeLength hhL_freeLength) [(15, .iconst 0, 0, 0)] := ⟨by decide +kernel, trivial, trivial⟩
theorem dL_freeLength_4 : decode cL_freeLength 4 = .ok (.invokevirtual 44, 3) := by decide +kernel
theorem dL_freeLength_8 : decode cL_freeLength 8 = .ok (.lastore, 1) := by decide +kernel
theorem dL_freeLength_14 : decode cL_freeLength 14 = .ok (.ireturn, 1) := by decide +kernel
theorem dL_freeLength_16 : decode cL_freeLength 16 = .ok (.ireturn, 1) := by decide +kernel
abbrev jdL_carsOn : JD := (yL_carsOn, cL_carsOn, 4, some .int, 3)
abbrev hhL_carsOn : JHs := [(0, 9, 12, 20)]
theorem dhL_carsOn : DSH jdL_carsOn hhL_carsOn := ⟨⟨(bw_of 787 (by decide +kernel) (by decide +kernel)), (bw_of 0 (by decide +kernel) (by decide +kernel)), by decide +kernel, by decide +kernel⟩, (bw_of 786 (by decide +kernel) (by decide +kernel))⟩
theorem sL_carsOn_0 : JSeg (jmH jdL_carsOn hhL_carsOn) [(0, .aload_n 2, 0, 0), (1, .iconst 0, 0, 0), (2, .aload_n 0, 0, 0), (3, .iload_n 1, 0, 0)] := ⟨by decide +kernel, trivial, trivial, trivial, trivial, trivial⟩
theorem sL_carsOn_7 : JSeg (jmH jdL_carsOn hhL_carsOn) [(7, .i2l, 0, 0)] := ⟨by decide +kernel, trivial, trivial⟩
theorem sL_carsOn_9 : JSeg (jmH jdL_carsOn hhL_carsOn) [(9, .goto 6, 0, 0)] := ⟨by decide +kernel, trivial, trivial⟩
theorem sL_carsOn_12 : JSeg (jmH jdL_carsOn hhL_carsOn) [(12, .astore_n 3, 0, 0), (13, .iconst 1, 0, 0)] := ⟨by decide +kernel, trivial, trivial, trivial⟩
theorem sL_carsOn_15 : JSeg (jmH jdL_carsOn hhL_carsOn) [(15, .iconst 0, 0, 0)] := ⟨by decide +kernel, trivial, trivial⟩
theorem dL_carsOn_4 : decode cL_carsOn 4 = .ok (.invokevirtual 47, 3) := by decide +kernel
theorem dL_carsOn_8 : decode cL_carsOn 8 = .ok (.lastore, 1) := by decide +kernel
theorem dL_carsOn_14 : decode cL_carsOn 14 = .ok (.ireturn, 1) := by decide +kernel
theorem dL_carsOn_16 : decode cL_carsOn 16 = .ok (.ireturn, 1) := by decide +kernel
abbrev jdL_weightOn : JD := (yL_weightOn, cL_weightOn, 4, some .int, 3)
abbrev hhL_weightOn : JHs := [(0, 9, 12, 20)]
theorem dhL_weightOn : DSH jdL_weightOn hhL_weightOn := ⟨⟨(bw_of 795 (by decide +kernel) (by decide +kernel)), (bw_of 0 (by decide +kernel) (by decide +kernel)), by decide +kernel, by decide +kernel⟩, (bw_of 794 (by decide +kernel) (by decide +kernel))⟩
theorem sL_weightOn_0 : JSeg (jmH jdL_weightOn hhL_weightOn) [(0, .aload_n 2, 0, 0), (1, .iconst 0, 0, 0), (2, .aload_n 0, 0, 0), (3, .iload_n 1, 0, 0)] := ⟨by decide +kernel, trivial, trivial, trivial, trivial, trivial⟩
theorem sL_weightOn_7 : JSeg (jmH jdL_weightOn hhL_weightOn) [(7, .i2l, 0, 0)] := ⟨by decide +kernel, trivial, trivial⟩
theorem sL_weightOn_9 : JSeg (jmH jdL_weightOn hhL_weightOn) [(9, .goto 6, 0, 0)] := ⟨by decide +kernel, trivial, trivial⟩
theorem sL_weightOn_12 : JSeg (jmH jdL_weightOn hhL_weightOn) [(12, .astore_n 3, 0, 0), (13, .iconst 1, 0, 0)] := ⟨by decide +kernel, trivial, trivial, trivial⟩
theorem sL_weightOn_15 : JSeg (jmH jdL_weightOn hhL_weightOn) [(15, .iconst 0, 0, 0)] := ⟨by decide +kernel, trivial, trivial⟩
theorem dL_weightOn_4 : decode cL_weightOn 4 = .ok (.invokevirtual 50, 3) := by decide +kernel
theorem dL_weightOn_8 : decode cL_weightOn 8 = .ok (.lastore, 1) := by decide +kernel
theorem dL_weightOn_14 : decode cL_weightOn 14 = .ok (.ireturn, 1) := by decide +kernel
theorem dL_weightOn_16 : decode cL_weightOn 16 = .ok (.ireturn, 1) := by decide +kernel
abbrev jdL_carAt : JD := (yL_carAt, cL_carAt, 5, some .int, 4)
abbrev hhL_carAt : JHs := [(0, 10, 13, 20), (0, 10, 17, 35)]
theorem dhL_carAt : DSH jdL_carAt hhL_carAt := ⟨⟨(bw_of 806 (by decide +kernel) (by decide +kernel)), (bw_of 0 (by decide +kernel) (by decide +kernel)), by decide +kernel, by decide +kernel⟩, (bw_of 805 (by decide +kernel) (by decide +kernel))⟩
theorem sL_carAt_0 : JSeg (jmH jdL_carAt hhL_carAt) [(0, .aload_n 3, 0, 0), (1, .iconst 0, 0, 0), (2, .aload_n 0, 0, 0), (3, .iload_n 1, 0, 0), (4, .iload_n 2, 0, 0)] := ⟨by decide +kernel, trivial, trivial, trivial, trivial, trivial, trivial⟩
theorem sL_carAt_8 : JSeg (jmH jdL_carAt hhL_carAt) [(8, .i2l, 0, 0)] := ⟨by decide +kernel, trivial, trivial⟩
theorem sL_carAt_10 : JSeg (jmH jdL_carAt hhL_carAt) [(10, .goto 11, 0, 0)] := ⟨by decide +kernel, trivial, trivial⟩
theorem sL_carAt_13 : JSeg (jmH jdL_carAt hhL_carAt) [(13, .astore 4, 0, 0), (15, .iconst 1, 0, 0)] := ⟨by decide +kernel, trivial, trivial, trivial⟩
theorem sL_carAt_17 : JSeg (jmH jdL_carAt hhL_carAt) [(17, .astore 4, 0, 0), (19, .iconst 2, 0, 0)] := ⟨by decide +kernel, trivial, trivial, trivial⟩
theorem sL_carAt_21 : JSeg (jmH jdL_carAt hhL_carAt) [(21, .iconst 0, 0, 0)] := ⟨by decide +kernel, trivial, trivial⟩
theorem dL_carAt_5 : decode cL_carAt 5 = .ok (.invokevirtual 53, 3) := by decide +kernel
theorem dL_carAt_9 : decode cL_carAt 9 = .ok (.lastore, 1) := by decide +kernel
theorem dL_carAt_16 : decode cL_carAt 16 = .ok (.ireturn, 1) := by decide +kernel
theorem dL_carAt_20 : decode cL_carAt 20 = .ok (.ireturn, 1) := by decide +kernel
theorem dL_carAt_22 : decode cL_carAt 22 = .ok (.ireturn, 1) := by decide +kernel
abbrev jdL_isSorted : JD := (yL_isSorted, cL_isSorted, 4, some .int, 3)
abbrev hhL_isSorted : JHs := [(0, 16, 19, 20)]
theorem dhL_isSorted : DSH jdL_isSorted hhL_isSorted := ⟨⟨(bw_of 815 (by decide +kernel) (by decide +kernel)), (bw_of 0 (by decide +kernel) (by decide +kernel)), by decide +kernel, by decide +kernel⟩, (bw_of 814 (by decide +kernel) (by decide +kernel))⟩
theorem sL_isSorted_0 : JSeg (jmH jdL_isSorted hhL_isSorted) [(0, .aload_n 2, 0, 0), (1, .iconst 0, 0, 0), (2, .aload_n 0, 0, 0), (3, .iload_n 1, 0, 0)] := ⟨by decide +kernel, trivial, trivial, trivial, trivial, trivial⟩
theorem sL_isSorted_10 : JSeg (jmH jdL_isSorted hhL_isSorted) [(10, .lconst 1, 0, 0), (11, .goto 4, 0, 0)] := ⟨by decide +kernel, trivial, trivial, trivial⟩
theorem sL_isSorted_14 : JSeg (jmH jdL_isSorted hhL_isSorted) [(14, .lconst 0, 0, 0)] := ⟨by decide +kernel, trivial, trivial⟩
theorem sL_isSorted_16 : JSeg (jmH jdL_isSorted hhL_isSorted) [(16, .goto 6, 0, 0)] := ⟨by decide +kernel, trivial, trivial⟩
theorem sL_isSorted_19 : JSeg (jmH jdL_isSorted hhL_isSorted) [(19, .astore_n 3, 0, 0), (20, .iconst 1, 0, 0)] := ⟨by decide +kernel, trivial, trivial, trivial⟩
theorem sL_isSorted_22 : JSeg (jmH jdL_isSorted hhL_isSorted) [(22, .iconst 0, 0, 0)] := ⟨by decide +kernel, trivial, trivial⟩
theorem dL_isSorted_4 : decode cL_isSorted 4 = .ok (.invokevirtual 56, 3) := by decide +kernel
theorem dL_isSorted_7 : decode cL_isSorted 7 = .ok (.ifCond .eq 7, 3) := by decide +kernel
theorem dL_isSorted_15 : decode cL_isSorted 15 = .ok (.lastore, 1) := by decide +kernel
theorem dL_isSorted_21 : decode cL_isSorted 21 = .ok (.ireturn, 1) := by decide +kernel
theorem dL_isSorted_23 : decode cL_isSorted 23 = .ok (.ireturn, 1) := by decide +kernel
abbrev jdL_disorder : JD := (yL_disorder, cL_disorder, 4, some .int, 3)
abbrev hhL_disorder : JHs := [(0, 9, 12, 20)]
theorem dhL_disorder : DSH jdL_disorder hhL_disorder := ⟨⟨(bw_of 823 (by decide +kernel) (by decide +kernel)), (bw_of 0 (by decide +kernel) (by decide +kernel)), by decide +kernel, by decide +kernel⟩, (bw_of 822 (by decide +kernel) (by decide +kernel))⟩
theorem sL_disorder_0 : JSeg (jmH jdL_disorder hhL_disorder) [(0, .aload_n 2, 0, 0), (1, .iconst 0, 0, 0), (2, .aload_n 0, 0, 0), (3, .iload_n 1, 0, 0)] := ⟨by decide +kernel, trivial, trivial, trivial, trivial, trivial⟩
theorem sL_disorder_7 : JSeg (jmH jdL_disorder hhL_disorder) [(7, .i2l, 0, 0)] := ⟨by decide +kernel, trivial, trivial⟩
theorem sL_disorder_9 : JSeg (jmH jdL_disorder hhL_disorder) [(9, .goto 6, 0, 0)] := ⟨by decide +kernel, trivial, trivial⟩
theorem sL_disorder_12 : JSeg (jmH jdL_disorder hhL_disorder) [(12, .astore_n 3, 0, 0), (13, .iconst 1, 0, 0)] := ⟨by decide +kernel, trivial, trivial, trivial⟩
theorem sL_disorder_15 : JSeg (jmH jdL_disorder hhL_disorder) [(15, .iconst 0, 0, 0)] := ⟨by decide +kernel, trivial, trivial⟩
theorem dL_disorder_4 : decode cL_disorder 4 = .ok (.invokevirtual 60, 3) := by decide +kernel
theorem dL_disorder_8 : decode cL_disorder 8 = .ok (.lastore, 1) := by decide +kernel
theorem dL_disorder_14 : decode cL_disorder 14 = .ok (.ireturn, 1) := by decide +kernel
theorem dL_disorder_16 : decode cL_disorder 16 = .ok (.ireturn, 1) := by decide +kernel
abbrev jdL_disorderByInsertion : JD := (yL_disorderByInsertion, cL_disorderByInsertion, 4, some .int, 3)
abbrev hhL_disorderByInsertion : JHs := [(0, 9, 12, 20)]
theorem dhL_disorderByInsertion : DSH jdL_disorderByInsertion hhL_disorderByInsertion := ⟨⟨(bw_of 831 (by decide +kernel) (by decide +kernel)), (bw_of 0 (by decide +kernel) (by decide +kernel)), by decide +kernel, by decide +kernel⟩, (bw_of 830 (by decide +kernel) (by decide +kernel))⟩
theorem sL_disorderByInsertion_0 : JSeg (jmH jdL_disorderByInsertion hhL_disorderByInsertion) [(0, .aload_n 2, 0, 0), (1, .iconst 0, 0, 0), (2, .aload_n 0, 0, 0), (3, .iload_n 1, 0, 0)] := ⟨by decide +kernel, trivial, trivial, trivial, trivial, trivial⟩
theorem sL_disorderByInsertion_7 : JSeg (jmH jdL_disorderByInsertion hhL_disorderByInsertion) [(7, .i2l, 0, 0)] := ⟨by decide +kernel, trivial, trivial⟩
theorem sL_disorderByInsertion_9 : JSeg (jmH jdL_disorderByInsertion hhL_disorderByInsertion) [(9, .goto 6, 0, 0)] := ⟨by decide +kernel, trivial, trivial⟩
theorem sL_disorderByInsertion_12 : JSeg (jmH jdL_disorderByInsertion hhL_disorderByInsertion) [(12, .astore_n 3, 0, 0), (13, .iconst 1, 0, 0)] := ⟨by decide +kernel, trivial, trivial, trivial⟩
theorem sL_disorderByInsertion_15 : JSeg (jmH jdL_disorderByInsertion hhL_disorderByInsertion) [(15, .iconst 0, 0, 0)] := ⟨by decide +kernel, trivial, trivial⟩
theorem dL_disorderByInsertion_4 : decode cL_disorderByInsertion 4 = .ok (.invokevirtual 63, 3) := by decide +kernel
theorem dL_disorderByInsertion_8 : decode cL_disorderByInsertion 8 = .ok (.lastore, 1) := by decide +kernel
theorem dL_disorderByInsertion_14 : decode cL_disorderByInsertion 14 = .ok (.ireturn, 1) := by decide +kernel
theorem dL_disorderByInsertion_16 : decode cL_disorderByInsertion 16 = .ok (.ireturn, 1) := by decide +kernel
abbrev jdL_trainLength : JD := (yL_trainLength, cL_trainLength, 4, some .int, 3)
abbrev hhL_trainLength : JHs := [(0, 9, 12, 20)]
theorem dhL_trainLength : DSH jdL_trainLength hhL_trainLength := ⟨⟨(bw_of 839 (by decide +kernel) (by decide +kernel)), (bw_of 0 (by decide +kernel) (by decide +kernel)), by decide +kernel, by decide +kernel⟩, (bw_of 838 (by decide +kernel) (by decide +kernel))⟩
theorem sL_trainLength_0 : JSeg (jmH jdL_trainLength hhL_trainLength) [(0, .aload_n 2, 0, 0), (1, .iconst 0, 0, 0), (2, .aload_n 0, 0, 0), (3, .iload_n 1, 0, 0)] := ⟨by decide +kernel, trivial, trivial, trivial, trivial, trivial⟩
theorem sL_trainLength_7 : JSeg (jmH jdL_trainLength hhL_trainLength) [(7, .i2l, 0, 0)] := ⟨by decide +kernel, trivial, trivial⟩
theorem sL_trainLength_9 : JSeg (jmH jdL_trainLength hhL_trainLength) [(9, .goto 6, 0, 0)] := ⟨by decide +kernel, trivial, trivial⟩
theorem sL_trainLength_12 : JSeg (jmH jdL_trainLength hhL_trainLength) [(12, .astore_n 3, 0, 0), (13, .iconst 1, 0, 0)] := ⟨by decide +kernel, trivial, trivial, trivial⟩
theorem sL_trainLength_15 : JSeg (jmH jdL_trainLength hhL_trainLength) [(15, .iconst 0, 0, 0)] := ⟨by decide +kernel, trivial, trivial⟩
theorem dL_trainLength_4 : decode cL_trainLength 4 = .ok (.invokevirtual 66, 3) := by decide +kernel
theorem dL_trainLength_8 : decode cL_trainLength 8 = .ok (.lastore, 1) := by decide +kernel
theorem dL_trainLength_14 : decode cL_trainLength 14 = .ok (.ireturn, 1) := by decide +kernel
theorem dL_trainLength_16 : decode cL_trainLength 16 = .ok (.ireturn, 1) := by decide +kernel
abbrev jdL_trackAtRank : JD := (yL_trackAtRank, cL_trackAtRank, 4, some .int, 3)
abbrev hhL_trackAtRank : JHs := [(0, 9, 12, 35)]
theorem dhL_trackAtRank : DSH jdL_trackAtRank hhL_trackAtRank := ⟨⟨(bw_of 847 (by decide +kernel) (by decide +kernel)), (bw_of 0 (by decide +kernel) (by decide +kernel)), by decide +kernel, by decide +kernel⟩, (bw_of 846 (by decide +kernel) (by decide +kernel))⟩
theorem sL_trackAtRank_0 : JSeg (jmH jdL_trackAtRank hhL_trackAtRank) [(0, .aload_n 2, 0, 0), (1, .iconst 0, 0, 0), (2, .aload_n 0, 0, 0), (3, .iload_n 1, 0, 0)] := ⟨by decide +kernel, trivial, trivial, trivial, trivial, trivial⟩
theorem sL_trackAtRank_7 : JSeg (jmH jdL_trackAtRank hhL_trackAtRank) [(7, .i2l, 0, 0)] := ⟨by decide +kernel, trivial, trivial⟩
theorem sL_trackAtRank_9 : JSeg (jmH jdL_trackAtRank hhL_trackAtRank) [(9, .goto 6, 0, 0)] := ⟨by decide +kernel, trivial, trivial⟩
theorem sL_trackAtRank_12 : JSeg (jmH jdL_trackAtRank hhL_trackAtRank) [(12, .astore_n 3, 0, 0), (13, .iconst 1, 0, 0)] := ⟨by decide +kernel, trivial, trivial, trivial⟩
theorem sL_trackAtRank_15 : JSeg (jmH jdL_trackAtRank hhL_trackAtRank) [(15, .iconst 0, 0, 0)] := ⟨by decide +kernel, trivial, trivial⟩
theorem dL_trackAtRank_4 : decode cL_trackAtRank 4 = .ok (.invokevirtual 69, 3) := by decide +kernel
theorem dL_trackAtRank_8 : decode cL_trackAtRank 8 = .ok (.lastore, 1) := by decide +kernel
theorem dL_trackAtRank_14 : decode cL_trackAtRank 14 = .ok (.ireturn, 1) := by decide +kernel
theorem dL_trackAtRank_16 : decode cL_trackAtRank 16 = .ok (.ireturn, 1) := by decide +kernel
abbrev jdL_areConnected : JD := (yL_areConnected, cL_areConnected, 5, some .int, 4)
abbrev hhL_areConnected : JHs := [(0, 17, 20, 20)]
theorem dhL_areConnected : DSH jdL_areConnected hhL_areConnected := ⟨⟨(bw_of 867 (by decide +kernel) (by decide +kernel)), (bw_of 0 (by decide +kernel) (by decide +kernel)), by decide +kernel, by decide +kernel⟩, (bw_of 866 (by decide +kernel) (by decide +kernel))⟩
theorem sL_areConnected_0 : JSeg (jmH jdL_areConnected hhL_areConnected) [(0, .aload_n 3, 0, 0), (1, .iconst 0, 0, 0), (2, .aload_n 0, 0, 0), (3, .iload_n 1, 0, 0), (4, .iload_n 2, 0, 0)] := ⟨by decide +kernel, trivial, trivial, trivial, trivial, trivial, trivial⟩
theorem sL_areConnected_11 : JSeg (jmH jdL_areConnected hhL_areConnected) [(11, .lconst 1, 0, 0), (12, .goto 4, 0, 0)] := ⟨by decide +kernel, trivial, trivial, trivial⟩
theorem sL_areConnected_15 : JSeg (jmH jdL_areConnected hhL_areConnected) [(15, .lconst 0, 0, 0)] := ⟨by decide +kernel, trivial, trivial⟩
theorem sL_areConnected_17 : JSeg (jmH jdL_areConnected hhL_areConnected) [(17, .goto 7, 0, 0)] := ⟨by decide +kernel, trivial, trivial⟩
theorem sL_areConnected_20 : JSeg (jmH jdL_areConnected hhL_areConnected) [(20, .astore 4, 0, 0), (22, .iconst 1, 0, 0)] := ⟨by decide +kernel, trivial, trivial, trivial⟩
theorem sL_areConnected_24 : JSeg (jmH jdL_areConnected hhL_areConnected) [(24, .iconst 0, 0, 0)] := ⟨by decide +kernel, trivial, trivial⟩
theorem dL_areConnected_5 : decode cL_areConnected 5 = .ok (.invokevirtual 72, 3) := by decide +kernel
theorem dL_areConnected_8 : decode cL_areConnected 8 = .ok (.ifCond .eq 7, 3) := by decide +kernel
theorem dL_areConnected_16 : decode cL_areConnected 16 = .ok (.lastore, 1) := by decide +kernel
theorem dL_areConnected_23 : decode cL_areConnected 23 = .ok (.ireturn, 1) := by decide +kernel
theorem dL_areConnected_25 : decode cL_areConnected 25 = .ok (.ireturn, 1) := by decide +kernel
abbrev jdL_routeLength : JD := (yL_routeLength, cL_routeLength, 5, some .int, 4)
abbrev hhL_routeLength : JHs := [(0, 10, 13, 20), (0, 10, 17, 35)]
theorem dhL_routeLength : DSH jdL_routeLength hhL_routeLength := ⟨⟨(bw_of 875 (by decide +kernel) (by decide +kernel)), (bw_of 0 (by decide +kernel) (by decide +kernel)), by decide +kernel, by decide +kernel⟩, (bw_of 874 (by decide +kernel) (by decide +kernel))⟩
theorem sL_routeLength_0 : JSeg (jmH jdL_routeLength hhL_routeLength) [(0, .aload_n 3, 0, 0), (1, .iconst 0, 0, 0), (2, .aload_n 0, 0, 0), (3, .iload_n 1, 0, 0), (4, .iload_n 2, 0, 0)] := ⟨by decide +kernel, trivial, trivial, trivial, trivial, trivial, trivial⟩
theorem sL_routeLength_8 : JSeg (jmH jdL_routeLength hhL_routeLength) [(8, .i2l, 0, 0)] := ⟨by decide +kernel, trivial, trivial⟩
theorem sL_routeLength_10 : JSeg (jmH jdL_routeLength hhL_routeLength) [(10, .goto 11, 0, 0)] := ⟨by decide +kernel, trivial, trivial⟩
theorem sL_routeLength_13 : JSeg (jmH jdL_routeLength hhL_routeLength) [(13, .astore 4, 0, 0), (15, .iconst 1, 0, 0)] := ⟨by decide +kernel, trivial, trivial, trivial⟩
theorem sL_routeLength_17 : JSeg (jmH jdL_routeLength hhL_routeLength) [(17, .astore 4, 0, 0), (19, .iconst 2, 0, 0)] := ⟨by decide +kernel, trivial, trivial, trivial⟩
theorem sL_routeLength_21 : JSeg (jmH jdL_routeLength hhL_routeLength) [(21, .iconst 0, 0, 0)] := ⟨by decide +kernel, trivial, trivial⟩
theorem dL_routeLength_5 : decode cL_routeLength 5 = .ok (.invokevirtual 76, 3) := by decide +kernel
theorem dL_routeLength_9 : decode cL_routeLength 9 = .ok (.lastore, 1) := by decide +kernel
theorem dL_routeLength_16 : decode cL_routeLength 16 = .ok (.ireturn, 1) := by decide +kernel
theorem dL_routeLength_20 : decode cL_routeLength 20 = .ok (.ireturn, 1) := by decide +kernel
theorem dL_routeLength_22 : decode cL_routeLength 22 = .ok (.ireturn, 1) := by decide +kernel
abbrev jdL_routeLengthByMatrix : JD := (yL_routeLengthByMatrix, cL_routeLengthByMatrix, 5, some .int, 4)
abbrev hhL_routeLengthByMatrix : JHs := [(0, 10, 13, 20), (0, 10, 17, 35)]
theorem dhL_routeLengthByMatrix : DSH jdL_routeLengthByMatrix hhL_routeLengthByMatrix := ⟨⟨(bw_of 887 (by decide +kernel) (by decide +kernel)), (bw_of 0 (by decide +kernel) (by decide +kernel)), by decide +kernel, by decide +kernel⟩, (bw_of 886 (by decide +kernel) (by decide +kernel))⟩
theorem sL_routeLengthByMatrix_0 : JSeg (jmH jdL_routeLengthByMatrix hhL_routeLengthByMatrix) [(0, .aload_n 3, 0, 0), (1, .iconst 0, 0, 0), (2, .aload_n 0, 0, 0), (3, .iload_n 1, 0, 0), (4, .iload_n 2, 0, 0)] := ⟨by decide +kernel, trivial, trivial, trivial, trivial, trivial, trivial⟩
theorem sL_routeLengthByMatrix_8 : JSeg (jmH jdL_routeLengthByMatrix hhL_routeLengthByMatrix) [(8, .i2l, 0, 0)] := ⟨by decide +kernel, trivial, trivial⟩
theorem sL_routeLengthByMatrix_10 : JSeg (jmH jdL_routeLengthByMatrix hhL_routeLengthByMatrix) [(10, .goto 11, 0, 0)] := ⟨by decide +kernel, trivial, trivial⟩
theorem sL_routeLengthByMatrix_13 : JSeg (jmH jdL_routeLengthByMatrix hhL_routeLengthByMatrix) [(13, .astore 4, 0, 0), (15, .iconst 1, 0, 0)] := ⟨by decide +kernel, trivial, trivial, trivial⟩
theorem sL_routeLengthByMatrix_17 : JSeg (jmH jdL_routeLengthByMatrix hhL_routeLengthByMatrix) [(17, .astore 4, 0, 0), (19, .iconst 2, 0, 0)] := ⟨by decide +kernel, trivial, trivial, trivial⟩
theorem sL_routeLengthByMatrix_21 : JSeg (jmH jdL_routeLengthByMatrix hhL_routeLengthByMatrix) [(21, .iconst 0, 0, 0)] := ⟨by decide +kernel, trivial, trivial⟩
theorem dL_routeLengthByMatrix_5 : decode cL_routeLengthByMatrix 5 = .ok (.invokevirtual 79, 3) := by decide +kernel
theorem dL_routeLengthByMatrix_9 : decode cL_routeLengthByMatrix 9 = .ok (.lastore, 1) := by decide +kernel
theorem dL_routeLengthByMatrix_16 : decode cL_routeLengthByMatrix 16 = .ok (.ireturn, 1) := by decide +kernel
theorem dL_routeLengthByMatrix_20 : decode cL_routeLengthByMatrix 20 = .ok (.ireturn, 1) := by decide +kernel
theorem dL_routeLengthByMatrix_22 : decode cL_routeLengthByMatrix 22 = .ok (.ireturn, 1) := by decide +kernel
