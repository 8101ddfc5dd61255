/-! the law's methods: rows 2 -/
abbrev jdL_routeTrack : JD := (yL_routeTrack, cL_routeTrack, 6, some .int, 5)
abbrev hhL_routeTrack : JHs := [(0, 12, 15, 20), (0, 12, 19, 35)]
theorem dhL_routeTrack : DSH jdL_routeTrack hhL_routeTrack := ⟨⟨(bw_of 898 (by decide +kernel) (by decide +kernel)), (bw_of 0 (by decide +kernel) (by decide +kernel)), by decide +kernel, by decide +kernel⟩, (bw_of 897 (by decide +kernel) (by decide +kernel))⟩
theorem sL_routeTrack_0 : JSeg (jmH jdL_routeTrack hhL_routeTrack) [(0, .aload 4, 0, 0), (2, .iconst 0, 0, 0), (3, .aload_n 0, 0, 0), (4, .iload_n 1, 0, 0), (5, .iload_n 2, 0, 0), (6, .iload_n 3, 0, 0)] := ⟨by decide +kernel, trivial, trivial, trivial, trivial, trivial, trivial, trivial⟩
theorem sL_routeTrack_10 : JSeg (jmH jdL_routeTrack hhL_routeTrack) [(10, .i2l, 0, 0)] := ⟨by decide +kernel, trivial, trivial⟩
theorem sL_routeTrack_12 : JSeg (jmH jdL_routeTrack hhL_routeTrack) [(12, .goto 11, 0, 0)] := ⟨by decide +kernel, trivial, trivial⟩
theorem sL_routeTrack_15 : JSeg (jmH jdL_routeTrack hhL_routeTrack) [(15, .astore 5, 0, 0), (17, .iconst 1, 0, 0)] := ⟨by decide +kernel, trivial, trivial, trivial⟩
theorem sL_routeTrack_19 : JSeg (jmH jdL_routeTrack hhL_routeTrack) [(19, .astore 5, 0, 0), (21, .iconst 2, 0, 0)] := ⟨by decide +kernel, trivial, trivial, trivial⟩
theorem sL_routeTrack_23 : JSeg (jmH jdL_routeTrack hhL_routeTrack) [(23, .iconst 0, 0, 0)] := ⟨by decide +kernel, trivial, trivial⟩
theorem dL_routeTrack_7 : decode cL_routeTrack 7 = .ok (.invokevirtual 82, 3) := by decide +kernel
theorem dL_routeTrack_11 : decode cL_routeTrack 11 = .ok (.lastore, 1) := by decide +kernel
theorem dL_routeTrack_18 : decode cL_routeTrack 18 = .ok (.ireturn, 1) := by decide +kernel
theorem dL_routeTrack_22 : decode cL_routeTrack 22 = .ok (.ireturn, 1) := by decide +kernel
theorem dL_routeTrack_24 : decode cL_routeTrack 24 = .ok (.ireturn, 1) := by decide +kernel
abbrev jdL_shuntingTime : JD := (yL_shuntingTime, cL_shuntingTime, 6, some .int, 5)
abbrev hhL_shuntingTime : JHs := [(0, 12, 15, 20), (0, 12, 19, 13), (0, 12, 23, 35)]
theorem dhL_shuntingTime : DSH jdL_shuntingTime hhL_shuntingTime := ⟨⟨(bw_of 914 (by decide +kernel) (by decide +kernel)), (bw_of 0 (by decide +kernel) (by decide +kernel)), by decide +kernel, by decide +kernel⟩, (bw_of 913 (by decide +kernel) (by decide +kernel))⟩
theorem sL_shuntingTime_0 : JSeg (jmH jdL_shuntingTime hhL_shuntingTime) [(0, .aload 4, 0, 0), (2, .iconst 0, 0, 0), (3, .aload_n 0, 0, 0), (4, .iload_n 1, 0, 0), (5, .iload_n 2, 0, 0), (6, .iload_n 3, 0, 0)] := ⟨by decide +kernel, trivial, trivial, trivial, trivial, trivial, trivial, trivial⟩
theorem sL_shuntingTime_10 : JSeg (jmH jdL_shuntingTime hhL_shuntingTime) [(10, .i2l, 0, 0)] := ⟨by decide +kernel, trivial, trivial⟩
theorem sL_shuntingTime_12 : JSeg (jmH jdL_shuntingTime hhL_shuntingTime) [(12, .goto 15, 0, 0)] := ⟨by decide +kernel, trivial, trivial⟩
theorem sL_shuntingTime_15 : JSeg (jmH jdL_shuntingTime hhL_shuntingTime) [(15, .astore 5, 0, 0), (17, .iconst 1, 0, 0)] := ⟨by decide +kernel, trivial, trivial, trivial⟩
theorem sL_shuntingTime_19 : JSeg (jmH jdL_shuntingTime hhL_shuntingTime) [(19, .astore 5, 0, 0), (21, .iconst 2, 0, 0)] := ⟨by decide +kernel, trivial, trivial, trivial⟩
theorem sL_shuntingTime_23 : JSeg (jmH jdL_shuntingTime hhL_shuntingTime) [(23, .astore 5, 0, 0), (25, .iconst 3, 0, 0)] := ⟨by decide +kernel, trivial, trivial, trivial⟩
theorem sL_shuntingTime_27 : JSeg (jmH jdL_shuntingTime hhL_shuntingTime) [(27, .iconst 0, 0, 0)] := ⟨by decide +kernel, trivial, trivial⟩
theorem dL_shuntingTime_7 : decode cL_shuntingTime 7 = .ok (.invokevirtual 85, 3) := by decide +kernel
theorem dL_shuntingTime_11 : decode cL_shuntingTime 11 = .ok (.lastore, 1) := by decide +kernel
theorem dL_shuntingTime_18 : decode cL_shuntingTime 18 = .ok (.ireturn, 1) := by decide +kernel
theorem dL_shuntingTime_22 : decode cL_shuntingTime 22 = .ok (.ireturn, 1) := by decide +kernel
theorem dL_shuntingTime_26 : decode cL_shuntingTime 26 = .ok (.ireturn, 1) := by decide +kernel
theorem dL_shuntingTime_28 : decode cL_shuntingTime 28 = .ok (.ireturn, 1) := by decide +kernel
abbrev jdL_nearestFreeTrack : JD := (yL_nearestFreeTrack, cL_nearestFreeTrack, 4, some .int, 3)
abbrev hhL_nearestFreeTrack : JHs := [(0, 9, 12, 20), (0, 9, 15, 35)]
theorem dhL_nearestFreeTrack : DSH jdL_nearestFreeTrack hhL_nearestFreeTrack := ⟨⟨(bw_of 922 (by decide +kernel) (by decide +kernel)), (bw_of 0 (by decide +kernel) (by decide +kernel)), by decide +kernel, by decide +kernel⟩, (bw_of 921 (by decide +kernel) (by decide +kernel))⟩
theorem sL_nearestFreeTrack_0 : JSeg (jmH jdL_nearestFreeTrack hhL_nearestFreeTrack) [(0, .aload_n 2, 0, 0), (1, .iconst 0, 0, 0), (2, .aload_n 0, 0, 0), (3, .iload_n 1, 0, 0)] := ⟨by decide +kernel, trivial, trivial, trivial, trivial, trivial⟩
theorem sL_nearestFreeTrack_7 : JSeg (jmH jdL_nearestFreeTrack hhL_nearestFreeTrack) [(7, .i2l, 0, 0)] := ⟨by decide +kernel, trivial, trivial⟩
theorem sL_nearestFreeTrack_9 : JSeg (jmH jdL_nearestFreeTrack hhL_nearestFreeTrack) [(9, .goto 9, 0, 0)] := ⟨by decide +kernel, trivial, trivial⟩
theorem sL_nearestFreeTrack_12 : JSeg (jmH jdL_nearestFreeTrack hhL_nearestFreeTrack) [(12, .astore_n 3, 0, 0), (13, .iconst 1, 0, 0)] := ⟨by decide +kernel, trivial, trivial, trivial⟩
theorem sL_nearestFreeTrack_15 : JSeg (jmH jdL_nearestFreeTrack hhL_nearestFreeTrack) [(15, .astore_n 3, 0, 0), (16, .iconst 2, 0, 0)] := ⟨by decide +kernel, trivial, trivial, trivial⟩
theorem sL_nearestFreeTrack_18 : JSeg (jmH jdL_nearestFreeTrack hhL_nearestFreeTrack) [(18, .iconst 0, 0, 0)] := ⟨by decide +kernel, trivial, trivial⟩
theorem dL_nearestFreeTrack_4 : decode cL_nearestFreeTrack 4 = .ok (.invokevirtual 88, 3) := by decide +kernel
theorem dL_nearestFreeTrack_8 : decode cL_nearestFreeTrack 8 = .ok (.lastore, 1) := by decide +kernel
theorem dL_nearestFreeTrack_14 : decode cL_nearestFreeTrack 14 = .ok (.ireturn, 1) := by decide +kernel
theorem dL_nearestFreeTrack_17 : decode cL_nearestFreeTrack 17 = .ok (.ireturn, 1) := by decide +kernel
theorem dL_nearestFreeTrack_19 : decode cL_nearestFreeTrack 19 = .ok (.ireturn, 1) := by decide +kernel
abbrev jdL_trackOf : JD := (yL_trackOf, cL_trackOf, 4, some .int, 3)
abbrev hhL_trackOf : JHs := [(0, 9, 12, 35)]
theorem dhL_trackOf : DSH jdL_trackOf hhL_trackOf := ⟨⟨(bw_of 935 (by decide +kernel) (by decide +kernel)), (bw_of 0 (by decide +kernel) (by decide +kernel)), by decide +kernel, by decide +kernel⟩, (bw_of 934 (by decide +kernel) (by decide +kernel))⟩
theorem sL_trackOf_0 : JSeg (jmH jdL_trackOf hhL_trackOf) [(0, .aload_n 2, 0, 0), (1, .iconst 0, 0, 0), (2, .aload_n 0, 0, 0), (3, .iload_n 1, 0, 0)] := ⟨by decide +kernel, trivial, trivial, trivial, trivial, trivial⟩
theorem sL_trackOf_7 : JSeg (jmH jdL_trackOf hhL_trackOf) [(7, .i2l, 0, 0)] := ⟨by decide +kernel, trivial, trivial⟩
theorem sL_trackOf_9 : JSeg (jmH jdL_trackOf hhL_trackOf) [(9, .goto 6, 0, 0)] := ⟨by decide +kernel, trivial, trivial⟩
theorem sL_trackOf_12 : JSeg (jmH jdL_trackOf hhL_trackOf) [(12, .astore_n 3, 0, 0), (13, .iconst 1, 0, 0)] := ⟨by decide +kernel, trivial, trivial, trivial⟩
theorem sL_trackOf_15 : JSeg (jmH jdL_trackOf hhL_trackOf) [(15, .iconst 0, 0, 0)] := ⟨by decide +kernel, trivial, trivial⟩
theorem dL_trackOf_4 : decode cL_trackOf 4 = .ok (.invokevirtual 91, 3) := by decide +kernel
theorem dL_trackOf_8 : decode cL_trackOf 8 = .ok (.lastore, 1) := by decide +kernel
theorem dL_trackOf_14 : decode cL_trackOf 14 = .ok (.ireturn, 1) := by decide +kernel
theorem dL_trackOf_16 : decode cL_trackOf 16 = .ok (.ireturn, 1) := by decide +kernel
abbrev jdL_carsBehind : JD := (yL_carsBehind, cL_carsBehind, 4, some .int, 3)
abbrev hhL_carsBehind : JHs := [(0, 9, 12, 35)]
theorem dhL_carsBehind : DSH jdL_carsBehind hhL_carsBehind := ⟨⟨(bw_of 947 (by decide +kernel) (by decide +kernel)), (bw_of 0 (by decide +kernel) (by decide +kernel)), by decide +kernel, by decide +kernel⟩, (bw_of 946 (by decide +kernel) (by decide +kernel))⟩
theorem sL_carsBehind_0 : JSeg (jmH jdL_carsBehind hhL_carsBehind) [(0, .aload_n 2, 0, 0), (1, .iconst 0, 0, 0), (2, .aload_n 0, 0, 0), (3, .iload_n 1, 0, 0)] := ⟨by decide +kernel, trivial, trivial, trivial, trivial, trivial⟩
theorem sL_carsBehind_7 : JSeg (jmH jdL_carsBehind hhL_carsBehind) [(7, .i2l, 0, 0)] := ⟨by decide +kernel, trivial, trivial⟩
theorem sL_carsBehind_9 : JSeg (jmH jdL_carsBehind hhL_carsBehind) [(9, .goto 6, 0, 0)] := ⟨by decide +kernel, trivial, trivial⟩
theorem sL_carsBehind_12 : JSeg (jmH jdL_carsBehind hhL_carsBehind) [(12, .astore_n 3, 0, 0), (13, .iconst 1, 0, 0)] := ⟨by decide +kernel, trivial, trivial, trivial⟩
theorem sL_carsBehind_15 : JSeg (jmH jdL_carsBehind hhL_carsBehind) [(15, .iconst 0, 0, 0)] := ⟨by decide +kernel, trivial, trivial⟩
theorem dL_carsBehind_4 : decode cL_carsBehind 4 = .ok (.invokevirtual 94, 3) := by decide +kernel
theorem dL_carsBehind_8 : decode cL_carsBehind 8 = .ok (.lastore, 1) := by decide +kernel
theorem dL_carsBehind_14 : decode cL_carsBehind 14 = .ok (.ireturn, 1) := by decide +kernel
theorem dL_carsBehind_16 : decode cL_carsBehind 16 = .ok (.ireturn, 1) := by decide +kernel
abbrev jdL_destination : JD := (yL_destination, cL_destination, 4, some .int, 3)
abbrev hhL_destination : JHs := [(0, 9, 12, 35)]
theorem dhL_destination : DSH jdL_destination hhL_destination := ⟨⟨(bw_of 955 (by decide +kernel) (by decide +kernel)), (bw_of 0 (by decide +kernel) (by decide +kernel)), by decide +kernel, by decide +kernel⟩, (bw_of 954 (by decide +kernel) (by decide +kernel))⟩
theorem sL_destination_0 : JSeg (jmH jdL_destination hhL_destination) [(0, .aload_n 2, 0, 0), (1, .iconst 0, 0, 0), (2, .aload_n 0, 0, 0), (3, .iload_n 1, 0, 0)] := ⟨by decide +kernel, trivial, trivial, trivial, trivial, trivial⟩
theorem sL_destination_7 : JSeg (jmH jdL_destination hhL_destination) [(7, .i2l, 0, 0)] := ⟨by decide +kernel, trivial, trivial⟩
theorem sL_destination_9 : JSeg (jmH jdL_destination hhL_destination) [(9, .goto 6, 0, 0)] := ⟨by decide +kernel, trivial, trivial⟩
theorem sL_destination_12 : JSeg (jmH jdL_destination hhL_destination) [(12, .astore_n 3, 0, 0), (13, .iconst 1, 0, 0)] := ⟨by decide +kernel, trivial, trivial, trivial⟩
theorem sL_destination_15 : JSeg (jmH jdL_destination hhL_destination) [(15, .iconst 0, 0, 0)] := ⟨by decide +kernel, trivial, trivial⟩
theorem dL_destination_4 : decode cL_destination 4 = .ok (.invokevirtual 97, 3) := by decide +kernel
theorem dL_destination_8 : decode cL_destination 8 = .ok (.lastore, 1) := by decide +kernel
theorem dL_destination_14 : decode cL_destination 14 = .ok (.ireturn, 1) := by decide +kernel
theorem dL_destination_16 : decode cL_destination 16 = .ok (.ireturn, 1) := by decide +kernel
abbrev jdL_isDefective : JD := (yL_isDefective, cL_isDefective, 4, some .int, 3)
abbrev hhL_isDefective : JHs := [(0, 16, 19, 35)]
theorem dhL_isDefective : DSH jdL_isDefective hhL_isDefective := ⟨⟨(bw_of 962 (by decide +kernel) (by decide +kernel)), (bw_of 0 (by decide +kernel) (by decide +kernel)), by decide +kernel, by decide +kernel⟩, (bw_of 961 (by decide +kernel) (by decide +kernel))⟩
theorem sL_isDefective_0 : JSeg (jmH jdL_isDefective hhL_isDefective) [(0, .aload_n 2, 0, 0), (1, .iconst 0, 0, 0), (2, .aload_n 0, 0, 0), (3, .iload_n 1, 0, 0)] := ⟨by decide +kernel, trivial, trivial, trivial, trivial, trivial⟩
theorem sL_isDefective_10 : JSeg (jmH jdL_isDefective hhL_isDefective) [(10, .lconst 1, 0, 0), (11, .goto 4, 0, 0)] := ⟨by decide +kernel, trivial, trivial, trivial⟩
theorem sL_isDefective_14 : JSeg (jmH jdL_isDefective hhL_isDefective) [(14, .lconst 0, 0, 0)] := ⟨by decide +kernel, trivial, trivial⟩
theorem sL_isDefective_16 : JSeg (jmH jdL_isDefective hhL_isDefective) [(16, .goto 6, 0, 0)] := ⟨by decide +kernel, trivial, trivial⟩
theorem sL_isDefective_19 : JSeg (jmH jdL_isDefective hhL_isDefective) [(19, .astore_n 3, 0, 0), (20, .iconst 1, 0, 0)] := ⟨by decide +kernel, trivial, trivial, trivial⟩
theorem sL_isDefective_22 : JSeg (jmH jdL_isDefective hhL_isDefective) [(22, .iconst 0, 0, 0)] := ⟨by decide +kernel, trivial, trivial⟩
theorem dL_isDefective_4 : decode cL_isDefective 4 = .ok (.invokevirtual 100, 3) := by decide +kernel
theorem dL_isDefective_7 : decode cL_isDefective 7 = .ok (.ifCond .eq 7, 3) := by decide +kernel
theorem dL_isDefective_15 : decode cL_isDefective 15 = .ok (.lastore, 1) := by decide +kernel
theorem dL_isDefective_21 : decode cL_isDefective 21 = .ok (.ireturn, 1) := by decide +kernel
theorem dL_isDefective_23 : decode cL_isDefective 23 = .ok (.ireturn, 1) := by decide +kernel
abbrev jdL_carsFor : JD := (yL_carsFor, cL_carsFor, 4, some .int, 3)
abbrev hhL_carsFor : JHs := [(0, 9, 12, 13)]
theorem dhL_carsFor : DSH jdL_carsFor hhL_carsFor := ⟨⟨(bw_of 969 (by decide +kernel) (by decide +kernel)), (bw_of 0 (by decide +kernel) (by decide +kernel)), by decide +kernel, by decide +kernel⟩, (bw_of 968 (by decide +kernel) (by decide +kernel))⟩
theorem sL_carsFor_0 : JSeg (jmH jdL_carsFor hhL_carsFor) [(0, .aload_n 2, 0, 0), (1, .iconst 0, 0, 0), (2, .aload_n 0, 0, 0), (3, .iload_n 1, 0, 0)] := ⟨by decide +kernel, trivial, trivial, trivial, trivial, trivial⟩
theorem sL_carsFor_7 : JSeg (jmH jdL_carsFor hhL_carsFor) [(7, .i2l, 0, 0)] := ⟨by decide +kernel, trivial, trivial⟩
theorem sL_carsFor_9 : JSeg (jmH jdL_carsFor hhL_carsFor) [(9, .goto 6, 0, 0)] := ⟨by decide +kernel, trivial, trivial⟩
theorem sL_carsFor_12 : JSeg (jmH jdL_carsFor hhL_carsFor) [(12, .astore_n 3, 0, 0), (13, .iconst 1, 0, 0)] := ⟨by decide +kernel, trivial, trivial, trivial⟩
theorem sL_carsFor_15 : JSeg (jmH jdL_carsFor hhL_carsFor) [(15, .iconst 0, 0, 0)] := ⟨by decide +kernel, trivial, trivial⟩
theorem dL_carsFor_4 : decode cL_carsFor 4 = .ok (.invokevirtual 103, 3) := by decide +kernel
theorem dL_carsFor_8 : decode cL_carsFor 8 = .ok (.lastore, 1) := by decide +kernel
theorem dL_carsFor_14 : decode cL_carsFor 14 = .ok (.ireturn, 1) := by decide +kernel
theorem dL_carsFor_16 : decode cL_carsFor 16 = .ok (.ireturn, 1) := by decide +kernel
abbrev jdL_carAtRank : JD := (yL_carAtRank, cL_carAtRank, 4, some .int, 3)
abbrev hhL_carAtRank : JHs := [(0, 9, 12, 35)]
theorem dhL_carAtRank : DSH jdL_carAtRank hhL_carAtRank := ⟨⟨(bw_of 982 (by decide +kernel) (by decide +kernel)), (bw_of 0 (by decide +kernel) (by decide +kernel)), by decide +kernel, by decide +kernel⟩, (bw_of 981 (by decide +kernel) (by decide +kernel))⟩
theorem sL_carAtRank_0 : JSeg (jmH jdL_carAtRank hhL_carAtRank) [(0, .aload_n 2, 0, 0), (1, .iconst 0, 0, 0), (2, .aload_n 0, 0, 0), (3, .iload_n 1, 0, 0)] := ⟨by decide +kernel, trivial, trivial, trivial, trivial, trivial⟩
theorem sL_carAtRank_7 : JSeg (jmH jdL_carAtRank hhL_carAtRank) [(7, .i2l, 0, 0)] := ⟨by decide +kernel, trivial, trivial⟩
theorem sL_carAtRank_9 : JSeg (jmH jdL_carAtRank hhL_carAtRank) [(9, .goto 6, 0, 0)] := ⟨by decide +kernel, trivial, trivial⟩
theorem sL_carAtRank_12 : JSeg (jmH jdL_carAtRank hhL_carAtRank) [(12, .astore_n 3, 0, 0), (13, .iconst 1, 0, 0)] := ⟨by decide +kernel, trivial, trivial, trivial⟩
theorem sL_carAtRank_15 : JSeg (jmH jdL_carAtRank hhL_carAtRank) [(15, .iconst 0, 0, 0)] := ⟨by decide +kernel, trivial, trivial⟩
theorem dL_carAtRank_4 : decode cL_carAtRank 4 = .ok (.invokevirtual 106, 3) := by decide +kernel
theorem dL_carAtRank_8 : decode cL_carAtRank 8 = .ok (.lastore, 1) := by decide +kernel
theorem dL_carAtRank_14 : decode cL_carAtRank 14 = .ok (.ireturn, 1) := by decide +kernel
theorem dL_carAtRank_16 : decode cL_carAtRank 16 = .ok (.ireturn, 1) := by decide +kernel
abbrev jdL_meanMoveTime : JD := (yL_meanMoveTime, cL_meanMoveTime, 3, some .int, 2)
abbrev hhL_meanMoveTime : JHs := [(0, 7, 10, 113)]
theorem dhL_meanMoveTime : DSH jdL_meanMoveTime hhL_meanMoveTime := ⟨⟨(bw_of 1002 (by decide +kernel) (by decide +kernel)), (bw_of 0 (by decide +kernel) (by decide +kernel)), by decide +kernel, by decide +kernel⟩, (bw_of 1001 (by decide +kernel) (by decide +kernel))⟩
theorem sL_meanMoveTime_0 : JSeg (jmH jdL_meanMoveTime hhL_meanMoveTime) [(0, .aload_n 1, 0, 0), (1, .iconst 0, 0, 0), (2, .aload_n 0, 0, 0)] := ⟨by decide +kernel, trivial, trivial, trivial, trivial⟩
theorem sL_meanMoveTime_7 : JSeg (jmH jdL_meanMoveTime hhL_meanMoveTime) [(7, .goto 6, 0, 0)] := ⟨by decide +kernel, trivial, trivial⟩
theorem sL_meanMoveTime_10 : JSeg (jmH jdL_meanMoveTime hhL_meanMoveTime) [(10, .astore_n 2, 0, 0), (11, .iconst 1, 0, 0)] := ⟨by decide +kernel, trivial, trivial, trivial⟩
theorem sL_meanMoveTime_13 : JSeg (jmH jdL_meanMoveTime hhL_meanMoveTime) [(13, .iconst 0, 0, 0)] := ⟨by decide +kernel, trivial, trivial⟩
theorem dL_meanMoveTime_3 : decode cL_meanMoveTime 3 = .ok (.invokevirtual 109, 3) := by decide +kernel
theorem dL_meanMoveTime_6 : decode cL_meanMoveTime 6 = .ok (.dastore, 1) := by decide +kernel
theorem dL_meanMoveTime_12 : decode cL_meanMoveTime 12 = .ok (.ireturn, 1) := by decide +kernel
theorem dL_meanMoveTime_14 : decode cL_meanMoveTime 14 = .ok (.ireturn, 1) := by decide +kernel
abbrev jdL_usedShare : JD := (yL_usedShare, cL_usedShare, 3, some .int, 2)
abbrev hhL_usedShare : JHs := [(0, 8, 11, 113)]
theorem dhL_usedShare : DSH jdL_usedShare hhL_usedShare := ⟨⟨(bw_of 1026 (by decide +kernel) (by decide +kernel)), (bw_of 0 (by decide +kernel) (by decide +kernel)), by decide +kernel, by decide +kernel⟩, (bw_of 1025 (by decide +kernel) (by decide +kernel))⟩
theorem sL_usedShare_0 : JSeg (jmH jdL_usedShare hhL_usedShare) [(0, .aload_n 1, 0, 0), (1, .iconst 0, 0, 0), (2, .aload_n 0, 0, 0)] := ⟨by decide +kernel, trivial, trivial, trivial, trivial⟩
theorem sL_usedShare_8 : JSeg (jmH jdL_usedShare hhL_usedShare) [(8, .goto 6, 0, 0)] := ⟨by decide +kernel, trivial, trivial⟩
theorem sL_usedShare_11 : JSeg (jmH jdL_usedShare hhL_usedShare) [(11, .astore_n 2, 0, 0), (12, .iconst 1, 0, 0)] := ⟨by decide +kernel, trivial, trivial, trivial⟩
theorem sL_usedShare_14 : JSeg (jmH jdL_usedShare hhL_usedShare) [(14, .iconst 0, 0, 0)] := ⟨by decide +kernel, trivial, trivial⟩
theorem dL_usedShare_3 : decode cL_usedShare 3 = .ok (.invokevirtual 115, 3) := by decide +kernel
theorem dL_usedShare_6 : decode cL_usedShare 6 = .ok (.f2d, 1) := by decide +kernel
theorem dL_usedShare_7 : decode cL_usedShare 7 = .ok (.dastore, 1) := by decide +kernel
theorem dL_usedShare_13 : decode cL_usedShare 13 = .ok (.ireturn, 1) := by decide +kernel
theorem dL_usedShare_15 : decode cL_usedShare 15 = .ok (.ireturn, 1) := by decide +kernel
abbrev jdL_append : JD := (yL_append, cL_append, 4, some .int, 3)
abbrev hhL_append : JHs := [(0, 9, 12, 15)]
theorem dhL_append : DSH jdL_append hhL_append := ⟨⟨(bw_of 1042 (by decide +kernel) (by decide +kernel)), (bw_of 0 (by decide +kernel) (by decide +kernel)), by decide +kernel, by decide +kernel⟩, (bw_of 1041 (by decide +kernel) (by decide +kernel))⟩
theorem sL_append_0 : JSeg (jmH jdL_append hhL_append) [(0, .aload_n 2, 0, 0), (1, .iconst 0, 0, 0), (2, .aload_n 0, 0, 0), (3, .iload_n 1, 0, 0)] := ⟨by decide +kernel, trivial, trivial, trivial, trivial, trivial⟩
theorem sL_append_7 : JSeg (jmH jdL_append hhL_append) [(7, .i2l, 0, 0)] := ⟨by decide +kernel, trivial, trivial⟩
theorem sL_append_9 : JSeg (jmH jdL_append hhL_append) [(9, .goto 6, 0, 0)] := ⟨by decide +kernel, trivial, trivial⟩
theorem sL_append_12 : JSeg (jmH jdL_append hhL_append) [(12, .astore_n 3, 0, 0), (13, .iconst 1, 0, 0)] := ⟨by decide +kernel, trivial, trivial, trivial⟩
theorem sL_append_15 : JSeg (jmH jdL_append hhL_append) [(15, .iconst 0, 0, 0)] := ⟨by decide +kernel, trivial, trivial⟩
theorem dL_append_4 : decode cL_append 4 = .ok (.invokevirtual 119, 3) := by decide +kernel
theorem dL_append_8 : decode cL_append 8 = .ok (.lastore, 1) := by decide +kernel
theorem dL_append_14 : decode cL_append 14 = .ok (.ireturn, 1) := by decide +kernel
theorem dL_append_16 : decode cL_append 16 = .ok (.ireturn, 1) := by decide +kernel
abbrev jdL_run : JD := (yL_run, cL_run, 3, some .int, 2)
abbrev hhL_run : JHs := [(0, 8, 11, 13), (0, 8, 14, 29)]
theorem dhL_run : DSH jdL_run hhL_run := ⟨⟨(bw_of 1054 (by decide +kernel) (by decide +kernel)), (bw_of 0 (by decide +kernel) (by decide +kernel)), by decide +kernel, by decide +kernel⟩, (bw_of 1053 (by decide +kernel) (by decide +kernel))⟩
theorem sL_run_0 : JSeg (jmH jdL_run hhL_run) [(0, .aload_n 1, 0, 0), (1, .iconst 0, 0, 0), (2, .aload_n 0, 0, 0)] := ⟨by decide +kernel, trivial, trivial, trivial, trivial⟩
theorem sL_run_6 : JSeg (jmH jdL_run hhL_run) [(6, .i2l, 0, 0)] := ⟨by decide +kernel, trivial, trivial⟩
theorem sL_run_8 : JSeg (jmH jdL_run hhL_run) [(8, .goto 9, 0, 0)] := ⟨by decide +kernel, trivial, trivial⟩
theorem sL_run_11 : JSeg (jmH jdL_run hhL_run) [(11, .astore_n 2, 0, 0), (12, .iconst 1, 0, 0)] := ⟨by decide +kernel, trivial, trivial, trivial⟩
theorem sL_run_14 : JSeg (jmH jdL_run hhL_run) [(14, .astore_n 2, 0, 0), (15, .iconst 2, 0, 0)] := ⟨by decide +kernel, trivial, trivial, trivial⟩
theorem sL_run_17 : JSeg (jmH jdL_run hhL_run) [(17, .iconst 0, 0, 0)] := ⟨by decide +kernel, trivial, trivial⟩
theorem dL_run_3 : decode cL_run 3 = .ok (.invokevirtual 123, 3) := by decide +kernel
theorem dL_run_7 : decode cL_run 7 = .ok (.lastore, 1) := by decide +kernel
theorem dL_run_13 : decode cL_run 13 = .ok (.ireturn, 1) := by decide +kernel
theorem dL_run_16 : decode cL_run 16 = .ok (.ireturn, 1) := by decide +kernel
theorem dL_run_18 : decode cL_run 18 = .ok (.ireturn, 1) := by decide +kernel
abbrev jdL_errorPosition : JD := (yL_errorPosition, cL_errorPosition, 3, some .int, 2)
abbrev hhL_errorPosition : JHs := [(0, 8, 11, 35)]
theorem dhL_errorPosition : DSH jdL_errorPosition hhL_errorPosition := ⟨⟨(bw_of 1173 (by decide +kernel) (by decide +kernel)), (bw_of 0 (by decide +kernel) (by decide +kernel)), by decide +kernel, by decide +kernel⟩, (bw_of 1172 (by decide +kernel) (by decide +kernel))⟩
theorem sL_errorPosition_0 : JSeg (jmH jdL_errorPosition hhL_errorPosition) [(0, .aload_n 1, 0, 0), (1, .iconst 0, 0, 0), (2, .aload_n 0, 0, 0)] := ⟨by decide +kernel, trivial, trivial, trivial, trivial⟩
theorem sL_errorPosition_6 : JSeg (jmH jdL_errorPosition hhL_errorPosition) [(6, .i2l, 0, 0)] := ⟨by decide +kernel, trivial, trivial⟩
theorem sL_errorPosition_8 : JSeg (jmH jdL_errorPosition hhL_errorPosition) [(8, .goto 6, 0, 0)] := ⟨by decide +kernel, trivial, trivial⟩
theorem sL_errorPosition_11 : JSeg (jmH jdL_errorPosition hhL_errorPosition) [(11, .astore_n 2, 0, 0), (12, .iconst 1, 0, 0)] := ⟨by decide +kernel, trivial, trivial, trivial⟩
theorem sL_errorPosition_14 : JSeg (jmH jdL_errorPosition hhL_errorPosition) [(14, .iconst 0, 0, 0)] := ⟨by decide +kernel, trivial, trivial⟩
theorem dL_errorPosition_3 : decode cL_errorPosition 3 = .ok (.invokevirtual 127, 3) := by decide +kernel
theorem dL_errorPosition_7 : decode cL_errorPosition 7 = .ok (.lastore, 1) := by decide +kernel
theorem dL_errorPosition_13 : decode cL_errorPosition 13 = .ok (.ireturn, 1) := by decide +kernel
theorem dL_errorPosition_15 : decode cL_errorPosition 15 = .ok (.ireturn, 1) := by decide +kernel
abbrev jdL_failedCommand : JD := (yL_failedCommand, cL_failedCommand, 3, some .int, 2)
abbrev hhL_failedCommand : JHs := [(0, 8, 11, 35)]
theorem dhL_failedCommand : DSH jdL_failedCommand hhL_failedCommand := ⟨⟨(bw_of 1181 (by decide +kernel) (by decide +kernel)), (bw_of 0 (by decide +kernel) (by decide +kernel)), by decide +kernel, by decide +kernel⟩, (bw_of 1180 (by decide +kernel) (by decide +kernel))⟩
theorem sL_failedCommand_0 : JSeg (jmH jdL_failedCommand hhL_failedCommand) [(0, .aload_n 1, 0, 0), (1, .iconst 0, 0, 0), (2, .aload_n 0, 0, 0)] := ⟨by decide +kernel, trivial, trivial, trivial, trivial⟩
theorem sL_failedCommand_6 : JSeg (jmH jdL_failedCommand hhL_failedCommand) [(6, .i2l, 0, 0)] := ⟨by decide +kernel, trivial, trivial⟩
theorem sL_failedCommand_8 : JSeg (jmH jdL_failedCommand hhL_failedCommand) [(8, .goto 6, 0, 0)] := ⟨by decide +kernel, trivial, trivial⟩
theorem sL_failedCommand_11 : JSeg (jmH jdL_failedCommand hhL_failedCommand) [(11, .astore_n 2, 0, 0), (12, .iconst 1, 0, 0)] := ⟨by decide +kernel, trivial, trivial, trivial⟩
theorem sL_failedCommand_14 : JSeg (jmH jdL_failedCommand hhL_failedCommand) [(14, .iconst 0, 0, 0)] := ⟨by decide +kernel, trivial, trivial⟩
theorem dL_failedCommand_3 : decode cL_failedCommand 3 = .ok (.invokevirtual 130, 3) := by decide +kernel
theorem dL_failedCommand_7 : decode cL_failedCommand 7 = .ok (.lastore, 1) := by decide +kernel
theorem dL_failedCommand_13 : decode cL_failedCommand 13 = .ok (.ireturn, 1) := by decide +kernel
theorem dL_failedCommand_15 : decode cL_failedCommand 15 = .ok (.ireturn, 1) := by decide +kernel
abbrev jdL_writeTrack : JD := (yL_writeTrack, cL_writeTrack, 4, some .int, 3)
abbrev hhL_writeTrack : JHs := [(0, 9, 12, 20)]
theorem dhL_writeTrack : DSH jdL_writeTrack hhL_writeTrack := ⟨⟨(bw_of 1189 (by decide +kernel) (by decide +kernel)), (bw_of 0 (by decide +kernel) (by decide +kernel)), by decide +kernel, by decide +kernel⟩, (bw_of 1188 (by decide +kernel) (by decide +kernel))⟩
theorem sL_writeTrack_0 : JSeg (jmH jdL_writeTrack hhL_writeTrack) [(0, .aload_n 2, 0, 0), (1, .iconst 0, 0, 0), (2, .aload_n 0, 0, 0), (3, .iload_n 1, 0, 0)] := ⟨by decide +kernel, trivial, trivial, trivial, trivial, trivial⟩
theorem sL_writeTrack_7 : JSeg (jmH jdL_writeTrack hhL_writeTrack) [(7, .i2l, 0, 0)] := ⟨by decide +kernel, trivial, trivial⟩
theorem sL_writeTrack_9 : JSeg (jmH jdL_writeTrack hhL_writeTrack) [(9, .goto 6, 0, 0)] := ⟨by decide +kernel, trivial, trivial⟩
theorem sL_writeTrack_12 : JSeg (jmH jdL_writeTrack hhL_writeTrack) [(12, .astore_n 3, 0, 0), (13, .iconst 1, 0, 0)] := ⟨by decide +kernel, trivial, trivial, trivial⟩
theorem sL_writeTrack_15 : JSeg (jmH jdL_writeTrack hhL_writeTrack) [(15, .iconst 0, 0, 0)] := ⟨by decide +kernel, trivial, trivial⟩
theorem dL_writeTrack_4 : decode cL_writeTrack 4 = .ok (.invokevirtual 133, 3) := by decide +kernel
theorem dL_writeTrack_8 : decode cL_writeTrack 8 = .ok (.lastore, 1) := by decide +kernel
theorem dL_writeTrack_14 : decode cL_writeTrack 14 = .ok (.ireturn, 1) := by decide +kernel
theorem dL_writeTrack_16 : decode cL_writeTrack 16 = .ok (.ireturn, 1) := by decide +kernel
abbrev jdL_outputAt : JD := (yL_outputAt, cL_outputAt, 4, some .int, 3)
abbrev hhL_outputAt : JHs := [(0, 9, 12, 20)]
theorem dhL_outputAt : DSH jdL_outputAt hhL_outputAt := ⟨⟨(bw_of 1444 (by decide +kernel) (by decide +kernel)), (bw_of 0 (by decide +kernel) (by decide +kernel)), by decide +kernel, by decide +kernel⟩, (bw_of 1443 (by decide +kernel) (by decide +kernel))⟩
theorem sL_outputAt_0 : JSeg (jmH jdL_outputAt hhL_outputAt) [(0, .aload_n 2, 0, 0), (1, .iconst 0, 0, 0), (2, .aload_n 0, 0, 0), (3, .iload_n 1, 0, 0)] := ⟨by decide +kernel, trivial, trivial, trivial, trivial, trivial⟩
theorem sL_outputAt_7 : JSeg (jmH jdL_outputAt hhL_outputAt) [(7, .i2l, 0, 0)] := ⟨by decide +kernel, trivial, trivial⟩
theorem sL_outputAt_9 : JSeg (jmH jdL_outputAt hhL_outputAt) [(9, .goto 6, 0, 0)] := ⟨by decide +kernel, trivial, trivial⟩
theorem sL_outputAt_12 : JSeg (jmH jdL_outputAt hhL_outputAt) [(12, .astore_n 3, 0, 0), (13, .iconst 1, 0, 0)] := ⟨by decide +kernel, trivial, trivial, trivial⟩
theorem sL_outputAt_15 : JSeg (jmH jdL_outputAt hhL_outputAt) [(15, .iconst 0, 0, 0)] := ⟨by decide +kernel, trivial, trivial⟩
theorem dL_outputAt_4 : decode cL_outputAt 4 = .ok (.invokevirtual 136, 3) := by decide +kernel
theorem dL_outputAt_8 : decode cL_outputAt 8 = .ok (.lastore, 1) := by decide +kernel
theorem dL_outputAt_14 : decode cL_outputAt 14 = .ok (.ireturn, 1) := by decide +kernel
theorem dL_outputAt_16 : decode cL_outputAt 16 = .ok (.ireturn, 1) := by decide +kernel
abbrev jdL_undo : JD := (yL_undo, cL_undo, 3, some .int, 2)
abbrev hhL_undo : JHs := [(0, 8, 11, 15)]
theorem dhL_undo : DSH jdL_undo hhL_undo := ⟨⟨(bw_of 1462 (by decide +kernel) (by decide +kernel)), (bw_of 0 (by decide +kernel) (by decide +kernel)), by decide +kernel, by decide +kernel⟩, (bw_of 1461 (by decide +kernel) (by decide +kernel))⟩
theorem sL_undo_0 : JSeg (jmH jdL_undo hhL_undo) [(0, .aload_n 1, 0, 0), (1, .iconst 0, 0, 0), (2, .aload_n 0, 0, 0)] := ⟨by decide +kernel, trivial, trivial, trivial, trivial⟩
theorem sL_undo_6 : JSeg (jmH jdL_undo hhL_undo) [(6, .i2l, 0, 0)] := ⟨by decide +kernel, trivial, trivial⟩
theorem sL_undo_8 : JSeg (jmH jdL_undo hhL_undo) [(8, .goto 6, 0, 0)] := ⟨by decide +kernel, trivial, trivial⟩
theorem sL_undo_11 : JSeg (jmH jdL_undo hhL_undo) [(11, .astore_n 2, 0, 0), (12, .iconst 1, 0, 0)] := ⟨by decide +kernel, trivial, trivial, trivial⟩
theorem sL_undo_14 : JSeg (jmH jdL_undo hhL_undo) [(14, .iconst 0, 0, 0)] := ⟨by decide +kernel, trivial, trivial⟩
theorem dL_undo_3 : decode cL_undo 3 = .ok (.invokevirtual 140, 3) := by decide +kernel
theorem dL_undo_7 : decode cL_undo 7 = .ok (.lastore, 1) := by decide +kernel
theorem dL_undo_13 : decode cL_undo 13 = .ok (.ireturn, 1) := by decide +kernel
theorem dL_undo_15 : decode cL_undo 15 = .ok (.ireturn, 1) := by decide +kernel
abbrev jdL_restore : JD := (yL_restore, cL_restore, 2, some .int, 1)
abbrev hhL_restore : JHs := [(0, 4, 7, 15)]
theorem dhL_restore : DSH jdL_restore hhL_restore := ⟨⟨(bw_of 1474 (by decide +kernel) (by decide +kernel)), (bw_of 0 (by decide +kernel) (by decide +kernel)), by decide +kernel, by decide +kernel⟩, (bw_of 1473 (by decide +kernel) (by decide +kernel))⟩
theorem sL_restore_0 : JSeg (jmH jdL_restore hhL_restore) [(0, .aload_n 0, 0, 0)] := ⟨by decide +kernel, trivial, trivial⟩
theorem sL_restore_4 : JSeg (jmH jdL_restore hhL_restore) [(4, .goto 6, 0, 0)] := ⟨by decide +kernel, trivial, trivial⟩
theorem sL_restore_7 : JSeg (jmH jdL_restore hhL_restore) [(7, .astore_n 1, 0, 0), (8, .iconst 1, 0, 0)] := ⟨by decide +kernel, trivial, trivial, trivial⟩
theorem sL_restore_10 : JSeg (jmH jdL_restore hhL_restore) [(10, .iconst 0, 0, 0)] := ⟨by decide +kernel, trivial, trivial⟩
theorem dL_restore_1 : decode cL_restore 1 = .ok (.invokevirtual 143, 3) := by decide +kernel
theorem dL_restore_9 : decode cL_restore 9 = .ok (.ireturn, 1) := by decide +kernel
theorem dL_restore_11 : decode cL_restore 11 = .ok (.ireturn, 1) := by decide +kernel
