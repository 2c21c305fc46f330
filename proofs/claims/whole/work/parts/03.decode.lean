theorem dX0_init_0 : decode cX0_init 0 = .ok (.aload_n 0, 1) := by decide +kernel
theorem dX0_init_1 : decode cX0_init 1 = .ok (.invokespecial 3, 3) := by decide +kernel
theorem dX0_init_4 : decode cX0_init 4 = .ok (.return_, 1) := by decide +kernel
theorem dX0_addCell_0 : decode cX0_addCell 0 = .ok (.aload_n 0, 1) := by decide +kernel
theorem dX0_addCell_1 : decode cX0_addCell 1 = .ok (.getfield 9, 3) := by decide +kernel
theorem dX0_addCell_4 : decode cX0_addCell 4 = .ok (.ifCond .ne 9, 3) := by decide +kernel
theorem dX0_addCell_7 : decode cX0_addCell 7 = .ok (.aload_n 0, 1) := by decide +kernel
theorem dX0_addCell_8 : decode cX0_addCell 8 = .ok (.iload_n 1, 1) := by decide +kernel
theorem dX0_addCell_9 : decode cX0_addCell 9 = .ok (.iload_n 2, 1) := by decide +kernel
theorem dX0_addCell_10 : decode cX0_addCell 10 = .ok (.invokevirtual 15, 3) := by decide +kernel
theorem dX0_addCell_13 : decode cX0_addCell 13 = .ok (.aload_n 0, 1) := by decide +kernel
theorem dX0_addCell_14 : decode cX0_addCell 14 = .ok (.aload_n 0, 1) := by decide +kernel
theorem dX0_addCell_15 : decode cX0_addCell 15 = .ok (.getfield 19, 3) := by decide +kernel
theorem dX0_addCell_18 : decode cX0_addCell 18 = .ok (.iload_n 1, 1) := by decide +kernel
theorem dX0_addCell_19 : decode cX0_addCell 19 = .ok (.invokestatic 22, 3) := by decide +kernel
theorem dX0_addCell_22 : decode cX0_addCell 22 = .ok (.putfield 19, 3) := by decide +kernel
theorem dX0_addCell_25 : decode cX0_addCell 25 = .ok (.aload_n 0, 1) := by decide +kernel
theorem dX0_addCell_26 : decode cX0_addCell 26 = .ok (.aload_n 0, 1) := by decide +kernel
theorem dX0_addCell_27 : decode cX0_addCell 27 = .ok (.getfield 28, 3) := by decide +kernel
theorem dX0_addCell_30 : decode cX0_addCell 30 = .ok (.iload_n 2, 1) := by decide +kernel
theorem dX0_addCell_31 : decode cX0_addCell 31 = .ok (.invokestatic 31, 3) := by decide +kernel
theorem dX0_addCell_34 : decode cX0_addCell 34 = .ok (.putfield 28, 3) := by decide +kernel
theorem dX0_addCell_37 : decode cX0_addCell 37 = .ok (.aload_n 0, 1) := by decide +kernel
theorem dX0_addCell_38 : decode cX0_addCell 38 = .ok (.aload_n 0, 1) := by decide +kernel
theorem dX0_addCell_39 : decode cX0_addCell 39 = .ok (.getfield 34, 3) := by decide +kernel
theorem dX0_addCell_42 : decode cX0_addCell 42 = .ok (.iload_n 2, 1) := by decide +kernel
theorem dX0_addCell_43 : decode cX0_addCell 43 = .ok (.invokestatic 22, 3) := by decide +kernel
theorem dX0_addCell_46 : decode cX0_addCell 46 = .ok (.putfield 34, 3) := by decide +kernel
theorem dX0_addCell_49 : decode cX0_addCell 49 = .ok (.aload_n 0, 1) := by decide +kernel
theorem dX0_addCell_50 : decode cX0_addCell 50 = .ok (.dup, 1) := by decide +kernel
theorem dX0_addCell_51 : decode cX0_addCell 51 = .ok (.getfield 9, 3) := by decide +kernel
theorem dX0_addCell_54 : decode cX0_addCell 54 = .ok (.iconst 1, 1) := by decide +kernel
theorem dX0_addCell_55 : decode cX0_addCell 55 = .ok (.iadd, 1) := by decide +kernel
theorem dX0_addCell_56 : decode cX0_addCell 56 = .ok (.putfield 9, 3) := by decide +kernel
theorem dX0_addCell_59 : decode cX0_addCell 59 = .ok (.aload_n 0, 1) := by decide +kernel
theorem dX0_addCell_60 : decode cX0_addCell 60 = .ok (.dup, 1) := by decide +kernel
theorem dX0_addCell_61 : decode cX0_addCell 61 = .ok (.getfield 37, 3) := by decide +kernel
theorem dX0_addCell_64 : decode cX0_addCell 64 = .ok (.iload_n 3, 1) := by decide +kernel
theorem dX0_addCell_65 : decode cX0_addCell 65 = .ok (.iadd, 1) := by decide +kernel
theorem dX0_addCell_66 : decode cX0_addCell 66 = .ok (.putfield 37, 3) := by decide +kernel
theorem dX0_addCell_69 : decode cX0_addCell 69 = .ok (.aload_n 0, 1) := by decide +kernel
theorem dX0_addCell_70 : decode cX0_addCell 70 = .ok (.dup, 1) := by decide +kernel
theorem dX0_addCell_71 : decode cX0_addCell 71 = .ok (.getfield 40, 3) := by decide +kernel
theorem dX0_addCell_74 : decode cX0_addCell 74 = .ok (.iload 4, 2) := by decide +kernel
theorem dX0_addCell_76 : decode cX0_addCell 76 = .ok (.ifCond .eq 7, 3) := by decide +kernel
theorem dX0_addCell_79 : decode cX0_addCell 79 = .ok (.iconst 1, 1) := by decide +kernel
theorem dX0_addCell_80 : decode cX0_addCell 80 = .ok (.goto 4, 3) := by decide +kernel
theorem dX0_addCell_83 : decode cX0_addCell 83 = .ok (.iconst 0, 1) := by decide +kernel
theorem dX0_addCell_84 : decode cX0_addCell 84 = .ok (.iadd, 1) := by decide +kernel
theorem dX0_addCell_85 : decode cX0_addCell 85 = .ok (.putfield 40, 3) := by decide +kernel
theorem dX0_addCell_88 : decode cX0_addCell 88 = .ok (.return_, 1) := by decide +kernel
theorem dX0_beginAt_0 : decode cX0_beginAt 0 = .ok (.aload_n 0, 1) := by decide +kernel
theorem dX0_beginAt_1 : decode cX0_beginAt 1 = .ok (.iload_n 1, 1) := by decide +kernel
theorem dX0_beginAt_2 : decode cX0_beginAt 2 = .ok (.putfield 43, 3) := by decide +kernel
theorem dX0_beginAt_5 : decode cX0_beginAt 5 = .ok (.aload_n 0, 1) := by decide +kernel
theorem dX0_beginAt_6 : decode cX0_beginAt 6 = .ok (.iload_n 1, 1) := by decide +kernel
theorem dX0_beginAt_7 : decode cX0_beginAt 7 = .ok (.putfield 19, 3) := by decide +kernel
theorem dX0_beginAt_10 : decode cX0_beginAt 10 = .ok (.aload_n 0, 1) := by decide +kernel
theorem dX0_beginAt_11 : decode cX0_beginAt 11 = .ok (.iload_n 2, 1) := by decide +kernel
theorem dX0_beginAt_12 : decode cX0_beginAt 12 = .ok (.putfield 46, 3) := by decide +kernel
theorem dX0_beginAt_15 : decode cX0_beginAt 15 = .ok (.aload_n 0, 1) := by decide +kernel
theorem dX0_beginAt_16 : decode cX0_beginAt 16 = .ok (.iload_n 2, 1) := by decide +kernel
theorem dX0_beginAt_17 : decode cX0_beginAt 17 = .ok (.putfield 28, 3) := by decide +kernel
theorem dX0_beginAt_20 : decode cX0_beginAt 20 = .ok (.aload_n 0, 1) := by decide +kernel
theorem dX0_beginAt_21 : decode cX0_beginAt 21 = .ok (.iload_n 2, 1) := by decide +kernel
theorem dX0_beginAt_22 : decode cX0_beginAt 22 = .ok (.putfield 34, 3) := by decide +kernel
theorem dX0_beginAt_25 : decode cX0_beginAt 25 = .ok (.aload_n 0, 1) := by decide +kernel
theorem dX0_beginAt_26 : decode cX0_beginAt 26 = .ok (.iconst 0, 1) := by decide +kernel
theorem dX0_beginAt_27 : decode cX0_beginAt 27 = .ok (.putfield 37, 3) := by decide +kernel
theorem dX0_beginAt_30 : decode cX0_beginAt 30 = .ok (.aload_n 0, 1) := by decide +kernel
theorem dX0_beginAt_31 : decode cX0_beginAt 31 = .ok (.iconst 0, 1) := by decide +kernel
theorem dX0_beginAt_32 : decode cX0_beginAt 32 = .ok (.putfield 40, 3) := by decide +kernel
theorem dX0_beginAt_35 : decode cX0_beginAt 35 = .ok (.return_, 1) := by decide +kernel
theorem dX0_absorb_0 : decode cX0_absorb 0 = .ok (.aload_n 1, 1) := by decide +kernel
theorem dX0_absorb_1 : decode cX0_absorb 1 = .ok (.aload_n 0, 1) := by decide +kernel
theorem dX0_absorb_2 : decode cX0_absorb 2 = .ok (.invokevirtual 49, 3) := by decide +kernel
theorem dX0_absorb_5 : decode cX0_absorb 5 = .ok (.ifCond .eq 19, 3) := by decide +kernel
theorem dX0_absorb_8 : decode cX0_absorb 8 = .ok (.aload_n 0, 1) := by decide +kernel
theorem dX0_absorb_9 : decode cX0_absorb 9 = .ok (.aload_n 1, 1) := by decide +kernel
theorem dX0_absorb_10 : decode cX0_absorb 10 = .ok (.getfield 43, 3) := by decide +kernel
theorem dX0_absorb_13 : decode cX0_absorb 13 = .ok (.putfield 43, 3) := by decide +kernel
theorem dX0_absorb_16 : decode cX0_absorb 16 = .ok (.aload_n 0, 1) := by decide +kernel
theorem dX0_absorb_17 : decode cX0_absorb 17 = .ok (.aload_n 1, 1) := by decide +kernel
theorem dX0_absorb_18 : decode cX0_absorb 18 = .ok (.getfield 46, 3) := by decide +kernel
theorem dX0_absorb_21 : decode cX0_absorb 21 = .ok (.putfield 46, 3) := by decide +kernel
theorem dX0_absorb_24 : decode cX0_absorb 24 = .ok (.aload_n 0, 1) := by decide +kernel
theorem dX0_absorb_25 : decode cX0_absorb 25 = .ok (.aload_n 0, 1) := by decide +kernel
theorem dX0_absorb_26 : decode cX0_absorb 26 = .ok (.getfield 19, 3) := by decide +kernel
theorem dX0_absorb_29 : decode cX0_absorb 29 = .ok (.aload_n 1, 1) := by decide +kernel
theorem dX0_absorb_30 : decode cX0_absorb 30 = .ok (.getfield 19, 3) := by decide +kernel
theorem dX0_absorb_33 : decode cX0_absorb 33 = .ok (.invokestatic 22, 3) := by decide +kernel
theorem dX0_absorb_36 : decode cX0_absorb 36 = .ok (.putfield 19, 3) := by decide +kernel
theorem dX0_absorb_39 : decode cX0_absorb 39 = .ok (.aload_n 0, 1) := by decide +kernel
theorem dX0_absorb_40 : decode cX0_absorb 40 = .ok (.aload_n 0, 1) := by decide +kernel
theorem dX0_absorb_41 : decode cX0_absorb 41 = .ok (.getfield 28, 3) := by decide +kernel
theorem dX0_absorb_44 : decode cX0_absorb 44 = .ok (.aload_n 1, 1) := by decide +kernel
theorem dX0_absorb_45 : decode cX0_absorb 45 = .ok (.getfield 28, 3) := by decide +kernel
theorem dX0_absorb_48 : decode cX0_absorb 48 = .ok (.invokestatic 31, 3) := by decide +kernel
theorem dX0_absorb_51 : decode cX0_absorb 51 = .ok (.putfield 28, 3) := by decide +kernel
theorem dX0_absorb_54 : decode cX0_absorb 54 = .ok (.aload_n 0, 1) := by decide +kernel
theorem dX0_absorb_55 : decode cX0_absorb 55 = .ok (.aload_n 0, 1) := by decide +kernel
theorem dX0_absorb_56 : decode cX0_absorb 56 = .ok (.getfield 34, 3) := by decide +kernel
theorem dX0_absorb_59 : decode cX0_absorb 59 = .ok (.aload_n 1, 1) := by decide +kernel
theorem dX0_absorb_60 : decode cX0_absorb 60 = .ok (.getfield 34, 3) := by decide +kernel
theorem dX0_absorb_63 : decode cX0_absorb 63 = .ok (.invokestatic 22, 3) := by decide +kernel
theorem dX0_absorb_66 : decode cX0_absorb 66 = .ok (.putfield 34, 3) := by decide +kernel
theorem dX0_absorb_69 : decode cX0_absorb 69 = .ok (.aload_n 0, 1) := by decide +kernel
theorem dX0_absorb_70 : decode cX0_absorb 70 = .ok (.dup, 1) := by decide +kernel
theorem dX0_absorb_71 : decode cX0_absorb 71 = .ok (.getfield 9, 3) := by decide +kernel
theorem dX0_absorb_74 : decode cX0_absorb 74 = .ok (.aload_n 1, 1) := by decide +kernel
theorem dX0_absorb_75 : decode cX0_absorb 75 = .ok (.getfield 9, 3) := by decide +kernel
theorem dX0_absorb_78 : decode cX0_absorb 78 = .ok (.iadd, 1) := by decide +kernel
theorem dX0_absorb_79 : decode cX0_absorb 79 = .ok (.putfield 9, 3) := by decide +kernel
theorem dX0_absorb_82 : decode cX0_absorb 82 = .ok (.aload_n 0, 1) := by decide +kernel
theorem dX0_absorb_83 : decode cX0_absorb 83 = .ok (.dup, 1) := by decide +kernel
theorem dX0_absorb_84 : decode cX0_absorb 84 = .ok (.getfield 37, 3) := by decide +kernel
theorem dX0_absorb_87 : decode cX0_absorb 87 = .ok (.aload_n 1, 1) := by decide +kernel
theorem dX0_absorb_88 : decode cX0_absorb 88 = .ok (.getfield 37, 3) := by decide +kernel
theorem dX0_absorb_91 : decode cX0_absorb 91 = .ok (.iadd, 1) := by decide +kernel
theorem dX0_absorb_92 : decode cX0_absorb 92 = .ok (.putfield 37, 3) := by decide +kernel
theorem dX0_absorb_95 : decode cX0_absorb 95 = .ok (.aload_n 0, 1) := by decide +kernel
theorem dX0_absorb_96 : decode cX0_absorb 96 = .ok (.dup, 1) := by decide +kernel
theorem dX0_absorb_97 : decode cX0_absorb 97 = .ok (.getfield 40, 3) := by decide +kernel
theorem dX0_absorb_100 : decode cX0_absorb 100 = .ok (.aload_n 1, 1) := by decide +kernel
theorem dX0_absorb_101 : decode cX0_absorb 101 = .ok (.getfield 40, 3) := by decide +kernel
theorem dX0_absorb_104 : decode cX0_absorb 104 = .ok (.iadd, 1) := by decide +kernel
theorem dX0_absorb_105 : decode cX0_absorb 105 = .ok (.putfield 40, 3) := by decide +kernel
theorem dX0_absorb_108 : decode cX0_absorb 108 = .ok (.aload_n 1, 1) := by decide +kernel
theorem dX0_absorb_109 : decode cX0_absorb 109 = .ok (.iconst 0, 1) := by decide +kernel
theorem dX0_absorb_110 : decode cX0_absorb 110 = .ok (.putfield 9, 3) := by decide +kernel
theorem dX0_absorb_113 : decode cX0_absorb 113 = .ok (.return_, 1) := by decide +kernel
theorem dX0_copyFrom_0 : decode cX0_copyFrom 0 = .ok (.aload_n 0, 1) := by decide +kernel
theorem dX0_copyFrom_1 : decode cX0_copyFrom 1 = .ok (.aload_n 1, 1) := by decide +kernel
theorem dX0_copyFrom_2 : decode cX0_copyFrom 2 = .ok (.getfield 43, 3) := by decide +kernel
theorem dX0_copyFrom_5 : decode cX0_copyFrom 5 = .ok (.putfield 43, 3) := by decide +kernel
theorem dX0_copyFrom_8 : decode cX0_copyFrom 8 = .ok (.aload_n 0, 1) := by decide +kernel
theorem dX0_copyFrom_9 : decode cX0_copyFrom 9 = .ok (.aload_n 1, 1) := by decide +kernel
theorem dX0_copyFrom_10 : decode cX0_copyFrom 10 = .ok (.getfield 19, 3) := by decide +kernel
theorem dX0_copyFrom_13 : decode cX0_copyFrom 13 = .ok (.putfield 19, 3) := by decide +kernel
theorem dX0_copyFrom_16 : decode cX0_copyFrom 16 = .ok (.aload_n 0, 1) := by decide +kernel
theorem dX0_copyFrom_17 : decode cX0_copyFrom 17 = .ok (.aload_n 1, 1) := by decide +kernel
theorem dX0_copyFrom_18 : decode cX0_copyFrom 18 = .ok (.getfield 46, 3) := by decide +kernel
theorem dX0_copyFrom_21 : decode cX0_copyFrom 21 = .ok (.putfield 46, 3) := by decide +kernel
theorem dX0_copyFrom_24 : decode cX0_copyFrom 24 = .ok (.aload_n 0, 1) := by decide +kernel
theorem dX0_copyFrom_25 : decode cX0_copyFrom 25 = .ok (.aload_n 1, 1) := by decide +kernel
theorem dX0_copyFrom_26 : decode cX0_copyFrom 26 = .ok (.getfield 28, 3) := by decide +kernel
theorem dX0_copyFrom_29 : decode cX0_copyFrom 29 = .ok (.putfield 28, 3) := by decide +kernel
theorem dX0_copyFrom_32 : decode cX0_copyFrom 32 = .ok (.aload_n 0, 1) := by decide +kernel
theorem dX0_copyFrom_33 : decode cX0_copyFrom 33 = .ok (.aload_n 1, 1) := by decide +kernel
theorem dX0_copyFrom_34 : decode cX0_copyFrom 34 = .ok (.getfield 34, 3) := by decide +kernel
theorem dX0_copyFrom_37 : decode cX0_copyFrom 37 = .ok (.putfield 34, 3) := by decide +kernel
theorem dX0_copyFrom_40 : decode cX0_copyFrom 40 = .ok (.aload_n 0, 1) := by decide +kernel
theorem dX0_copyFrom_41 : decode cX0_copyFrom 41 = .ok (.aload_n 1, 1) := by decide +kernel
theorem dX0_copyFrom_42 : decode cX0_copyFrom 42 = .ok (.getfield 9, 3) := by decide +kernel
theorem dX0_copyFrom_45 : decode cX0_copyFrom 45 = .ok (.putfield 9, 3) := by decide +kernel
theorem dX0_copyFrom_48 : decode cX0_copyFrom 48 = .ok (.aload_n 0, 1) := by decide +kernel
theorem dX0_copyFrom_49 : decode cX0_copyFrom 49 = .ok (.aload_n 1, 1) := by decide +kernel
theorem dX0_copyFrom_50 : decode cX0_copyFrom 50 = .ok (.getfield 37, 3) := by decide +kernel
theorem dX0_copyFrom_53 : decode cX0_copyFrom 53 = .ok (.putfield 37, 3) := by decide +kernel
theorem dX0_copyFrom_56 : decode cX0_copyFrom 56 = .ok (.aload_n 0, 1) := by decide +kernel
theorem dX0_copyFrom_57 : decode cX0_copyFrom 57 = .ok (.aload_n 1, 1) := by decide +kernel
theorem dX0_copyFrom_58 : decode cX0_copyFrom 58 = .ok (.getfield 40, 3) := by decide +kernel
theorem dX0_copyFrom_61 : decode cX0_copyFrom 61 = .ok (.putfield 40, 3) := by decide +kernel
theorem dX0_copyFrom_64 : decode cX0_copyFrom 64 = .ok (.return_, 1) := by decide +kernel
theorem dX0_beganBefore_0 : decode cX0_beganBefore 0 = .ok (.aload_n 0, 1) := by decide +kernel
theorem dX0_beganBefore_1 : decode cX0_beganBefore 1 = .ok (.getfield 43, 3) := by decide +kernel
theorem dX0_beganBefore_4 : decode cX0_beganBefore 4 = .ok (.aload_n 1, 1) := by decide +kernel
theorem dX0_beganBefore_5 : decode cX0_beganBefore 5 = .ok (.getfield 43, 3) := by decide +kernel
theorem dX0_beganBefore_8 : decode cX0_beganBefore 8 = .ok (.if_icmp .lt 25, 3) := by decide +kernel
theorem dX0_beganBefore_11 : decode cX0_beganBefore 11 = .ok (.aload_n 0, 1) := by decide +kernel
theorem dX0_beganBefore_12 : decode cX0_beganBefore 12 = .ok (.getfield 43, 3) := by decide +kernel
theorem dX0_beganBefore_15 : decode cX0_beganBefore 15 = .ok (.aload_n 1, 1) := by decide +kernel
theorem dX0_beganBefore_16 : decode cX0_beganBefore 16 = .ok (.getfield 43, 3) := by decide +kernel
theorem dX0_beganBefore_19 : decode cX0_beganBefore 19 = .ok (.if_icmp .ne 18, 3) := by decide +kernel
theorem dX0_beganBefore_22 : decode cX0_beganBefore 22 = .ok (.aload_n 0, 1) := by decide +kernel
theorem dX0_beganBefore_23 : decode cX0_beganBefore 23 = .ok (.getfield 46, 3) := by decide +kernel
theorem dX0_beganBefore_26 : decode cX0_beganBefore 26 = .ok (.aload_n 1, 1) := by decide +kernel
theorem dX0_beganBefore_27 : decode cX0_beganBefore 27 = .ok (.getfield 46, 3) := by decide +kernel
theorem dX0_beganBefore_30 : decode cX0_beganBefore 30 = .ok (.if_icmp .ge 7, 3) := by decide +kernel
theorem dX0_beganBefore_33 : decode cX0_beganBefore 33 = .ok (.iconst 1, 1) := by decide +kernel
theorem dX0_beganBefore_34 : decode cX0_beganBefore 34 = .ok (.goto 4, 3) := by decide +kernel
theorem dX0_beganBefore_37 : decode cX0_beganBefore 37 = .ok (.iconst 0, 1) := by decide +kernel
theorem dX0_beganBefore_38 : decode cX0_beganBefore 38 = .ok (.ireturn, 1) := by decide +kernel
theorem dX0_endTick_0 : decode cX0_endTick 0 = .ok (.aload_n 0, 1) := by decide +kernel
theorem dX0_endTick_1 : decode cX0_endTick 1 = .ok (.getfield 19, 3) := by decide +kernel
theorem dX0_endTick_4 : decode cX0_endTick 4 = .ok (.iconst 1, 1) := by decide +kernel
theorem dX0_endTick_5 : decode cX0_endTick 5 = .ok (.iadd, 1) := by decide +kernel
theorem dX0_endTick_6 : decode cX0_endTick 6 = .ok (.ireturn, 1) := by decide +kernel
theorem dX0_mean_0 : decode cX0_mean 0 = .ok (.aload_n 0, 1) := by decide +kernel
theorem dX0_mean_1 : decode cX0_mean 1 = .ok (.getfield 9, 3) := by decide +kernel
theorem dX0_mean_4 : decode cX0_mean 4 = .ok (.ifCond .le 15, 3) := by decide +kernel
theorem dX0_mean_7 : decode cX0_mean 7 = .ok (.aload_n 0, 1) := by decide +kernel
theorem dX0_mean_8 : decode cX0_mean 8 = .ok (.getfield 37, 3) := by decide +kernel
theorem dX0_mean_11 : decode cX0_mean 11 = .ok (.aload_n 0, 1) := by decide +kernel
theorem dX0_mean_12 : decode cX0_mean 12 = .ok (.getfield 9, 3) := by decide +kernel
theorem dX0_mean_15 : decode cX0_mean 15 = .ok (.idiv, 1) := by decide +kernel
theorem dX0_mean_16 : decode cX0_mean 16 = .ok (.goto 4, 3) := by decide +kernel
theorem dX0_mean_19 : decode cX0_mean 19 = .ok (.iconst 0, 1) := by decide +kernel
theorem dX0_mean_20 : decode cX0_mean 20 = .ok (.ireturn, 1) := by decide +kernel
theorem dX0_measure_0 : decode cX0_measure 0 = .ok (.iload_n 1, 1) := by decide +kernel
theorem dX0_measure_1 : decode cX0_measure 1 = .ok (.tableswitch 42 0 2 #[27, 32, 37], 27) := by decide +kernel
theorem dX0_measure_28 : decode cX0_measure 28 = .ok (.aload_n 0, 1) := by decide +kernel
theorem dX0_measure_29 : decode cX0_measure 29 = .ok (.invokevirtual 53, 3) := by decide +kernel
theorem dX0_measure_32 : decode cX0_measure 32 = .ok (.ireturn, 1) := by decide +kernel
theorem dX0_measure_33 : decode cX0_measure 33 = .ok (.aload_n 0, 1) := by decide +kernel
theorem dX0_measure_34 : decode cX0_measure 34 = .ok (.getfield 40, 3) := by decide +kernel
theorem dX0_measure_37 : decode cX0_measure 37 = .ok (.ireturn, 1) := by decide +kernel
theorem dX0_measure_38 : decode cX0_measure 38 = .ok (.aload_n 0, 1) := by decide +kernel
theorem dX0_measure_39 : decode cX0_measure 39 = .ok (.getfield 9, 3) := by decide +kernel
theorem dX0_measure_42 : decode cX0_measure 42 = .ok (.ireturn, 1) := by decide +kernel
theorem dX0_measure_43 : decode cX0_measure 43 = .ok (.aload_n 0, 1) := by decide +kernel
theorem dX0_measure_44 : decode cX0_measure 44 = .ok (.getfield 19, 3) := by decide +kernel
theorem dX0_measure_47 : decode cX0_measure 47 = .ok (.aload_n 0, 1) := by decide +kernel
theorem dX0_measure_48 : decode cX0_measure 48 = .ok (.getfield 43, 3) := by decide +kernel
theorem dX0_measure_51 : decode cX0_measure 51 = .ok (.isub, 1) := by decide +kernel
theorem dX0_measure_52 : decode cX0_measure 52 = .ok (.iconst 1, 1) := by decide +kernel
theorem dX0_measure_53 : decode cX0_measure 53 = .ok (.iadd, 1) := by decide +kernel
theorem dX0_measure_54 : decode cX0_measure 54 = .ok (.ireturn, 1) := by decide +kernel
theorem dX0_worth_0 : decode cX0_worth 0 = .ok (.aload_n 0, 1) := by decide +kernel
theorem dX0_worth_1 : decode cX0_worth 1 = .ok (.getfield 40, 3) := by decide +kernel
theorem dX0_worth_4 : decode cX0_worth 4 = .ok (.ifCond .ne 10, 3) := by decide +kernel
theorem dX0_worth_7 : decode cX0_worth 7 = .ok (.aload_n 0, 1) := by decide +kernel
theorem dX0_worth_8 : decode cX0_worth 8 = .ok (.getfield 9, 3) := by decide +kernel
theorem dX0_worth_11 : decode cX0_worth 11 = .ok (.goto 10, 3) := by decide +kernel
theorem dX0_worth_14 : decode cX0_worth 14 = .ok (.bipush (-3), 2) := by decide +kernel
theorem dX0_worth_16 : decode cX0_worth 16 = .ok (.aload_n 0, 1) := by decide +kernel
theorem dX0_worth_17 : decode cX0_worth 17 = .ok (.getfield 40, 3) := by decide +kernel
theorem dX0_worth_20 : decode cX0_worth 20 = .ok (.imul, 1) := by decide +kernel
theorem dX0_worth_21 : decode cX0_worth 21 = .ok (.ireturn, 1) := by decide +kernel
theorem dX1_init_0 : decode cX1_init 0 = .ok (.aload_n 0, 1) := by decide +kernel
theorem dX1_init_1 : decode cX1_init 1 = .ok (.invokespecial 3, 3) := by decide +kernel
theorem dX1_init_4 : decode cX1_init 4 = .ok (.aload_n 0, 1) := by decide +kernel
theorem dX1_init_5 : decode cX1_init 5 = .ok (.bipush 31, 2) := by decide +kernel
theorem dX1_init_7 : decode cX1_init 7 = .ok (.anewarray 9, 3) := by decide +kernel
theorem dX1_init_10 : decode cX1_init 10 = .ok (.putfield 11, 3) := by decide +kernel
theorem dX1_init_13 : decode cX1_init 13 = .ok (.aload_n 0, 1) := by decide +kernel
theorem dX1_init_14 : decode cX1_init 14 = .ok (.bipush 16, 2) := by decide +kernel
theorem dX1_init_16 : decode cX1_init 16 = .ok (.anewarray 9, 3) := by decide +kernel
theorem dX1_init_19 : decode cX1_init 19 = .ok (.putfield 17, 3) := by decide +kernel
theorem dX1_init_22 : decode cX1_init 22 = .ok (.aload_n 0, 1) := by decide +kernel
theorem dX1_init_23 : decode cX1_init 23 = .ok (.bipush 16, 2) := by decide +kernel
theorem dX1_init_25 : decode cX1_init 25 = .ok (.newarray .int, 2) := by decide +kernel
theorem dX1_init_27 : decode cX1_init 27 = .ok (.putfield 20, 3) := by decide +kernel
theorem dX1_init_30 : decode cX1_init 30 = .ok (.aload_n 0, 1) := by decide +kernel
theorem dX1_init_31 : decode cX1_init 31 = .ok (.bipush 16, 2) := by decide +kernel
theorem dX1_init_33 : decode cX1_init 33 = .ok (.newarray .int, 2) := by decide +kernel
theorem dX1_init_35 : decode cX1_init 35 = .ok (.putfield 24, 3) := by decide +kernel
theorem dX1_init_38 : decode cX1_init 38 = .ok (.iconst 0, 1) := by decide +kernel
theorem dX1_init_39 : decode cX1_init 39 = .ok (.istore_n 1, 1) := by decide +kernel
theorem dX1_init_40 : decode cX1_init 40 = .ok (.iload_n 1, 1) := by decide +kernel
theorem dX1_init_41 : decode cX1_init 41 = .ok (.aload_n 0, 1) := by decide +kernel
theorem dX1_init_42 : decode cX1_init 42 = .ok (.getfield 11, 3) := by decide +kernel
theorem dX1_init_45 : decode cX1_init 45 = .ok (.arraylength, 1) := by decide +kernel
theorem dX1_init_46 : decode cX1_init 46 = .ok (.if_icmp .ge 22, 3) := by decide +kernel
theorem dX1_init_49 : decode cX1_init 49 = .ok (.aload_n 0, 1) := by decide +kernel
theorem dX1_init_50 : decode cX1_init 50 = .ok (.getfield 11, 3) := by decide +kernel
theorem dX1_init_53 : decode cX1_init 53 = .ok (.iload_n 1, 1) := by decide +kernel
theorem dX1_init_54 : decode cX1_init 54 = .ok (.new 9, 3) := by decide +kernel
theorem dX1_init_57 : decode cX1_init 57 = .ok (.dup, 1) := by decide +kernel
theorem dX1_init_58 : decode cX1_init 58 = .ok (.invokespecial 27, 3) := by decide +kernel
theorem dX1_init_61 : decode cX1_init 61 = .ok (.aastore, 1) := by decide +kernel
theorem dX1_init_62 : decode cX1_init 62 = .ok (.iinc 1 1, 3) := by decide +kernel
theorem dX1_init_65 : decode cX1_init 65 = .ok (.goto (-25), 3) := by decide +kernel
theorem dX1_init_68 : decode cX1_init 68 = .ok (.iconst 0, 1) := by decide +kernel
theorem dX1_init_69 : decode cX1_init 69 = .ok (.istore_n 1, 1) := by decide +kernel
theorem dX1_init_70 : decode cX1_init 70 = .ok (.iload_n 1, 1) := by decide +kernel
theorem dX1_init_71 : decode cX1_init 71 = .ok (.aload_n 0, 1) := by decide +kernel
theorem dX1_init_72 : decode cX1_init 72 = .ok (.getfield 17, 3) := by decide +kernel
theorem dX1_init_75 : decode cX1_init 75 = .ok (.arraylength, 1) := by decide +kernel
theorem dX1_init_76 : decode cX1_init 76 = .ok (.if_icmp .ge 22, 3) := by decide +kernel
theorem dX1_init_79 : decode cX1_init 79 = .ok (.aload_n 0, 1) := by decide +kernel
theorem dX1_init_80 : decode cX1_init 80 = .ok (.getfield 17, 3) := by decide +kernel
theorem dX1_init_83 : decode cX1_init 83 = .ok (.iload_n 1, 1) := by decide +kernel
theorem dX1_init_84 : decode cX1_init 84 = .ok (.new 9, 3) := by decide +kernel
theorem dX1_init_87 : decode cX1_init 87 = .ok (.dup, 1) := by decide +kernel
theorem dX1_init_88 : decode cX1_init 88 = .ok (.invokespecial 27, 3) := by decide +kernel
theorem dX1_init_91 : decode cX1_init 91 = .ok (.aastore, 1) := by decide +kernel
theorem dX1_init_92 : decode cX1_init 92 = .ok (.iinc 1 1, 3) := by decide +kernel
theorem dX1_init_95 : decode cX1_init 95 = .ok (.goto (-25), 3) := by decide +kernel
theorem dX1_init_98 : decode cX1_init 98 = .ok (.return_, 1) := by decide +kernel
theorem dX1_empty_0 : decode cX1_empty 0 = .ok (.aload_n 0, 1) := by decide +kernel
theorem dX1_empty_1 : decode cX1_empty 1 = .ok (.iconst 0, 1) := by decide +kernel
theorem dX1_empty_2 : decode cX1_empty 2 = .ok (.putfield 28, 3) := by decide +kernel
theorem dX1_empty_5 : decode cX1_empty 5 = .ok (.iconst 0, 1) := by decide +kernel
theorem dX1_empty_6 : decode cX1_empty 6 = .ok (.istore_n 1, 1) := by decide +kernel
theorem dX1_empty_7 : decode cX1_empty 7 = .ok (.iload_n 1, 1) := by decide +kernel
theorem dX1_empty_8 : decode cX1_empty 8 = .ok (.aload_n 0, 1) := by decide +kernel
theorem dX1_empty_9 : decode cX1_empty 9 = .ok (.getfield 17, 3) := by decide +kernel
theorem dX1_empty_12 : decode cX1_empty 12 = .ok (.arraylength, 1) := by decide +kernel
theorem dX1_empty_13 : decode cX1_empty 13 = .ok (.if_icmp .ge 19, 3) := by decide +kernel
theorem dX1_empty_16 : decode cX1_empty 16 = .ok (.aload_n 0, 1) := by decide +kernel
theorem dX1_empty_17 : decode cX1_empty 17 = .ok (.getfield 17, 3) := by decide +kernel
theorem dX1_empty_20 : decode cX1_empty 20 = .ok (.iload_n 1, 1) := by decide +kernel
theorem dX1_empty_21 : decode cX1_empty 21 = .ok (.aaload, 1) := by decide +kernel
theorem dX1_empty_22 : decode cX1_empty 22 = .ok (.iconst 0, 1) := by decide +kernel
theorem dX1_empty_23 : decode cX1_empty 23 = .ok (.putfield 32, 3) := by decide +kernel
theorem dX1_empty_26 : decode cX1_empty 26 = .ok (.iinc 1 1, 3) := by decide +kernel
theorem dX1_empty_29 : decode cX1_empty 29 = .ok (.goto (-22), 3) := by decide +kernel
theorem dX1_empty_32 : decode cX1_empty 32 = .ok (.aload_n 0, 1) := by decide +kernel
theorem dX1_empty_33 : decode cX1_empty 33 = .ok (.getfield 20, 3) := by decide +kernel
theorem dX1_empty_36 : decode cX1_empty 36 = .ok (.iconst (-1), 1) := by decide +kernel
theorem dX1_empty_37 : decode cX1_empty 37 = .ok (.invokestatic 35, 3) := by decide +kernel
theorem dX1_empty_40 : decode cX1_empty 40 = .ok (.return_, 1) := by decide +kernel
theorem dX1_addLine_0 : decode cX1_addLine 0 = .ok (.aload_n 0, 1) := by decide +kernel
theorem dX1_addLine_1 : decode cX1_addLine 1 = .ok (.getfield 24, 3) := by decide +kernel
theorem dX1_addLine_4 : decode cX1_addLine 4 = .ok (.iconst (-1), 1) := by decide +kernel
theorem dX1_addLine_5 : decode cX1_addLine 5 = .ok (.invokestatic 35, 3) := by decide +kernel
theorem dX1_addLine_8 : decode cX1_addLine 8 = .ok (.aload_n 1, 1) := by decide +kernel
theorem dX1_addLine_9 : decode cX1_addLine 9 = .ok (.invokevirtual 41, 3) := by decide +kernel
theorem dX1_addLine_12 : decode cX1_addLine 12 = .ok (.lstore 5, 2) := by decide +kernel
theorem dX1_addLine_14 : decode cX1_addLine 14 = .ok (.iconst 0, 1) := by decide +kernel
theorem dX1_addLine_15 : decode cX1_addLine 15 = .ok (.istore 7, 2) := by decide +kernel
theorem dX1_addLine_17 : decode cX1_addLine 17 = .ok (.iload 7, 2) := by decide +kernel
theorem dX1_addLine_19 : decode cX1_addLine 19 = .ok (.aload_n 1, 1) := by decide +kernel
theorem dX1_addLine_20 : decode cX1_addLine 20 = .ok (.getfield 47, 3) := by decide +kernel
theorem dX1_addLine_23 : decode cX1_addLine 23 = .ok (.if_icmp .ge 68, 3) := by decide +kernel
theorem dX1_addLine_26 : decode cX1_addLine 26 = .ok (.lload 5, 2) := by decide +kernel
theorem dX1_addLine_28 : decode cX1_addLine 28 = .ok (.ldc2_w 50, 3) := by decide +kernel
theorem dX1_addLine_31 : decode cX1_addLine 31 = .ok (.ldiv, 1) := by decide +kernel
theorem dX1_addLine_32 : decode cX1_addLine 32 = .ok (.lstore 5, 2) := by decide +kernel
theorem dX1_addLine_34 : decode cX1_addLine 34 = .ok (.lload 5, 2) := by decide +kernel
theorem dX1_addLine_36 : decode cX1_addLine 36 = .ok (.lconst 0, 1) := by decide +kernel
theorem dX1_addLine_37 : decode cX1_addLine 37 = .ok (.lcmp, 1) := by decide +kernel
theorem dX1_addLine_38 : decode cX1_addLine 38 = .ok (.ifCond .le 15, 3) := by decide +kernel
theorem dX1_addLine_41 : decode cX1_addLine 41 = .ok (.lload_n 2, 1) := by decide +kernel
theorem dX1_addLine_42 : decode cX1_addLine 42 = .ok (.lload 5, 2) := by decide +kernel
theorem dX1_addLine_44 : decode cX1_addLine 44 = .ok (.ldiv, 1) := by decide +kernel
theorem dX1_addLine_45 : decode cX1_addLine 45 = .ok (.ldc2_w 50, 3) := by decide +kernel
theorem dX1_addLine_48 : decode cX1_addLine 48 = .ok (.lrem, 1) := by decide +kernel
theorem dX1_addLine_49 : decode cX1_addLine 49 = .ok (.l2i, 1) := by decide +kernel
theorem dX1_addLine_50 : decode cX1_addLine 50 = .ok (.goto 4, 3) := by decide +kernel
theorem dX1_addLine_53 : decode cX1_addLine 53 = .ok (.iconst 0, 1) := by decide +kernel
theorem dX1_addLine_54 : decode cX1_addLine 54 = .ok (.istore 8, 2) := by decide +kernel
theorem dX1_addLine_56 : decode cX1_addLine 56 = .ok (.iload 8, 2) := by decide +kernel
theorem dX1_addLine_58 : decode cX1_addLine 58 = .ok (.ifCond .le 27, 3) := by decide +kernel
theorem dX1_addLine_61 : decode cX1_addLine 61 = .ok (.aload_n 0, 1) := by decide +kernel
theorem dX1_addLine_62 : decode cX1_addLine 62 = .ok (.iload 4, 2) := by decide +kernel
theorem dX1_addLine_64 : decode cX1_addLine 64 = .ok (.iload 7, 2) := by decide +kernel
theorem dX1_addLine_66 : decode cX1_addLine 66 = .ok (.iload 8, 2) := by decide +kernel
theorem dX1_addLine_68 : decode cX1_addLine 68 = .ok (.iload 8, 2) := by decide +kernel
theorem dX1_addLine_70 : decode cX1_addLine 70 = .ok (.aload_n 1, 1) := by decide +kernel
theorem dX1_addLine_71 : decode cX1_addLine 71 = .ok (.getfield 52, 3) := by decide +kernel
theorem dX1_addLine_74 : decode cX1_addLine 74 = .ok (.if_icmp .lt 7, 3) := by decide +kernel
theorem dX1_addLine_77 : decode cX1_addLine 77 = .ok (.iconst 1, 1) := by decide +kernel
theorem dX1_addLine_78 : decode cX1_addLine 78 = .ok (.goto 4, 3) := by decide +kernel
theorem dX1_addLine_81 : decode cX1_addLine 81 = .ok (.iconst 0, 1) := by decide +kernel
theorem dX1_addLine_82 : decode cX1_addLine 82 = .ok (.invokevirtual 55, 3) := by decide +kernel
theorem dX1_addLine_85 : decode cX1_addLine 85 = .ok (.iinc 7 1, 3) := by decide +kernel
theorem dX1_addLine_88 : decode cX1_addLine 88 = .ok (.goto (-71), 3) := by decide +kernel
theorem dX1_addLine_91 : decode cX1_addLine 91 = .ok (.aload_n 0, 1) := by decide +kernel
theorem dX1_addLine_92 : decode cX1_addLine 92 = .ok (.getfield 20, 3) := by decide +kernel
theorem dX1_addLine_95 : decode cX1_addLine 95 = .ok (.astore 7, 2) := by decide +kernel
theorem dX1_addLine_97 : decode cX1_addLine 97 = .ok (.aload_n 0, 1) := by decide +kernel
theorem dX1_addLine_98 : decode cX1_addLine 98 = .ok (.aload_n 0, 1) := by decide +kernel
theorem dX1_addLine_99 : decode cX1_addLine 99 = .ok (.getfield 24, 3) := by decide +kernel
theorem dX1_addLine_102 : decode cX1_addLine 102 = .ok (.putfield 20, 3) := by decide +kernel
theorem dX1_addLine_105 : decode cX1_addLine 105 = .ok (.aload_n 0, 1) := by decide +kernel
theorem dX1_addLine_106 : decode cX1_addLine 106 = .ok (.aload 7, 2) := by decide +kernel
theorem dX1_addLine_108 : decode cX1_addLine 108 = .ok (.putfield 24, 3) := by decide +kernel
theorem dX1_addLine_111 : decode cX1_addLine 111 = .ok (.aload_n 0, 1) := by decide +kernel
theorem dX1_addLine_112 : decode cX1_addLine 112 = .ok (.iload 4, 2) := by decide +kernel
theorem dX1_addLine_114 : decode cX1_addLine 114 = .ok (.invokevirtual 59, 3) := by decide +kernel
theorem dX1_addLine_117 : decode cX1_addLine 117 = .ok (.ireturn, 1) := by decide +kernel
theorem dX1_addCell_0 : decode cX1_addCell 0 = .ok (.aload_n 0, 1) := by decide +kernel
theorem dX1_addCell_1 : decode cX1_addCell 1 = .ok (.getfield 24, 3) := by decide +kernel
theorem dX1_addCell_4 : decode cX1_addCell 4 = .ok (.iload_n 2, 1) := by decide +kernel
theorem dX1_addCell_5 : decode cX1_addCell 5 = .ok (.iconst 1, 1) := by decide +kernel
theorem dX1_addCell_6 : decode cX1_addCell 6 = .ok (.isub, 1) := by decide +kernel
theorem dX1_addCell_7 : decode cX1_addCell 7 = .ok (.invokestatic 63, 3) := by decide +kernel
theorem dX1_addCell_10 : decode cX1_addCell 10 = .ok (.istore 5, 2) := by decide +kernel
theorem dX1_addCell_12 : decode cX1_addCell 12 = .ok (.iload 5, 2) := by decide +kernel
theorem dX1_addCell_14 : decode cX1_addCell 14 = .ok (.iconst (-1), 1) := by decide +kernel
theorem dX1_addCell_15 : decode cX1_addCell 15 = .ok (.if_icmp .ne 9, 3) := by decide +kernel
theorem dX1_addCell_18 : decode cX1_addCell 18 = .ok (.aload_n 0, 1) := by decide +kernel
theorem dX1_addCell_19 : decode cX1_addCell 19 = .ok (.invokevirtual 67, 3) := by decide +kernel
theorem dX1_addCell_22 : decode cX1_addCell 22 = .ok (.istore 5, 2) := by decide +kernel
theorem dX1_addCell_24 : decode cX1_addCell 24 = .ok (.iload 5, 2) := by decide +kernel
theorem dX1_addCell_26 : decode cX1_addCell 26 = .ok (.ifCond .lt 26, 3) := by decide +kernel
theorem dX1_addCell_29 : decode cX1_addCell 29 = .ok (.iload 5, 2) := by decide +kernel
theorem dX1_addCell_31 : decode cX1_addCell 31 = .ok (.aload_n 0, 1) := by decide +kernel
theorem dX1_addCell_32 : decode cX1_addCell 32 = .ok (.getfield 17, 3) := by decide +kernel
theorem dX1_addCell_35 : decode cX1_addCell 35 = .ok (.arraylength, 1) := by decide +kernel
theorem dX1_addCell_36 : decode cX1_addCell 36 = .ok (.if_icmp .ge 16, 3) := by decide +kernel
theorem dX1_addCell_39 : decode cX1_addCell 39 = .ok (.iload_n 2, 1) := by decide +kernel
theorem dX1_addCell_40 : decode cX1_addCell 40 = .ok (.ifCond .lt 12, 3) := by decide +kernel
theorem dX1_addCell_43 : decode cX1_addCell 43 = .ok (.iload_n 2, 1) := by decide +kernel
theorem dX1_addCell_44 : decode cX1_addCell 44 = .ok (.aload_n 0, 1) := by decide +kernel
theorem dX1_addCell_45 : decode cX1_addCell 45 = .ok (.getfield 24, 3) := by decide +kernel
theorem dX1_addCell_48 : decode cX1_addCell 48 = .ok (.arraylength, 1) := by decide +kernel
theorem dX1_addCell_49 : decode cX1_addCell 49 = .ok (.if_icmp .lt 4, 3) := by decide +kernel
theorem dX1_addCell_52 : decode cX1_addCell 52 = .ok (.return_, 1) := by decide +kernel
theorem dX1_addCell_53 : decode cX1_addCell 53 = .ok (.aload_n 0, 1) := by decide +kernel
theorem dX1_addCell_54 : decode cX1_addCell 54 = .ok (.getfield 24, 3) := by decide +kernel
theorem dX1_addCell_57 : decode cX1_addCell 57 = .ok (.iload_n 2, 1) := by decide +kernel
theorem dX1_addCell_58 : decode cX1_addCell 58 = .ok (.iload 5, 2) := by decide +kernel
theorem dX1_addCell_60 : decode cX1_addCell 60 = .ok (.iastore, 1) := by decide +kernel
theorem dX1_addCell_61 : decode cX1_addCell 61 = .ok (.aload_n 0, 1) := by decide +kernel
theorem dX1_addCell_62 : decode cX1_addCell 62 = .ok (.getfield 17, 3) := by decide +kernel
theorem dX1_addCell_65 : decode cX1_addCell 65 = .ok (.iload 5, 2) := by decide +kernel
theorem dX1_addCell_67 : decode cX1_addCell 67 = .ok (.aaload, 1) := by decide +kernel
theorem dX1_addCell_68 : decode cX1_addCell 68 = .ok (.iload_n 1, 1) := by decide +kernel
theorem dX1_addCell_69 : decode cX1_addCell 69 = .ok (.iload_n 2, 1) := by decide +kernel
theorem dX1_addCell_70 : decode cX1_addCell 70 = .ok (.iload_n 3, 1) := by decide +kernel
theorem dX1_addCell_71 : decode cX1_addCell 71 = .ok (.iload 4, 2) := by decide +kernel
theorem dX1_addCell_73 : decode cX1_addCell 73 = .ok (.invokevirtual 71, 3) := by decide +kernel
theorem dX1_addCell_76 : decode cX1_addCell 76 = .ok (.iload_n 2, 1) := by decide +kernel
theorem dX1_addCell_77 : decode cX1_addCell 77 = .ok (.iconst 1, 1) := by decide +kernel
theorem dX1_addCell_78 : decode cX1_addCell 78 = .ok (.isub, 1) := by decide +kernel
theorem dX1_addCell_79 : decode cX1_addCell 79 = .ok (.istore 6, 2) := by decide +kernel
theorem dX1_addCell_81 : decode cX1_addCell 81 = .ok (.iload 6, 2) := by decide +kernel
theorem dX1_addCell_83 : decode cX1_addCell 83 = .ok (.iload_n 2, 1) := by decide +kernel
theorem dX1_addCell_84 : decode cX1_addCell 84 = .ok (.iconst 1, 1) := by decide +kernel
theorem dX1_addCell_85 : decode cX1_addCell 85 = .ok (.iadd, 1) := by decide +kernel
theorem dX1_addCell_86 : decode cX1_addCell 86 = .ok (.if_icmp .gt 24, 3) := by decide +kernel
theorem dX1_addCell_89 : decode cX1_addCell 89 = .ok (.aload_n 0, 1) := by decide +kernel
theorem dX1_addCell_90 : decode cX1_addCell 90 = .ok (.iload 5, 2) := by decide +kernel
theorem dX1_addCell_92 : decode cX1_addCell 92 = .ok (.aload_n 0, 1) := by decide +kernel
theorem dX1_addCell_93 : decode cX1_addCell 93 = .ok (.getfield 20, 3) := by decide +kernel
theorem dX1_addCell_96 : decode cX1_addCell 96 = .ok (.iload 6, 2) := by decide +kernel
theorem dX1_addCell_98 : decode cX1_addCell 98 = .ok (.invokestatic 63, 3) := by decide +kernel
theorem dX1_addCell_101 : decode cX1_addCell 101 = .ok (.invokevirtual 72, 3) := by decide +kernel
theorem dX1_addCell_104 : decode cX1_addCell 104 = .ok (.iinc 6 1, 3) := by decide +kernel
theorem dX1_addCell_107 : decode cX1_addCell 107 = .ok (.goto (-26), 3) := by decide +kernel
theorem dX1_addCell_110 : decode cX1_addCell 110 = .ok (.return_, 1) := by decide +kernel
theorem dX1_ownerAt_0 : decode cX1_ownerAt 0 = .ok (.iload_n 1, 1) := by decide +kernel
theorem dX1_ownerAt_1 : decode cX1_ownerAt 1 = .ok (.ifCond .lt 15, 3) := by decide +kernel
theorem dX1_ownerAt_4 : decode cX1_ownerAt 4 = .ok (.iload_n 1, 1) := by decide +kernel
theorem dX1_ownerAt_5 : decode cX1_ownerAt 5 = .ok (.aload_n 0, 1) := by decide +kernel
theorem dX1_ownerAt_6 : decode cX1_ownerAt 6 = .ok (.arraylength, 1) := by decide +kernel
theorem dX1_ownerAt_7 : decode cX1_ownerAt 7 = .ok (.if_icmp .ge 9, 3) := by decide +kernel
theorem dX1_ownerAt_10 : decode cX1_ownerAt 10 = .ok (.aload_n 0, 1) := by decide +kernel
theorem dX1_ownerAt_11 : decode cX1_ownerAt 11 = .ok (.iload_n 1, 1) := by decide +kernel
theorem dX1_ownerAt_12 : decode cX1_ownerAt 12 = .ok (.iaload, 1) := by decide +kernel
theorem dX1_ownerAt_13 : decode cX1_ownerAt 13 = .ok (.goto 4, 3) := by decide +kernel
theorem dX1_ownerAt_16 : decode cX1_ownerAt 16 = .ok (.iconst (-1), 1) := by decide +kernel
theorem dX1_ownerAt_17 : decode cX1_ownerAt 17 = .ok (.ireturn, 1) := by decide +kernel
theorem dX1_freeSlot_0 : decode cX1_freeSlot 0 = .ok (.iconst 0, 1) := by decide +kernel
theorem dX1_freeSlot_1 : decode cX1_freeSlot 1 = .ok (.istore_n 1, 1) := by decide +kernel
theorem dX1_freeSlot_2 : decode cX1_freeSlot 2 = .ok (.iload_n 1, 1) := by decide +kernel
theorem dX1_freeSlot_3 : decode cX1_freeSlot 3 = .ok (.aload_n 0, 1) := by decide +kernel
theorem dX1_freeSlot_4 : decode cX1_freeSlot 4 = .ok (.getfield 17, 3) := by decide +kernel
theorem dX1_freeSlot_7 : decode cX1_freeSlot 7 = .ok (.arraylength, 1) := by decide +kernel
theorem dX1_freeSlot_8 : decode cX1_freeSlot 8 = .ok (.if_icmp .ge 23, 3) := by decide +kernel
theorem dX1_freeSlot_11 : decode cX1_freeSlot 11 = .ok (.aload_n 0, 1) := by decide +kernel
theorem dX1_freeSlot_12 : decode cX1_freeSlot 12 = .ok (.getfield 17, 3) := by decide +kernel
theorem dX1_freeSlot_15 : decode cX1_freeSlot 15 = .ok (.iload_n 1, 1) := by decide +kernel
theorem dX1_freeSlot_16 : decode cX1_freeSlot 16 = .ok (.aaload, 1) := by decide +kernel
theorem dX1_freeSlot_17 : decode cX1_freeSlot 17 = .ok (.getfield 32, 3) := by decide +kernel
theorem dX1_freeSlot_20 : decode cX1_freeSlot 20 = .ok (.ifCond .ne 5, 3) := by decide +kernel
theorem dX1_freeSlot_23 : decode cX1_freeSlot 23 = .ok (.iload_n 1, 1) := by decide +kernel
theorem dX1_freeSlot_24 : decode cX1_freeSlot 24 = .ok (.ireturn, 1) := by decide +kernel
theorem dX1_freeSlot_25 : decode cX1_freeSlot 25 = .ok (.iinc 1 1, 3) := by decide +kernel
theorem dX1_freeSlot_28 : decode cX1_freeSlot 28 = .ok (.goto (-26), 3) := by decide +kernel
theorem dX1_freeSlot_31 : decode cX1_freeSlot 31 = .ok (.iconst (-1), 1) := by decide +kernel
theorem dX1_freeSlot_32 : decode cX1_freeSlot 32 = .ok (.ireturn, 1) := by decide +kernel
theorem dX1_joinTo_0 : decode cX1_joinTo 0 = .ok (.iload_n 2, 1) := by decide +kernel
theorem dX1_joinTo_1 : decode cX1_joinTo 1 = .ok (.ifCond .lt 30, 3) := by decide +kernel
theorem dX1_joinTo_4 : decode cX1_joinTo 4 = .ok (.iload_n 2, 1) := by decide +kernel
theorem dX1_joinTo_5 : decode cX1_joinTo 5 = .ok (.aload_n 0, 1) := by decide +kernel
theorem dX1_joinTo_6 : decode cX1_joinTo 6 = .ok (.getfield 17, 3) := by decide +kernel
theorem dX1_joinTo_9 : decode cX1_joinTo 9 = .ok (.arraylength, 1) := by decide +kernel
theorem dX1_joinTo_10 : decode cX1_joinTo 10 = .ok (.if_icmp .ge 21, 3) := by decide +kernel
theorem dX1_joinTo_13 : decode cX1_joinTo 13 = .ok (.iload_n 2, 1) := by decide +kernel
theorem dX1_joinTo_14 : decode cX1_joinTo 14 = .ok (.iload_n 1, 1) := by decide +kernel
theorem dX1_joinTo_15 : decode cX1_joinTo 15 = .ok (.if_icmp .eq 16, 3) := by decide +kernel
theorem dX1_joinTo_18 : decode cX1_joinTo 18 = .ok (.iload_n 1, 1) := by decide +kernel
theorem dX1_joinTo_19 : decode cX1_joinTo 19 = .ok (.ifCond .lt 12, 3) := by decide +kernel
theorem dX1_joinTo_22 : decode cX1_joinTo 22 = .ok (.iload_n 1, 1) := by decide +kernel
theorem dX1_joinTo_23 : decode cX1_joinTo 23 = .ok (.aload_n 0, 1) := by decide +kernel
theorem dX1_joinTo_24 : decode cX1_joinTo 24 = .ok (.getfield 17, 3) := by decide +kernel
theorem dX1_joinTo_27 : decode cX1_joinTo 27 = .ok (.arraylength, 1) := by decide +kernel
theorem dX1_joinTo_28 : decode cX1_joinTo 28 = .ok (.if_icmp .lt 4, 3) := by decide +kernel
theorem dX1_joinTo_31 : decode cX1_joinTo 31 = .ok (.return_, 1) := by decide +kernel
theorem dX1_joinTo_32 : decode cX1_joinTo 32 = .ok (.aload_n 0, 1) := by decide +kernel
theorem dX1_joinTo_33 : decode cX1_joinTo 33 = .ok (.getfield 17, 3) := by decide +kernel
theorem dX1_joinTo_36 : decode cX1_joinTo 36 = .ok (.iload_n 1, 1) := by decide +kernel
theorem dX1_joinTo_37 : decode cX1_joinTo 37 = .ok (.aaload, 1) := by decide +kernel
theorem dX1_joinTo_38 : decode cX1_joinTo 38 = .ok (.aload_n 0, 1) := by decide +kernel
theorem dX1_joinTo_39 : decode cX1_joinTo 39 = .ok (.getfield 17, 3) := by decide +kernel
theorem dX1_joinTo_42 : decode cX1_joinTo 42 = .ok (.iload_n 2, 1) := by decide +kernel
theorem dX1_joinTo_43 : decode cX1_joinTo 43 = .ok (.aaload, 1) := by decide +kernel
theorem dX1_joinTo_44 : decode cX1_joinTo 44 = .ok (.invokevirtual 76, 3) := by decide +kernel
theorem dX1_joinTo_47 : decode cX1_joinTo 47 = .ok (.aload_n 0, 1) := by decide +kernel
theorem dX1_joinTo_48 : decode cX1_joinTo 48 = .ok (.getfield 20, 3) := by decide +kernel
theorem dX1_joinTo_51 : decode cX1_joinTo 51 = .ok (.iload_n 2, 1) := by decide +kernel
theorem dX1_joinTo_52 : decode cX1_joinTo 52 = .ok (.iload_n 1, 1) := by decide +kernel
theorem dX1_joinTo_53 : decode cX1_joinTo 53 = .ok (.invokestatic 80, 3) := by decide +kernel
theorem dX1_joinTo_56 : decode cX1_joinTo 56 = .ok (.aload_n 0, 1) := by decide +kernel
theorem dX1_joinTo_57 : decode cX1_joinTo 57 = .ok (.getfield 24, 3) := by decide +kernel
theorem dX1_joinTo_60 : decode cX1_joinTo 60 = .ok (.iload_n 2, 1) := by decide +kernel
theorem dX1_joinTo_61 : decode cX1_joinTo 61 = .ok (.iload_n 1, 1) := by decide +kernel
theorem dX1_joinTo_62 : decode cX1_joinTo 62 = .ok (.invokestatic 80, 3) := by decide +kernel
theorem dX1_joinTo_65 : decode cX1_joinTo 65 = .ok (.return_, 1) := by decide +kernel
theorem dX1_handOver_0 : decode cX1_handOver 0 = .ok (.iconst 0, 1) := by decide +kernel
theorem dX1_handOver_1 : decode cX1_handOver 1 = .ok (.istore_n 3, 1) := by decide +kernel
theorem dX1_handOver_2 : decode cX1_handOver 2 = .ok (.iload_n 3, 1) := by decide +kernel
theorem dX1_handOver_3 : decode cX1_handOver 3 = .ok (.aload_n 0, 1) := by decide +kernel
theorem dX1_handOver_4 : decode cX1_handOver 4 = .ok (.arraylength, 1) := by decide +kernel
theorem dX1_handOver_5 : decode cX1_handOver 5 = .ok (.if_icmp .ge 20, 3) := by decide +kernel
theorem dX1_handOver_8 : decode cX1_handOver 8 = .ok (.aload_n 0, 1) := by decide +kernel
theorem dX1_handOver_9 : decode cX1_handOver 9 = .ok (.iload_n 3, 1) := by decide +kernel
theorem dX1_handOver_10 : decode cX1_handOver 10 = .ok (.iaload, 1) := by decide +kernel
theorem dX1_handOver_11 : decode cX1_handOver 11 = .ok (.iload_n 1, 1) := by decide +kernel
theorem dX1_handOver_12 : decode cX1_handOver 12 = .ok (.if_icmp .ne 7, 3) := by decide +kernel
theorem dX1_handOver_15 : decode cX1_handOver 15 = .ok (.aload_n 0, 1) := by decide +kernel
theorem dX1_handOver_16 : decode cX1_handOver 16 = .ok (.iload_n 3, 1) := by decide +kernel
theorem dX1_handOver_17 : decode cX1_handOver 17 = .ok (.iload_n 2, 1) := by decide +kernel
theorem dX1_handOver_18 : decode cX1_handOver 18 = .ok (.iastore, 1) := by decide +kernel
theorem dX1_handOver_19 : decode cX1_handOver 19 = .ok (.iinc 3 1, 3) := by decide +kernel
theorem dX1_handOver_22 : decode cX1_handOver 22 = .ok (.goto (-20), 3) := by decide +kernel
theorem dX1_handOver_25 : decode cX1_handOver 25 = .ok (.return_, 1) := by decide +kernel
theorem dX1_endAllWithout_0 : decode cX1_endAllWithout 0 = .ok (.aload_n 0, 1) := by decide +kernel
theorem dX1_endAllWithout_1 : decode cX1_endAllWithout 1 = .ok (.getfield 28, 3) := by decide +kernel
theorem dX1_endAllWithout_4 : decode cX1_endAllWithout 4 = .ok (.istore_n 2, 1) := by decide +kernel
theorem dX1_endAllWithout_5 : decode cX1_endAllWithout 5 = .ok (.iconst 0, 1) := by decide +kernel
theorem dX1_endAllWithout_6 : decode cX1_endAllWithout 6 = .ok (.istore_n 3, 1) := by decide +kernel
theorem dX1_endAllWithout_7 : decode cX1_endAllWithout 7 = .ok (.iload_n 3, 1) := by decide +kernel
theorem dX1_endAllWithout_8 : decode cX1_endAllWithout 8 = .ok (.aload_n 0, 1) := by decide +kernel
theorem dX1_endAllWithout_9 : decode cX1_endAllWithout 9 = .ok (.getfield 17, 3) := by decide +kernel
theorem dX1_endAllWithout_12 : decode cX1_endAllWithout 12 = .ok (.arraylength, 1) := by decide +kernel
theorem dX1_endAllWithout_13 : decode cX1_endAllWithout 13 = .ok (.if_icmp .ge 86, 3) := by decide +kernel
theorem dX1_endAllWithout_16 : decode cX1_endAllWithout 16 = .ok (.aload_n 0, 1) := by decide +kernel
theorem dX1_endAllWithout_17 : decode cX1_endAllWithout 17 = .ok (.iload_n 1, 1) := by decide +kernel
theorem dX1_endAllWithout_18 : decode cX1_endAllWithout 18 = .ok (.invokevirtual 84, 3) := by decide +kernel
theorem dX1_endAllWithout_21 : decode cX1_endAllWithout 21 = .ok (.istore 4, 2) := by decide +kernel
theorem dX1_endAllWithout_23 : decode cX1_endAllWithout 23 = .ok (.iload 4, 2) := by decide +kernel
theorem dX1_endAllWithout_25 : decode cX1_endAllWithout 25 = .ok (.ifCond .lt 74, 3) := by decide +kernel
theorem dX1_endAllWithout_28 : decode cX1_endAllWithout 28 = .ok (.iload 4, 2) := by decide +kernel
theorem dX1_endAllWithout_30 : decode cX1_endAllWithout 30 = .ok (.aload_n 0, 1) := by decide +kernel
theorem dX1_endAllWithout_31 : decode cX1_endAllWithout 31 = .ok (.getfield 17, 3) := by decide +kernel
theorem dX1_endAllWithout_34 : decode cX1_endAllWithout 34 = .ok (.arraylength, 1) := by decide +kernel
theorem dX1_endAllWithout_35 : decode cX1_endAllWithout 35 = .ok (.if_icmp .ge 64, 3) := by decide +kernel
theorem dX1_endAllWithout_38 : decode cX1_endAllWithout 38 = .ok (.aload_n 0, 1) := by decide +kernel
theorem dX1_endAllWithout_39 : decode cX1_endAllWithout 39 = .ok (.getfield 28, 3) := by decide +kernel
theorem dX1_endAllWithout_42 : decode cX1_endAllWithout 42 = .ok (.aload_n 0, 1) := by decide +kernel
theorem dX1_endAllWithout_43 : decode cX1_endAllWithout 43 = .ok (.getfield 11, 3) := by decide +kernel
theorem dX1_endAllWithout_46 : decode cX1_endAllWithout 46 = .ok (.arraylength, 1) := by decide +kernel
theorem dX1_endAllWithout_47 : decode cX1_endAllWithout 47 = .ok (.if_icmp .lt 6, 3) := by decide +kernel
theorem dX1_endAllWithout_50 : decode cX1_endAllWithout 50 = .ok (.goto 49, 3) := by decide +kernel
theorem dX1_endAllWithout_53 : decode cX1_endAllWithout 53 = .ok (.aload_n 0, 1) := by decide +kernel
theorem dX1_endAllWithout_54 : decode cX1_endAllWithout 54 = .ok (.getfield 11, 3) := by decide +kernel
theorem dX1_endAllWithout_57 : decode cX1_endAllWithout 57 = .ok (.aload_n 0, 1) := by decide +kernel
theorem dX1_endAllWithout_58 : decode cX1_endAllWithout 58 = .ok (.getfield 28, 3) := by decide +kernel
theorem dX1_endAllWithout_61 : decode cX1_endAllWithout 61 = .ok (.aaload, 1) := by decide +kernel
theorem dX1_endAllWithout_62 : decode cX1_endAllWithout 62 = .ok (.aload_n 0, 1) := by decide +kernel
theorem dX1_endAllWithout_63 : decode cX1_endAllWithout 63 = .ok (.getfield 17, 3) := by decide +kernel
theorem dX1_endAllWithout_66 : decode cX1_endAllWithout 66 = .ok (.iload 4, 2) := by decide +kernel
theorem dX1_endAllWithout_68 : decode cX1_endAllWithout 68 = .ok (.aaload, 1) := by decide +kernel
theorem dX1_endAllWithout_69 : decode cX1_endAllWithout 69 = .ok (.invokevirtual 87, 3) := by decide +kernel
theorem dX1_endAllWithout_72 : decode cX1_endAllWithout 72 = .ok (.aload_n 0, 1) := by decide +kernel
theorem dX1_endAllWithout_73 : decode cX1_endAllWithout 73 = .ok (.dup, 1) := by decide +kernel
theorem dX1_endAllWithout_74 : decode cX1_endAllWithout 74 = .ok (.getfield 28, 3) := by decide +kernel
theorem dX1_endAllWithout_77 : decode cX1_endAllWithout 77 = .ok (.iconst 1, 1) := by decide +kernel
theorem dX1_endAllWithout_78 : decode cX1_endAllWithout 78 = .ok (.iadd, 1) := by decide +kernel
theorem dX1_endAllWithout_79 : decode cX1_endAllWithout 79 = .ok (.putfield 28, 3) := by decide +kernel
theorem dX1_endAllWithout_82 : decode cX1_endAllWithout 82 = .ok (.aload_n 0, 1) := by decide +kernel
theorem dX1_endAllWithout_83 : decode cX1_endAllWithout 83 = .ok (.getfield 17, 3) := by decide +kernel
theorem dX1_endAllWithout_86 : decode cX1_endAllWithout 86 = .ok (.iload 4, 2) := by decide +kernel
theorem dX1_endAllWithout_88 : decode cX1_endAllWithout 88 = .ok (.aaload, 1) := by decide +kernel
theorem dX1_endAllWithout_89 : decode cX1_endAllWithout 89 = .ok (.iconst 0, 1) := by decide +kernel
theorem dX1_endAllWithout_90 : decode cX1_endAllWithout 90 = .ok (.putfield 32, 3) := by decide +kernel
theorem dX1_endAllWithout_93 : decode cX1_endAllWithout 93 = .ok (.iinc 3 1, 3) := by decide +kernel
theorem dX1_endAllWithout_96 : decode cX1_endAllWithout 96 = .ok (.goto (-89), 3) := by decide +kernel
theorem dX1_endAllWithout_99 : decode cX1_endAllWithout 99 = .ok (.aload_n 0, 1) := by decide +kernel
theorem dX1_endAllWithout_100 : decode cX1_endAllWithout 100 = .ok (.getfield 28, 3) := by decide +kernel
theorem dX1_endAllWithout_103 : decode cX1_endAllWithout 103 = .ok (.iload_n 2, 1) := by decide +kernel
theorem dX1_endAllWithout_104 : decode cX1_endAllWithout 104 = .ok (.isub, 1) := by decide +kernel
theorem dX1_endAllWithout_105 : decode cX1_endAllWithout 105 = .ok (.ireturn, 1) := by decide +kernel
theorem dX1_earliestWithout_0 : decode cX1_earliestWithout 0 = .ok (.iconst (-1), 1) := by decide +kernel
theorem dX1_earliestWithout_1 : decode cX1_earliestWithout 1 = .ok (.istore_n 2, 1) := by decide +kernel
theorem dX1_earliestWithout_2 : decode cX1_earliestWithout 2 = .ok (.iconst 0, 1) := by decide +kernel
theorem dX1_earliestWithout_3 : decode cX1_earliestWithout 3 = .ok (.istore_n 3, 1) := by decide +kernel
theorem dX1_earliestWithout_4 : decode cX1_earliestWithout 4 = .ok (.iload_n 3, 1) := by decide +kernel
theorem dX1_earliestWithout_5 : decode cX1_earliestWithout 5 = .ok (.aload_n 0, 1) := by decide +kernel
theorem dX1_earliestWithout_6 : decode cX1_earliestWithout 6 = .ok (.getfield 17, 3) := by decide +kernel
theorem dX1_earliestWithout_9 : decode cX1_earliestWithout 9 = .ok (.arraylength, 1) := by decide +kernel
theorem dX1_earliestWithout_10 : decode cX1_earliestWithout 10 = .ok (.if_icmp .ge 71, 3) := by decide +kernel
theorem dX1_earliestWithout_13 : decode cX1_earliestWithout 13 = .ok (.aload_n 0, 1) := by decide +kernel
theorem dX1_earliestWithout_14 : decode cX1_earliestWithout 14 = .ok (.getfield 17, 3) := by decide +kernel
theorem dX1_earliestWithout_17 : decode cX1_earliestWithout 17 = .ok (.iload_n 3, 1) := by decide +kernel
theorem dX1_earliestWithout_18 : decode cX1_earliestWithout 18 = .ok (.aaload, 1) := by decide +kernel
theorem dX1_earliestWithout_19 : decode cX1_earliestWithout 19 = .ok (.getfield 32, 3) := by decide +kernel
theorem dX1_earliestWithout_22 : decode cX1_earliestWithout 22 = .ok (.ifCond .le 20, 3) := by decide +kernel
theorem dX1_earliestWithout_25 : decode cX1_earliestWithout 25 = .ok (.aload_n 0, 1) := by decide +kernel
theorem dX1_earliestWithout_26 : decode cX1_earliestWithout 26 = .ok (.getfield 17, 3) := by decide +kernel
theorem dX1_earliestWithout_29 : decode cX1_earliestWithout 29 = .ok (.iload_n 3, 1) := by decide +kernel
theorem dX1_earliestWithout_30 : decode cX1_earliestWithout 30 = .ok (.aaload, 1) := by decide +kernel
theorem dX1_earliestWithout_31 : decode cX1_earliestWithout 31 = .ok (.getfield 90, 3) := by decide +kernel
theorem dX1_earliestWithout_34 : decode cX1_earliestWithout 34 = .ok (.iload_n 1, 1) := by decide +kernel
theorem dX1_earliestWithout_35 : decode cX1_earliestWithout 35 = .ok (.if_icmp .ge 7, 3) := by decide +kernel
theorem dX1_earliestWithout_38 : decode cX1_earliestWithout 38 = .ok (.iconst 1, 1) := by decide +kernel
theorem dX1_earliestWithout_39 : decode cX1_earliestWithout 39 = .ok (.goto 4, 3) := by decide +kernel
theorem dX1_earliestWithout_42 : decode cX1_earliestWithout 42 = .ok (.iconst 0, 1) := by decide +kernel
theorem dX1_earliestWithout_43 : decode cX1_earliestWithout 43 = .ok (.istore 4, 2) := by decide +kernel
theorem dX1_earliestWithout_45 : decode cX1_earliestWithout 45 = .ok (.iload 4, 2) := by decide +kernel
theorem dX1_earliestWithout_47 : decode cX1_earliestWithout 47 = .ok (.ifCond .eq 28, 3) := by decide +kernel
theorem dX1_earliestWithout_50 : decode cX1_earliestWithout 50 = .ok (.iload_n 2, 1) := by decide +kernel
theorem dX1_earliestWithout_51 : decode cX1_earliestWithout 51 = .ok (.iconst (-1), 1) := by decide +kernel
theorem dX1_earliestWithout_52 : decode cX1_earliestWithout 52 = .ok (.if_icmp .eq 21, 3) := by decide +kernel
theorem dX1_earliestWithout_55 : decode cX1_earliestWithout 55 = .ok (.aload_n 0, 1) := by decide +kernel
theorem dX1_earliestWithout_56 : decode cX1_earliestWithout 56 = .ok (.getfield 17, 3) := by decide +kernel
theorem dX1_earliestWithout_59 : decode cX1_earliestWithout 59 = .ok (.iload_n 3, 1) := by decide +kernel
theorem dX1_earliestWithout_60 : decode cX1_earliestWithout 60 = .ok (.aaload, 1) := by decide +kernel
theorem dX1_earliestWithout_61 : decode cX1_earliestWithout 61 = .ok (.aload_n 0, 1) := by decide +kernel
theorem dX1_earliestWithout_62 : decode cX1_earliestWithout 62 = .ok (.getfield 17, 3) := by decide +kernel
theorem dX1_earliestWithout_65 : decode cX1_earliestWithout 65 = .ok (.iload_n 2, 1) := by decide +kernel
theorem dX1_earliestWithout_66 : decode cX1_earliestWithout 66 = .ok (.aaload, 1) := by decide +kernel
theorem dX1_earliestWithout_67 : decode cX1_earliestWithout 67 = .ok (.invokevirtual 93, 3) := by decide +kernel
theorem dX1_earliestWithout_70 : decode cX1_earliestWithout 70 = .ok (.ifCond .eq 5, 3) := by decide +kernel
theorem dX1_earliestWithout_73 : decode cX1_earliestWithout 73 = .ok (.iload_n 3, 1) := by decide +kernel
theorem dX1_earliestWithout_74 : decode cX1_earliestWithout 74 = .ok (.istore_n 2, 1) := by decide +kernel
theorem dX1_earliestWithout_75 : decode cX1_earliestWithout 75 = .ok (.iinc 3 1, 3) := by decide +kernel
theorem dX1_earliestWithout_78 : decode cX1_earliestWithout 78 = .ok (.goto (-74), 3) := by decide +kernel
theorem dX1_earliestWithout_81 : decode cX1_earliestWithout 81 = .ok (.iload_n 2, 1) := by decide +kernel
theorem dX1_earliestWithout_82 : decode cX1_earliestWithout 82 = .ok (.ireturn, 1) := by decide +kernel
theorem dX1_liveBlobs_0 : decode cX1_liveBlobs 0 = .ok (.iconst 0, 1) := by decide +kernel
theorem dX1_liveBlobs_1 : decode cX1_liveBlobs 1 = .ok (.istore_n 1, 1) := by decide +kernel
theorem dX1_liveBlobs_2 : decode cX1_liveBlobs 2 = .ok (.iconst 0, 1) := by decide +kernel
theorem dX1_liveBlobs_3 : decode cX1_liveBlobs 3 = .ok (.istore_n 2, 1) := by decide +kernel
theorem dX1_liveBlobs_4 : decode cX1_liveBlobs 4 = .ok (.iload_n 2, 1) := by decide +kernel
theorem dX1_liveBlobs_5 : decode cX1_liveBlobs 5 = .ok (.aload_n 0, 1) := by decide +kernel
theorem dX1_liveBlobs_6 : decode cX1_liveBlobs 6 = .ok (.getfield 17, 3) := by decide +kernel
theorem dX1_liveBlobs_9 : decode cX1_liveBlobs 9 = .ok (.arraylength, 1) := by decide +kernel
theorem dX1_liveBlobs_10 : decode cX1_liveBlobs 10 = .ok (.if_icmp .ge 29, 3) := by decide +kernel
theorem dX1_liveBlobs_13 : decode cX1_liveBlobs 13 = .ok (.iload_n 1, 1) := by decide +kernel
theorem dX1_liveBlobs_14 : decode cX1_liveBlobs 14 = .ok (.aload_n 0, 1) := by decide +kernel
theorem dX1_liveBlobs_15 : decode cX1_liveBlobs 15 = .ok (.getfield 17, 3) := by decide +kernel
theorem dX1_liveBlobs_18 : decode cX1_liveBlobs 18 = .ok (.iload_n 2, 1) := by decide +kernel
theorem dX1_liveBlobs_19 : decode cX1_liveBlobs 19 = .ok (.aaload, 1) := by decide +kernel
theorem dX1_liveBlobs_20 : decode cX1_liveBlobs 20 = .ok (.getfield 32, 3) := by decide +kernel
theorem dX1_liveBlobs_23 : decode cX1_liveBlobs 23 = .ok (.ifCond .le 7, 3) := by decide +kernel
theorem dX1_liveBlobs_26 : decode cX1_liveBlobs 26 = .ok (.iconst 1, 1) := by decide +kernel
theorem dX1_liveBlobs_27 : decode cX1_liveBlobs 27 = .ok (.goto 4, 3) := by decide +kernel
theorem dX1_liveBlobs_30 : decode cX1_liveBlobs 30 = .ok (.iconst 0, 1) := by decide +kernel
theorem dX1_liveBlobs_31 : decode cX1_liveBlobs 31 = .ok (.iadd, 1) := by decide +kernel
theorem dX1_liveBlobs_32 : decode cX1_liveBlobs 32 = .ok (.istore_n 1, 1) := by decide +kernel
theorem dX1_liveBlobs_33 : decode cX1_liveBlobs 33 = .ok (.iinc 2 1, 3) := by decide +kernel
theorem dX1_liveBlobs_36 : decode cX1_liveBlobs 36 = .ok (.goto (-32), 3) := by decide +kernel
theorem dX1_liveBlobs_39 : decode cX1_liveBlobs 39 = .ok (.iload_n 1, 1) := by decide +kernel
theorem dX1_liveBlobs_40 : decode cX1_liveBlobs 40 = .ok (.ireturn, 1) := by decide +kernel
theorem dX1_liveCells_0 : decode cX1_liveCells 0 = .ok (.iconst 0, 1) := by decide +kernel
theorem dX1_liveCells_1 : decode cX1_liveCells 1 = .ok (.istore_n 1, 1) := by decide +kernel
theorem dX1_liveCells_2 : decode cX1_liveCells 2 = .ok (.iconst 0, 1) := by decide +kernel
theorem dX1_liveCells_3 : decode cX1_liveCells 3 = .ok (.istore_n 2, 1) := by decide +kernel
theorem dX1_liveCells_4 : decode cX1_liveCells 4 = .ok (.iload_n 2, 1) := by decide +kernel
theorem dX1_liveCells_5 : decode cX1_liveCells 5 = .ok (.aload_n 0, 1) := by decide +kernel
theorem dX1_liveCells_6 : decode cX1_liveCells 6 = .ok (.getfield 17, 3) := by decide +kernel
theorem dX1_liveCells_9 : decode cX1_liveCells 9 = .ok (.arraylength, 1) := by decide +kernel
theorem dX1_liveCells_10 : decode cX1_liveCells 10 = .ok (.if_icmp .ge 21, 3) := by decide +kernel
theorem dX1_liveCells_13 : decode cX1_liveCells 13 = .ok (.iload_n 1, 1) := by decide +kernel
theorem dX1_liveCells_14 : decode cX1_liveCells 14 = .ok (.aload_n 0, 1) := by decide +kernel
theorem dX1_liveCells_15 : decode cX1_liveCells 15 = .ok (.getfield 17, 3) := by decide +kernel
theorem dX1_liveCells_18 : decode cX1_liveCells 18 = .ok (.iload_n 2, 1) := by decide +kernel
theorem dX1_liveCells_19 : decode cX1_liveCells 19 = .ok (.aaload, 1) := by decide +kernel
theorem dX1_liveCells_20 : decode cX1_liveCells 20 = .ok (.getfield 32, 3) := by decide +kernel
theorem dX1_liveCells_23 : decode cX1_liveCells 23 = .ok (.iadd, 1) := by decide +kernel
theorem dX1_liveCells_24 : decode cX1_liveCells 24 = .ok (.istore_n 1, 1) := by decide +kernel
theorem dX1_liveCells_25 : decode cX1_liveCells 25 = .ok (.iinc 2 1, 3) := by decide +kernel
theorem dX1_liveCells_28 : decode cX1_liveCells 28 = .ok (.goto (-24), 3) := by decide +kernel
theorem dX1_liveCells_31 : decode cX1_liveCells 31 = .ok (.iload_n 1, 1) := by decide +kernel
theorem dX1_liveCells_32 : decode cX1_liveCells 32 = .ok (.ireturn, 1) := by decide +kernel
theorem dX1_hasEndedWith_0 : decode cX1_hasEndedWith 0 = .ok (.iconst 0, 1) := by decide +kernel
theorem dX1_hasEndedWith_1 : decode cX1_hasEndedWith 1 = .ok (.istore_n 3, 1) := by decide +kernel
theorem dX1_hasEndedWith_2 : decode cX1_hasEndedWith 2 = .ok (.iload_n 3, 1) := by decide +kernel
theorem dX1_hasEndedWith_3 : decode cX1_hasEndedWith 3 = .ok (.aload_n 0, 1) := by decide +kernel
theorem dX1_hasEndedWith_4 : decode cX1_hasEndedWith 4 = .ok (.getfield 28, 3) := by decide +kernel
theorem dX1_hasEndedWith_7 : decode cX1_hasEndedWith 7 = .ok (.if_icmp .ge 34, 3) := by decide +kernel
theorem dX1_hasEndedWith_10 : decode cX1_hasEndedWith 10 = .ok (.iload_n 3, 1) := by decide +kernel
theorem dX1_hasEndedWith_11 : decode cX1_hasEndedWith 11 = .ok (.aload_n 0, 1) := by decide +kernel
theorem dX1_hasEndedWith_12 : decode cX1_hasEndedWith 12 = .ok (.getfield 11, 3) := by decide +kernel
theorem dX1_hasEndedWith_15 : decode cX1_hasEndedWith 15 = .ok (.arraylength, 1) := by decide +kernel
theorem dX1_hasEndedWith_16 : decode cX1_hasEndedWith 16 = .ok (.if_icmp .ge 25, 3) := by decide +kernel
theorem dX1_hasEndedWith_19 : decode cX1_hasEndedWith 19 = .ok (.aload_n 0, 1) := by decide +kernel
theorem dX1_hasEndedWith_20 : decode cX1_hasEndedWith 20 = .ok (.getfield 11, 3) := by decide +kernel
theorem dX1_hasEndedWith_23 : decode cX1_hasEndedWith 23 = .ok (.iload_n 3, 1) := by decide +kernel
theorem dX1_hasEndedWith_24 : decode cX1_hasEndedWith 24 = .ok (.aaload, 1) := by decide +kernel
theorem dX1_hasEndedWith_25 : decode cX1_hasEndedWith 25 = .ok (.iload_n 1, 1) := by decide +kernel
theorem dX1_hasEndedWith_26 : decode cX1_hasEndedWith 26 = .ok (.invokevirtual 97, 3) := by decide +kernel
theorem dX1_hasEndedWith_29 : decode cX1_hasEndedWith 29 = .ok (.iload_n 2, 1) := by decide +kernel
theorem dX1_hasEndedWith_30 : decode cX1_hasEndedWith 30 = .ok (.if_icmp .ne 5, 3) := by decide +kernel
theorem dX1_hasEndedWith_33 : decode cX1_hasEndedWith 33 = .ok (.iconst 1, 1) := by decide +kernel
theorem dX1_hasEndedWith_34 : decode cX1_hasEndedWith 34 = .ok (.ireturn, 1) := by decide +kernel
theorem dX1_hasEndedWith_35 : decode cX1_hasEndedWith 35 = .ok (.iinc 3 1, 3) := by decide +kernel
theorem dX1_hasEndedWith_38 : decode cX1_hasEndedWith 38 = .ok (.goto (-36), 3) := by decide +kernel
theorem dX1_hasEndedWith_41 : decode cX1_hasEndedWith 41 = .ok (.iconst 0, 1) := by decide +kernel
theorem dX1_hasEndedWith_42 : decode cX1_hasEndedWith 42 = .ok (.ireturn, 1) := by decide +kernel
theorem dX2_init_0 : decode cX2_init 0 = .ok (.aload_n 0, 1) := by decide +kernel
theorem dX2_init_1 : decode cX2_init 1 = .ok (.invokespecial 3, 3) := by decide +kernel
theorem dX2_init_4 : decode cX2_init 4 = .ok (.aload_n 0, 1) := by decide +kernel
theorem dX2_init_5 : decode cX2_init 5 = .ok (.bipush 6, 2) := by decide +kernel
theorem dX2_init_7 : decode cX2_init 7 = .ok (.anewarray 9, 3) := by decide +kernel
theorem dX2_init_10 : decode cX2_init 10 = .ok (.putfield 11, 3) := by decide +kernel
theorem dX2_init_13 : decode cX2_init 13 = .ok (.iconst 0, 1) := by decide +kernel
theorem dX2_init_14 : decode cX2_init 14 = .ok (.istore_n 1, 1) := by decide +kernel
theorem dX2_init_15 : decode cX2_init 15 = .ok (.iload_n 1, 1) := by decide +kernel
theorem dX2_init_16 : decode cX2_init 16 = .ok (.aload_n 0, 1) := by decide +kernel
theorem dX2_init_17 : decode cX2_init 17 = .ok (.getfield 11, 3) := by decide +kernel
theorem dX2_init_20 : decode cX2_init 20 = .ok (.arraylength, 1) := by decide +kernel
theorem dX2_init_21 : decode cX2_init 21 = .ok (.if_icmp .ge 22, 3) := by decide +kernel
theorem dX2_init_24 : decode cX2_init 24 = .ok (.aload_n 0, 1) := by decide +kernel
theorem dX2_init_25 : decode cX2_init 25 = .ok (.getfield 11, 3) := by decide +kernel
theorem dX2_init_28 : decode cX2_init 28 = .ok (.iload_n 1, 1) := by decide +kernel
theorem dX2_init_29 : decode cX2_init 29 = .ok (.new 9, 3) := by decide +kernel
theorem dX2_init_32 : decode cX2_init 32 = .ok (.dup, 1) := by decide +kernel
theorem dX2_init_33 : decode cX2_init 33 = .ok (.invokespecial 17, 3) := by decide +kernel
theorem dX2_init_36 : decode cX2_init 36 = .ok (.aastore, 1) := by decide +kernel
theorem dX2_init_37 : decode cX2_init 37 = .ok (.iinc 1 1, 3) := by decide +kernel
theorem dX2_init_40 : decode cX2_init 40 = .ok (.goto (-25), 3) := by decide +kernel
theorem dX2_init_43 : decode cX2_init 43 = .ok (.return_, 1) := by decide +kernel
theorem dX2_keep_0 : decode cX2_keep 0 = .ok (.aload_n 0, 1) := by decide +kernel
theorem dX2_keep_1 : decode cX2_keep 1 = .ok (.getfield 18, 3) := by decide +kernel
theorem dX2_keep_4 : decode cX2_keep 4 = .ok (.ifCond .lt 15, 3) := by decide +kernel
theorem dX2_keep_7 : decode cX2_keep 7 = .ok (.aload_n 0, 1) := by decide +kernel
theorem dX2_keep_8 : decode cX2_keep 8 = .ok (.getfield 18, 3) := by decide +kernel
theorem dX2_keep_11 : decode cX2_keep 11 = .ok (.aload_n 0, 1) := by decide +kernel
theorem dX2_keep_12 : decode cX2_keep 12 = .ok (.getfield 11, 3) := by decide +kernel
theorem dX2_keep_15 : decode cX2_keep 15 = .ok (.arraylength, 1) := by decide +kernel
theorem dX2_keep_16 : decode cX2_keep 16 = .ok (.if_icmp .lt 4, 3) := by decide +kernel
theorem dX2_keep_19 : decode cX2_keep 19 = .ok (.return_, 1) := by decide +kernel
theorem dX2_keep_20 : decode cX2_keep 20 = .ok (.aload_n 0, 1) := by decide +kernel
theorem dX2_keep_21 : decode cX2_keep 21 = .ok (.getfield 11, 3) := by decide +kernel
theorem dX2_keep_24 : decode cX2_keep 24 = .ok (.aload_n 0, 1) := by decide +kernel
theorem dX2_keep_25 : decode cX2_keep 25 = .ok (.getfield 18, 3) := by decide +kernel
theorem dX2_keep_28 : decode cX2_keep 28 = .ok (.aaload, 1) := by decide +kernel
theorem dX2_keep_29 : decode cX2_keep 29 = .ok (.aload_n 1, 1) := by decide +kernel
theorem dX2_keep_30 : decode cX2_keep 30 = .ok (.invokevirtual 22, 3) := by decide +kernel
theorem dX2_keep_33 : decode cX2_keep 33 = .ok (.aload_n 0, 1) := by decide +kernel
theorem dX2_keep_34 : decode cX2_keep 34 = .ok (.aload_n 0, 1) := by decide +kernel
theorem dX2_keep_35 : decode cX2_keep 35 = .ok (.getfield 18, 3) := by decide +kernel
theorem dX2_keep_38 : decode cX2_keep 38 = .ok (.iconst 1, 1) := by decide +kernel
theorem dX2_keep_39 : decode cX2_keep 39 = .ok (.iadd, 1) := by decide +kernel
theorem dX2_keep_40 : decode cX2_keep 40 = .ok (.bipush 6, 2) := by decide +kernel
theorem dX2_keep_42 : decode cX2_keep 42 = .ok (.if_icmp .ge 12, 3) := by decide +kernel
theorem dX2_keep_45 : decode cX2_keep 45 = .ok (.aload_n 0, 1) := by decide +kernel
theorem dX2_keep_46 : decode cX2_keep 46 = .ok (.getfield 18, 3) := by decide +kernel
theorem dX2_keep_49 : decode cX2_keep 49 = .ok (.iconst 1, 1) := by decide +kernel
theorem dX2_keep_50 : decode cX2_keep 50 = .ok (.iadd, 1) := by decide +kernel
theorem dX2_keep_51 : decode cX2_keep 51 = .ok (.goto 4, 3) := by decide +kernel
theorem dX2_keep_54 : decode cX2_keep 54 = .ok (.iconst 0, 1) := by decide +kernel
theorem dX2_keep_55 : decode cX2_keep 55 = .ok (.putfield 18, 3) := by decide +kernel
theorem dX2_keep_58 : decode cX2_keep 58 = .ok (.aload_n 0, 1) := by decide +kernel
theorem dX2_keep_59 : decode cX2_keep 59 = .ok (.aload_n 0, 1) := by decide +kernel
theorem dX2_keep_60 : decode cX2_keep 60 = .ok (.getfield 26, 3) := by decide +kernel
theorem dX2_keep_63 : decode cX2_keep 63 = .ok (.iconst 1, 1) := by decide +kernel
theorem dX2_keep_64 : decode cX2_keep 64 = .ok (.iadd, 1) := by decide +kernel
theorem dX2_keep_65 : decode cX2_keep 65 = .ok (.bipush 6, 2) := by decide +kernel
theorem dX2_keep_67 : decode cX2_keep 67 = .ok (.invokestatic 29, 3) := by decide +kernel
theorem dX2_keep_70 : decode cX2_keep 70 = .ok (.putfield 26, 3) := by decide +kernel
theorem dX2_keep_73 : decode cX2_keep 73 = .ok (.return_, 1) := by decide +kernel
theorem dX2_giveBack_0 : decode cX2_giveBack 0 = .ok (.aload_n 0, 1) := by decide +kernel
theorem dX2_giveBack_1 : decode cX2_giveBack 1 = .ok (.getfield 18, 3) := by decide +kernel
theorem dX2_giveBack_4 : decode cX2_giveBack 4 = .ok (.ifCond .le 12, 3) := by decide +kernel
theorem dX2_giveBack_7 : decode cX2_giveBack 7 = .ok (.aload_n 0, 1) := by decide +kernel
theorem dX2_giveBack_8 : decode cX2_giveBack 8 = .ok (.getfield 18, 3) := by decide +kernel
theorem dX2_giveBack_11 : decode cX2_giveBack 11 = .ok (.iconst 1, 1) := by decide +kernel
theorem dX2_giveBack_12 : decode cX2_giveBack 12 = .ok (.isub, 1) := by decide +kernel
theorem dX2_giveBack_13 : decode cX2_giveBack 13 = .ok (.goto 4, 3) := by decide +kernel
theorem dX2_giveBack_16 : decode cX2_giveBack 16 = .ok (.iconst 5, 1) := by decide +kernel
theorem dX2_giveBack_17 : decode cX2_giveBack 17 = .ok (.istore_n 2, 1) := by decide +kernel
theorem dX2_giveBack_18 : decode cX2_giveBack 18 = .ok (.aload_n 0, 1) := by decide +kernel
theorem dX2_giveBack_19 : decode cX2_giveBack 19 = .ok (.getfield 26, 3) := by decide +kernel
theorem dX2_giveBack_22 : decode cX2_giveBack 22 = .ok (.ifCond .eq 12, 3) := by decide +kernel
theorem dX2_giveBack_25 : decode cX2_giveBack 25 = .ok (.iload_n 2, 1) := by decide +kernel
theorem dX2_giveBack_26 : decode cX2_giveBack 26 = .ok (.aload_n 0, 1) := by decide +kernel
theorem dX2_giveBack_27 : decode cX2_giveBack 27 = .ok (.getfield 11, 3) := by decide +kernel
theorem dX2_giveBack_30 : decode cX2_giveBack 30 = .ok (.arraylength, 1) := by decide +kernel
theorem dX2_giveBack_31 : decode cX2_giveBack 31 = .ok (.if_icmp .lt 4, 3) := by decide +kernel
theorem dX2_giveBack_34 : decode cX2_giveBack 34 = .ok (.return_, 1) := by decide +kernel
theorem dX2_giveBack_35 : decode cX2_giveBack 35 = .ok (.aload_n 1, 1) := by decide +kernel
theorem dX2_giveBack_36 : decode cX2_giveBack 36 = .ok (.aload_n 0, 1) := by decide +kernel
theorem dX2_giveBack_37 : decode cX2_giveBack 37 = .ok (.getfield 11, 3) := by decide +kernel
theorem dX2_giveBack_40 : decode cX2_giveBack 40 = .ok (.iload_n 2, 1) := by decide +kernel
theorem dX2_giveBack_41 : decode cX2_giveBack 41 = .ok (.aaload, 1) := by decide +kernel
theorem dX2_giveBack_42 : decode cX2_giveBack 42 = .ok (.invokevirtual 22, 3) := by decide +kernel
theorem dX2_giveBack_45 : decode cX2_giveBack 45 = .ok (.aload_n 0, 1) := by decide +kernel
theorem dX2_giveBack_46 : decode cX2_giveBack 46 = .ok (.iload_n 2, 1) := by decide +kernel
theorem dX2_giveBack_47 : decode cX2_giveBack 47 = .ok (.putfield 18, 3) := by decide +kernel
theorem dX2_giveBack_50 : decode cX2_giveBack 50 = .ok (.aload_n 0, 1) := by decide +kernel
theorem dX2_giveBack_51 : decode cX2_giveBack 51 = .ok (.dup, 1) := by decide +kernel
theorem dX2_giveBack_52 : decode cX2_giveBack 52 = .ok (.getfield 26, 3) := by decide +kernel
theorem dX2_giveBack_55 : decode cX2_giveBack 55 = .ok (.iconst 1, 1) := by decide +kernel
theorem dX2_giveBack_56 : decode cX2_giveBack 56 = .ok (.isub, 1) := by decide +kernel
theorem dX2_giveBack_57 : decode cX2_giveBack 57 = .ok (.putfield 26, 3) := by decide +kernel
theorem dX2_giveBack_60 : decode cX2_giveBack 60 = .ok (.return_, 1) := by decide +kernel
theorem dX2_forget_0 : decode cX2_forget 0 = .ok (.aload_n 0, 1) := by decide +kernel
theorem dX2_forget_1 : decode cX2_forget 1 = .ok (.iconst 0, 1) := by decide +kernel
theorem dX2_forget_2 : decode cX2_forget 2 = .ok (.putfield 26, 3) := by decide +kernel
theorem dX2_forget_5 : decode cX2_forget 5 = .ok (.return_, 1) := by decide +kernel
theorem dX3_init_0 : decode cX3_init 0 = .ok (.aload_n 0, 1) := by decide +kernel
theorem dX3_init_1 : decode cX3_init 1 = .ok (.invokespecial 3, 3) := by decide +kernel
theorem dX3_init_4 : decode cX3_init 4 = .ok (.aload_n 0, 1) := by decide +kernel
theorem dX3_init_5 : decode cX3_init 5 = .ok (.iconst 4, 1) := by decide +kernel
theorem dX3_init_6 : decode cX3_init 6 = .ok (.newarray .int, 2) := by decide +kernel
theorem dX3_init_8 : decode cX3_init 8 = .ok (.putfield 9, 3) := by decide +kernel
theorem dX3_init_11 : decode cX3_init 11 = .ok (.aload_n 0, 1) := by decide +kernel
theorem dX3_init_12 : decode cX3_init 12 = .ok (.iconst 4, 1) := by decide +kernel
theorem dX3_init_13 : decode cX3_init 13 = .ok (.newarray .int, 2) := by decide +kernel
theorem dX3_init_15 : decode cX3_init 15 = .ok (.putfield 15, 3) := by decide +kernel
theorem dX3_init_18 : decode cX3_init 18 = .ok (.aload_n 0, 1) := by decide +kernel
theorem dX3_init_19 : decode cX3_init 19 = .ok (.invokevirtual 18, 3) := by decide +kernel
theorem dX3_init_22 : decode cX3_init 22 = .ok (.return_, 1) := by decide +kernel
theorem dX3_reset_0 : decode cX3_reset 0 = .ok (.aload_n 0, 1) := by decide +kernel
theorem dX3_reset_1 : decode cX3_reset 1 = .ok (.iconst 0, 1) := by decide +kernel
theorem dX3_reset_2 : decode cX3_reset 2 = .ok (.putfield 21, 3) := by decide +kernel
theorem dX3_reset_5 : decode cX3_reset 5 = .ok (.aload_n 0, 1) := by decide +kernel
theorem dX3_reset_6 : decode cX3_reset 6 = .ok (.bipush 8, 2) := by decide +kernel
theorem dX3_reset_8 : decode cX3_reset 8 = .ok (.putfield 25, 3) := by decide +kernel
theorem dX3_reset_11 : decode cX3_reset 11 = .ok (.aload_n 0, 1) := by decide +kernel
theorem dX3_reset_12 : decode cX3_reset 12 = .ok (.iconst 4, 1) := by decide +kernel
theorem dX3_reset_13 : decode cX3_reset 13 = .ok (.putfield 28, 3) := by decide +kernel
theorem dX3_reset_16 : decode cX3_reset 16 = .ok (.aload_n 0, 1) := by decide +kernel
theorem dX3_reset_17 : decode cX3_reset 17 = .ok (.bipush 6, 2) := by decide +kernel
theorem dX3_reset_19 : decode cX3_reset 19 = .ok (.putfield 31, 3) := by decide +kernel
theorem dX3_reset_22 : decode cX3_reset 22 = .ok (.aload_n 0, 1) := by decide +kernel
theorem dX3_reset_23 : decode cX3_reset 23 = .ok (.iconst 1, 1) := by decide +kernel
theorem dX3_reset_24 : decode cX3_reset 24 = .ok (.putfield 34, 3) := by decide +kernel
theorem dX3_reset_27 : decode cX3_reset 27 = .ok (.aload_n 0, 1) := by decide +kernel
theorem dX3_reset_28 : decode cX3_reset 28 = .ok (.iconst 1, 1) := by decide +kernel
theorem dX3_reset_29 : decode cX3_reset 29 = .ok (.putfield 37, 3) := by decide +kernel
theorem dX3_reset_32 : decode cX3_reset 32 = .ok (.aload_n 0, 1) := by decide +kernel
theorem dX3_reset_33 : decode cX3_reset 33 = .ok (.bipush 7, 2) := by decide +kernel
theorem dX3_reset_35 : decode cX3_reset 35 = .ok (.putfield 40, 3) := by decide +kernel
theorem dX3_reset_38 : decode cX3_reset 38 = .ok (.aload_n 0, 1) := by decide +kernel
theorem dX3_reset_39 : decode cX3_reset 39 = .ok (.iconst 2, 1) := by decide +kernel
theorem dX3_reset_40 : decode cX3_reset 40 = .ok (.putfield 43, 3) := by decide +kernel
theorem dX3_reset_43 : decode cX3_reset 43 = .ok (.return_, 1) := by decide +kernel
theorem dX3_takeItem_0 : decode cX3_takeItem 0 = .ok (.aload_n 2, 1) := by decide +kernel
theorem dX3_takeItem_1 : decode cX3_takeItem 1 = .ok (.arraylength, 1) := by decide +kernel
theorem dX3_takeItem_2 : decode cX3_takeItem 2 = .ok (.iconst 5, 1) := by decide +kernel
theorem dX3_takeItem_3 : decode cX3_takeItem 3 = .ok (.if_icmp .ge 5, 3) := by decide +kernel
theorem dX3_takeItem_6 : decode cX3_takeItem 6 = .ok (.iconst 0, 1) := by decide +kernel
theorem dX3_takeItem_7 : decode cX3_takeItem 7 = .ok (.ireturn, 1) := by decide +kernel
theorem dX3_takeItem_8 : decode cX3_takeItem 8 = .ok (.iload_n 1, 1) := by decide +kernel
theorem dX3_takeItem_9 : decode cX3_takeItem 9 = .ok (.lookupswitch 76 #[(100, 60), (103, 43), (113, 68), (114, 49)], 43) := by decide +kernel
theorem dX3_takeItem_52 : decode cX3_takeItem 52 = .ok (.aload_n 0, 1) := by decide +kernel
theorem dX3_takeItem_53 : decode cX3_takeItem 53 = .ok (.aload_n 2, 1) := by decide +kernel
theorem dX3_takeItem_54 : decode cX3_takeItem 54 = .ok (.invokevirtual 46, 3) := by decide +kernel
theorem dX3_takeItem_57 : decode cX3_takeItem 57 = .ok (.ireturn, 1) := by decide +kernel
theorem dX3_takeItem_58 : decode cX3_takeItem 58 = .ok (.aload_n 0, 1) := by decide +kernel
theorem dX3_takeItem_59 : decode cX3_takeItem 59 = .ok (.aload_n 2, 1) := by decide +kernel
theorem dX3_takeItem_60 : decode cX3_takeItem 60 = .ok (.iconst 0, 1) := by decide +kernel
theorem dX3_takeItem_61 : decode cX3_takeItem 61 = .ok (.iaload, 1) := by decide +kernel
theorem dX3_takeItem_62 : decode cX3_takeItem 62 = .ok (.aload_n 2, 1) := by decide +kernel
theorem dX3_takeItem_63 : decode cX3_takeItem 63 = .ok (.iconst 1, 1) := by decide +kernel
theorem dX3_takeItem_64 : decode cX3_takeItem 64 = .ok (.iaload, 1) := by decide +kernel
theorem dX3_takeItem_65 : decode cX3_takeItem 65 = .ok (.invokevirtual 50, 3) := by decide +kernel
theorem dX3_takeItem_68 : decode cX3_takeItem 68 = .ok (.ireturn, 1) := by decide +kernel
theorem dX3_takeItem_69 : decode cX3_takeItem 69 = .ok (.aload_n 0, 1) := by decide +kernel
theorem dX3_takeItem_70 : decode cX3_takeItem 70 = .ok (.aload_n 2, 1) := by decide +kernel
theorem dX3_takeItem_71 : decode cX3_takeItem 71 = .ok (.iconst 0, 1) := by decide +kernel
theorem dX3_takeItem_72 : decode cX3_takeItem 72 = .ok (.iaload, 1) := by decide +kernel
theorem dX3_takeItem_73 : decode cX3_takeItem 73 = .ok (.invokevirtual 54, 3) := by decide +kernel
theorem dX3_takeItem_76 : decode cX3_takeItem 76 = .ok (.ireturn, 1) := by decide +kernel
theorem dX3_takeItem_77 : decode cX3_takeItem 77 = .ok (.aload_n 0, 1) := by decide +kernel
theorem dX3_takeItem_78 : decode cX3_takeItem 78 = .ok (.aload_n 2, 1) := by decide +kernel
theorem dX3_takeItem_79 : decode cX3_takeItem 79 = .ok (.iconst 0, 1) := by decide +kernel
theorem dX3_takeItem_80 : decode cX3_takeItem 80 = .ok (.iaload, 1) := by decide +kernel
theorem dX3_takeItem_81 : decode cX3_takeItem 81 = .ok (.invokevirtual 58, 3) := by decide +kernel
theorem dX3_takeItem_84 : decode cX3_takeItem 84 = .ok (.ireturn, 1) := by decide +kernel
theorem dX3_takeItem_85 : decode cX3_takeItem 85 = .ok (.iconst 0, 1) := by decide +kernel
theorem dX3_takeItem_86 : decode cX3_takeItem 86 = .ok (.ireturn, 1) := by decide +kernel
theorem dX3_takeGrid_0 : decode cX3_takeGrid 0 = .ok (.aload_n 1, 1) := by decide +kernel
theorem dX3_takeGrid_1 : decode cX3_takeGrid 1 = .ok (.arraylength, 1) := by decide +kernel
theorem dX3_takeGrid_2 : decode cX3_takeGrid 2 = .ok (.iconst 5, 1) := by decide +kernel
theorem dX3_takeGrid_3 : decode cX3_takeGrid 3 = .ok (.if_icmp .lt 15, 3) := by decide +kernel
theorem dX3_takeGrid_6 : decode cX3_takeGrid 6 = .ok (.aload_n 1, 1) := by decide +kernel
theorem dX3_takeGrid_7 : decode cX3_takeGrid 7 = .ok (.iconst 0, 1) := by decide +kernel
theorem dX3_takeGrid_8 : decode cX3_takeGrid 8 = .ok (.iaload, 1) := by decide +kernel
theorem dX3_takeGrid_9 : decode cX3_takeGrid 9 = .ok (.iconst 4, 1) := by decide +kernel
theorem dX3_takeGrid_10 : decode cX3_takeGrid 10 = .ok (.bipush 16, 2) := by decide +kernel
theorem dX3_takeGrid_12 : decode cX3_takeGrid 12 = .ok (.invokestatic 61, 3) := by decide +kernel
theorem dX3_takeGrid_15 : decode cX3_takeGrid 15 = .ok (.ifCond .ne 5, 3) := by decide +kernel
theorem dX3_takeGrid_18 : decode cX3_takeGrid 18 = .ok (.iconst 0, 1) := by decide +kernel
theorem dX3_takeGrid_19 : decode cX3_takeGrid 19 = .ok (.ireturn, 1) := by decide +kernel
theorem dX3_takeGrid_20 : decode cX3_takeGrid 20 = .ok (.aload_n 1, 1) := by decide +kernel
theorem dX3_takeGrid_21 : decode cX3_takeGrid 21 = .ok (.iconst 1, 1) := by decide +kernel
theorem dX3_takeGrid_22 : decode cX3_takeGrid 22 = .ok (.iaload, 1) := by decide +kernel
theorem dX3_takeGrid_23 : decode cX3_takeGrid 23 = .ok (.iconst 1, 1) := by decide +kernel
theorem dX3_takeGrid_24 : decode cX3_takeGrid 24 = .ok (.if_icmp .lt 13, 3) := by decide +kernel
theorem dX3_takeGrid_27 : decode cX3_takeGrid 27 = .ok (.aload_n 1, 1) := by decide +kernel
theorem dX3_takeGrid_28 : decode cX3_takeGrid 28 = .ok (.iconst 0, 1) := by decide +kernel
theorem dX3_takeGrid_29 : decode cX3_takeGrid 29 = .ok (.iaload, 1) := by decide +kernel
theorem dX3_takeGrid_30 : decode cX3_takeGrid 30 = .ok (.aload_n 1, 1) := by decide +kernel
theorem dX3_takeGrid_31 : decode cX3_takeGrid 31 = .ok (.iconst 1, 1) := by decide +kernel
theorem dX3_takeGrid_32 : decode cX3_takeGrid 32 = .ok (.iaload, 1) := by decide +kernel
theorem dX3_takeGrid_33 : decode cX3_takeGrid 33 = .ok (.irem, 1) := by decide +kernel
theorem dX3_takeGrid_34 : decode cX3_takeGrid 34 = .ok (.ifCond .eq 5, 3) := by decide +kernel
theorem dX3_takeGrid_37 : decode cX3_takeGrid 37 = .ok (.iconst 0, 1) := by decide +kernel
theorem dX3_takeGrid_38 : decode cX3_takeGrid 38 = .ok (.ireturn, 1) := by decide +kernel
theorem dX3_takeGrid_39 : decode cX3_takeGrid 39 = .ok (.aload_n 1, 1) := by decide +kernel
theorem dX3_takeGrid_40 : decode cX3_takeGrid 40 = .ok (.iconst 2, 1) := by decide +kernel
theorem dX3_takeGrid_41 : decode cX3_takeGrid 41 = .ok (.iaload, 1) := by decide +kernel
theorem dX3_takeGrid_42 : decode cX3_takeGrid 42 = .ok (.iconst 0, 1) := by decide +kernel
theorem dX3_takeGrid_43 : decode cX3_takeGrid 43 = .ok (.bipush 20, 2) := by decide +kernel
theorem dX3_takeGrid_45 : decode cX3_takeGrid 45 = .ok (.invokestatic 61, 3) := by decide +kernel
theorem dX3_takeGrid_48 : decode cX3_takeGrid 48 = .ok (.ifCond .eq 25, 3) := by decide +kernel
theorem dX3_takeGrid_51 : decode cX3_takeGrid 51 = .ok (.aload_n 1, 1) := by decide +kernel
theorem dX3_takeGrid_52 : decode cX3_takeGrid 52 = .ok (.iconst 3, 1) := by decide +kernel
theorem dX3_takeGrid_53 : decode cX3_takeGrid 53 = .ok (.iaload, 1) := by decide +kernel
theorem dX3_takeGrid_54 : decode cX3_takeGrid 54 = .ok (.iconst 0, 1) := by decide +kernel
theorem dX3_takeGrid_55 : decode cX3_takeGrid 55 = .ok (.iconst 5, 1) := by decide +kernel
theorem dX3_takeGrid_56 : decode cX3_takeGrid 56 = .ok (.invokestatic 61, 3) := by decide +kernel
theorem dX3_takeGrid_59 : decode cX3_takeGrid 59 = .ok (.ifCond .eq 14, 3) := by decide +kernel
theorem dX3_takeGrid_62 : decode cX3_takeGrid 62 = .ok (.aload_n 1, 1) := by decide +kernel
theorem dX3_takeGrid_63 : decode cX3_takeGrid 63 = .ok (.iconst 4, 1) := by decide +kernel
theorem dX3_takeGrid_64 : decode cX3_takeGrid 64 = .ok (.iaload, 1) := by decide +kernel
theorem dX3_takeGrid_65 : decode cX3_takeGrid 65 = .ok (.iconst 0, 1) := by decide +kernel
theorem dX3_takeGrid_66 : decode cX3_takeGrid 66 = .ok (.iconst 5, 1) := by decide +kernel
theorem dX3_takeGrid_67 : decode cX3_takeGrid 67 = .ok (.invokestatic 61, 3) := by decide +kernel
theorem dX3_takeGrid_70 : decode cX3_takeGrid 70 = .ok (.ifCond .ne 5, 3) := by decide +kernel
theorem dX3_takeGrid_73 : decode cX3_takeGrid 73 = .ok (.iconst 0, 1) := by decide +kernel
theorem dX3_takeGrid_74 : decode cX3_takeGrid 74 = .ok (.ireturn, 1) := by decide +kernel
theorem dX3_takeGrid_75 : decode cX3_takeGrid 75 = .ok (.aload_n 0, 1) := by decide +kernel
theorem dX3_takeGrid_76 : decode cX3_takeGrid 76 = .ok (.aload_n 1, 1) := by decide +kernel
theorem dX3_takeGrid_77 : decode cX3_takeGrid 77 = .ok (.iconst 0, 1) := by decide +kernel
theorem dX3_takeGrid_78 : decode cX3_takeGrid 78 = .ok (.iaload, 1) := by decide +kernel
theorem dX3_takeGrid_79 : decode cX3_takeGrid 79 = .ok (.putfield 25, 3) := by decide +kernel
theorem dX3_takeGrid_82 : decode cX3_takeGrid 82 = .ok (.aload_n 0, 1) := by decide +kernel
theorem dX3_takeGrid_83 : decode cX3_takeGrid 83 = .ok (.aload_n 1, 1) := by decide +kernel
theorem dX3_takeGrid_84 : decode cX3_takeGrid 84 = .ok (.iconst 1, 1) := by decide +kernel
theorem dX3_takeGrid_85 : decode cX3_takeGrid 85 = .ok (.iaload, 1) := by decide +kernel
theorem dX3_takeGrid_86 : decode cX3_takeGrid 86 = .ok (.putfield 28, 3) := by decide +kernel
theorem dX3_takeGrid_89 : decode cX3_takeGrid 89 = .ok (.aload_n 0, 1) := by decide +kernel
theorem dX3_takeGrid_90 : decode cX3_takeGrid 90 = .ok (.aload_n 1, 1) := by decide +kernel
theorem dX3_takeGrid_91 : decode cX3_takeGrid 91 = .ok (.iconst 2, 1) := by decide +kernel
theorem dX3_takeGrid_92 : decode cX3_takeGrid 92 = .ok (.iaload, 1) := by decide +kernel
theorem dX3_takeGrid_93 : decode cX3_takeGrid 93 = .ok (.putfield 31, 3) := by decide +kernel
theorem dX3_takeGrid_96 : decode cX3_takeGrid 96 = .ok (.aload_n 0, 1) := by decide +kernel
theorem dX3_takeGrid_97 : decode cX3_takeGrid 97 = .ok (.aload_n 1, 1) := by decide +kernel
theorem dX3_takeGrid_98 : decode cX3_takeGrid 98 = .ok (.iconst 3, 1) := by decide +kernel
theorem dX3_takeGrid_99 : decode cX3_takeGrid 99 = .ok (.iaload, 1) := by decide +kernel
theorem dX3_takeGrid_100 : decode cX3_takeGrid 100 = .ok (.putfield 34, 3) := by decide +kernel
theorem dX3_takeGrid_103 : decode cX3_takeGrid 103 = .ok (.aload_n 0, 1) := by decide +kernel
theorem dX3_takeGrid_104 : decode cX3_takeGrid 104 = .ok (.aload_n 1, 1) := by decide +kernel
theorem dX3_takeGrid_105 : decode cX3_takeGrid 105 = .ok (.iconst 4, 1) := by decide +kernel
theorem dX3_takeGrid_106 : decode cX3_takeGrid 106 = .ok (.iaload, 1) := by decide +kernel
theorem dX3_takeGrid_107 : decode cX3_takeGrid 107 = .ok (.putfield 37, 3) := by decide +kernel
theorem dX3_takeGrid_110 : decode cX3_takeGrid 110 = .ok (.iconst 1, 1) := by decide +kernel
theorem dX3_takeGrid_111 : decode cX3_takeGrid 111 = .ok (.ireturn, 1) := by decide +kernel
theorem dX3_addRule_0 : decode cX3_addRule 0 = .ok (.aload_n 0, 1) := by decide +kernel
theorem dX3_addRule_1 : decode cX3_addRule 1 = .ok (.getfield 21, 3) := by decide +kernel
theorem dX3_addRule_4 : decode cX3_addRule 4 = .ok (.iconst 4, 1) := by decide +kernel
theorem dX3_addRule_5 : decode cX3_addRule 5 = .ok (.if_icmp .ge 22, 3) := by decide +kernel
theorem dX3_addRule_8 : decode cX3_addRule 8 = .ok (.iload_n 1, 1) := by decide +kernel
theorem dX3_addRule_9 : decode cX3_addRule 9 = .ok (.iconst 0, 1) := by decide +kernel
theorem dX3_addRule_10 : decode cX3_addRule 10 = .ok (.iconst 3, 1) := by decide +kernel
theorem dX3_addRule_11 : decode cX3_addRule 11 = .ok (.invokestatic 61, 3) := by decide +kernel
theorem dX3_addRule_14 : decode cX3_addRule 14 = .ok (.ifCond .eq 13, 3) := by decide +kernel
theorem dX3_addRule_17 : decode cX3_addRule 17 = .ok (.iload_n 2, 1) := by decide +kernel
theorem dX3_addRule_18 : decode cX3_addRule 18 = .ok (.iconst 1, 1) := by decide +kernel
theorem dX3_addRule_19 : decode cX3_addRule 19 = .ok (.bipush 99, 2) := by decide +kernel
theorem dX3_addRule_21 : decode cX3_addRule 21 = .ok (.invokestatic 61, 3) := by decide +kernel
theorem dX3_addRule_24 : decode cX3_addRule 24 = .ok (.ifCond .ne 5, 3) := by decide +kernel
theorem dX3_addRule_27 : decode cX3_addRule 27 = .ok (.iconst 0, 1) := by decide +kernel
theorem dX3_addRule_28 : decode cX3_addRule 28 = .ok (.ireturn, 1) := by decide +kernel
theorem dX3_addRule_29 : decode cX3_addRule 29 = .ok (.aload_n 0, 1) := by decide +kernel
theorem dX3_addRule_30 : decode cX3_addRule 30 = .ok (.getfield 9, 3) := by decide +kernel
theorem dX3_addRule_33 : decode cX3_addRule 33 = .ok (.aload_n 0, 1) := by decide +kernel
theorem dX3_addRule_34 : decode cX3_addRule 34 = .ok (.getfield 21, 3) := by decide +kernel
theorem dX3_addRule_37 : decode cX3_addRule 37 = .ok (.iload_n 1, 1) := by decide +kernel
theorem dX3_addRule_38 : decode cX3_addRule 38 = .ok (.iastore, 1) := by decide +kernel
theorem dX3_addRule_39 : decode cX3_addRule 39 = .ok (.aload_n 0, 1) := by decide +kernel
theorem dX3_addRule_40 : decode cX3_addRule 40 = .ok (.getfield 15, 3) := by decide +kernel
theorem dX3_addRule_43 : decode cX3_addRule 43 = .ok (.aload_n 0, 1) := by decide +kernel
theorem dX3_addRule_44 : decode cX3_addRule 44 = .ok (.getfield 21, 3) := by decide +kernel
theorem dX3_addRule_47 : decode cX3_addRule 47 = .ok (.iload_n 2, 1) := by decide +kernel
theorem dX3_addRule_48 : decode cX3_addRule 48 = .ok (.iastore, 1) := by decide +kernel
theorem dX3_addRule_49 : decode cX3_addRule 49 = .ok (.aload_n 0, 1) := by decide +kernel
theorem dX3_addRule_50 : decode cX3_addRule 50 = .ok (.dup, 1) := by decide +kernel
theorem dX3_addRule_51 : decode cX3_addRule 51 = .ok (.getfield 21, 3) := by decide +kernel
theorem dX3_addRule_54 : decode cX3_addRule 54 = .ok (.iconst 1, 1) := by decide +kernel
theorem dX3_addRule_55 : decode cX3_addRule 55 = .ok (.iadd, 1) := by decide +kernel
theorem dX3_addRule_56 : decode cX3_addRule 56 = .ok (.putfield 21, 3) := by decide +kernel
theorem dX3_addRule_59 : decode cX3_addRule 59 = .ok (.iconst 1, 1) := by decide +kernel
theorem dX3_addRule_60 : decode cX3_addRule 60 = .ok (.ireturn, 1) := by decide +kernel
theorem dX3_takeDark_0 : decode cX3_takeDark 0 = .ok (.iload_n 1, 1) := by decide +kernel
theorem dX3_takeDark_1 : decode cX3_takeDark 1 = .ok (.iconst 1, 1) := by decide +kernel
theorem dX3_takeDark_2 : decode cX3_takeDark 2 = .ok (.bipush 9, 2) := by decide +kernel
theorem dX3_takeDark_4 : decode cX3_takeDark 4 = .ok (.invokestatic 61, 3) := by decide +kernel
theorem dX3_takeDark_7 : decode cX3_takeDark 7 = .ok (.ifCond .ne 5, 3) := by decide +kernel
theorem dX3_takeDark_10 : decode cX3_takeDark 10 = .ok (.iconst 0, 1) := by decide +kernel
theorem dX3_takeDark_11 : decode cX3_takeDark 11 = .ok (.ireturn, 1) := by decide +kernel
theorem dX3_takeDark_12 : decode cX3_takeDark 12 = .ok (.aload_n 0, 1) := by decide +kernel
theorem dX3_takeDark_13 : decode cX3_takeDark 13 = .ok (.iload_n 1, 1) := by decide +kernel
theorem dX3_takeDark_14 : decode cX3_takeDark 14 = .ok (.putfield 40, 3) := by decide +kernel
theorem dX3_takeDark_17 : decode cX3_takeDark 17 = .ok (.iconst 1, 1) := by decide +kernel
theorem dX3_takeDark_18 : decode cX3_takeDark 18 = .ok (.ireturn, 1) := by decide +kernel
theorem dX3_takeRest_0 : decode cX3_takeRest 0 = .ok (.iload_n 1, 1) := by decide +kernel
theorem dX3_takeRest_1 : decode cX3_takeRest 1 = .ok (.iconst 0, 1) := by decide +kernel
theorem dX3_takeRest_2 : decode cX3_takeRest 2 = .ok (.bipush 9, 2) := by decide +kernel
theorem dX3_takeRest_4 : decode cX3_takeRest 4 = .ok (.invokestatic 61, 3) := by decide +kernel
theorem dX3_takeRest_7 : decode cX3_takeRest 7 = .ok (.ifCond .ne 5, 3) := by decide +kernel
theorem dX3_takeRest_10 : decode cX3_takeRest 10 = .ok (.iconst 0, 1) := by decide +kernel
theorem dX3_takeRest_11 : decode cX3_takeRest 11 = .ok (.ireturn, 1) := by decide +kernel
theorem dX3_takeRest_12 : decode cX3_takeRest 12 = .ok (.aload_n 0, 1) := by decide +kernel
theorem dX3_takeRest_13 : decode cX3_takeRest 13 = .ok (.iload_n 1, 1) := by decide +kernel
theorem dX3_takeRest_14 : decode cX3_takeRest 14 = .ok (.putfield 43, 3) := by decide +kernel
theorem dX3_takeRest_17 : decode cX3_takeRest 17 = .ok (.iconst 1, 1) := by decide +kernel
theorem dX3_takeRest_18 : decode cX3_takeRest 18 = .ok (.ireturn, 1) := by decide +kernel
theorem dX3_isBetween_0 : decode cX3_isBetween 0 = .ok (.iload_n 0, 1) := by decide +kernel
theorem dX3_isBetween_1 : decode cX3_isBetween 1 = .ok (.iload_n 1, 1) := by decide +kernel
theorem dX3_isBetween_2 : decode cX3_isBetween 2 = .ok (.if_icmp .lt 12, 3) := by decide +kernel
theorem dX3_isBetween_5 : decode cX3_isBetween 5 = .ok (.iload_n 0, 1) := by decide +kernel
theorem dX3_isBetween_6 : decode cX3_isBetween 6 = .ok (.iload_n 2, 1) := by decide +kernel
theorem dX3_isBetween_7 : decode cX3_isBetween 7 = .ok (.if_icmp .gt 7, 3) := by decide +kernel
theorem dX3_isBetween_10 : decode cX3_isBetween 10 = .ok (.iconst 1, 1) := by decide +kernel
theorem dX3_isBetween_11 : decode cX3_isBetween 11 = .ok (.goto 4, 3) := by decide +kernel
theorem dX3_isBetween_14 : decode cX3_isBetween 14 = .ok (.iconst 0, 1) := by decide +kernel
theorem dX3_isBetween_15 : decode cX3_isBetween 15 = .ok (.ireturn, 1) := by decide +kernel
theorem dX3_lineBound_0 : decode cX3_lineBound 0 = .ok (.lconst 1, 1) := by decide +kernel
theorem dX3_lineBound_1 : decode cX3_lineBound 1 = .ok (.lstore_n 1, 1) := by decide +kernel
theorem dX3_lineBound_2 : decode cX3_lineBound 2 = .ok (.iconst 0, 1) := by decide +kernel
theorem dX3_lineBound_3 : decode cX3_lineBound 3 = .ok (.istore_n 3, 1) := by decide +kernel
theorem dX3_lineBound_4 : decode cX3_lineBound 4 = .ok (.iload_n 3, 1) := by decide +kernel
theorem dX3_lineBound_5 : decode cX3_lineBound 5 = .ok (.aload_n 0, 1) := by decide +kernel
theorem dX3_lineBound_6 : decode cX3_lineBound 6 = .ok (.getfield 25, 3) := by decide +kernel
theorem dX3_lineBound_9 : decode cX3_lineBound 9 = .ok (.if_icmp .ge 15, 3) := by decide +kernel
theorem dX3_lineBound_12 : decode cX3_lineBound 12 = .ok (.lload_n 1, 1) := by decide +kernel
theorem dX3_lineBound_13 : decode cX3_lineBound 13 = .ok (.ldc2_w 65, 3) := by decide +kernel
theorem dX3_lineBound_16 : decode cX3_lineBound 16 = .ok (.lmul, 1) := by decide +kernel
theorem dX3_lineBound_17 : decode cX3_lineBound 17 = .ok (.lstore_n 1, 1) := by decide +kernel
theorem dX3_lineBound_18 : decode cX3_lineBound 18 = .ok (.iinc 3 1, 3) := by decide +kernel
theorem dX3_lineBound_21 : decode cX3_lineBound 21 = .ok (.goto (-17), 3) := by decide +kernel
theorem dX3_lineBound_24 : decode cX3_lineBound 24 = .ok (.lload_n 1, 1) := by decide +kernel
theorem dX3_lineBound_25 : decode cX3_lineBound 25 = .ok (.lreturn, 1) := by decide +kernel
theorem dX3_valveOver_0 : decode cX3_valveOver 0 = .ok (.aload_n 0, 1) := by decide +kernel
theorem dX3_valveOver_1 : decode cX3_valveOver 1 = .ok (.getfield 28, 3) := by decide +kernel
theorem dX3_valveOver_4 : decode cX3_valveOver 4 = .ok (.ifCond .le 15, 3) := by decide +kernel
theorem dX3_valveOver_7 : decode cX3_valveOver 7 = .ok (.aload_n 0, 1) := by decide +kernel
theorem dX3_valveOver_8 : decode cX3_valveOver 8 = .ok (.getfield 25, 3) := by decide +kernel
theorem dX3_valveOver_11 : decode cX3_valveOver 11 = .ok (.aload_n 0, 1) := by decide +kernel
theorem dX3_valveOver_12 : decode cX3_valveOver 12 = .ok (.getfield 28, 3) := by decide +kernel
theorem dX3_valveOver_15 : decode cX3_valveOver 15 = .ok (.idiv, 1) := by decide +kernel
theorem dX3_valveOver_16 : decode cX3_valveOver 16 = .ok (.goto 4, 3) := by decide +kernel
theorem dX3_valveOver_19 : decode cX3_valveOver 19 = .ok (.iconst 0, 1) := by decide +kernel
theorem dX3_valveOver_20 : decode cX3_valveOver 20 = .ok (.istore_n 2, 1) := by decide +kernel
theorem dX3_valveOver_21 : decode cX3_valveOver 21 = .ok (.iload_n 2, 1) := by decide +kernel
theorem dX3_valveOver_22 : decode cX3_valveOver 22 = .ok (.ifCond .le 9, 3) := by decide +kernel
theorem dX3_valveOver_25 : decode cX3_valveOver 25 = .ok (.iload_n 1, 1) := by decide +kernel
theorem dX3_valveOver_26 : decode cX3_valveOver 26 = .ok (.iload_n 2, 1) := by decide +kernel
theorem dX3_valveOver_27 : decode cX3_valveOver 27 = .ok (.idiv, 1) := by decide +kernel
theorem dX3_valveOver_28 : decode cX3_valveOver 28 = .ok (.goto 4, 3) := by decide +kernel
theorem dX3_valveOver_31 : decode cX3_valveOver 31 = .ok (.iconst 0, 1) := by decide +kernel
theorem dX3_valveOver_32 : decode cX3_valveOver 32 = .ok (.ireturn, 1) := by decide +kernel
theorem dX3_wantedFrom_0 : decode cX3_wantedFrom 0 = .ok (.aload_n 1, 1) := by decide +kernel
theorem dX3_wantedFrom_1 : decode cX3_wantedFrom 1 = .ok (.getfield 67, 3) := by decide +kernel
theorem dX3_wantedFrom_4 : decode cX3_wantedFrom 4 = .ok (.aload_n 0, 1) := by decide +kernel
theorem dX3_wantedFrom_5 : decode cX3_wantedFrom 5 = .ok (.getfield 31, 3) := by decide +kernel
theorem dX3_wantedFrom_8 : decode cX3_wantedFrom 8 = .ok (.iadd, 1) := by decide +kernel
theorem dX3_wantedFrom_9 : decode cX3_wantedFrom 9 = .ok (.aload_n 0, 1) := by decide +kernel
theorem dX3_wantedFrom_10 : decode cX3_wantedFrom 10 = .ok (.getfield 34, 3) := by decide +kernel
theorem dX3_wantedFrom_13 : decode cX3_wantedFrom 13 = .ok (.isub, 1) := by decide +kernel
theorem dX3_wantedFrom_14 : decode cX3_wantedFrom 14 = .ok (.ireturn, 1) := by decide +kernel
theorem dX3_wantedTo_0 : decode cX3_wantedTo 0 = .ok (.aload_n 1, 1) := by decide +kernel
theorem dX3_wantedTo_1 : decode cX3_wantedTo 1 = .ok (.getfield 72, 3) := by decide +kernel
theorem dX3_wantedTo_4 : decode cX3_wantedTo 4 = .ok (.aload_n 0, 1) := by decide +kernel
theorem dX3_wantedTo_5 : decode cX3_wantedTo 5 = .ok (.getfield 31, 3) := by decide +kernel
theorem dX3_wantedTo_8 : decode cX3_wantedTo 8 = .ok (.iadd, 1) := by decide +kernel
theorem dX3_wantedTo_9 : decode cX3_wantedTo 9 = .ok (.aload_n 0, 1) := by decide +kernel
theorem dX3_wantedTo_10 : decode cX3_wantedTo 10 = .ok (.getfield 37, 3) := by decide +kernel
theorem dX3_wantedTo_13 : decode cX3_wantedTo 13 = .ok (.iadd, 1) := by decide +kernel
theorem dX3_wantedTo_14 : decode cX3_wantedTo 14 = .ok (.ireturn, 1) := by decide +kernel
theorem dX3_isLate_0 : decode cX3_isLate 0 = .ok (.aload_n 0, 1) := by decide +kernel
theorem dX3_isLate_1 : decode cX3_isLate 1 = .ok (.aload_n 1, 1) := by decide +kernel
theorem dX3_isLate_2 : decode cX3_isLate 2 = .ok (.invokevirtual 75, 3) := by decide +kernel
theorem dX3_isLate_5 : decode cX3_isLate 5 = .ok (.aload_n 1, 1) := by decide +kernel
theorem dX3_isLate_6 : decode cX3_isLate 6 = .ok (.invokevirtual 79, 3) := by decide +kernel
theorem dX3_isLate_9 : decode cX3_isLate 9 = .ok (.if_icmp .ge 7, 3) := by decide +kernel
theorem dX3_isLate_12 : decode cX3_isLate 12 = .ok (.iconst 1, 1) := by decide +kernel
theorem dX3_isLate_13 : decode cX3_isLate 13 = .ok (.goto 4, 3) := by decide +kernel
theorem dX3_isLate_16 : decode cX3_isLate 16 = .ok (.iconst 0, 1) := by decide +kernel
theorem dX3_isLate_17 : decode cX3_isLate 17 = .ok (.ireturn, 1) := by decide +kernel
theorem dX4_init_0 : decode cX4_init 0 = .ok (.aload_n 0, 1) := by decide +kernel
theorem dX4_init_1 : decode cX4_init 1 = .ok (.invokespecial 3, 3) := by decide +kernel
theorem dX4_init_4 : decode cX4_init 4 = .ok (.aload_n 0, 1) := by decide +kernel
theorem dX4_init_5 : decode cX4_init 5 = .ok (.bipush 60, 2) := by decide +kernel
theorem dX4_init_7 : decode cX4_init 7 = .ok (.newarray .long, 2) := by decide +kernel
theorem dX4_init_9 : decode cX4_init 9 = .ok (.putfield 9, 3) := by decide +kernel
theorem dX4_init_12 : decode cX4_init 12 = .ok (.aload_n 0, 1) := by decide +kernel
theorem dX4_init_13 : decode cX4_init 13 = .ok (.iconst 4, 1) := by decide +kernel
theorem dX4_init_14 : decode cX4_init 14 = .ok (.newarray .int, 2) := by decide +kernel
theorem dX4_init_16 : decode cX4_init 16 = .ok (.putfield 15, 3) := by decide +kernel
theorem dX4_init_19 : decode cX4_init 19 = .ok (.return_, 1) := by decide +kernel
theorem dX4_addLine_0 : decode cX4_addLine 0 = .ok (.aload_n 0, 1) := by decide +kernel
theorem dX4_addLine_1 : decode cX4_addLine 1 = .ok (.getfield 19, 3) := by decide +kernel
theorem dX4_addLine_4 : decode cX4_addLine 4 = .ok (.ifCond .lt 35, 3) := by decide +kernel
theorem dX4_addLine_7 : decode cX4_addLine 7 = .ok (.aload_n 0, 1) := by decide +kernel
theorem dX4_addLine_8 : decode cX4_addLine 8 = .ok (.getfield 19, 3) := by decide +kernel
theorem dX4_addLine_11 : decode cX4_addLine 11 = .ok (.aload_n 0, 1) := by decide +kernel
theorem dX4_addLine_12 : decode cX4_addLine 12 = .ok (.getfield 9, 3) := by decide +kernel
theorem dX4_addLine_15 : decode cX4_addLine 15 = .ok (.arraylength, 1) := by decide +kernel
theorem dX4_addLine_16 : decode cX4_addLine 16 = .ok (.if_icmp .ge 23, 3) := by decide +kernel
theorem dX4_addLine_19 : decode cX4_addLine 19 = .ok (.aload_n 0, 1) := by decide +kernel
theorem dX4_addLine_20 : decode cX4_addLine 20 = .ok (.getfield 9, 3) := by decide +kernel
theorem dX4_addLine_23 : decode cX4_addLine 23 = .ok (.aload_n 0, 1) := by decide +kernel
theorem dX4_addLine_24 : decode cX4_addLine 24 = .ok (.getfield 19, 3) := by decide +kernel
theorem dX4_addLine_27 : decode cX4_addLine 27 = .ok (.lload_n 1, 1) := by decide +kernel
theorem dX4_addLine_28 : decode cX4_addLine 28 = .ok (.lastore, 1) := by decide +kernel
theorem dX4_addLine_29 : decode cX4_addLine 29 = .ok (.aload_n 0, 1) := by decide +kernel
theorem dX4_addLine_30 : decode cX4_addLine 30 = .ok (.dup, 1) := by decide +kernel
theorem dX4_addLine_31 : decode cX4_addLine 31 = .ok (.getfield 19, 3) := by decide +kernel
theorem dX4_addLine_34 : decode cX4_addLine 34 = .ok (.iconst 1, 1) := by decide +kernel
theorem dX4_addLine_35 : decode cX4_addLine 35 = .ok (.iadd, 1) := by decide +kernel
theorem dX4_addLine_36 : decode cX4_addLine 36 = .ok (.putfield 19, 3) := by decide +kernel
theorem dX4_addLine_39 : decode cX4_addLine 39 = .ok (.return_, 1) := by decide +kernel
theorem dX4_copyFrom_0 : decode cX4_copyFrom 0 = .ok (.aload_n 1, 1) := by decide +kernel
theorem dX4_copyFrom_1 : decode cX4_copyFrom 1 = .ok (.getfield 9, 3) := by decide +kernel
theorem dX4_copyFrom_4 : decode cX4_copyFrom 4 = .ok (.iconst 0, 1) := by decide +kernel
theorem dX4_copyFrom_5 : decode cX4_copyFrom 5 = .ok (.aload_n 0, 1) := by decide +kernel
theorem dX4_copyFrom_6 : decode cX4_copyFrom 6 = .ok (.getfield 9, 3) := by decide +kernel
theorem dX4_copyFrom_9 : decode cX4_copyFrom 9 = .ok (.iconst 0, 1) := by decide +kernel
theorem dX4_copyFrom_10 : decode cX4_copyFrom 10 = .ok (.bipush 60, 2) := by decide +kernel
theorem dX4_copyFrom_12 : decode cX4_copyFrom 12 = .ok (.invokestatic 23, 3) := by decide +kernel
theorem dX4_copyFrom_15 : decode cX4_copyFrom 15 = .ok (.aload_n 1, 1) := by decide +kernel
theorem dX4_copyFrom_16 : decode cX4_copyFrom 16 = .ok (.getfield 15, 3) := by decide +kernel
theorem dX4_copyFrom_19 : decode cX4_copyFrom 19 = .ok (.iconst 0, 1) := by decide +kernel
theorem dX4_copyFrom_20 : decode cX4_copyFrom 20 = .ok (.aload_n 0, 1) := by decide +kernel
theorem dX4_copyFrom_21 : decode cX4_copyFrom 21 = .ok (.getfield 15, 3) := by decide +kernel
theorem dX4_copyFrom_24 : decode cX4_copyFrom 24 = .ok (.iconst 0, 1) := by decide +kernel
theorem dX4_copyFrom_25 : decode cX4_copyFrom 25 = .ok (.iconst 4, 1) := by decide +kernel
theorem dX4_copyFrom_26 : decode cX4_copyFrom 26 = .ok (.invokestatic 23, 3) := by decide +kernel
theorem dX4_copyFrom_29 : decode cX4_copyFrom 29 = .ok (.aload_n 0, 1) := by decide +kernel
theorem dX4_copyFrom_30 : decode cX4_copyFrom 30 = .ok (.aload_n 1, 1) := by decide +kernel
theorem dX4_copyFrom_31 : decode cX4_copyFrom 31 = .ok (.getfield 19, 3) := by decide +kernel
theorem dX4_copyFrom_34 : decode cX4_copyFrom 34 = .ok (.putfield 19, 3) := by decide +kernel
theorem dX4_copyFrom_37 : decode cX4_copyFrom 37 = .ok (.return_, 1) := by decide +kernel
theorem dX5_init_0 : decode cX5_init 0 = .ok (.aload_n 0, 1) := by decide +kernel
theorem dX5_init_1 : decode cX5_init 1 = .ok (.invokespecial 3, 3) := by decide +kernel
theorem dX5_init_4 : decode cX5_init 4 = .ok (.aload_n 0, 1) := by decide +kernel
theorem dX5_init_5 : decode cX5_init 5 = .ok (.sipush 200, 3) := by decide +kernel
theorem dX5_init_8 : decode cX5_init 8 = .ok (.newarray .char, 2) := by decide +kernel
theorem dX5_init_10 : decode cX5_init 10 = .ok (.putfield 9, 3) := by decide +kernel
theorem dX5_init_13 : decode cX5_init 13 = .ok (.aload_n 0, 1) := by decide +kernel
theorem dX5_init_14 : decode cX5_init 14 = .ok (.iconst 5, 1) := by decide +kernel
theorem dX5_init_15 : decode cX5_init 15 = .ok (.newarray .int, 2) := by decide +kernel
theorem dX5_init_17 : decode cX5_init 17 = .ok (.putfield 15, 3) := by decide +kernel
theorem dX5_init_20 : decode cX5_init 20 = .ok (.return_, 1) := by decide +kernel
theorem dX5_append_0 : decode cX5_append 0 = .ok (.aload_n 0, 1) := by decide +kernel
theorem dX5_append_1 : decode cX5_append 1 = .ok (.getfield 19, 3) := by decide +kernel
theorem dX5_append_4 : decode cX5_append 4 = .ok (.aload_n 0, 1) := by decide +kernel
theorem dX5_append_5 : decode cX5_append 5 = .ok (.getfield 9, 3) := by decide +kernel
theorem dX5_append_8 : decode cX5_append 8 = .ok (.arraylength, 1) := by decide +kernel
theorem dX5_append_9 : decode cX5_append 9 = .ok (.if_icmp .ge 23, 3) := by decide +kernel
theorem dX5_append_12 : decode cX5_append 12 = .ok (.aload_n 0, 1) := by decide +kernel
theorem dX5_append_13 : decode cX5_append 13 = .ok (.getfield 9, 3) := by decide +kernel
theorem dX5_append_16 : decode cX5_append 16 = .ok (.aload_n 0, 1) := by decide +kernel
theorem dX5_append_17 : decode cX5_append 17 = .ok (.getfield 19, 3) := by decide +kernel
theorem dX5_append_20 : decode cX5_append 20 = .ok (.iload_n 1, 1) := by decide +kernel
theorem dX5_append_21 : decode cX5_append 21 = .ok (.castore, 1) := by decide +kernel
theorem dX5_append_22 : decode cX5_append 22 = .ok (.aload_n 0, 1) := by decide +kernel
theorem dX5_append_23 : decode cX5_append 23 = .ok (.dup, 1) := by decide +kernel
theorem dX5_append_24 : decode cX5_append 24 = .ok (.getfield 19, 3) := by decide +kernel
theorem dX5_append_27 : decode cX5_append 27 = .ok (.iconst 1, 1) := by decide +kernel
theorem dX5_append_28 : decode cX5_append 28 = .ok (.iadd, 1) := by decide +kernel
theorem dX5_append_29 : decode cX5_append 29 = .ok (.putfield 19, 3) := by decide +kernel
theorem dX5_append_32 : decode cX5_append 32 = .ok (.return_, 1) := by decide +kernel
theorem dX5_readInto_0 : decode cX5_readInto 0 = .ok (.aload_n 1, 1) := by decide +kernel
theorem dX5_readInto_1 : decode cX5_readInto 1 = .ok (.invokevirtual 23, 3) := by decide +kernel
theorem dX5_readInto_4 : decode cX5_readInto 4 = .ok (.aload_n 0, 1) := by decide +kernel
theorem dX5_readInto_5 : decode cX5_readInto 5 = .ok (.iconst 0, 1) := by decide +kernel
theorem dX5_readInto_6 : decode cX5_readInto 6 = .ok (.putfield 28, 3) := by decide +kernel
theorem dX5_readInto_9 : decode cX5_readInto 9 = .ok (.iconst 0, 1) := by decide +kernel
theorem dX5_readInto_10 : decode cX5_readInto 10 = .ok (.istore_n 2, 1) := by decide +kernel
theorem dX5_readInto_11 : decode cX5_readInto 11 = .ok (.iload_n 2, 1) := by decide +kernel
theorem dX5_readInto_12 : decode cX5_readInto 12 = .ok (.sipush 200, 3) := by decide +kernel
theorem dX5_readInto_15 : decode cX5_readInto 15 = .ok (.if_icmp .ge 35, 3) := by decide +kernel
theorem dX5_readInto_18 : decode cX5_readInto 18 = .ok (.aload_n 0, 1) := by decide +kernel
theorem dX5_readInto_19 : decode cX5_readInto 19 = .ok (.getfield 28, 3) := by decide +kernel
theorem dX5_readInto_22 : decode cX5_readInto 22 = .ok (.aload_n 0, 1) := by decide +kernel
theorem dX5_readInto_23 : decode cX5_readInto 23 = .ok (.getfield 19, 3) := by decide +kernel
theorem dX5_readInto_26 : decode cX5_readInto 26 = .ok (.if_icmp .ge 24, 3) := by decide +kernel
theorem dX5_readInto_29 : decode cX5_readInto 29 = .ok (.aload_n 0, 1) := by decide +kernel
theorem dX5_readInto_30 : decode cX5_readInto 30 = .ok (.getfield 28, 3) := by decide +kernel
theorem dX5_readInto_33 : decode cX5_readInto 33 = .ok (.istore_n 3, 1) := by decide +kernel
theorem dX5_readInto_34 : decode cX5_readInto 34 = .ok (.aload_n 0, 1) := by decide +kernel
theorem dX5_readInto_35 : decode cX5_readInto 35 = .ok (.aload_n 1, 1) := by decide +kernel
theorem dX5_readInto_36 : decode cX5_readInto 36 = .ok (.invokevirtual 31, 3) := by decide +kernel
theorem dX5_readInto_39 : decode cX5_readInto 39 = .ok (.ifCond .ne 5, 3) := by decide +kernel
theorem dX5_readInto_42 : decode cX5_readInto 42 = .ok (.iload_n 3, 1) := by decide +kernel
theorem dX5_readInto_43 : decode cX5_readInto 43 = .ok (.ireturn, 1) := by decide +kernel
theorem dX5_readInto_44 : decode cX5_readInto 44 = .ok (.iinc 2 1, 3) := by decide +kernel
theorem dX5_readInto_47 : decode cX5_readInto 47 = .ok (.goto (-36), 3) := by decide +kernel
theorem dX5_readInto_50 : decode cX5_readInto 50 = .ok (.bipush (-4), 2) := by decide +kernel
theorem dX5_readInto_52 : decode cX5_readInto 52 = .ok (.ireturn, 1) := by decide +kernel
theorem dX5_readItem_0 : decode cX5_readItem 0 = .ok (.aload_n 0, 1) := by decide +kernel
theorem dX5_readItem_1 : decode cX5_readItem 1 = .ok (.invokevirtual 35, 3) := by decide +kernel
theorem dX5_readItem_4 : decode cX5_readItem 4 = .ok (.istore_n 2, 1) := by decide +kernel
theorem dX5_readItem_5 : decode cX5_readItem 5 = .ok (.aload_n 0, 1) := by decide +kernel
theorem dX5_readItem_6 : decode cX5_readItem 6 = .ok (.dup, 1) := by decide +kernel
theorem dX5_readItem_7 : decode cX5_readItem 7 = .ok (.getfield 28, 3) := by decide +kernel
theorem dX5_readItem_10 : decode cX5_readItem 10 = .ok (.iconst 1, 1) := by decide +kernel
theorem dX5_readItem_11 : decode cX5_readItem 11 = .ok (.iadd, 1) := by decide +kernel
theorem dX5_readItem_12 : decode cX5_readItem 12 = .ok (.putfield 28, 3) := by decide +kernel
theorem dX5_readItem_15 : decode cX5_readItem 15 = .ok (.iload_n 2, 1) := by decide +kernel
theorem dX5_readItem_16 : decode cX5_readItem 16 = .ok (.invokestatic 39, 3) := by decide +kernel
theorem dX5_readItem_19 : decode cX5_readItem 19 = .ok (.istore_n 3, 1) := by decide +kernel
theorem dX5_readItem_20 : decode cX5_readItem 20 = .ok (.iload_n 3, 1) := by decide +kernel
theorem dX5_readItem_21 : decode cX5_readItem 21 = .ok (.ifCond .ne 5, 3) := by decide +kernel
theorem dX5_readItem_24 : decode cX5_readItem 24 = .ok (.iconst 0, 1) := by decide +kernel
theorem dX5_readItem_25 : decode cX5_readItem 25 = .ok (.ireturn, 1) := by decide +kernel
theorem dX5_readItem_26 : decode cX5_readItem 26 = .ok (.iconst 0, 1) := by decide +kernel
theorem dX5_readItem_27 : decode cX5_readItem 27 = .ok (.istore 4, 2) := by decide +kernel
theorem dX5_readItem_29 : decode cX5_readItem 29 = .ok (.iload 4, 2) := by decide +kernel
theorem dX5_readItem_31 : decode cX5_readItem 31 = .ok (.iload_n 3, 1) := by decide +kernel
theorem dX5_readItem_32 : decode cX5_readItem 32 = .ok (.if_icmp .ge 57, 3) := by decide +kernel
theorem dX5_readItem_35 : decode cX5_readItem 35 = .ok (.iload 4, 2) := by decide +kernel
theorem dX5_readItem_37 : decode cX5_readItem 37 = .ok (.aload_n 0, 1) := by decide +kernel
theorem dX5_readItem_38 : decode cX5_readItem 38 = .ok (.getfield 15, 3) := by decide +kernel
theorem dX5_readItem_41 : decode cX5_readItem 41 = .ok (.arraylength, 1) := by decide +kernel
theorem dX5_readItem_42 : decode cX5_readItem 42 = .ok (.if_icmp .ge 47, 3) := by decide +kernel
theorem dX5_readItem_45 : decode cX5_readItem 45 = .ok (.aload_n 0, 1) := by decide +kernel
theorem dX5_readItem_46 : decode cX5_readItem 46 = .ok (.getfield 15, 3) := by decide +kernel
theorem dX5_readItem_49 : decode cX5_readItem 49 = .ok (.iload 4, 2) := by decide +kernel
theorem dX5_readItem_51 : decode cX5_readItem 51 = .ok (.aload_n 0, 1) := by decide +kernel
theorem dX5_readItem_52 : decode cX5_readItem 52 = .ok (.iload 4, 2) := by decide +kernel
theorem dX5_readItem_54 : decode cX5_readItem 54 = .ok (.iconst 1, 1) := by decide +kernel
theorem dX5_readItem_55 : decode cX5_readItem 55 = .ok (.iadd, 1) := by decide +kernel
theorem dX5_readItem_56 : decode cX5_readItem 56 = .ok (.iload_n 3, 1) := by decide +kernel
theorem dX5_readItem_57 : decode cX5_readItem 57 = .ok (.if_icmp .ge 8, 3) := by decide +kernel
theorem dX5_readItem_60 : decode cX5_readItem 60 = .ok (.bipush 44, 2) := by decide +kernel
theorem dX5_readItem_62 : decode cX5_readItem 62 = .ok (.goto 5, 3) := by decide +kernel
theorem dX5_readItem_65 : decode cX5_readItem 65 = .ok (.bipush 59, 2) := by decide +kernel
theorem dX5_readItem_67 : decode cX5_readItem 67 = .ok (.invokevirtual 43, 3) := by decide +kernel
theorem dX5_readItem_70 : decode cX5_readItem 70 = .ok (.iastore, 1) := by decide +kernel
theorem dX5_readItem_71 : decode cX5_readItem 71 = .ok (.aload_n 0, 1) := by decide +kernel
theorem dX5_readItem_72 : decode cX5_readItem 72 = .ok (.getfield 15, 3) := by decide +kernel
theorem dX5_readItem_75 : decode cX5_readItem 75 = .ok (.iload 4, 2) := by decide +kernel
theorem dX5_readItem_77 : decode cX5_readItem 77 = .ok (.iaload, 1) := by decide +kernel
theorem dX5_readItem_78 : decode cX5_readItem 78 = .ok (.ifCond .ge 5, 3) := by decide +kernel
theorem dX5_readItem_81 : decode cX5_readItem 81 = .ok (.iconst 0, 1) := by decide +kernel
theorem dX5_readItem_82 : decode cX5_readItem 82 = .ok (.ireturn, 1) := by decide +kernel
theorem dX5_readItem_83 : decode cX5_readItem 83 = .ok (.iinc 4 1, 3) := by decide +kernel
theorem dX5_readItem_86 : decode cX5_readItem 86 = .ok (.goto (-57), 3) := by decide +kernel
theorem dX5_readItem_89 : decode cX5_readItem 89 = .ok (.aload_n 1, 1) := by decide +kernel
theorem dX5_readItem_90 : decode cX5_readItem 90 = .ok (.iload_n 2, 1) := by decide +kernel
theorem dX5_readItem_91 : decode cX5_readItem 91 = .ok (.aload_n 0, 1) := by decide +kernel
theorem dX5_readItem_92 : decode cX5_readItem 92 = .ok (.getfield 15, 3) := by decide +kernel
theorem dX5_readItem_95 : decode cX5_readItem 95 = .ok (.invokevirtual 46, 3) := by decide +kernel
theorem dX5_readItem_98 : decode cX5_readItem 98 = .ok (.ireturn, 1) := by decide +kernel
theorem dX5_numbersBehind_0 : decode cX5_numbersBehind 0 = .ok (.iload_n 0, 1) := by decide +kernel
theorem dX5_numbersBehind_1 : decode cX5_numbersBehind 1 = .ok (.lookupswitch 49 #[(100, 47), (103, 43), (113, 47), (114, 45)], 43) := by decide +kernel
theorem dX5_numbersBehind_44 : decode cX5_numbersBehind 44 = .ok (.iconst 5, 1) := by decide +kernel
theorem dX5_numbersBehind_45 : decode cX5_numbersBehind 45 = .ok (.ireturn, 1) := by decide +kernel
theorem dX5_numbersBehind_46 : decode cX5_numbersBehind 46 = .ok (.iconst 2, 1) := by decide +kernel
theorem dX5_numbersBehind_47 : decode cX5_numbersBehind 47 = .ok (.ireturn, 1) := by decide +kernel
theorem dX5_numbersBehind_48 : decode cX5_numbersBehind 48 = .ok (.iconst 1, 1) := by decide +kernel
theorem dX5_numbersBehind_49 : decode cX5_numbersBehind 49 = .ok (.ireturn, 1) := by decide +kernel
theorem dX5_numbersBehind_50 : decode cX5_numbersBehind 50 = .ok (.iconst 0, 1) := by decide +kernel
theorem dX5_numbersBehind_51 : decode cX5_numbersBehind 51 = .ok (.ireturn, 1) := by decide +kernel
theorem dX5_readNumber_0 : decode cX5_readNumber 0 = .ok (.iconst 0, 1) := by decide +kernel
theorem dX5_readNumber_1 : decode cX5_readNumber 1 = .ok (.istore_n 2, 1) := by decide +kernel
theorem dX5_readNumber_2 : decode cX5_readNumber 2 = .ok (.iconst 0, 1) := by decide +kernel
theorem dX5_readNumber_3 : decode cX5_readNumber 3 = .ok (.istore_n 3, 1) := by decide +kernel
theorem dX5_readNumber_4 : decode cX5_readNumber 4 = .ok (.iload_n 3, 1) := by decide +kernel
theorem dX5_readNumber_5 : decode cX5_readNumber 5 = .ok (.iconst 2, 1) := by decide +kernel
theorem dX5_readNumber_6 : decode cX5_readNumber 6 = .ok (.if_icmp .ge 42, 3) := by decide +kernel
theorem dX5_readNumber_9 : decode cX5_readNumber 9 = .ok (.aload_n 0, 1) := by decide +kernel
theorem dX5_readNumber_10 : decode cX5_readNumber 10 = .ok (.invokevirtual 35, 3) := by decide +kernel
theorem dX5_readNumber_13 : decode cX5_readNumber 13 = .ok (.invokestatic 50, 3) := by decide +kernel
theorem dX5_readNumber_16 : decode cX5_readNumber 16 = .ok (.ifCond .eq 32, 3) := by decide +kernel
theorem dX5_readNumber_19 : decode cX5_readNumber 19 = .ok (.iload_n 2, 1) := by decide +kernel
theorem dX5_readNumber_20 : decode cX5_readNumber 20 = .ok (.bipush 10, 2) := by decide +kernel
theorem dX5_readNumber_22 : decode cX5_readNumber 22 = .ok (.imul, 1) := by decide +kernel
theorem dX5_readNumber_23 : decode cX5_readNumber 23 = .ok (.aload_n 0, 1) := by decide +kernel
theorem dX5_readNumber_24 : decode cX5_readNumber 24 = .ok (.invokevirtual 35, 3) := by decide +kernel
theorem dX5_readNumber_27 : decode cX5_readNumber 27 = .ok (.bipush 48, 2) := by decide +kernel
theorem dX5_readNumber_29 : decode cX5_readNumber 29 = .ok (.isub, 1) := by decide +kernel
theorem dX5_readNumber_30 : decode cX5_readNumber 30 = .ok (.iadd, 1) := by decide +kernel
theorem dX5_readNumber_31 : decode cX5_readNumber 31 = .ok (.istore_n 2, 1) := by decide +kernel
theorem dX5_readNumber_32 : decode cX5_readNumber 32 = .ok (.aload_n 0, 1) := by decide +kernel
theorem dX5_readNumber_33 : decode cX5_readNumber 33 = .ok (.dup, 1) := by decide +kernel
theorem dX5_readNumber_34 : decode cX5_readNumber 34 = .ok (.getfield 28, 3) := by decide +kernel
theorem dX5_readNumber_37 : decode cX5_readNumber 37 = .ok (.iconst 1, 1) := by decide +kernel
theorem dX5_readNumber_38 : decode cX5_readNumber 38 = .ok (.iadd, 1) := by decide +kernel
theorem dX5_readNumber_39 : decode cX5_readNumber 39 = .ok (.putfield 28, 3) := by decide +kernel
theorem dX5_readNumber_42 : decode cX5_readNumber 42 = .ok (.iinc 3 1, 3) := by decide +kernel
theorem dX5_readNumber_45 : decode cX5_readNumber 45 = .ok (.goto (-41), 3) := by decide +kernel
theorem dX5_readNumber_48 : decode cX5_readNumber 48 = .ok (.iload_n 3, 1) := by decide +kernel
theorem dX5_readNumber_49 : decode cX5_readNumber 49 = .ok (.ifCond .eq 11, 3) := by decide +kernel
theorem dX5_readNumber_52 : decode cX5_readNumber 52 = .ok (.aload_n 0, 1) := by decide +kernel
theorem dX5_readNumber_53 : decode cX5_readNumber 53 = .ok (.invokevirtual 35, 3) := by decide +kernel
theorem dX5_readNumber_56 : decode cX5_readNumber 56 = .ok (.iload_n 1, 1) := by decide +kernel
theorem dX5_readNumber_57 : decode cX5_readNumber 57 = .ok (.if_icmp .eq 5, 3) := by decide +kernel
theorem dX5_readNumber_60 : decode cX5_readNumber 60 = .ok (.iconst (-1), 1) := by decide +kernel
theorem dX5_readNumber_61 : decode cX5_readNumber 61 = .ok (.ireturn, 1) := by decide +kernel
theorem dX5_readNumber_62 : decode cX5_readNumber 62 = .ok (.aload_n 0, 1) := by decide +kernel
theorem dX5_readNumber_63 : decode cX5_readNumber 63 = .ok (.dup, 1) := by decide +kernel
theorem dX5_readNumber_64 : decode cX5_readNumber 64 = .ok (.getfield 28, 3) := by decide +kernel
theorem dX5_readNumber_67 : decode cX5_readNumber 67 = .ok (.iconst 1, 1) := by decide +kernel
theorem dX5_readNumber_68 : decode cX5_readNumber 68 = .ok (.iadd, 1) := by decide +kernel
theorem dX5_readNumber_69 : decode cX5_readNumber 69 = .ok (.putfield 28, 3) := by decide +kernel
theorem dX5_readNumber_72 : decode cX5_readNumber 72 = .ok (.iload_n 2, 1) := by decide +kernel
theorem dX5_readNumber_73 : decode cX5_readNumber 73 = .ok (.ireturn, 1) := by decide +kernel
theorem dX5_letterHere_0 : decode cX5_letterHere 0 = .ok (.aload_n 0, 1) := by decide +kernel
theorem dX5_letterHere_1 : decode cX5_letterHere 1 = .ok (.getfield 28, 3) := by decide +kernel
theorem dX5_letterHere_4 : decode cX5_letterHere 4 = .ok (.ifCond .lt 38, 3) := by decide +kernel
theorem dX5_letterHere_7 : decode cX5_letterHere 7 = .ok (.aload_n 0, 1) := by decide +kernel
theorem dX5_letterHere_8 : decode cX5_letterHere 8 = .ok (.getfield 28, 3) := by decide +kernel
theorem dX5_letterHere_11 : decode cX5_letterHere 11 = .ok (.aload_n 0, 1) := by decide +kernel
theorem dX5_letterHere_12 : decode cX5_letterHere 12 = .ok (.getfield 19, 3) := by decide +kernel
theorem dX5_letterHere_15 : decode cX5_letterHere 15 = .ok (.if_icmp .ge 27, 3) := by decide +kernel
theorem dX5_letterHere_18 : decode cX5_letterHere 18 = .ok (.aload_n 0, 1) := by decide +kernel
theorem dX5_letterHere_19 : decode cX5_letterHere 19 = .ok (.getfield 28, 3) := by decide +kernel
theorem dX5_letterHere_22 : decode cX5_letterHere 22 = .ok (.aload_n 0, 1) := by decide +kernel
theorem dX5_letterHere_23 : decode cX5_letterHere 23 = .ok (.getfield 9, 3) := by decide +kernel
theorem dX5_letterHere_26 : decode cX5_letterHere 26 = .ok (.arraylength, 1) := by decide +kernel
theorem dX5_letterHere_27 : decode cX5_letterHere 27 = .ok (.if_icmp .ge 15, 3) := by decide +kernel
theorem dX5_letterHere_30 : decode cX5_letterHere 30 = .ok (.aload_n 0, 1) := by decide +kernel
theorem dX5_letterHere_31 : decode cX5_letterHere 31 = .ok (.getfield 9, 3) := by decide +kernel
theorem dX5_letterHere_34 : decode cX5_letterHere 34 = .ok (.aload_n 0, 1) := by decide +kernel
theorem dX5_letterHere_35 : decode cX5_letterHere 35 = .ok (.getfield 28, 3) := by decide +kernel
theorem dX5_letterHere_38 : decode cX5_letterHere 38 = .ok (.caload, 1) := by decide +kernel
theorem dX5_letterHere_39 : decode cX5_letterHere 39 = .ok (.goto 4, 3) := by decide +kernel
theorem dX5_letterHere_42 : decode cX5_letterHere 42 = .ok (.iconst 0, 1) := by decide +kernel
theorem dX5_letterHere_43 : decode cX5_letterHere 43 = .ok (.ireturn, 1) := by decide +kernel
theorem dX5_isFigure_0 : decode cX5_isFigure 0 = .ok (.iload_n 0, 1) := by decide +kernel
theorem dX5_isFigure_1 : decode cX5_isFigure 1 = .ok (.bipush 48, 2) := by decide +kernel
theorem dX5_isFigure_3 : decode cX5_isFigure 3 = .ok (.if_icmp .lt 13, 3) := by decide +kernel
theorem dX5_isFigure_6 : decode cX5_isFigure 6 = .ok (.iload_n 0, 1) := by decide +kernel
theorem dX5_isFigure_7 : decode cX5_isFigure 7 = .ok (.bipush 57, 2) := by decide +kernel
theorem dX5_isFigure_9 : decode cX5_isFigure 9 = .ok (.if_icmp .gt 7, 3) := by decide +kernel
theorem dX5_isFigure_12 : decode cX5_isFigure 12 = .ok (.iconst 1, 1) := by decide +kernel
theorem dX5_isFigure_13 : decode cX5_isFigure 13 = .ok (.goto 4, 3) := by decide +kernel
theorem dX5_isFigure_16 : decode cX5_isFigure 16 = .ok (.iconst 0, 1) := by decide +kernel
theorem dX5_isFigure_17 : decode cX5_isFigure 17 = .ok (.ireturn, 1) := by decide +kernel
theorem dX6_init_0 : decode cX6_init 0 = .ok (.aload_n 0, 1) := by decide +kernel
theorem dX6_init_1 : decode cX6_init 1 = .ok (.invokespecial 3, 3) := by decide +kernel
theorem dX6_init_4 : decode cX6_init 4 = .ok (.aload_n 0, 1) := by decide +kernel
theorem dX6_init_5 : decode cX6_init 5 = .ok (.bipush 31, 2) := by decide +kernel
theorem dX6_init_7 : decode cX6_init 7 = .ok (.newarray .int, 2) := by decide +kernel
theorem dX6_init_9 : decode cX6_init 9 = .ok (.putfield 9, 3) := by decide +kernel
theorem dX6_init_12 : decode cX6_init 12 = .ok (.aload_n 0, 1) := by decide +kernel
theorem dX6_init_13 : decode cX6_init 13 = .ok (.bipush 31, 2) := by decide +kernel
theorem dX6_init_15 : decode cX6_init 15 = .ok (.newarray .int, 2) := by decide +kernel
theorem dX6_init_17 : decode cX6_init 17 = .ok (.putfield 15, 3) := by decide +kernel
theorem dX6_init_20 : decode cX6_init 20 = .ok (.return_, 1) := by decide +kernel
theorem dX6_want_0 : decode cX6_want 0 = .ok (.iload_n 1, 1) := by decide +kernel
theorem dX6_want_1 : decode cX6_want 1 = .ok (.istore 4, 2) := by decide +kernel
theorem dX6_want_3 : decode cX6_want 3 = .ok (.aload_n 0, 1) := by decide +kernel
theorem dX6_want_4 : decode cX6_want 4 = .ok (.getfield 18, 3) := by decide +kernel
theorem dX6_want_7 : decode cX6_want 7 = .ok (.ifCond .le 64, 3) := by decide +kernel
theorem dX6_want_10 : decode cX6_want 10 = .ok (.aload_n 0, 1) := by decide +kernel
theorem dX6_want_11 : decode cX6_want 11 = .ok (.getfield 18, 3) := by decide +kernel
theorem dX6_want_14 : decode cX6_want 14 = .ok (.aload_n 0, 1) := by decide +kernel
theorem dX6_want_15 : decode cX6_want 15 = .ok (.getfield 15, 3) := by decide +kernel
theorem dX6_want_18 : decode cX6_want 18 = .ok (.arraylength, 1) := by decide +kernel
theorem dX6_want_19 : decode cX6_want 19 = .ok (.if_icmp .gt 52, 3) := by decide +kernel
theorem dX6_want_22 : decode cX6_want 22 = .ok (.aload_n 0, 1) := by decide +kernel
theorem dX6_want_23 : decode cX6_want 23 = .ok (.getfield 15, 3) := by decide +kernel
theorem dX6_want_26 : decode cX6_want 26 = .ok (.aload_n 0, 1) := by decide +kernel
theorem dX6_want_27 : decode cX6_want 27 = .ok (.getfield 18, 3) := by decide +kernel
theorem dX6_want_30 : decode cX6_want 30 = .ok (.iconst 1, 1) := by decide +kernel
theorem dX6_want_31 : decode cX6_want 31 = .ok (.isub, 1) := by decide +kernel
theorem dX6_want_32 : decode cX6_want 32 = .ok (.iaload, 1) := by decide +kernel
theorem dX6_want_33 : decode cX6_want 33 = .ok (.iload 4, 2) := by decide +kernel
theorem dX6_want_35 : decode cX6_want 35 = .ok (.iload_n 3, 1) := by decide +kernel
theorem dX6_want_36 : decode cX6_want 36 = .ok (.invokestatic 22, 3) := by decide +kernel
theorem dX6_want_39 : decode cX6_want 39 = .ok (.ifCond .eq 32, 3) := by decide +kernel
theorem dX6_want_42 : decode cX6_want 42 = .ok (.aload_n 0, 1) := by decide +kernel
theorem dX6_want_43 : decode cX6_want 43 = .ok (.dup, 1) := by decide +kernel
theorem dX6_want_44 : decode cX6_want 44 = .ok (.getfield 18, 3) := by decide +kernel
theorem dX6_want_47 : decode cX6_want 47 = .ok (.iconst 1, 1) := by decide +kernel
theorem dX6_want_48 : decode cX6_want 48 = .ok (.isub, 1) := by decide +kernel
theorem dX6_want_49 : decode cX6_want 49 = .ok (.putfield 18, 3) := by decide +kernel
theorem dX6_want_52 : decode cX6_want 52 = .ok (.iload 4, 2) := by decide +kernel
theorem dX6_want_54 : decode cX6_want 54 = .ok (.aload_n 0, 1) := by decide +kernel
theorem dX6_want_55 : decode cX6_want 55 = .ok (.getfield 9, 3) := by decide +kernel
theorem dX6_want_58 : decode cX6_want 58 = .ok (.aload_n 0, 1) := by decide +kernel
theorem dX6_want_59 : decode cX6_want 59 = .ok (.getfield 18, 3) := by decide +kernel
theorem dX6_want_62 : decode cX6_want 62 = .ok (.iaload, 1) := by decide +kernel
theorem dX6_want_63 : decode cX6_want 63 = .ok (.invokestatic 26, 3) := by decide +kernel
theorem dX6_want_66 : decode cX6_want 66 = .ok (.istore 4, 2) := by decide +kernel
theorem dX6_want_68 : decode cX6_want 68 = .ok (.goto (-65), 3) := by decide +kernel
theorem dX6_want_71 : decode cX6_want 71 = .ok (.aload_n 0, 1) := by decide +kernel
theorem dX6_want_72 : decode cX6_want 72 = .ok (.getfield 18, 3) := by decide +kernel
theorem dX6_want_75 : decode cX6_want 75 = .ok (.ifCond .lt 46, 3) := by decide +kernel
theorem dX6_want_78 : decode cX6_want 78 = .ok (.aload_n 0, 1) := by decide +kernel
theorem dX6_want_79 : decode cX6_want 79 = .ok (.getfield 18, 3) := by decide +kernel
theorem dX6_want_82 : decode cX6_want 82 = .ok (.aload_n 0, 1) := by decide +kernel
theorem dX6_want_83 : decode cX6_want 83 = .ok (.getfield 9, 3) := by decide +kernel
theorem dX6_want_86 : decode cX6_want 86 = .ok (.arraylength, 1) := by decide +kernel
theorem dX6_want_87 : decode cX6_want 87 = .ok (.if_icmp .ge 34, 3) := by decide +kernel
theorem dX6_want_90 : decode cX6_want 90 = .ok (.aload_n 0, 1) := by decide +kernel
theorem dX6_want_91 : decode cX6_want 91 = .ok (.getfield 9, 3) := by decide +kernel
theorem dX6_want_94 : decode cX6_want 94 = .ok (.aload_n 0, 1) := by decide +kernel
theorem dX6_want_95 : decode cX6_want 95 = .ok (.getfield 18, 3) := by decide +kernel
theorem dX6_want_98 : decode cX6_want 98 = .ok (.iload 4, 2) := by decide +kernel
theorem dX6_want_100 : decode cX6_want 100 = .ok (.iastore, 1) := by decide +kernel
theorem dX6_want_101 : decode cX6_want 101 = .ok (.aload_n 0, 1) := by decide +kernel
theorem dX6_want_102 : decode cX6_want 102 = .ok (.getfield 15, 3) := by decide +kernel
theorem dX6_want_105 : decode cX6_want 105 = .ok (.aload_n 0, 1) := by decide +kernel
theorem dX6_want_106 : decode cX6_want 106 = .ok (.getfield 18, 3) := by decide +kernel
theorem dX6_want_109 : decode cX6_want 109 = .ok (.iload_n 2, 1) := by decide +kernel
theorem dX6_want_110 : decode cX6_want 110 = .ok (.iastore, 1) := by decide +kernel
theorem dX6_want_111 : decode cX6_want 111 = .ok (.aload_n 0, 1) := by decide +kernel
theorem dX6_want_112 : decode cX6_want 112 = .ok (.dup, 1) := by decide +kernel
theorem dX6_want_113 : decode cX6_want 113 = .ok (.getfield 18, 3) := by decide +kernel
theorem dX6_want_116 : decode cX6_want 116 = .ok (.iconst 1, 1) := by decide +kernel
theorem dX6_want_117 : decode cX6_want 117 = .ok (.iadd, 1) := by decide +kernel
theorem dX6_want_118 : decode cX6_want 118 = .ok (.putfield 18, 3) := by decide +kernel
theorem dX6_want_121 : decode cX6_want 121 = .ok (.return_, 1) := by decide +kernel
theorem dX6_isNear_0 : decode cX6_isNear 0 = .ok (.iload_n 1, 1) := by decide +kernel
theorem dX6_isNear_1 : decode cX6_isNear 1 = .ok (.iload_n 0, 1) := by decide +kernel
theorem dX6_isNear_2 : decode cX6_isNear 2 = .ok (.isub, 1) := by decide +kernel
theorem dX6_isNear_3 : decode cX6_isNear 3 = .ok (.iconst 1, 1) := by decide +kernel
theorem dX6_isNear_4 : decode cX6_isNear 4 = .ok (.isub, 1) := by decide +kernel
theorem dX6_isNear_5 : decode cX6_isNear 5 = .ok (.istore_n 3, 1) := by decide +kernel
theorem dX6_isNear_6 : decode cX6_isNear 6 = .ok (.iload_n 3, 1) := by decide +kernel
theorem dX6_isNear_7 : decode cX6_isNear 7 = .ok (.ifCond .le 8, 3) := by decide +kernel
theorem dX6_isNear_10 : decode cX6_isNear 10 = .ok (.iload_n 3, 1) := by decide +kernel
theorem dX6_isNear_11 : decode cX6_isNear 11 = .ok (.iload_n 2, 1) := by decide +kernel
theorem dX6_isNear_12 : decode cX6_isNear 12 = .ok (.if_icmp .ge 7, 3) := by decide +kernel
theorem dX6_isNear_15 : decode cX6_isNear 15 = .ok (.iconst 1, 1) := by decide +kernel
theorem dX6_isNear_16 : decode cX6_isNear 16 = .ok (.goto 4, 3) := by decide +kernel
theorem dX6_isNear_19 : decode cX6_isNear 19 = .ok (.iconst 0, 1) := by decide +kernel
theorem dX6_isNear_20 : decode cX6_isNear 20 = .ok (.ireturn, 1) := by decide +kernel
theorem dX6_isOpenWithin_0 : decode cX6_isOpenWithin 0 = .ok (.iconst 0, 1) := by decide +kernel
theorem dX6_isOpenWithin_1 : decode cX6_isOpenWithin 1 = .ok (.istore_n 3, 1) := by decide +kernel
theorem dX6_isOpenWithin_2 : decode cX6_isOpenWithin 2 = .ok (.iload_n 3, 1) := by decide +kernel
theorem dX6_isOpenWithin_3 : decode cX6_isOpenWithin 3 = .ok (.aload_n 0, 1) := by decide +kernel
theorem dX6_isOpenWithin_4 : decode cX6_isOpenWithin 4 = .ok (.getfield 18, 3) := by decide +kernel
theorem dX6_isOpenWithin_7 : decode cX6_isOpenWithin 7 = .ok (.if_icmp .ge 40, 3) := by decide +kernel
theorem dX6_isOpenWithin_10 : decode cX6_isOpenWithin 10 = .ok (.iload_n 3, 1) := by decide +kernel
theorem dX6_isOpenWithin_11 : decode cX6_isOpenWithin 11 = .ok (.aload_n 0, 1) := by decide +kernel
theorem dX6_isOpenWithin_12 : decode cX6_isOpenWithin 12 = .ok (.getfield 9, 3) := by decide +kernel
theorem dX6_isOpenWithin_15 : decode cX6_isOpenWithin 15 = .ok (.arraylength, 1) := by decide +kernel
theorem dX6_isOpenWithin_16 : decode cX6_isOpenWithin 16 = .ok (.if_icmp .ge 31, 3) := by decide +kernel
theorem dX6_isOpenWithin_19 : decode cX6_isOpenWithin 19 = .ok (.aload_n 0, 1) := by decide +kernel
theorem dX6_isOpenWithin_20 : decode cX6_isOpenWithin 20 = .ok (.getfield 9, 3) := by decide +kernel
theorem dX6_isOpenWithin_23 : decode cX6_isOpenWithin 23 = .ok (.iload_n 3, 1) := by decide +kernel
theorem dX6_isOpenWithin_24 : decode cX6_isOpenWithin 24 = .ok (.iaload, 1) := by decide +kernel
theorem dX6_isOpenWithin_25 : decode cX6_isOpenWithin 25 = .ok (.iload_n 2, 1) := by decide +kernel
theorem dX6_isOpenWithin_26 : decode cX6_isOpenWithin 26 = .ok (.if_icmp .gt 15, 3) := by decide +kernel
theorem dX6_isOpenWithin_29 : decode cX6_isOpenWithin 29 = .ok (.aload_n 0, 1) := by decide +kernel
theorem dX6_isOpenWithin_30 : decode cX6_isOpenWithin 30 = .ok (.getfield 15, 3) := by decide +kernel
theorem dX6_isOpenWithin_33 : decode cX6_isOpenWithin 33 = .ok (.iload_n 3, 1) := by decide +kernel
theorem dX6_isOpenWithin_34 : decode cX6_isOpenWithin 34 = .ok (.iaload, 1) := by decide +kernel
theorem dX6_isOpenWithin_35 : decode cX6_isOpenWithin 35 = .ok (.iload_n 1, 1) := by decide +kernel
theorem dX6_isOpenWithin_36 : decode cX6_isOpenWithin 36 = .ok (.if_icmp .lt 5, 3) := by decide +kernel
theorem dX6_isOpenWithin_39 : decode cX6_isOpenWithin 39 = .ok (.iconst 1, 1) := by decide +kernel
theorem dX6_isOpenWithin_40 : decode cX6_isOpenWithin 40 = .ok (.ireturn, 1) := by decide +kernel
theorem dX6_isOpenWithin_41 : decode cX6_isOpenWithin 41 = .ok (.iinc 3 1, 3) := by decide +kernel
theorem dX6_isOpenWithin_44 : decode cX6_isOpenWithin 44 = .ok (.goto (-42), 3) := by decide +kernel
theorem dX6_isOpenWithin_47 : decode cX6_isOpenWithin 47 = .ok (.iconst 0, 1) := by decide +kernel
theorem dX6_isOpenWithin_48 : decode cX6_isOpenWithin 48 = .ok (.ireturn, 1) := by decide +kernel
theorem dX6_ticksOpen_0 : decode cX6_ticksOpen 0 = .ok (.iconst 0, 1) := by decide +kernel
theorem dX6_ticksOpen_1 : decode cX6_ticksOpen 1 = .ok (.istore_n 1, 1) := by decide +kernel
theorem dX6_ticksOpen_2 : decode cX6_ticksOpen 2 = .ok (.iconst 0, 1) := by decide +kernel
theorem dX6_ticksOpen_3 : decode cX6_ticksOpen 3 = .ok (.istore_n 2, 1) := by decide +kernel
theorem dX6_ticksOpen_4 : decode cX6_ticksOpen 4 = .ok (.iload_n 2, 1) := by decide +kernel
theorem dX6_ticksOpen_5 : decode cX6_ticksOpen 5 = .ok (.aload_n 0, 1) := by decide +kernel
theorem dX6_ticksOpen_6 : decode cX6_ticksOpen 6 = .ok (.getfield 18, 3) := by decide +kernel
theorem dX6_ticksOpen_9 : decode cX6_ticksOpen 9 = .ok (.if_icmp .ge 36, 3) := by decide +kernel
theorem dX6_ticksOpen_12 : decode cX6_ticksOpen 12 = .ok (.iload_n 2, 1) := by decide +kernel
theorem dX6_ticksOpen_13 : decode cX6_ticksOpen 13 = .ok (.aload_n 0, 1) := by decide +kernel
theorem dX6_ticksOpen_14 : decode cX6_ticksOpen 14 = .ok (.getfield 9, 3) := by decide +kernel
theorem dX6_ticksOpen_17 : decode cX6_ticksOpen 17 = .ok (.arraylength, 1) := by decide +kernel
theorem dX6_ticksOpen_18 : decode cX6_ticksOpen 18 = .ok (.if_icmp .ge 27, 3) := by decide +kernel
theorem dX6_ticksOpen_21 : decode cX6_ticksOpen 21 = .ok (.iload_n 1, 1) := by decide +kernel
theorem dX6_ticksOpen_22 : decode cX6_ticksOpen 22 = .ok (.aload_n 0, 1) := by decide +kernel
theorem dX6_ticksOpen_23 : decode cX6_ticksOpen 23 = .ok (.getfield 15, 3) := by decide +kernel
theorem dX6_ticksOpen_26 : decode cX6_ticksOpen 26 = .ok (.iload_n 2, 1) := by decide +kernel
theorem dX6_ticksOpen_27 : decode cX6_ticksOpen 27 = .ok (.iaload, 1) := by decide +kernel
theorem dX6_ticksOpen_28 : decode cX6_ticksOpen 28 = .ok (.aload_n 0, 1) := by decide +kernel
theorem dX6_ticksOpen_29 : decode cX6_ticksOpen 29 = .ok (.getfield 9, 3) := by decide +kernel
theorem dX6_ticksOpen_32 : decode cX6_ticksOpen 32 = .ok (.iload_n 2, 1) := by decide +kernel
theorem dX6_ticksOpen_33 : decode cX6_ticksOpen 33 = .ok (.iaload, 1) := by decide +kernel
theorem dX6_ticksOpen_34 : decode cX6_ticksOpen 34 = .ok (.isub, 1) := by decide +kernel
theorem dX6_ticksOpen_35 : decode cX6_ticksOpen 35 = .ok (.iconst 1, 1) := by decide +kernel
theorem dX6_ticksOpen_36 : decode cX6_ticksOpen 36 = .ok (.iadd, 1) := by decide +kernel
theorem dX6_ticksOpen_37 : decode cX6_ticksOpen 37 = .ok (.iadd, 1) := by decide +kernel
theorem dX6_ticksOpen_38 : decode cX6_ticksOpen 38 = .ok (.istore_n 1, 1) := by decide +kernel
theorem dX6_ticksOpen_39 : decode cX6_ticksOpen 39 = .ok (.iinc 2 1, 3) := by decide +kernel
theorem dX6_ticksOpen_42 : decode cX6_ticksOpen 42 = .ok (.goto (-38), 3) := by decide +kernel
theorem dX6_ticksOpen_45 : decode cX6_ticksOpen 45 = .ok (.iload_n 1, 1) := by decide +kernel
theorem dX6_ticksOpen_46 : decode cX6_ticksOpen 46 = .ok (.ireturn, 1) := by decide +kernel
theorem dX7_init_0 : decode cX7_init 0 = .ok (.aload_n 0, 1) := by decide +kernel
theorem dX7_init_1 : decode cX7_init 1 = .ok (.invokespecial 3, 3) := by decide +kernel
theorem dX7_init_4 : decode cX7_init 4 = .ok (.aload_n 0, 1) := by decide +kernel
theorem dX7_init_5 : decode cX7_init 5 = .ok (.bipush 31, 2) := by decide +kernel
theorem dX7_init_7 : decode cX7_init 7 = .ok (.newarray .int, 2) := by decide +kernel
theorem dX7_init_9 : decode cX7_init 9 = .ok (.putfield 9, 3) := by decide +kernel
theorem dX7_init_12 : decode cX7_init 12 = .ok (.aload_n 0, 1) := by decide +kernel
theorem dX7_init_13 : decode cX7_init 13 = .ok (.bipush 31, 2) := by decide +kernel
theorem dX7_init_15 : decode cX7_init 15 = .ok (.newarray .boolean, 2) := by decide +kernel
theorem dX7_init_17 : decode cX7_init 17 = .ok (.putfield 15, 3) := by decide +kernel
theorem dX7_init_20 : decode cX7_init 20 = .ok (.aload_n 0, 1) := by decide +kernel
theorem dX7_init_21 : decode cX7_init 21 = .ok (.bipush 16, 2) := by decide +kernel
theorem dX7_init_23 : decode cX7_init 23 = .ok (.anewarray 19, 3) := by decide +kernel
theorem dX7_init_26 : decode cX7_init 26 = .ok (.putfield 21, 3) := by decide +kernel
theorem dX7_init_29 : decode cX7_init 29 = .ok (.iconst 0, 1) := by decide +kernel
theorem dX7_init_30 : decode cX7_init 30 = .ok (.istore_n 1, 1) := by decide +kernel
theorem dX7_init_31 : decode cX7_init 31 = .ok (.iload_n 1, 1) := by decide +kernel
theorem dX7_init_32 : decode cX7_init 32 = .ok (.aload_n 0, 1) := by decide +kernel
theorem dX7_init_33 : decode cX7_init 33 = .ok (.getfield 21, 3) := by decide +kernel
theorem dX7_init_36 : decode cX7_init 36 = .ok (.arraylength, 1) := by decide +kernel
theorem dX7_init_37 : decode cX7_init 37 = .ok (.if_icmp .ge 22, 3) := by decide +kernel
theorem dX7_init_40 : decode cX7_init 40 = .ok (.aload_n 0, 1) := by decide +kernel
theorem dX7_init_41 : decode cX7_init 41 = .ok (.getfield 21, 3) := by decide +kernel
theorem dX7_init_44 : decode cX7_init 44 = .ok (.iload_n 1, 1) := by decide +kernel
theorem dX7_init_45 : decode cX7_init 45 = .ok (.new 19, 3) := by decide +kernel
theorem dX7_init_48 : decode cX7_init 48 = .ok (.dup, 1) := by decide +kernel
theorem dX7_init_49 : decode cX7_init 49 = .ok (.invokespecial 25, 3) := by decide +kernel
theorem dX7_init_52 : decode cX7_init 52 = .ok (.aastore, 1) := by decide +kernel
theorem dX7_init_53 : decode cX7_init 53 = .ok (.iinc 1 1, 3) := by decide +kernel
theorem dX7_init_56 : decode cX7_init 56 = .ok (.goto (-25), 3) := by decide +kernel
theorem dX7_init_59 : decode cX7_init 59 = .ok (.return_, 1) := by decide +kernel
theorem dX7_closeAll_0 : decode cX7_closeAll 0 = .ok (.iconst 0, 1) := by decide +kernel
theorem dX7_closeAll_1 : decode cX7_closeAll 1 = .ok (.istore_n 1, 1) := by decide +kernel
theorem dX7_closeAll_2 : decode cX7_closeAll 2 = .ok (.iload_n 1, 1) := by decide +kernel
theorem dX7_closeAll_3 : decode cX7_closeAll 3 = .ok (.aload_n 0, 1) := by decide +kernel
theorem dX7_closeAll_4 : decode cX7_closeAll 4 = .ok (.getfield 21, 3) := by decide +kernel
theorem dX7_closeAll_7 : decode cX7_closeAll 7 = .ok (.arraylength, 1) := by decide +kernel
theorem dX7_closeAll_8 : decode cX7_closeAll 8 = .ok (.if_icmp .ge 19, 3) := by decide +kernel
theorem dX7_closeAll_11 : decode cX7_closeAll 11 = .ok (.aload_n 0, 1) := by decide +kernel
theorem dX7_closeAll_12 : decode cX7_closeAll 12 = .ok (.getfield 21, 3) := by decide +kernel
theorem dX7_closeAll_15 : decode cX7_closeAll 15 = .ok (.iload_n 1, 1) := by decide +kernel
theorem dX7_closeAll_16 : decode cX7_closeAll 16 = .ok (.aaload, 1) := by decide +kernel
theorem dX7_closeAll_17 : decode cX7_closeAll 17 = .ok (.iconst 0, 1) := by decide +kernel
theorem dX7_closeAll_18 : decode cX7_closeAll 18 = .ok (.putfield 26, 3) := by decide +kernel
theorem dX7_closeAll_21 : decode cX7_closeAll 21 = .ok (.iinc 1 1, 3) := by decide +kernel
theorem dX7_closeAll_24 : decode cX7_closeAll 24 = .ok (.goto (-22), 3) := by decide +kernel
theorem dX7_closeAll_27 : decode cX7_closeAll 27 = .ok (.return_, 1) := by decide +kernel
theorem dX7_judgeAll_0 : decode cX7_judgeAll 0 = .ok (.aload_n 0, 1) := by decide +kernel
theorem dX7_judgeAll_1 : decode cX7_judgeAll 1 = .ok (.invokevirtual 30, 3) := by decide +kernel
theorem dX7_judgeAll_4 : decode cX7_judgeAll 4 = .ok (.iconst 0, 1) := by decide +kernel
theorem dX7_judgeAll_5 : decode cX7_judgeAll 5 = .ok (.istore 4, 2) := by decide +kernel
theorem dX7_judgeAll_7 : decode cX7_judgeAll 7 = .ok (.iload 4, 2) := by decide +kernel
theorem dX7_judgeAll_9 : decode cX7_judgeAll 9 = .ok (.aload_n 3, 1) := by decide +kernel
theorem dX7_judgeAll_10 : decode cX7_judgeAll 10 = .ok (.invokestatic 33, 3) := by decide +kernel
theorem dX7_judgeAll_13 : decode cX7_judgeAll 13 = .ok (.if_icmp .ge 49, 3) := by decide +kernel
theorem dX7_judgeAll_16 : decode cX7_judgeAll 16 = .ok (.aload_n 0, 1) := by decide +kernel
theorem dX7_judgeAll_17 : decode cX7_judgeAll 17 = .ok (.getfield 9, 3) := by decide +kernel
theorem dX7_judgeAll_20 : decode cX7_judgeAll 20 = .ok (.iload 4, 2) := by decide +kernel
theorem dX7_judgeAll_22 : decode cX7_judgeAll 22 = .ok (.aload_n 1, 1) := by decide +kernel
theorem dX7_judgeAll_23 : decode cX7_judgeAll 23 = .ok (.aload_n 2, 1) := by decide +kernel
theorem dX7_judgeAll_24 : decode cX7_judgeAll 24 = .ok (.aload_n 3, 1) := by decide +kernel
theorem dX7_judgeAll_25 : decode cX7_judgeAll 25 = .ok (.getfield 37, 3) := by decide +kernel
theorem dX7_judgeAll_28 : decode cX7_judgeAll 28 = .ok (.iload 4, 2) := by decide +kernel
theorem dX7_judgeAll_30 : decode cX7_judgeAll 30 = .ok (.aaload, 1) := by decide +kernel
theorem dX7_judgeAll_31 : decode cX7_judgeAll 31 = .ok (.invokestatic 43, 3) := by decide +kernel
theorem dX7_judgeAll_34 : decode cX7_judgeAll 34 = .ok (.iastore, 1) := by decide +kernel
theorem dX7_judgeAll_35 : decode cX7_judgeAll 35 = .ok (.aload_n 0, 1) := by decide +kernel
theorem dX7_judgeAll_36 : decode cX7_judgeAll 36 = .ok (.iload 4, 2) := by decide +kernel
theorem dX7_judgeAll_38 : decode cX7_judgeAll 38 = .ok (.invokevirtual 47, 3) := by decide +kernel
theorem dX7_judgeAll_41 : decode cX7_judgeAll 41 = .ok (.ifCond .eq 15, 3) := by decide +kernel
theorem dX7_judgeAll_44 : decode cX7_judgeAll 44 = .ok (.aload_n 0, 1) := by decide +kernel
theorem dX7_judgeAll_45 : decode cX7_judgeAll 45 = .ok (.aload_n 1, 1) := by decide +kernel
theorem dX7_judgeAll_46 : decode cX7_judgeAll 46 = .ok (.aload_n 3, 1) := by decide +kernel
theorem dX7_judgeAll_47 : decode cX7_judgeAll 47 = .ok (.getfield 37, 3) := by decide +kernel
theorem dX7_judgeAll_50 : decode cX7_judgeAll 50 = .ok (.iload 4, 2) := by decide +kernel
theorem dX7_judgeAll_52 : decode cX7_judgeAll 52 = .ok (.aaload, 1) := by decide +kernel
theorem dX7_judgeAll_53 : decode cX7_judgeAll 53 = .ok (.invokevirtual 51, 3) := by decide +kernel
theorem dX7_judgeAll_56 : decode cX7_judgeAll 56 = .ok (.iinc 4 1, 3) := by decide +kernel
theorem dX7_judgeAll_59 : decode cX7_judgeAll 59 = .ok (.goto (-52), 3) := by decide +kernel
theorem dX7_judgeAll_62 : decode cX7_judgeAll 62 = .ok (.iconst 0, 1) := by decide +kernel
theorem dX7_judgeAll_63 : decode cX7_judgeAll 63 = .ok (.istore 4, 2) := by decide +kernel
theorem dX7_judgeAll_65 : decode cX7_judgeAll 65 = .ok (.iload 4, 2) := by decide +kernel
theorem dX7_judgeAll_67 : decode cX7_judgeAll 67 = .ok (.aload_n 3, 1) := by decide +kernel
theorem dX7_judgeAll_68 : decode cX7_judgeAll 68 = .ok (.invokestatic 33, 3) := by decide +kernel
theorem dX7_judgeAll_71 : decode cX7_judgeAll 71 = .ok (.if_icmp .ge 28, 3) := by decide +kernel
theorem dX7_judgeAll_74 : decode cX7_judgeAll 74 = .ok (.aload_n 0, 1) := by decide +kernel
theorem dX7_judgeAll_75 : decode cX7_judgeAll 75 = .ok (.getfield 15, 3) := by decide +kernel
theorem dX7_judgeAll_78 : decode cX7_judgeAll 78 = .ok (.iload 4, 2) := by decide +kernel
theorem dX7_judgeAll_80 : decode cX7_judgeAll 80 = .ok (.aload_n 0, 1) := by decide +kernel
theorem dX7_judgeAll_81 : decode cX7_judgeAll 81 = .ok (.aload_n 1, 1) := by decide +kernel
theorem dX7_judgeAll_82 : decode cX7_judgeAll 82 = .ok (.aload_n 3, 1) := by decide +kernel
theorem dX7_judgeAll_83 : decode cX7_judgeAll 83 = .ok (.getfield 37, 3) := by decide +kernel
theorem dX7_judgeAll_86 : decode cX7_judgeAll 86 = .ok (.iload 4, 2) := by decide +kernel
theorem dX7_judgeAll_88 : decode cX7_judgeAll 88 = .ok (.aaload, 1) := by decide +kernel
theorem dX7_judgeAll_89 : decode cX7_judgeAll 89 = .ok (.invokevirtual 55, 3) := by decide +kernel
theorem dX7_judgeAll_92 : decode cX7_judgeAll 92 = .ok (.bastore, 1) := by decide +kernel
theorem dX7_judgeAll_93 : decode cX7_judgeAll 93 = .ok (.iinc 4 1, 3) := by decide +kernel
theorem dX7_judgeAll_96 : decode cX7_judgeAll 96 = .ok (.goto (-31), 3) := by decide +kernel
theorem dX7_judgeAll_99 : decode cX7_judgeAll 99 = .ok (.return_, 1) := by decide +kernel
theorem dX7_endedOf_0 : decode cX7_endedOf 0 = .ok (.aload_n 0, 1) := by decide +kernel
theorem dX7_endedOf_1 : decode cX7_endedOf 1 = .ok (.getfield 59, 3) := by decide +kernel
theorem dX7_endedOf_4 : decode cX7_endedOf 4 = .ok (.bipush 31, 2) := by decide +kernel
theorem dX7_endedOf_6 : decode cX7_endedOf 6 = .ok (.invokestatic 62, 3) := by decide +kernel
theorem dX7_endedOf_9 : decode cX7_endedOf 9 = .ok (.ireturn, 1) := by decide +kernel
theorem dX7_firstRuleFor_0 : decode cX7_firstRuleFor 0 = .ok (.iconst 0, 1) := by decide +kernel
theorem dX7_firstRuleFor_1 : decode cX7_firstRuleFor 1 = .ok (.istore_n 3, 1) := by decide +kernel
theorem dX7_firstRuleFor_2 : decode cX7_firstRuleFor 2 = .ok (.iload_n 3, 1) := by decide +kernel
theorem dX7_firstRuleFor_3 : decode cX7_firstRuleFor 3 = .ok (.aload_n 0, 1) := by decide +kernel
theorem dX7_firstRuleFor_4 : decode cX7_firstRuleFor 4 = .ok (.getfield 68, 3) := by decide +kernel
theorem dX7_firstRuleFor_7 : decode cX7_firstRuleFor 7 = .ok (.if_icmp .ge 42, 3) := by decide +kernel
theorem dX7_firstRuleFor_10 : decode cX7_firstRuleFor 10 = .ok (.iload_n 3, 1) := by decide +kernel
theorem dX7_firstRuleFor_11 : decode cX7_firstRuleFor 11 = .ok (.aload_n 1, 1) := by decide +kernel
theorem dX7_firstRuleFor_12 : decode cX7_firstRuleFor 12 = .ok (.arraylength, 1) := by decide +kernel
theorem dX7_firstRuleFor_13 : decode cX7_firstRuleFor 13 = .ok (.if_icmp .ge 36, 3) := by decide +kernel
theorem dX7_firstRuleFor_16 : decode cX7_firstRuleFor 16 = .ok (.iload_n 3, 1) := by decide +kernel
theorem dX7_firstRuleFor_17 : decode cX7_firstRuleFor 17 = .ok (.aload_n 0, 1) := by decide +kernel
theorem dX7_firstRuleFor_18 : decode cX7_firstRuleFor 18 = .ok (.getfield 73, 3) := by decide +kernel
theorem dX7_firstRuleFor_21 : decode cX7_firstRuleFor 21 = .ok (.arraylength, 1) := by decide +kernel
theorem dX7_firstRuleFor_22 : decode cX7_firstRuleFor 22 = .ok (.if_icmp .ge 27, 3) := by decide +kernel
theorem dX7_firstRuleFor_25 : decode cX7_firstRuleFor 25 = .ok (.aload_n 2, 1) := by decide +kernel
theorem dX7_firstRuleFor_26 : decode cX7_firstRuleFor 26 = .ok (.aload_n 0, 1) := by decide +kernel
theorem dX7_firstRuleFor_27 : decode cX7_firstRuleFor 27 = .ok (.getfield 73, 3) := by decide +kernel
theorem dX7_firstRuleFor_30 : decode cX7_firstRuleFor 30 = .ok (.iload_n 3, 1) := by decide +kernel
theorem dX7_firstRuleFor_31 : decode cX7_firstRuleFor 31 = .ok (.iaload, 1) := by decide +kernel
theorem dX7_firstRuleFor_32 : decode cX7_firstRuleFor 32 = .ok (.invokevirtual 76, 3) := by decide +kernel
theorem dX7_firstRuleFor_35 : decode cX7_firstRuleFor 35 = .ok (.aload_n 1, 1) := by decide +kernel
theorem dX7_firstRuleFor_36 : decode cX7_firstRuleFor 36 = .ok (.iload_n 3, 1) := by decide +kernel
theorem dX7_firstRuleFor_37 : decode cX7_firstRuleFor 37 = .ok (.iaload, 1) := by decide +kernel
theorem dX7_firstRuleFor_38 : decode cX7_firstRuleFor 38 = .ok (.if_icmp .lt 5, 3) := by decide +kernel
theorem dX7_firstRuleFor_41 : decode cX7_firstRuleFor 41 = .ok (.iload_n 3, 1) := by decide +kernel
theorem dX7_firstRuleFor_42 : decode cX7_firstRuleFor 42 = .ok (.ireturn, 1) := by decide +kernel
theorem dX7_firstRuleFor_43 : decode cX7_firstRuleFor 43 = .ok (.iinc 3 1, 3) := by decide +kernel
theorem dX7_firstRuleFor_46 : decode cX7_firstRuleFor 46 = .ok (.goto (-44), 3) := by decide +kernel
theorem dX7_firstRuleFor_49 : decode cX7_firstRuleFor 49 = .ok (.bipush (-4), 2) := by decide +kernel
theorem dX7_firstRuleFor_51 : decode cX7_firstRuleFor 51 = .ok (.ireturn, 1) := by decide +kernel
theorem dX7_openFor_0 : decode cX7_openFor 0 = .ok (.aload_n 1, 1) := by decide +kernel
theorem dX7_openFor_1 : decode cX7_openFor 1 = .ok (.aload_n 2, 1) := by decide +kernel
theorem dX7_openFor_2 : decode cX7_openFor 2 = .ok (.invokevirtual 82, 3) := by decide +kernel
theorem dX7_openFor_5 : decode cX7_openFor 5 = .ok (.istore_n 3, 1) := by decide +kernel
theorem dX7_openFor_6 : decode cX7_openFor 6 = .ok (.iload_n 3, 1) := by decide +kernel
theorem dX7_openFor_7 : decode cX7_openFor 7 = .ok (.aload_n 2, 1) := by decide +kernel
theorem dX7_openFor_8 : decode cX7_openFor 8 = .ok (.invokevirtual 86, 3) := by decide +kernel
theorem dX7_openFor_11 : decode cX7_openFor 11 = .ok (.if_icmp .ge 4, 3) := by decide +kernel
theorem dX7_openFor_14 : decode cX7_openFor 14 = .ok (.return_, 1) := by decide +kernel
theorem dX7_openFor_15 : decode cX7_openFor 15 = .ok (.aload_n 1, 1) := by decide +kernel
theorem dX7_openFor_16 : decode cX7_openFor 16 = .ok (.aload_n 2, 1) := by decide +kernel
theorem dX7_openFor_17 : decode cX7_openFor 17 = .ok (.invokevirtual 90, 3) := by decide +kernel
theorem dX7_openFor_20 : decode cX7_openFor 20 = .ok (.aload_n 2, 1) := by decide +kernel
theorem dX7_openFor_21 : decode cX7_openFor 21 = .ok (.invokevirtual 86, 3) := by decide +kernel
theorem dX7_openFor_24 : decode cX7_openFor 24 = .ok (.invokestatic 93, 3) := by decide +kernel
theorem dX7_openFor_27 : decode cX7_openFor 27 = .ok (.istore 4, 2) := by decide +kernel
theorem dX7_openFor_29 : decode cX7_openFor 29 = .ok (.aload_n 1, 1) := by decide +kernel
theorem dX7_openFor_30 : decode cX7_openFor 30 = .ok (.aload_n 2, 1) := by decide +kernel
theorem dX7_openFor_31 : decode cX7_openFor 31 = .ok (.getfield 96, 3) := by decide +kernel
theorem dX7_openFor_34 : decode cX7_openFor 34 = .ok (.invokevirtual 99, 3) := by decide +kernel
theorem dX7_openFor_37 : decode cX7_openFor 37 = .ok (.bipush 15, 2) := by decide +kernel
theorem dX7_openFor_39 : decode cX7_openFor 39 = .ok (.invokestatic 62, 3) := by decide +kernel
theorem dX7_openFor_42 : decode cX7_openFor 42 = .ok (.istore 5, 2) := by decide +kernel
theorem dX7_openFor_44 : decode cX7_openFor 44 = .ok (.aload_n 1, 1) := by decide +kernel
theorem dX7_openFor_45 : decode cX7_openFor 45 = .ok (.aload_n 2, 1) := by decide +kernel
theorem dX7_openFor_46 : decode cX7_openFor 46 = .ok (.getfield 102, 3) := by decide +kernel
theorem dX7_openFor_49 : decode cX7_openFor 49 = .ok (.invokevirtual 99, 3) := by decide +kernel
theorem dX7_openFor_52 : decode cX7_openFor 52 = .ok (.iconst 0, 1) := by decide +kernel
theorem dX7_openFor_53 : decode cX7_openFor 53 = .ok (.invokestatic 93, 3) := by decide +kernel
theorem dX7_openFor_56 : decode cX7_openFor 56 = .ok (.istore 6, 2) := by decide +kernel
theorem dX7_openFor_58 : decode cX7_openFor 58 = .ok (.iload 6, 2) := by decide +kernel
theorem dX7_openFor_60 : decode cX7_openFor 60 = .ok (.iload 5, 2) := by decide +kernel
theorem dX7_openFor_62 : decode cX7_openFor 62 = .ok (.if_icmp .gt 26, 3) := by decide +kernel
theorem dX7_openFor_65 : decode cX7_openFor 65 = .ok (.aload_n 0, 1) := by decide +kernel
theorem dX7_openFor_66 : decode cX7_openFor 66 = .ok (.getfield 21, 3) := by decide +kernel
theorem dX7_openFor_69 : decode cX7_openFor 69 = .ok (.iload 6, 2) := by decide +kernel
theorem dX7_openFor_71 : decode cX7_openFor 71 = .ok (.aaload, 1) := by decide +kernel
theorem dX7_openFor_72 : decode cX7_openFor 72 = .ok (.iload 4, 2) := by decide +kernel
theorem dX7_openFor_74 : decode cX7_openFor 74 = .ok (.iload_n 3, 1) := by decide +kernel
theorem dX7_openFor_75 : decode cX7_openFor 75 = .ok (.aload_n 1, 1) := by decide +kernel
theorem dX7_openFor_76 : decode cX7_openFor 76 = .ok (.getfield 105, 3) := by decide +kernel
theorem dX7_openFor_79 : decode cX7_openFor 79 = .ok (.invokevirtual 108, 3) := by decide +kernel
theorem dX7_openFor_82 : decode cX7_openFor 82 = .ok (.iinc 6 1, 3) := by decide +kernel
theorem dX7_openFor_85 : decode cX7_openFor 85 = .ok (.goto (-27), 3) := by decide +kernel
theorem dX7_openFor_88 : decode cX7_openFor 88 = .ok (.return_, 1) := by decide +kernel
theorem dX7_isBlown_0 : decode cX7_isBlown 0 = .ok (.aload_n 1, 1) := by decide +kernel
theorem dX7_isBlown_1 : decode cX7_isBlown 1 = .ok (.aload_n 2, 1) := by decide +kernel
theorem dX7_isBlown_2 : decode cX7_isBlown 2 = .ok (.getfield 96, 3) := by decide +kernel
theorem dX7_isBlown_5 : decode cX7_isBlown 5 = .ok (.invokevirtual 99, 3) := by decide +kernel
theorem dX7_isBlown_8 : decode cX7_isBlown 8 = .ok (.bipush 15, 2) := by decide +kernel
theorem dX7_isBlown_10 : decode cX7_isBlown 10 = .ok (.invokestatic 62, 3) := by decide +kernel
theorem dX7_isBlown_13 : decode cX7_isBlown 13 = .ok (.istore_n 3, 1) := by decide +kernel
theorem dX7_isBlown_14 : decode cX7_isBlown 14 = .ok (.aload_n 1, 1) := by decide +kernel
theorem dX7_isBlown_15 : decode cX7_isBlown 15 = .ok (.aload_n 2, 1) := by decide +kernel
theorem dX7_isBlown_16 : decode cX7_isBlown 16 = .ok (.getfield 102, 3) := by decide +kernel
theorem dX7_isBlown_19 : decode cX7_isBlown 19 = .ok (.invokevirtual 99, 3) := by decide +kernel
theorem dX7_isBlown_22 : decode cX7_isBlown 22 = .ok (.iconst 0, 1) := by decide +kernel
theorem dX7_isBlown_23 : decode cX7_isBlown 23 = .ok (.invokestatic 93, 3) := by decide +kernel
theorem dX7_isBlown_26 : decode cX7_isBlown 26 = .ok (.istore 4, 2) := by decide +kernel
theorem dX7_isBlown_28 : decode cX7_isBlown 28 = .ok (.iload 4, 2) := by decide +kernel
theorem dX7_isBlown_30 : decode cX7_isBlown 30 = .ok (.iload_n 3, 1) := by decide +kernel
theorem dX7_isBlown_31 : decode cX7_isBlown 31 = .ok (.if_icmp .gt 42, 3) := by decide +kernel
theorem dX7_isBlown_34 : decode cX7_isBlown 34 = .ok (.aload_n 0, 1) := by decide +kernel
theorem dX7_isBlown_35 : decode cX7_isBlown 35 = .ok (.getfield 21, 3) := by decide +kernel
theorem dX7_isBlown_38 : decode cX7_isBlown 38 = .ok (.iload 4, 2) := by decide +kernel
theorem dX7_isBlown_40 : decode cX7_isBlown 40 = .ok (.aaload, 1) := by decide +kernel
theorem dX7_isBlown_41 : decode cX7_isBlown 41 = .ok (.aload_n 2, 1) := by decide +kernel
theorem dX7_isBlown_42 : decode cX7_isBlown 42 = .ok (.getfield 112, 3) := by decide +kernel
theorem dX7_isBlown_45 : decode cX7_isBlown 45 = .ok (.aload_n 1, 1) := by decide +kernel
theorem dX7_isBlown_46 : decode cX7_isBlown 46 = .ok (.getfield 115, 3) := by decide +kernel
theorem dX7_isBlown_49 : decode cX7_isBlown 49 = .ok (.iadd, 1) := by decide +kernel
theorem dX7_isBlown_50 : decode cX7_isBlown 50 = .ok (.aload_n 2, 1) := by decide +kernel
theorem dX7_isBlown_51 : decode cX7_isBlown 51 = .ok (.getfield 118, 3) := by decide +kernel
theorem dX7_isBlown_54 : decode cX7_isBlown 54 = .ok (.aload_n 1, 1) := by decide +kernel
theorem dX7_isBlown_55 : decode cX7_isBlown 55 = .ok (.getfield 115, 3) := by decide +kernel
theorem dX7_isBlown_58 : decode cX7_isBlown 58 = .ok (.iadd, 1) := by decide +kernel
theorem dX7_isBlown_59 : decode cX7_isBlown 59 = .ok (.invokevirtual 121, 3) := by decide +kernel
theorem dX7_isBlown_62 : decode cX7_isBlown 62 = .ok (.ifCond .eq 5, 3) := by decide +kernel
theorem dX7_isBlown_65 : decode cX7_isBlown 65 = .ok (.iconst 1, 1) := by decide +kernel
theorem dX7_isBlown_66 : decode cX7_isBlown 66 = .ok (.ireturn, 1) := by decide +kernel
theorem dX7_isBlown_67 : decode cX7_isBlown 67 = .ok (.iinc 4 1, 3) := by decide +kernel
theorem dX7_isBlown_70 : decode cX7_isBlown 70 = .ok (.goto (-42), 3) := by decide +kernel
theorem dX7_isBlown_73 : decode cX7_isBlown 73 = .ok (.iconst 0, 1) := by decide +kernel
theorem dX7_isBlown_74 : decode cX7_isBlown 74 = .ok (.ireturn, 1) := by decide +kernel
theorem dX7_isBad_0 : decode cX7_isBad 0 = .ok (.iload_n 1, 1) := by decide +kernel
theorem dX7_isBad_1 : decode cX7_isBad 1 = .ok (.ifCond .lt 27, 3) := by decide +kernel
theorem dX7_isBad_4 : decode cX7_isBad 4 = .ok (.iload_n 1, 1) := by decide +kernel
theorem dX7_isBad_5 : decode cX7_isBad 5 = .ok (.aload_n 0, 1) := by decide +kernel
theorem dX7_isBad_6 : decode cX7_isBad 6 = .ok (.getfield 9, 3) := by decide +kernel
theorem dX7_isBad_9 : decode cX7_isBad 9 = .ok (.arraylength, 1) := by decide +kernel
theorem dX7_isBad_10 : decode cX7_isBad 10 = .ok (.if_icmp .ge 18, 3) := by decide +kernel
theorem dX7_isBad_13 : decode cX7_isBad 13 = .ok (.aload_n 0, 1) := by decide +kernel
theorem dX7_isBad_14 : decode cX7_isBad 14 = .ok (.getfield 9, 3) := by decide +kernel
theorem dX7_isBad_17 : decode cX7_isBad 17 = .ok (.iload_n 1, 1) := by decide +kernel
theorem dX7_isBad_18 : decode cX7_isBad 18 = .ok (.iaload, 1) := by decide +kernel
theorem dX7_isBad_19 : decode cX7_isBad 19 = .ok (.bipush (-4), 2) := by decide +kernel
theorem dX7_isBad_21 : decode cX7_isBad 21 = .ok (.if_icmp .eq 7, 3) := by decide +kernel
theorem dX7_isBad_24 : decode cX7_isBad 24 = .ok (.iconst 1, 1) := by decide +kernel
theorem dX7_isBad_25 : decode cX7_isBad 25 = .ok (.goto 4, 3) := by decide +kernel
theorem dX7_isBad_28 : decode cX7_isBad 28 = .ok (.iconst 0, 1) := by decide +kernel
theorem dX7_isBad_29 : decode cX7_isBad 29 = .ok (.ireturn, 1) := by decide +kernel
theorem dX7_worth_0 : decode cX7_worth 0 = .ok (.iconst 0, 1) := by decide +kernel
theorem dX7_worth_1 : decode cX7_worth 1 = .ok (.istore_n 2, 1) := by decide +kernel
theorem dX7_worth_2 : decode cX7_worth 2 = .ok (.iconst 0, 1) := by decide +kernel
theorem dX7_worth_3 : decode cX7_worth 3 = .ok (.istore_n 3, 1) := by decide +kernel
theorem dX7_worth_4 : decode cX7_worth 4 = .ok (.iload_n 3, 1) := by decide +kernel
theorem dX7_worth_5 : decode cX7_worth 5 = .ok (.aload_n 1, 1) := by decide +kernel
theorem dX7_worth_6 : decode cX7_worth 6 = .ok (.invokestatic 33, 3) := by decide +kernel
theorem dX7_worth_9 : decode cX7_worth 9 = .ok (.if_icmp .ge 34, 3) := by decide +kernel
theorem dX7_worth_12 : decode cX7_worth 12 = .ok (.iload_n 2, 1) := by decide +kernel
theorem dX7_worth_13 : decode cX7_worth 13 = .ok (.aload_n 0, 1) := by decide +kernel
theorem dX7_worth_14 : decode cX7_worth 14 = .ok (.getfield 15, 3) := by decide +kernel
theorem dX7_worth_17 : decode cX7_worth 17 = .ok (.iload_n 3, 1) := by decide +kernel
theorem dX7_worth_18 : decode cX7_worth 18 = .ok (.baload, 1) := by decide +kernel
theorem dX7_worth_19 : decode cX7_worth 19 = .ok (.ifCond .eq 7, 3) := by decide +kernel
theorem dX7_worth_22 : decode cX7_worth 22 = .ok (.iconst 0, 1) := by decide +kernel
theorem dX7_worth_23 : decode cX7_worth 23 = .ok (.goto 12, 3) := by decide +kernel
theorem dX7_worth_26 : decode cX7_worth 26 = .ok (.aload_n 1, 1) := by decide +kernel
theorem dX7_worth_27 : decode cX7_worth 27 = .ok (.getfield 37, 3) := by decide +kernel
theorem dX7_worth_30 : decode cX7_worth 30 = .ok (.iload_n 3, 1) := by decide +kernel
theorem dX7_worth_31 : decode cX7_worth 31 = .ok (.aaload, 1) := by decide +kernel
theorem dX7_worth_32 : decode cX7_worth 32 = .ok (.invokevirtual 125, 3) := by decide +kernel
theorem dX7_worth_35 : decode cX7_worth 35 = .ok (.iadd, 1) := by decide +kernel
theorem dX7_worth_36 : decode cX7_worth 36 = .ok (.istore_n 2, 1) := by decide +kernel
theorem dX7_worth_37 : decode cX7_worth 37 = .ok (.iinc 3 1, 3) := by decide +kernel
theorem dX7_worth_40 : decode cX7_worth 40 = .ok (.goto (-36), 3) := by decide +kernel
theorem dX7_worth_43 : decode cX7_worth 43 = .ok (.iload_n 2, 1) := by decide +kernel
theorem dX7_worth_44 : decode cX7_worth 44 = .ok (.ireturn, 1) := by decide +kernel
theorem dX7_howMany_0 : decode cX7_howMany 0 = .ok (.iconst 0, 1) := by decide +kernel
theorem dX7_howMany_1 : decode cX7_howMany 1 = .ok (.istore 4, 2) := by decide +kernel
theorem dX7_howMany_3 : decode cX7_howMany 3 = .ok (.iconst 0, 1) := by decide +kernel
theorem dX7_howMany_4 : decode cX7_howMany 4 = .ok (.istore 5, 2) := by decide +kernel
theorem dX7_howMany_6 : decode cX7_howMany 6 = .ok (.iload 5, 2) := by decide +kernel
theorem dX7_howMany_8 : decode cX7_howMany 8 = .ok (.aload_n 2, 1) := by decide +kernel
theorem dX7_howMany_9 : decode cX7_howMany 9 = .ok (.invokestatic 33, 3) := by decide +kernel
theorem dX7_howMany_12 : decode cX7_howMany 12 = .ok (.if_icmp .ge 31, 3) := by decide +kernel
theorem dX7_howMany_15 : decode cX7_howMany 15 = .ok (.iload 4, 2) := by decide +kernel
theorem dX7_howMany_17 : decode cX7_howMany 17 = .ok (.aload_n 0, 1) := by decide +kernel
theorem dX7_howMany_18 : decode cX7_howMany 18 = .ok (.aload_n 1, 1) := by decide +kernel
theorem dX7_howMany_19 : decode cX7_howMany 19 = .ok (.aload_n 2, 1) := by decide +kernel
theorem dX7_howMany_20 : decode cX7_howMany 20 = .ok (.iload 5, 2) := by decide +kernel
theorem dX7_howMany_22 : decode cX7_howMany 22 = .ok (.iload_n 3, 1) := by decide +kernel
theorem dX7_howMany_23 : decode cX7_howMany 23 = .ok (.invokevirtual 128, 3) := by decide +kernel
theorem dX7_howMany_26 : decode cX7_howMany 26 = .ok (.ifCond .eq 7, 3) := by decide +kernel
theorem dX7_howMany_29 : decode cX7_howMany 29 = .ok (.iconst 1, 1) := by decide +kernel
theorem dX7_howMany_30 : decode cX7_howMany 30 = .ok (.goto 4, 3) := by decide +kernel
theorem dX7_howMany_33 : decode cX7_howMany 33 = .ok (.iconst 0, 1) := by decide +kernel
theorem dX7_howMany_34 : decode cX7_howMany 34 = .ok (.iadd, 1) := by decide +kernel
theorem dX7_howMany_35 : decode cX7_howMany 35 = .ok (.istore 4, 2) := by decide +kernel
theorem dX7_howMany_37 : decode cX7_howMany 37 = .ok (.iinc 5 1, 3) := by decide +kernel
theorem dX7_howMany_40 : decode cX7_howMany 40 = .ok (.goto (-34), 3) := by decide +kernel
theorem dX7_howMany_43 : decode cX7_howMany 43 = .ok (.iload 4, 2) := by decide +kernel
theorem dX7_howMany_45 : decode cX7_howMany 45 = .ok (.ireturn, 1) := by decide +kernel
theorem dX7_isOneOf_0 : decode cX7_isOneOf 0 = .ok (.iload_n 3, 1) := by decide +kernel
theorem dX7_isOneOf_1 : decode cX7_isOneOf 1 = .ok (.ifCond .lt 9, 3) := by decide +kernel
theorem dX7_isOneOf_4 : decode cX7_isOneOf 4 = .ok (.iload_n 3, 1) := by decide +kernel
theorem dX7_isOneOf_5 : decode cX7_isOneOf 5 = .ok (.bipush 31, 2) := by decide +kernel
theorem dX7_isOneOf_7 : decode cX7_isOneOf 7 = .ok (.if_icmp .lt 5, 3) := by decide +kernel
theorem dX7_isOneOf_10 : decode cX7_isOneOf 10 = .ok (.iconst 0, 1) := by decide +kernel
theorem dX7_isOneOf_11 : decode cX7_isOneOf 11 = .ok (.ireturn, 1) := by decide +kernel
theorem dX7_isOneOf_12 : decode cX7_isOneOf 12 = .ok (.iload 4, 2) := by decide +kernel
theorem dX7_isOneOf_14 : decode cX7_isOneOf 14 = .ok (.tableswitch 120 5 9 #[34, 40, 67, 74, 97], 34) := by decide +kernel
theorem dX7_isOneOf_48 : decode cX7_isOneOf 48 = .ok (.aload_n 0, 1) := by decide +kernel
theorem dX7_isOneOf_49 : decode cX7_isOneOf 49 = .ok (.iload_n 3, 1) := by decide +kernel
theorem dX7_isOneOf_50 : decode cX7_isOneOf 50 = .ok (.invokevirtual 47, 3) := by decide +kernel
theorem dX7_isOneOf_53 : decode cX7_isOneOf 53 = .ok (.ireturn, 1) := by decide +kernel
theorem dX7_isOneOf_54 : decode cX7_isOneOf 54 = .ok (.aload_n 0, 1) := by decide +kernel
theorem dX7_isOneOf_55 : decode cX7_isOneOf 55 = .ok (.iload_n 3, 1) := by decide +kernel
theorem dX7_isOneOf_56 : decode cX7_isOneOf 56 = .ok (.invokevirtual 47, 3) := by decide +kernel
theorem dX7_isOneOf_59 : decode cX7_isOneOf 59 = .ok (.ifCond .eq 20, 3) := by decide +kernel
theorem dX7_isOneOf_62 : decode cX7_isOneOf 62 = .ok (.aload_n 1, 1) := by decide +kernel
theorem dX7_isOneOf_63 : decode cX7_isOneOf 63 = .ok (.aload_n 2, 1) := by decide +kernel
theorem dX7_isOneOf_64 : decode cX7_isOneOf 64 = .ok (.getfield 37, 3) := by decide +kernel
theorem dX7_isOneOf_67 : decode cX7_isOneOf 67 = .ok (.iload_n 3, 1) := by decide +kernel
theorem dX7_isOneOf_68 : decode cX7_isOneOf 68 = .ok (.aaload, 1) := by decide +kernel
theorem dX7_isOneOf_69 : decode cX7_isOneOf 69 = .ok (.invokevirtual 132, 3) := by decide +kernel
theorem dX7_isOneOf_72 : decode cX7_isOneOf 72 = .ok (.ifCond .eq 7, 3) := by decide +kernel
theorem dX7_isOneOf_75 : decode cX7_isOneOf 75 = .ok (.iconst 1, 1) := by decide +kernel
theorem dX7_isOneOf_76 : decode cX7_isOneOf 76 = .ok (.goto 4, 3) := by decide +kernel
theorem dX7_isOneOf_79 : decode cX7_isOneOf 79 = .ok (.iconst 0, 1) := by decide +kernel
theorem dX7_isOneOf_80 : decode cX7_isOneOf 80 = .ok (.ireturn, 1) := by decide +kernel
theorem dX7_isOneOf_81 : decode cX7_isOneOf 81 = .ok (.aload_n 0, 1) := by decide +kernel
theorem dX7_isOneOf_82 : decode cX7_isOneOf 82 = .ok (.getfield 15, 3) := by decide +kernel
theorem dX7_isOneOf_85 : decode cX7_isOneOf 85 = .ok (.iload_n 3, 1) := by decide +kernel
theorem dX7_isOneOf_86 : decode cX7_isOneOf 86 = .ok (.baload, 1) := by decide +kernel
theorem dX7_isOneOf_87 : decode cX7_isOneOf 87 = .ok (.ireturn, 1) := by decide +kernel
theorem dX7_isOneOf_88 : decode cX7_isOneOf 88 = .ok (.aload_n 0, 1) := by decide +kernel
theorem dX7_isOneOf_89 : decode cX7_isOneOf 89 = .ok (.iload_n 3, 1) := by decide +kernel
theorem dX7_isOneOf_90 : decode cX7_isOneOf 90 = .ok (.invokevirtual 47, 3) := by decide +kernel
theorem dX7_isOneOf_93 : decode cX7_isOneOf 93 = .ok (.ifCond .eq 16, 3) := by decide +kernel
theorem dX7_isOneOf_96 : decode cX7_isOneOf 96 = .ok (.aload_n 0, 1) := by decide +kernel
theorem dX7_isOneOf_97 : decode cX7_isOneOf 97 = .ok (.getfield 15, 3) := by decide +kernel
theorem dX7_isOneOf_100 : decode cX7_isOneOf 100 = .ok (.iload_n 3, 1) := by decide +kernel
theorem dX7_isOneOf_101 : decode cX7_isOneOf 101 = .ok (.baload, 1) := by decide +kernel
theorem dX7_isOneOf_102 : decode cX7_isOneOf 102 = .ok (.ifCond .ne 7, 3) := by decide +kernel
theorem dX7_isOneOf_105 : decode cX7_isOneOf 105 = .ok (.iconst 1, 1) := by decide +kernel
theorem dX7_isOneOf_106 : decode cX7_isOneOf 106 = .ok (.goto 4, 3) := by decide +kernel
theorem dX7_isOneOf_109 : decode cX7_isOneOf 109 = .ok (.iconst 0, 1) := by decide +kernel
theorem dX7_isOneOf_110 : decode cX7_isOneOf 110 = .ok (.ireturn, 1) := by decide +kernel
theorem dX7_isOneOf_111 : decode cX7_isOneOf 111 = .ok (.aload_n 0, 1) := by decide +kernel
theorem dX7_isOneOf_112 : decode cX7_isOneOf 112 = .ok (.iload_n 3, 1) := by decide +kernel
theorem dX7_isOneOf_113 : decode cX7_isOneOf 113 = .ok (.invokevirtual 47, 3) := by decide +kernel
theorem dX7_isOneOf_116 : decode cX7_isOneOf 116 = .ok (.ifCond .ne 16, 3) := by decide +kernel
theorem dX7_isOneOf_119 : decode cX7_isOneOf 119 = .ok (.aload_n 0, 1) := by decide +kernel
theorem dX7_isOneOf_120 : decode cX7_isOneOf 120 = .ok (.getfield 15, 3) := by decide +kernel
theorem dX7_isOneOf_123 : decode cX7_isOneOf 123 = .ok (.iload_n 3, 1) := by decide +kernel
theorem dX7_isOneOf_124 : decode cX7_isOneOf 124 = .ok (.baload, 1) := by decide +kernel
theorem dX7_isOneOf_125 : decode cX7_isOneOf 125 = .ok (.ifCond .eq 7, 3) := by decide +kernel
theorem dX7_isOneOf_128 : decode cX7_isOneOf 128 = .ok (.iconst 1, 1) := by decide +kernel
theorem dX7_isOneOf_129 : decode cX7_isOneOf 129 = .ok (.goto 4, 3) := by decide +kernel
theorem dX7_isOneOf_132 : decode cX7_isOneOf 132 = .ok (.iconst 0, 1) := by decide +kernel
theorem dX7_isOneOf_133 : decode cX7_isOneOf 133 = .ok (.ireturn, 1) := by decide +kernel
theorem dX7_isOneOf_134 : decode cX7_isOneOf 134 = .ok (.iconst 0, 1) := by decide +kernel
theorem dX7_isOneOf_135 : decode cX7_isOneOf 135 = .ok (.ireturn, 1) := by decide +kernel
theorem dX7_howManyBadBy_0 : decode cX7_howManyBadBy 0 = .ok (.iconst 0, 1) := by decide +kernel
theorem dX7_howManyBadBy_1 : decode cX7_howManyBadBy 1 = .ok (.istore_n 3, 1) := by decide +kernel
theorem dX7_howManyBadBy_2 : decode cX7_howManyBadBy 2 = .ok (.iconst 0, 1) := by decide +kernel
theorem dX7_howManyBadBy_3 : decode cX7_howManyBadBy 3 = .ok (.istore 4, 2) := by decide +kernel
theorem dX7_howManyBadBy_5 : decode cX7_howManyBadBy 5 = .ok (.iload 4, 2) := by decide +kernel
theorem dX7_howManyBadBy_7 : decode cX7_howManyBadBy 7 = .ok (.aload_n 1, 1) := by decide +kernel
theorem dX7_howManyBadBy_8 : decode cX7_howManyBadBy 8 = .ok (.invokestatic 33, 3) := by decide +kernel
theorem dX7_howManyBadBy_11 : decode cX7_howManyBadBy 11 = .ok (.if_icmp .ge 28, 3) := by decide +kernel
theorem dX7_howManyBadBy_14 : decode cX7_howManyBadBy 14 = .ok (.iload_n 3, 1) := by decide +kernel
theorem dX7_howManyBadBy_15 : decode cX7_howManyBadBy 15 = .ok (.aload_n 0, 1) := by decide +kernel
theorem dX7_howManyBadBy_16 : decode cX7_howManyBadBy 16 = .ok (.getfield 9, 3) := by decide +kernel
theorem dX7_howManyBadBy_19 : decode cX7_howManyBadBy 19 = .ok (.iload 4, 2) := by decide +kernel
theorem dX7_howManyBadBy_21 : decode cX7_howManyBadBy 21 = .ok (.iaload, 1) := by decide +kernel
theorem dX7_howManyBadBy_22 : decode cX7_howManyBadBy 22 = .ok (.iload_n 2, 1) := by decide +kernel
theorem dX7_howManyBadBy_23 : decode cX7_howManyBadBy 23 = .ok (.if_icmp .ne 7, 3) := by decide +kernel
theorem dX7_howManyBadBy_26 : decode cX7_howManyBadBy 26 = .ok (.iconst 1, 1) := by decide +kernel
theorem dX7_howManyBadBy_27 : decode cX7_howManyBadBy 27 = .ok (.goto 4, 3) := by decide +kernel
theorem dX7_howManyBadBy_30 : decode cX7_howManyBadBy 30 = .ok (.iconst 0, 1) := by decide +kernel
theorem dX7_howManyBadBy_31 : decode cX7_howManyBadBy 31 = .ok (.iadd, 1) := by decide +kernel
theorem dX7_howManyBadBy_32 : decode cX7_howManyBadBy 32 = .ok (.istore_n 3, 1) := by decide +kernel
theorem dX7_howManyBadBy_33 : decode cX7_howManyBadBy 33 = .ok (.iinc 4 1, 3) := by decide +kernel
theorem dX7_howManyBadBy_36 : decode cX7_howManyBadBy 36 = .ok (.goto (-31), 3) := by decide +kernel
theorem dX7_howManyBadBy_39 : decode cX7_howManyBadBy 39 = .ok (.iload_n 3, 1) := by decide +kernel
theorem dX7_howManyBadBy_40 : decode cX7_howManyBadBy 40 = .ok (.ireturn, 1) := by decide +kernel
theorem dX8_init_0 : decode cX8_init 0 = .ok (.aload_n 0, 1) := by decide +kernel
theorem dX8_init_1 : decode cX8_init 1 = .ok (.invokespecial 3, 3) := by decide +kernel
theorem dX8_init_4 : decode cX8_init 4 = .ok (.aload_n 0, 1) := by decide +kernel
theorem dX8_init_5 : decode cX8_init 5 = .ok (.new 9, 3) := by decide +kernel
theorem dX8_init_8 : decode cX8_init 8 = .ok (.dup, 1) := by decide +kernel
theorem dX8_init_9 : decode cX8_init 9 = .ok (.invokespecial 11, 3) := by decide +kernel
theorem dX8_init_12 : decode cX8_init 12 = .ok (.putfield 12, 3) := by decide +kernel
theorem dX8_init_15 : decode cX8_init 15 = .ok (.aload_n 0, 1) := by decide +kernel
theorem dX8_init_16 : decode cX8_init 16 = .ok (.new 16, 3) := by decide +kernel
theorem dX8_init_19 : decode cX8_init 19 = .ok (.dup, 1) := by decide +kernel
theorem dX8_init_20 : decode cX8_init 20 = .ok (.invokespecial 18, 3) := by decide +kernel
theorem dX8_init_23 : decode cX8_init 23 = .ok (.putfield 19, 3) := by decide +kernel
theorem dX8_init_26 : decode cX8_init 26 = .ok (.aload_n 0, 1) := by decide +kernel
theorem dX8_init_27 : decode cX8_init 27 = .ok (.new 23, 3) := by decide +kernel
theorem dX8_init_30 : decode cX8_init 30 = .ok (.dup, 1) := by decide +kernel
theorem dX8_init_31 : decode cX8_init 31 = .ok (.invokespecial 25, 3) := by decide +kernel
theorem dX8_init_34 : decode cX8_init 34 = .ok (.putfield 26, 3) := by decide +kernel
theorem dX8_init_37 : decode cX8_init 37 = .ok (.aload_n 0, 1) := by decide +kernel
theorem dX8_init_38 : decode cX8_init 38 = .ok (.new 30, 3) := by decide +kernel
theorem dX8_init_41 : decode cX8_init 41 = .ok (.dup, 1) := by decide +kernel
theorem dX8_init_42 : decode cX8_init 42 = .ok (.invokespecial 32, 3) := by decide +kernel
theorem dX8_init_45 : decode cX8_init 45 = .ok (.putfield 33, 3) := by decide +kernel
theorem dX8_init_48 : decode cX8_init 48 = .ok (.aload_n 0, 1) := by decide +kernel
theorem dX8_init_49 : decode cX8_init 49 = .ok (.new 37, 3) := by decide +kernel
theorem dX8_init_52 : decode cX8_init 52 = .ok (.dup, 1) := by decide +kernel
theorem dX8_init_53 : decode cX8_init 53 = .ok (.invokespecial 39, 3) := by decide +kernel
theorem dX8_init_56 : decode cX8_init 56 = .ok (.putfield 40, 3) := by decide +kernel
theorem dX8_init_59 : decode cX8_init 59 = .ok (.aload_n 0, 1) := by decide +kernel
theorem dX8_init_60 : decode cX8_init 60 = .ok (.new 37, 3) := by decide +kernel
theorem dX8_init_63 : decode cX8_init 63 = .ok (.dup, 1) := by decide +kernel
theorem dX8_init_64 : decode cX8_init 64 = .ok (.invokespecial 39, 3) := by decide +kernel
theorem dX8_init_67 : decode cX8_init 67 = .ok (.putfield 44, 3) := by decide +kernel
theorem dX8_init_70 : decode cX8_init 70 = .ok (.aload_n 0, 1) := by decide +kernel
theorem dX8_init_71 : decode cX8_init 71 = .ok (.iconst 4, 1) := by decide +kernel
theorem dX8_init_72 : decode cX8_init 72 = .ok (.newarray .int, 2) := by decide +kernel
theorem dX8_init_74 : decode cX8_init 74 = .ok (.putfield 47, 3) := by decide +kernel
theorem dX8_init_77 : decode cX8_init 77 = .ok (.aload_n 0, 1) := by decide +kernel
theorem dX8_init_78 : decode cX8_init 78 = .ok (.new 51, 3) := by decide +kernel
theorem dX8_init_81 : decode cX8_init 81 = .ok (.dup, 1) := by decide +kernel
theorem dX8_init_82 : decode cX8_init 82 = .ok (.invokespecial 53, 3) := by decide +kernel
theorem dX8_init_85 : decode cX8_init 85 = .ok (.putfield 54, 3) := by decide +kernel
theorem dX8_init_88 : decode cX8_init 88 = .ok (.aload_n 0, 1) := by decide +kernel
theorem dX8_init_89 : decode cX8_init 89 = .ok (.new 51, 3) := by decide +kernel
theorem dX8_init_92 : decode cX8_init 92 = .ok (.dup, 1) := by decide +kernel
theorem dX8_init_93 : decode cX8_init 93 = .ok (.invokespecial 53, 3) := by decide +kernel
theorem dX8_init_96 : decode cX8_init 96 = .ok (.putfield 58, 3) := by decide +kernel
theorem dX8_init_99 : decode cX8_init 99 = .ok (.aload_n 0, 1) := by decide +kernel
theorem dX8_init_100 : decode cX8_init 100 = .ok (.getfield 58, 3) := by decide +kernel
theorem dX8_init_103 : decode cX8_init 103 = .ok (.iconst 0, 1) := by decide +kernel
theorem dX8_init_104 : decode cX8_init 104 = .ok (.iconst 5, 1) := by decide +kernel
theorem dX8_init_105 : decode cX8_init 105 = .ok (.invokevirtual 61, 3) := by decide +kernel
theorem dX8_init_108 : decode cX8_init 108 = .ok (.pop, 1) := by decide +kernel
theorem dX8_init_109 : decode cX8_init 109 = .ok (.aload_n 0, 1) := by decide +kernel
theorem dX8_init_110 : decode cX8_init 110 = .ok (.getfield 58, 3) := by decide +kernel
theorem dX8_init_113 : decode cX8_init 113 = .ok (.iconst 1, 1) := by decide +kernel
theorem dX8_init_114 : decode cX8_init 114 = .ok (.iconst 2, 1) := by decide +kernel
theorem dX8_init_115 : decode cX8_init 115 = .ok (.invokevirtual 61, 3) := by decide +kernel
theorem dX8_init_118 : decode cX8_init 118 = .ok (.pop, 1) := by decide +kernel
theorem dX8_init_119 : decode cX8_init 119 = .ok (.aload_n 0, 1) := by decide +kernel
theorem dX8_init_120 : decode cX8_init 120 = .ok (.invokevirtual 65, 3) := by decide +kernel
theorem dX8_init_123 : decode cX8_init 123 = .ok (.return_, 1) := by decide +kernel
theorem dX8_write_0 : decode cX8_write 0 = .ok (.iload_n 1, 1) := by decide +kernel
theorem dX8_write_1 : decode cX8_write 1 = .ok (.bipush 32, 2) := by decide +kernel
theorem dX8_write_3 : decode cX8_write 3 = .ok (.if_icmp .lt 9, 3) := by decide +kernel
theorem dX8_write_6 : decode cX8_write 6 = .ok (.iload_n 1, 1) := by decide +kernel
theorem dX8_write_7 : decode cX8_write 7 = .ok (.bipush 126, 2) := by decide +kernel
theorem dX8_write_9 : decode cX8_write 9 = .ok (.if_icmp .le 5, 3) := by decide +kernel
theorem dX8_write_12 : decode cX8_write 12 = .ok (.iconst (-1), 1) := by decide +kernel
theorem dX8_write_13 : decode cX8_write 13 = .ok (.ireturn, 1) := by decide +kernel
theorem dX8_write_14 : decode cX8_write 14 = .ok (.aload_n 0, 1) := by decide +kernel
theorem dX8_write_15 : decode cX8_write 15 = .ok (.getfield 12, 3) := by decide +kernel
theorem dX8_write_18 : decode cX8_write 18 = .ok (.getfield 68, 3) := by decide +kernel
theorem dX8_write_21 : decode cX8_write 21 = .ok (.sipush 200, 3) := by decide +kernel
theorem dX8_write_24 : decode cX8_write 24 = .ok (.if_icmp .lt 6, 3) := by decide +kernel
theorem dX8_write_27 : decode cX8_write 27 = .ok (.bipush (-3), 2) := by decide +kernel
theorem dX8_write_29 : decode cX8_write 29 = .ok (.ireturn, 1) := by decide +kernel
theorem dX8_write_30 : decode cX8_write 30 = .ok (.aload_n 0, 1) := by decide +kernel
theorem dX8_write_31 : decode cX8_write 31 = .ok (.getfield 12, 3) := by decide +kernel
theorem dX8_write_34 : decode cX8_write 34 = .ok (.iload_n 1, 1) := by decide +kernel
theorem dX8_write_35 : decode cX8_write 35 = .ok (.i2c, 1) := by decide +kernel
theorem dX8_write_36 : decode cX8_write 36 = .ok (.invokevirtual 72, 3) := by decide +kernel
theorem dX8_write_39 : decode cX8_write 39 = .ok (.aload_n 0, 1) := by decide +kernel
theorem dX8_write_40 : decode cX8_write 40 = .ok (.getfield 12, 3) := by decide +kernel
theorem dX8_write_43 : decode cX8_write 43 = .ok (.getfield 68, 3) := by decide +kernel
theorem dX8_write_46 : decode cX8_write 46 = .ok (.ireturn, 1) := by decide +kernel
theorem dX8_wipe_0 : decode cX8_wipe 0 = .ok (.aload_n 0, 1) := by decide +kernel
theorem dX8_wipe_1 : decode cX8_wipe 1 = .ok (.getfield 12, 3) := by decide +kernel
theorem dX8_wipe_4 : decode cX8_wipe 4 = .ok (.getfield 68, 3) := by decide +kernel
theorem dX8_wipe_7 : decode cX8_wipe 7 = .ok (.istore_n 1, 1) := by decide +kernel
theorem dX8_wipe_8 : decode cX8_wipe 8 = .ok (.aload_n 0, 1) := by decide +kernel
theorem dX8_wipe_9 : decode cX8_wipe 9 = .ok (.getfield 12, 3) := by decide +kernel
theorem dX8_wipe_12 : decode cX8_wipe 12 = .ok (.iconst 0, 1) := by decide +kernel
theorem dX8_wipe_13 : decode cX8_wipe 13 = .ok (.putfield 68, 3) := by decide +kernel
theorem dX8_wipe_16 : decode cX8_wipe 16 = .ok (.iload_n 1, 1) := by decide +kernel
theorem dX8_wipe_17 : decode cX8_wipe 17 = .ok (.ireturn, 1) := by decide +kernel
theorem dX8_fault_0 : decode cX8_fault 0 = .ok (.aload_n 0, 1) := by decide +kernel
theorem dX8_fault_1 : decode cX8_fault 1 = .ok (.getfield 12, 3) := by decide +kernel
theorem dX8_fault_4 : decode cX8_fault 4 = .ok (.aload_n 0, 1) := by decide +kernel
theorem dX8_fault_5 : decode cX8_fault 5 = .ok (.getfield 58, 3) := by decide +kernel
theorem dX8_fault_8 : decode cX8_fault 8 = .ok (.invokevirtual 76, 3) := by decide +kernel
theorem dX8_fault_11 : decode cX8_fault 11 = .ok (.ireturn, 1) := by decide +kernel
theorem dX8_lay_0 : decode cX8_lay 0 = .ok (.aload_n 0, 1) := by decide +kernel
theorem dX8_lay_1 : decode cX8_lay 1 = .ok (.getfield 12, 3) := by decide +kernel
theorem dX8_lay_4 : decode cX8_lay 4 = .ok (.aload_n 0, 1) := by decide +kernel
theorem dX8_lay_5 : decode cX8_lay 5 = .ok (.getfield 58, 3) := by decide +kernel
theorem dX8_lay_8 : decode cX8_lay 8 = .ok (.invokevirtual 76, 3) := by decide +kernel
theorem dX8_lay_11 : decode cX8_lay 11 = .ok (.bipush (-4), 2) := by decide +kernel
theorem dX8_lay_13 : decode cX8_lay 13 = .ok (.if_icmp .ne 13, 3) := by decide +kernel
theorem dX8_lay_16 : decode cX8_lay 16 = .ok (.aload_n 0, 1) := by decide +kernel
theorem dX8_lay_17 : decode cX8_lay 17 = .ok (.getfield 58, 3) := by decide +kernel
theorem dX8_lay_20 : decode cX8_lay 20 = .ok (.getfield 80, 3) := by decide +kernel
theorem dX8_lay_23 : decode cX8_lay 23 = .ok (.ifCond .ne 6, 3) := by decide +kernel
theorem dX8_lay_26 : decode cX8_lay 26 = .ok (.bipush (-2), 2) := by decide +kernel
theorem dX8_lay_28 : decode cX8_lay 28 = .ok (.ireturn, 1) := by decide +kernel
theorem dX8_lay_29 : decode cX8_lay 29 = .ok (.aload_n 0, 1) := by decide +kernel
theorem dX8_lay_30 : decode cX8_lay 30 = .ok (.invokevirtual 65, 3) := by decide +kernel
theorem dX8_lay_33 : decode cX8_lay 33 = .ok (.aload_n 0, 1) := by decide +kernel
theorem dX8_lay_34 : decode cX8_lay 34 = .ok (.getfield 54, 3) := by decide +kernel
theorem dX8_lay_37 : decode cX8_lay 37 = .ok (.getfield 83, 3) := by decide +kernel
theorem dX8_lay_40 : decode cX8_lay 40 = .ok (.ireturn, 1) := by decide +kernel
theorem dX8_see_0 : decode cX8_see 0 = .ok (.lload_n 1, 1) := by decide +kernel
theorem dX8_see_1 : decode cX8_see 1 = .ok (.lconst 0, 1) := by decide +kernel
theorem dX8_see_2 : decode cX8_see 2 = .ok (.lcmp, 1) := by decide +kernel
theorem dX8_see_3 : decode cX8_see 3 = .ok (.ifCond .lt 15, 3) := by decide +kernel
theorem dX8_see_6 : decode cX8_see 6 = .ok (.lload_n 1, 1) := by decide +kernel
theorem dX8_see_7 : decode cX8_see 7 = .ok (.aload_n 0, 1) := by decide +kernel
theorem dX8_see_8 : decode cX8_see 8 = .ok (.getfield 54, 3) := by decide +kernel
theorem dX8_see_11 : decode cX8_see 11 = .ok (.invokevirtual 86, 3) := by decide +kernel
theorem dX8_see_14 : decode cX8_see 14 = .ok (.lcmp, 1) := by decide +kernel
theorem dX8_see_15 : decode cX8_see 15 = .ok (.ifCond .lt 5, 3) := by decide +kernel
theorem dX8_see_18 : decode cX8_see 18 = .ok (.iconst (-1), 1) := by decide +kernel
theorem dX8_see_19 : decode cX8_see 19 = .ok (.ireturn, 1) := by decide +kernel
theorem dX8_see_20 : decode cX8_see 20 = .ok (.aload_n 0, 1) := by decide +kernel
theorem dX8_see_21 : decode cX8_see 21 = .ok (.getfield 19, 3) := by decide +kernel
theorem dX8_see_24 : decode cX8_see 24 = .ok (.getfield 90, 3) := by decide +kernel
theorem dX8_see_27 : decode cX8_see 27 = .ok (.bipush 60, 2) := by decide +kernel
theorem dX8_see_29 : decode cX8_see 29 = .ok (.if_icmp .ge 15, 3) := by decide +kernel
theorem dX8_see_32 : decode cX8_see 32 = .ok (.aload_n 0, 1) := by decide +kernel
theorem dX8_see_33 : decode cX8_see 33 = .ok (.getfield 33, 3) := by decide +kernel
theorem dX8_see_36 : decode cX8_see 36 = .ok (.getfield 93, 3) := by decide +kernel
theorem dX8_see_39 : decode cX8_see 39 = .ok (.bipush 24, 2) := by decide +kernel
theorem dX8_see_41 : decode cX8_see 41 = .ok (.if_icmp .lt 6, 3) := by decide +kernel
theorem dX8_see_44 : decode cX8_see 44 = .ok (.bipush (-3), 2) := by decide +kernel
theorem dX8_see_46 : decode cX8_see 46 = .ok (.ireturn, 1) := by decide +kernel
theorem dX8_see_47 : decode cX8_see 47 = .ok (.aload_n 0, 1) := by decide +kernel
theorem dX8_see_48 : decode cX8_see 48 = .ok (.getfield 26, 3) := by decide +kernel
theorem dX8_see_51 : decode cX8_see 51 = .ok (.aload_n 0, 1) := by decide +kernel
theorem dX8_see_52 : decode cX8_see 52 = .ok (.getfield 19, 3) := by decide +kernel
theorem dX8_see_55 : decode cX8_see 55 = .ok (.invokevirtual 96, 3) := by decide +kernel
theorem dX8_see_58 : decode cX8_see 58 = .ok (.aload_n 0, 1) := by decide +kernel
theorem dX8_see_59 : decode cX8_see 59 = .ok (.getfield 19, 3) := by decide +kernel
theorem dX8_see_62 : decode cX8_see 62 = .ok (.getfield 90, 3) := by decide +kernel
theorem dX8_see_65 : decode cX8_see 65 = .ok (.istore_n 3, 1) := by decide +kernel
theorem dX8_see_66 : decode cX8_see 66 = .ok (.aload_n 0, 1) := by decide +kernel
theorem dX8_see_67 : decode cX8_see 67 = .ok (.getfield 19, 3) := by decide +kernel
theorem dX8_see_70 : decode cX8_see 70 = .ok (.lload_n 1, 1) := by decide +kernel
theorem dX8_see_71 : decode cX8_see 71 = .ok (.invokevirtual 100, 3) := by decide +kernel
theorem dX8_see_74 : decode cX8_see 74 = .ok (.aload_n 0, 1) := by decide +kernel
theorem dX8_see_75 : decode cX8_see 75 = .ok (.getfield 33, 3) := by decide +kernel
theorem dX8_see_78 : decode cX8_see 78 = .ok (.aload_n 0, 1) := by decide +kernel
theorem dX8_see_79 : decode cX8_see 79 = .ok (.getfield 54, 3) := by decide +kernel
theorem dX8_see_82 : decode cX8_see 82 = .ok (.lload_n 1, 1) := by decide +kernel
theorem dX8_see_83 : decode cX8_see 83 = .ok (.iload_n 3, 1) := by decide +kernel
theorem dX8_see_84 : decode cX8_see 84 = .ok (.invokevirtual 104, 3) := by decide +kernel
theorem dX8_see_87 : decode cX8_see 87 = .ok (.istore 4, 2) := by decide +kernel
theorem dX8_see_89 : decode cX8_see 89 = .ok (.aload_n 0, 1) := by decide +kernel
theorem dX8_see_90 : decode cX8_see 90 = .ok (.invokevirtual 107, 3) := by decide +kernel
theorem dX8_see_93 : decode cX8_see 93 = .ok (.iload 4, 2) := by decide +kernel
theorem dX8_see_95 : decode cX8_see 95 = .ok (.ireturn, 1) := by decide +kernel
theorem dX8_rule_0 : decode cX8_rule 0 = .ok (.aload_n 0, 1) := by decide +kernel
theorem dX8_rule_1 : decode cX8_rule 1 = .ok (.iload_n 1, 1) := by decide +kernel
theorem dX8_rule_2 : decode cX8_rule 2 = .ok (.invokevirtual 110, 3) := by decide +kernel
theorem dX8_rule_5 : decode cX8_rule 5 = .ok (.ifCond .eq 14, 3) := by decide +kernel
theorem dX8_rule_8 : decode cX8_rule 8 = .ok (.iload_n 2, 1) := by decide +kernel
theorem dX8_rule_9 : decode cX8_rule 9 = .ok (.iconst 1, 1) := by decide +kernel
theorem dX8_rule_10 : decode cX8_rule 10 = .ok (.if_icmp .lt 9, 3) := by decide +kernel
theorem dX8_rule_13 : decode cX8_rule 13 = .ok (.iload_n 2, 1) := by decide +kernel
theorem dX8_rule_14 : decode cX8_rule 14 = .ok (.bipush 99, 2) := by decide +kernel
theorem dX8_rule_16 : decode cX8_rule 16 = .ok (.if_icmp .le 5, 3) := by decide +kernel
theorem dX8_rule_19 : decode cX8_rule 19 = .ok (.iconst (-1), 1) := by decide +kernel
theorem dX8_rule_20 : decode cX8_rule 20 = .ok (.ireturn, 1) := by decide +kernel
theorem dX8_rule_21 : decode cX8_rule 21 = .ok (.aload_n 0, 1) := by decide +kernel
theorem dX8_rule_22 : decode cX8_rule 22 = .ok (.getfield 19, 3) := by decide +kernel
theorem dX8_rule_25 : decode cX8_rule 25 = .ok (.getfield 114, 3) := by decide +kernel
theorem dX8_rule_28 : decode cX8_rule 28 = .ok (.iload_n 1, 1) := by decide +kernel
theorem dX8_rule_29 : decode cX8_rule 29 = .ok (.iaload, 1) := by decide +kernel
theorem dX8_rule_30 : decode cX8_rule 30 = .ok (.istore_n 3, 1) := by decide +kernel
theorem dX8_rule_31 : decode cX8_rule 31 = .ok (.iload_n 3, 1) := by decide +kernel
theorem dX8_rule_32 : decode cX8_rule 32 = .ok (.iload_n 2, 1) := by decide +kernel
theorem dX8_rule_33 : decode cX8_rule 33 = .ok (.if_icmp .ne 6, 3) := by decide +kernel
theorem dX8_rule_36 : decode cX8_rule 36 = .ok (.bipush (-2), 2) := by decide +kernel
theorem dX8_rule_38 : decode cX8_rule 38 = .ok (.ireturn, 1) := by decide +kernel
theorem dX8_rule_39 : decode cX8_rule 39 = .ok (.aload_n 0, 1) := by decide +kernel
theorem dX8_rule_40 : decode cX8_rule 40 = .ok (.getfield 26, 3) := by decide +kernel
theorem dX8_rule_43 : decode cX8_rule 43 = .ok (.aload_n 0, 1) := by decide +kernel
theorem dX8_rule_44 : decode cX8_rule 44 = .ok (.getfield 19, 3) := by decide +kernel
theorem dX8_rule_47 : decode cX8_rule 47 = .ok (.invokevirtual 96, 3) := by decide +kernel
theorem dX8_rule_50 : decode cX8_rule 50 = .ok (.aload_n 0, 1) := by decide +kernel
theorem dX8_rule_51 : decode cX8_rule 51 = .ok (.getfield 19, 3) := by decide +kernel
theorem dX8_rule_54 : decode cX8_rule 54 = .ok (.getfield 114, 3) := by decide +kernel
theorem dX8_rule_57 : decode cX8_rule 57 = .ok (.iload_n 1, 1) := by decide +kernel
theorem dX8_rule_58 : decode cX8_rule 58 = .ok (.iload_n 2, 1) := by decide +kernel
theorem dX8_rule_59 : decode cX8_rule 59 = .ok (.iastore, 1) := by decide +kernel
theorem dX8_rule_60 : decode cX8_rule 60 = .ok (.aload_n 0, 1) := by decide +kernel
theorem dX8_rule_61 : decode cX8_rule 61 = .ok (.invokevirtual 107, 3) := by decide +kernel
theorem dX8_rule_64 : decode cX8_rule 64 = .ok (.iload_n 3, 1) := by decide +kernel
theorem dX8_rule_65 : decode cX8_rule 65 = .ok (.ireturn, 1) := by decide +kernel
theorem dX8_clear_0 : decode cX8_clear 0 = .ok (.aload_n 0, 1) := by decide +kernel
theorem dX8_clear_1 : decode cX8_clear 1 = .ok (.getfield 19, 3) := by decide +kernel
theorem dX8_clear_4 : decode cX8_clear 4 = .ok (.getfield 90, 3) := by decide +kernel
theorem dX8_clear_7 : decode cX8_clear 7 = .ok (.ifCond .ne 6, 3) := by decide +kernel
theorem dX8_clear_10 : decode cX8_clear 10 = .ok (.bipush (-2), 2) := by decide +kernel
theorem dX8_clear_12 : decode cX8_clear 12 = .ok (.ireturn, 1) := by decide +kernel
theorem dX8_clear_13 : decode cX8_clear 13 = .ok (.aload_n 0, 1) := by decide +kernel
theorem dX8_clear_14 : decode cX8_clear 14 = .ok (.getfield 19, 3) := by decide +kernel
theorem dX8_clear_17 : decode cX8_clear 17 = .ok (.getfield 90, 3) := by decide +kernel
theorem dX8_clear_20 : decode cX8_clear 20 = .ok (.istore_n 1, 1) := by decide +kernel
theorem dX8_clear_21 : decode cX8_clear 21 = .ok (.aload_n 0, 1) := by decide +kernel
theorem dX8_clear_22 : decode cX8_clear 22 = .ok (.getfield 26, 3) := by decide +kernel
theorem dX8_clear_25 : decode cX8_clear 25 = .ok (.aload_n 0, 1) := by decide +kernel
theorem dX8_clear_26 : decode cX8_clear 26 = .ok (.getfield 19, 3) := by decide +kernel
theorem dX8_clear_29 : decode cX8_clear 29 = .ok (.invokevirtual 96, 3) := by decide +kernel
theorem dX8_clear_32 : decode cX8_clear 32 = .ok (.aload_n 0, 1) := by decide +kernel
theorem dX8_clear_33 : decode cX8_clear 33 = .ok (.invokevirtual 117, 3) := by decide +kernel
theorem dX8_clear_36 : decode cX8_clear 36 = .ok (.iload_n 1, 1) := by decide +kernel
theorem dX8_clear_37 : decode cX8_clear 37 = .ok (.ireturn, 1) := by decide +kernel
theorem dX8_undo_0 : decode cX8_undo 0 = .ok (.aload_n 0, 1) := by decide +kernel
theorem dX8_undo_1 : decode cX8_undo 1 = .ok (.getfield 26, 3) := by decide +kernel
theorem dX8_undo_4 : decode cX8_undo 4 = .ok (.getfield 120, 3) := by decide +kernel
theorem dX8_undo_7 : decode cX8_undo 7 = .ok (.ifCond .ne 6, 3) := by decide +kernel
theorem dX8_undo_10 : decode cX8_undo 10 = .ok (.bipush (-2), 2) := by decide +kernel
theorem dX8_undo_12 : decode cX8_undo 12 = .ok (.ireturn, 1) := by decide +kernel
theorem dX8_undo_13 : decode cX8_undo 13 = .ok (.aload_n 0, 1) := by decide +kernel
theorem dX8_undo_14 : decode cX8_undo 14 = .ok (.getfield 26, 3) := by decide +kernel
theorem dX8_undo_17 : decode cX8_undo 17 = .ok (.aload_n 0, 1) := by decide +kernel
theorem dX8_undo_18 : decode cX8_undo 18 = .ok (.getfield 19, 3) := by decide +kernel
theorem dX8_undo_21 : decode cX8_undo 21 = .ok (.invokevirtual 123, 3) := by decide +kernel
theorem dX8_undo_24 : decode cX8_undo 24 = .ok (.aload_n 0, 1) := by decide +kernel
theorem dX8_undo_25 : decode cX8_undo 25 = .ok (.invokevirtual 126, 3) := by decide +kernel
theorem dX8_undo_28 : decode cX8_undo 28 = .ok (.aload_n 0, 1) := by decide +kernel
theorem dX8_undo_29 : decode cX8_undo 29 = .ok (.getfield 26, 3) := by decide +kernel
theorem dX8_undo_32 : decode cX8_undo 32 = .ok (.getfield 120, 3) := by decide +kernel
theorem dX8_undo_35 : decode cX8_undo 35 = .ok (.ireturn, 1) := by decide +kernel
theorem dX8_blob_0 : decode cX8_blob 0 = .ok (.iload_n 1, 1) := by decide +kernel
theorem dX8_blob_1 : decode cX8_blob 1 = .ok (.ifCond .lt 26, 3) := by decide +kernel
theorem dX8_blob_4 : decode cX8_blob 4 = .ok (.iload_n 1, 1) := by decide +kernel
theorem dX8_blob_5 : decode cX8_blob 5 = .ok (.aload_n 0, 1) := by decide +kernel
theorem dX8_blob_6 : decode cX8_blob 6 = .ok (.getfield 33, 3) := by decide +kernel
theorem dX8_blob_9 : decode cX8_blob 9 = .ok (.getfield 93, 3) := by decide +kernel
theorem dX8_blob_12 : decode cX8_blob 12 = .ok (.if_icmp .ge 15, 3) := by decide +kernel
theorem dX8_blob_15 : decode cX8_blob 15 = .ok (.iload_n 1, 1) := by decide +kernel
theorem dX8_blob_16 : decode cX8_blob 16 = .ok (.aload_n 0, 1) := by decide +kernel
theorem dX8_blob_17 : decode cX8_blob 17 = .ok (.getfield 33, 3) := by decide +kernel
theorem dX8_blob_20 : decode cX8_blob 20 = .ok (.getfield 129, 3) := by decide +kernel
theorem dX8_blob_23 : decode cX8_blob 23 = .ok (.arraylength, 1) := by decide +kernel
theorem dX8_blob_24 : decode cX8_blob 24 = .ok (.if_icmp .lt 5, 3) := by decide +kernel
theorem dX8_blob_27 : decode cX8_blob 27 = .ok (.iconst (-1), 1) := by decide +kernel
theorem dX8_blob_28 : decode cX8_blob 28 = .ok (.ireturn, 1) := by decide +kernel
theorem dX8_blob_29 : decode cX8_blob 29 = .ok (.aload_n 0, 1) := by decide +kernel
theorem dX8_blob_30 : decode cX8_blob 30 = .ok (.getfield 33, 3) := by decide +kernel
theorem dX8_blob_33 : decode cX8_blob 33 = .ok (.getfield 129, 3) := by decide +kernel
theorem dX8_blob_36 : decode cX8_blob 36 = .ok (.iload_n 1, 1) := by decide +kernel
theorem dX8_blob_37 : decode cX8_blob 37 = .ok (.aaload, 1) := by decide +kernel
theorem dX8_blob_38 : decode cX8_blob 38 = .ok (.astore_n 3, 1) := by decide +kernel
theorem dX8_blob_39 : decode cX8_blob 39 = .ok (.iload_n 2, 1) := by decide +kernel
theorem dX8_blob_40 : decode cX8_blob 40 = .ok (.tableswitch 145 0 9 #[56, 61, 66, 71, 76, 81, 86, 91, 101, 132], 56) := by decide +kernel
theorem dX8_blob_96 : decode cX8_blob 96 = .ok (.aload_n 3, 1) := by decide +kernel
theorem dX8_blob_97 : decode cX8_blob 97 = .ok (.getfield 133, 3) := by decide +kernel
theorem dX8_blob_100 : decode cX8_blob 100 = .ok (.ireturn, 1) := by decide +kernel
theorem dX8_blob_101 : decode cX8_blob 101 = .ok (.aload_n 3, 1) := by decide +kernel
theorem dX8_blob_102 : decode cX8_blob 102 = .ok (.getfield 138, 3) := by decide +kernel
theorem dX8_blob_105 : decode cX8_blob 105 = .ok (.ireturn, 1) := by decide +kernel
theorem dX8_blob_106 : decode cX8_blob 106 = .ok (.aload_n 3, 1) := by decide +kernel
theorem dX8_blob_107 : decode cX8_blob 107 = .ok (.getfield 141, 3) := by decide +kernel
theorem dX8_blob_110 : decode cX8_blob 110 = .ok (.ireturn, 1) := by decide +kernel
theorem dX8_blob_111 : decode cX8_blob 111 = .ok (.aload_n 3, 1) := by decide +kernel
theorem dX8_blob_112 : decode cX8_blob 112 = .ok (.getfield 144, 3) := by decide +kernel
theorem dX8_blob_115 : decode cX8_blob 115 = .ok (.ireturn, 1) := by decide +kernel
theorem dX8_blob_116 : decode cX8_blob 116 = .ok (.aload_n 3, 1) := by decide +kernel
theorem dX8_blob_117 : decode cX8_blob 117 = .ok (.getfield 147, 3) := by decide +kernel
theorem dX8_blob_120 : decode cX8_blob 120 = .ok (.ireturn, 1) := by decide +kernel
theorem dX8_blob_121 : decode cX8_blob 121 = .ok (.aload_n 3, 1) := by decide +kernel
theorem dX8_blob_122 : decode cX8_blob 122 = .ok (.invokevirtual 150, 3) := by decide +kernel
theorem dX8_blob_125 : decode cX8_blob 125 = .ok (.ireturn, 1) := by decide +kernel
theorem dX8_blob_126 : decode cX8_blob 126 = .ok (.aload_n 3, 1) := by decide +kernel
theorem dX8_blob_127 : decode cX8_blob 127 = .ok (.getfield 154, 3) := by decide +kernel
theorem dX8_blob_130 : decode cX8_blob 130 = .ok (.ireturn, 1) := by decide +kernel
theorem dX8_blob_131 : decode cX8_blob 131 = .ok (.aload_n 0, 1) := by decide +kernel
theorem dX8_blob_132 : decode cX8_blob 132 = .ok (.getfield 40, 3) := by decide +kernel
theorem dX8_blob_135 : decode cX8_blob 135 = .ok (.getfield 157, 3) := by decide +kernel
theorem dX8_blob_138 : decode cX8_blob 138 = .ok (.iload_n 1, 1) := by decide +kernel
theorem dX8_blob_139 : decode cX8_blob 139 = .ok (.iaload, 1) := by decide +kernel
theorem dX8_blob_140 : decode cX8_blob 140 = .ok (.ireturn, 1) := by decide +kernel
theorem dX8_blob_141 : decode cX8_blob 141 = .ok (.aload_n 0, 1) := by decide +kernel
theorem dX8_blob_142 : decode cX8_blob 142 = .ok (.getfield 40, 3) := by decide +kernel
theorem dX8_blob_145 : decode cX8_blob 145 = .ok (.iload_n 1, 1) := by decide +kernel
theorem dX8_blob_146 : decode cX8_blob 146 = .ok (.invokevirtual 160, 3) := by decide +kernel
theorem dX8_blob_149 : decode cX8_blob 149 = .ok (.ifCond .eq 18, 3) := by decide +kernel
theorem dX8_blob_152 : decode cX8_blob 152 = .ok (.aload_n 0, 1) := by decide +kernel
theorem dX8_blob_153 : decode cX8_blob 153 = .ok (.getfield 54, 3) := by decide +kernel
theorem dX8_blob_156 : decode cX8_blob 156 = .ok (.aload_n 3, 1) := by decide +kernel
theorem dX8_blob_157 : decode cX8_blob 157 = .ok (.invokevirtual 163, 3) := by decide +kernel
theorem dX8_blob_160 : decode cX8_blob 160 = .ok (.ifCond .eq 7, 3) := by decide +kernel
theorem dX8_blob_163 : decode cX8_blob 163 = .ok (.iconst 1, 1) := by decide +kernel
theorem dX8_blob_164 : decode cX8_blob 164 = .ok (.goto 4, 3) := by decide +kernel
theorem dX8_blob_167 : decode cX8_blob 167 = .ok (.iconst 0, 1) := by decide +kernel
theorem dX8_blob_168 : decode cX8_blob 168 = .ok (.invokestatic 167, 3) := by decide +kernel
theorem dX8_blob_171 : decode cX8_blob 171 = .ok (.ireturn, 1) := by decide +kernel
theorem dX8_blob_172 : decode cX8_blob 172 = .ok (.aload_n 0, 1) := by decide +kernel
theorem dX8_blob_173 : decode cX8_blob 173 = .ok (.getfield 40, 3) := by decide +kernel
theorem dX8_blob_176 : decode cX8_blob 176 = .ok (.getfield 171, 3) := by decide +kernel
theorem dX8_blob_179 : decode cX8_blob 179 = .ok (.iload_n 1, 1) := by decide +kernel
theorem dX8_blob_180 : decode cX8_blob 180 = .ok (.baload, 1) := by decide +kernel
theorem dX8_blob_181 : decode cX8_blob 181 = .ok (.invokestatic 167, 3) := by decide +kernel
theorem dX8_blob_184 : decode cX8_blob 184 = .ok (.ireturn, 1) := by decide +kernel
theorem dX8_blob_185 : decode cX8_blob 185 = .ok (.iconst (-1), 1) := by decide +kernel
theorem dX8_blob_186 : decode cX8_blob 186 = .ok (.ireturn, 1) := by decide +kernel
theorem dX8_open_0 : decode cX8_open 0 = .ok (.iload_n 1, 1) := by decide +kernel
theorem dX8_open_1 : decode cX8_open 1 = .ok (.lookupswitch 43 #[(0, 27), (1, 35)], 27) := by decide +kernel
theorem dX8_open_28 : decode cX8_open 28 = .ok (.aload_n 0, 1) := by decide +kernel
theorem dX8_open_29 : decode cX8_open 29 = .ok (.getfield 33, 3) := by decide +kernel
theorem dX8_open_32 : decode cX8_open 32 = .ok (.invokevirtual 175, 3) := by decide +kernel
theorem dX8_open_35 : decode cX8_open 35 = .ok (.ireturn, 1) := by decide +kernel
theorem dX8_open_36 : decode cX8_open 36 = .ok (.aload_n 0, 1) := by decide +kernel
theorem dX8_open_37 : decode cX8_open 37 = .ok (.getfield 33, 3) := by decide +kernel
theorem dX8_open_40 : decode cX8_open 40 = .ok (.invokevirtual 178, 3) := by decide +kernel
theorem dX8_open_43 : decode cX8_open 43 = .ok (.ireturn, 1) := by decide +kernel
theorem dX8_open_44 : decode cX8_open 44 = .ok (.iconst (-1), 1) := by decide +kernel
theorem dX8_open_45 : decode cX8_open 45 = .ok (.ireturn, 1) := by decide +kernel
theorem dX8_opening_0 : decode cX8_opening 0 = .ok (.aload_n 0, 1) := by decide +kernel
theorem dX8_opening_1 : decode cX8_opening 1 = .ok (.iload_n 1, 1) := by decide +kernel
theorem dX8_opening_2 : decode cX8_opening 2 = .ok (.invokevirtual 181, 3) := by decide +kernel
theorem dX8_opening_5 : decode cX8_opening 5 = .ok (.ifCond .eq 17, 3) := by decide +kernel
theorem dX8_opening_8 : decode cX8_opening 8 = .ok (.iload_n 2, 1) := by decide +kernel
theorem dX8_opening_9 : decode cX8_opening 9 = .ok (.iconst (-1), 1) := by decide +kernel
theorem dX8_opening_10 : decode cX8_opening 10 = .ok (.if_icmp .lt 12, 3) := by decide +kernel
theorem dX8_opening_13 : decode cX8_opening 13 = .ok (.iload_n 3, 1) := by decide +kernel
theorem dX8_opening_14 : decode cX8_opening 14 = .ok (.ifCond .lt 8, 3) := by decide +kernel
theorem dX8_opening_17 : decode cX8_opening 17 = .ok (.iload_n 3, 1) := by decide +kernel
theorem dX8_opening_18 : decode cX8_opening 18 = .ok (.iconst 1, 1) := by decide +kernel
theorem dX8_opening_19 : decode cX8_opening 19 = .ok (.if_icmp .le 5, 3) := by decide +kernel
theorem dX8_opening_22 : decode cX8_opening 22 = .ok (.iconst (-1), 1) := by decide +kernel
theorem dX8_opening_23 : decode cX8_opening 23 = .ok (.ireturn, 1) := by decide +kernel
theorem dX8_opening_24 : decode cX8_opening 24 = .ok (.aload_n 0, 1) := by decide +kernel
theorem dX8_opening_25 : decode cX8_opening 25 = .ok (.getfield 40, 3) := by decide +kernel
theorem dX8_opening_28 : decode cX8_opening 28 = .ok (.getfield 184, 3) := by decide +kernel
theorem dX8_opening_31 : decode cX8_opening 31 = .ok (.iload_n 1, 1) := by decide +kernel
theorem dX8_opening_32 : decode cX8_opening 32 = .ok (.aaload, 1) := by decide +kernel
theorem dX8_opening_33 : decode cX8_opening 33 = .ok (.astore 4, 2) := by decide +kernel
theorem dX8_opening_35 : decode cX8_opening 35 = .ok (.iload_n 2, 1) := by decide +kernel
theorem dX8_opening_36 : decode cX8_opening 36 = .ok (.iconst (-1), 1) := by decide +kernel
theorem dX8_opening_37 : decode cX8_opening 37 = .ok (.if_icmp .ne 9, 3) := by decide +kernel
theorem dX8_opening_40 : decode cX8_opening 40 = .ok (.aload 4, 2) := by decide +kernel
theorem dX8_opening_42 : decode cX8_opening 42 = .ok (.getfield 188, 3) := by decide +kernel
theorem dX8_opening_45 : decode cX8_opening 45 = .ok (.ireturn, 1) := by decide +kernel
theorem dX8_opening_46 : decode cX8_opening 46 = .ok (.iload_n 2, 1) := by decide +kernel
theorem dX8_opening_47 : decode cX8_opening 47 = .ok (.aload 4, 2) := by decide +kernel
theorem dX8_opening_49 : decode cX8_opening 49 = .ok (.getfield 188, 3) := by decide +kernel
theorem dX8_opening_52 : decode cX8_opening 52 = .ok (.if_icmp .ge 13, 3) := by decide +kernel
theorem dX8_opening_55 : decode cX8_opening 55 = .ok (.iload_n 2, 1) := by decide +kernel
theorem dX8_opening_56 : decode cX8_opening 56 = .ok (.aload 4, 2) := by decide +kernel
theorem dX8_opening_58 : decode cX8_opening 58 = .ok (.getfield 193, 3) := by decide +kernel
theorem dX8_opening_61 : decode cX8_opening 61 = .ok (.arraylength, 1) := by decide +kernel
theorem dX8_opening_62 : decode cX8_opening 62 = .ok (.if_icmp .lt 6, 3) := by decide +kernel
theorem dX8_opening_65 : decode cX8_opening 65 = .ok (.bipush (-4), 2) := by decide +kernel
theorem dX8_opening_67 : decode cX8_opening 67 = .ok (.ireturn, 1) := by decide +kernel
theorem dX8_opening_68 : decode cX8_opening 68 = .ok (.iload_n 3, 1) := by decide +kernel
theorem dX8_opening_69 : decode cX8_opening 69 = .ok (.ifCond .ne 13, 3) := by decide +kernel
theorem dX8_opening_72 : decode cX8_opening 72 = .ok (.aload 4, 2) := by decide +kernel
theorem dX8_opening_74 : decode cX8_opening 74 = .ok (.getfield 193, 3) := by decide +kernel
theorem dX8_opening_77 : decode cX8_opening 77 = .ok (.iload_n 2, 1) := by decide +kernel
theorem dX8_opening_78 : decode cX8_opening 78 = .ok (.iaload, 1) := by decide +kernel
theorem dX8_opening_79 : decode cX8_opening 79 = .ok (.goto 10, 3) := by decide +kernel
theorem dX8_opening_82 : decode cX8_opening 82 = .ok (.aload 4, 2) := by decide +kernel
theorem dX8_opening_84 : decode cX8_opening 84 = .ok (.getfield 196, 3) := by decide +kernel
theorem dX8_opening_87 : decode cX8_opening 87 = .ok (.iload_n 2, 1) := by decide +kernel
theorem dX8_opening_88 : decode cX8_opening 88 = .ok (.iaload, 1) := by decide +kernel
theorem dX8_opening_89 : decode cX8_opening 89 = .ok (.ireturn, 1) := by decide +kernel
theorem dX8_air_0 : decode cX8_air 0 = .ok (.aload_n 0, 1) := by decide +kernel
theorem dX8_air_1 : decode cX8_air 1 = .ok (.iload_n 1, 1) := by decide +kernel
theorem dX8_air_2 : decode cX8_air 2 = .ok (.invokevirtual 181, 3) := by decide +kernel
theorem dX8_air_5 : decode cX8_air 5 = .ok (.ifCond .eq 18, 3) := by decide +kernel
theorem dX8_air_8 : decode cX8_air 8 = .ok (.aload_n 0, 1) := by decide +kernel
theorem dX8_air_9 : decode cX8_air 9 = .ok (.getfield 40, 3) := by decide +kernel
theorem dX8_air_12 : decode cX8_air 12 = .ok (.getfield 184, 3) := by decide +kernel
theorem dX8_air_15 : decode cX8_air 15 = .ok (.iload_n 1, 1) := by decide +kernel
theorem dX8_air_16 : decode cX8_air 16 = .ok (.aaload, 1) := by decide +kernel
theorem dX8_air_17 : decode cX8_air 17 = .ok (.invokevirtual 199, 3) := by decide +kernel
theorem dX8_air_20 : decode cX8_air 20 = .ok (.goto 4, 3) := by decide +kernel
theorem dX8_air_23 : decode cX8_air 23 = .ok (.iconst (-1), 1) := by decide +kernel
theorem dX8_air_24 : decode cX8_air 24 = .ok (.ireturn, 1) := by decide +kernel
theorem dX8_gain_0 : decode cX8_gain 0 = .ok (.aload_n 0, 1) := by decide +kernel
theorem dX8_gain_1 : decode cX8_gain 1 = .ok (.getfield 40, 3) := by decide +kernel
theorem dX8_gain_4 : decode cX8_gain 4 = .ok (.aload_n 0, 1) := by decide +kernel
theorem dX8_gain_5 : decode cX8_gain 5 = .ok (.getfield 33, 3) := by decide +kernel
theorem dX8_gain_8 : decode cX8_gain 8 = .ok (.invokevirtual 202, 3) := by decide +kernel
theorem dX8_gain_11 : decode cX8_gain 11 = .ok (.sipush 10000, 3) := by decide +kernel
theorem dX8_gain_14 : decode cX8_gain 14 = .ok (.iadd, 1) := by decide +kernel
theorem dX8_gain_15 : decode cX8_gain 15 = .ok (.ireturn, 1) := by decide +kernel
theorem dX8_best_0 : decode cX8_best 0 = .ok (.aload_n 0, 1) := by decide +kernel
theorem dX8_best_1 : decode cX8_best 1 = .ok (.iload_n 1, 1) := by decide +kernel
theorem dX8_best_2 : decode cX8_best 2 = .ok (.invokevirtual 110, 3) := by decide +kernel
theorem dX8_best_5 : decode cX8_best 5 = .ok (.ifCond .eq 12, 3) := by decide +kernel
theorem dX8_best_8 : decode cX8_best 8 = .ok (.iload_n 2, 1) := by decide +kernel
theorem dX8_best_9 : decode cX8_best 9 = .ok (.ifCond .lt 8, 3) := by decide +kernel
theorem dX8_best_12 : decode cX8_best 12 = .ok (.iload_n 2, 1) := by decide +kernel
theorem dX8_best_13 : decode cX8_best 13 = .ok (.iconst 1, 1) := by decide +kernel
theorem dX8_best_14 : decode cX8_best 14 = .ok (.if_icmp .le 5, 3) := by decide +kernel
theorem dX8_best_17 : decode cX8_best 17 = .ok (.iconst (-1), 1) := by decide +kernel
theorem dX8_best_18 : decode cX8_best 18 = .ok (.ireturn, 1) := by decide +kernel
theorem dX8_best_19 : decode cX8_best 19 = .ok (.aload_n 0, 1) := by decide +kernel
theorem dX8_best_20 : decode cX8_best 20 = .ok (.getfield 19, 3) := by decide +kernel
theorem dX8_best_23 : decode cX8_best 23 = .ok (.getfield 114, 3) := by decide +kernel
theorem dX8_best_26 : decode cX8_best 26 = .ok (.iconst 0, 1) := by decide +kernel
theorem dX8_best_27 : decode cX8_best 27 = .ok (.aload_n 0, 1) := by decide +kernel
theorem dX8_best_28 : decode cX8_best 28 = .ok (.getfield 47, 3) := by decide +kernel
theorem dX8_best_31 : decode cX8_best 31 = .ok (.iconst 0, 1) := by decide +kernel
theorem dX8_best_32 : decode cX8_best 32 = .ok (.iconst 4, 1) := by decide +kernel
theorem dX8_best_33 : decode cX8_best 33 = .ok (.invokestatic 206, 3) := by decide +kernel
theorem dX8_best_36 : decode cX8_best 36 = .ok (.iconst 1, 1) := by decide +kernel
theorem dX8_best_37 : decode cX8_best 37 = .ok (.istore_n 3, 1) := by decide +kernel
theorem dX8_best_38 : decode cX8_best 38 = .ok (.aload_n 0, 1) := by decide +kernel
theorem dX8_best_39 : decode cX8_best 39 = .ok (.iload_n 1, 1) := by decide +kernel
theorem dX8_best_40 : decode cX8_best 40 = .ok (.iconst 1, 1) := by decide +kernel
theorem dX8_best_41 : decode cX8_best 41 = .ok (.invokevirtual 212, 3) := by decide +kernel
theorem dX8_best_44 : decode cX8_best 44 = .ok (.istore 4, 2) := by decide +kernel
theorem dX8_best_46 : decode cX8_best 46 = .ok (.iconst 2, 1) := by decide +kernel
theorem dX8_best_47 : decode cX8_best 47 = .ok (.istore 5, 2) := by decide +kernel
theorem dX8_best_49 : decode cX8_best 49 = .ok (.iload 5, 2) := by decide +kernel
theorem dX8_best_51 : decode cX8_best 51 = .ok (.bipush 99, 2) := by decide +kernel
theorem dX8_best_53 : decode cX8_best 53 = .ok (.if_icmp .gt 55, 3) := by decide +kernel
theorem dX8_best_56 : decode cX8_best 56 = .ok (.aload_n 0, 1) := by decide +kernel
theorem dX8_best_57 : decode cX8_best 57 = .ok (.getfield 33, 3) := by decide +kernel
theorem dX8_best_60 : decode cX8_best 60 = .ok (.aload_n 0, 1) := by decide +kernel
theorem dX8_best_61 : decode cX8_best 61 = .ok (.getfield 54, 3) := by decide +kernel
theorem dX8_best_64 : decode cX8_best 64 = .ok (.getfield 216, 3) := by decide +kernel
theorem dX8_best_67 : decode cX8_best 67 = .ok (.iload_n 1, 1) := by decide +kernel
theorem dX8_best_68 : decode cX8_best 68 = .ok (.iaload, 1) := by decide +kernel
theorem dX8_best_69 : decode cX8_best 69 = .ok (.iload 5, 2) := by decide +kernel
theorem dX8_best_71 : decode cX8_best 71 = .ok (.iconst 1, 1) := by decide +kernel
theorem dX8_best_72 : decode cX8_best 72 = .ok (.isub, 1) := by decide +kernel
theorem dX8_best_73 : decode cX8_best 73 = .ok (.invokevirtual 219, 3) := by decide +kernel
theorem dX8_best_76 : decode cX8_best 76 = .ok (.ifCond .eq 26, 3) := by decide +kernel
theorem dX8_best_79 : decode cX8_best 79 = .ok (.aload_n 0, 1) := by decide +kernel
theorem dX8_best_80 : decode cX8_best 80 = .ok (.iload_n 1, 1) := by decide +kernel
theorem dX8_best_81 : decode cX8_best 81 = .ok (.iload 5, 2) := by decide +kernel
theorem dX8_best_83 : decode cX8_best 83 = .ok (.invokevirtual 212, 3) := by decide +kernel
theorem dX8_best_86 : decode cX8_best 86 = .ok (.istore 6, 2) := by decide +kernel
theorem dX8_best_88 : decode cX8_best 88 = .ok (.iload 6, 2) := by decide +kernel
theorem dX8_best_90 : decode cX8_best 90 = .ok (.iload 4, 2) := by decide +kernel
theorem dX8_best_92 : decode cX8_best 92 = .ok (.if_icmp .le 10, 3) := by decide +kernel
theorem dX8_best_95 : decode cX8_best 95 = .ok (.iload 6, 2) := by decide +kernel
theorem dX8_best_97 : decode cX8_best 97 = .ok (.istore 4, 2) := by decide +kernel
theorem dX8_best_99 : decode cX8_best 99 = .ok (.iload 5, 2) := by decide +kernel
theorem dX8_best_101 : decode cX8_best 101 = .ok (.istore_n 3, 1) := by decide +kernel
theorem dX8_best_102 : decode cX8_best 102 = .ok (.iinc 5 1, 3) := by decide +kernel
theorem dX8_best_105 : decode cX8_best 105 = .ok (.goto (-56), 3) := by decide +kernel
theorem dX8_best_108 : decode cX8_best 108 = .ok (.iload_n 2, 1) := by decide +kernel
theorem dX8_best_109 : decode cX8_best 109 = .ok (.ifCond .ne 7, 3) := by decide +kernel
theorem dX8_best_112 : decode cX8_best 112 = .ok (.iload_n 3, 1) := by decide +kernel
theorem dX8_best_113 : decode cX8_best 113 = .ok (.goto 9, 3) := by decide +kernel
theorem dX8_best_116 : decode cX8_best 116 = .ok (.iload 4, 2) := by decide +kernel
theorem dX8_best_118 : decode cX8_best 118 = .ok (.sipush 10000, 3) := by decide +kernel
theorem dX8_best_121 : decode cX8_best 121 = .ok (.iadd, 1) := by decide +kernel
theorem dX8_best_122 : decode cX8_best 122 = .ok (.ireturn, 1) := by decide +kernel
theorem dX8_count_0 : decode cX8_count 0 = .ok (.iload_n 1, 1) := by decide +kernel
theorem dX8_count_1 : decode cX8_count 1 = .ok (.tableswitch 136 0 11 #[63, 71, 79, 87, 95, 103, 103, 103, 103, 103, 120, 128], 63) := by decide +kernel
theorem dX8_count_64 : decode cX8_count 64 = .ok (.aload_n 0, 1) := by decide +kernel
theorem dX8_count_65 : decode cX8_count 65 = .ok (.getfield 54, 3) := by decide +kernel
theorem dX8_count_68 : decode cX8_count 68 = .ok (.getfield 83, 3) := by decide +kernel
theorem dX8_count_71 : decode cX8_count 71 = .ok (.ireturn, 1) := by decide +kernel
theorem dX8_count_72 : decode cX8_count 72 = .ok (.aload_n 0, 1) := by decide +kernel
theorem dX8_count_73 : decode cX8_count 73 = .ok (.getfield 54, 3) := by decide +kernel
theorem dX8_count_76 : decode cX8_count 76 = .ok (.getfield 222, 3) := by decide +kernel
theorem dX8_count_79 : decode cX8_count 79 = .ok (.ireturn, 1) := by decide +kernel
theorem dX8_count_80 : decode cX8_count 80 = .ok (.aload_n 0, 1) := by decide +kernel
theorem dX8_count_81 : decode cX8_count 81 = .ok (.getfield 54, 3) := by decide +kernel
theorem dX8_count_84 : decode cX8_count 84 = .ok (.getfield 80, 3) := by decide +kernel
theorem dX8_count_87 : decode cX8_count 87 = .ok (.ireturn, 1) := by decide +kernel
theorem dX8_count_88 : decode cX8_count 88 = .ok (.aload_n 0, 1) := by decide +kernel
theorem dX8_count_89 : decode cX8_count 89 = .ok (.getfield 19, 3) := by decide +kernel
theorem dX8_count_92 : decode cX8_count 92 = .ok (.getfield 90, 3) := by decide +kernel
theorem dX8_count_95 : decode cX8_count 95 = .ok (.ireturn, 1) := by decide +kernel
theorem dX8_count_96 : decode cX8_count 96 = .ok (.aload_n 0, 1) := by decide +kernel
theorem dX8_count_97 : decode cX8_count 97 = .ok (.getfield 33, 3) := by decide +kernel
theorem dX8_count_100 : decode cX8_count 100 = .ok (.getfield 93, 3) := by decide +kernel
theorem dX8_count_103 : decode cX8_count 103 = .ok (.ireturn, 1) := by decide +kernel
theorem dX8_count_104 : decode cX8_count 104 = .ok (.aload_n 0, 1) := by decide +kernel
theorem dX8_count_105 : decode cX8_count 105 = .ok (.getfield 40, 3) := by decide +kernel
theorem dX8_count_108 : decode cX8_count 108 = .ok (.aload_n 0, 1) := by decide +kernel
theorem dX8_count_109 : decode cX8_count 109 = .ok (.getfield 54, 3) := by decide +kernel
theorem dX8_count_112 : decode cX8_count 112 = .ok (.aload_n 0, 1) := by decide +kernel
theorem dX8_count_113 : decode cX8_count 113 = .ok (.getfield 33, 3) := by decide +kernel
theorem dX8_count_116 : decode cX8_count 116 = .ok (.iload_n 1, 1) := by decide +kernel
theorem dX8_count_117 : decode cX8_count 117 = .ok (.invokevirtual 225, 3) := by decide +kernel
theorem dX8_count_120 : decode cX8_count 120 = .ok (.ireturn, 1) := by decide +kernel
theorem dX8_count_121 : decode cX8_count 121 = .ok (.aload_n 0, 1) := by decide +kernel
theorem dX8_count_122 : decode cX8_count 122 = .ok (.getfield 26, 3) := by decide +kernel
theorem dX8_count_125 : decode cX8_count 125 = .ok (.getfield 120, 3) := by decide +kernel
theorem dX8_count_128 : decode cX8_count 128 = .ok (.ireturn, 1) := by decide +kernel
theorem dX8_count_129 : decode cX8_count 129 = .ok (.aload_n 0, 1) := by decide +kernel
theorem dX8_count_130 : decode cX8_count 130 = .ok (.getfield 12, 3) := by decide +kernel
theorem dX8_count_133 : decode cX8_count 133 = .ok (.getfield 68, 3) := by decide +kernel
theorem dX8_count_136 : decode cX8_count 136 = .ok (.ireturn, 1) := by decide +kernel
theorem dX8_count_137 : decode cX8_count 137 = .ok (.iconst (-1), 1) := by decide +kernel
theorem dX8_count_138 : decode cX8_count 138 = .ok (.ireturn, 1) := by decide +kernel
theorem dX8_told_0 : decode cX8_told 0 = .ok (.aload_n 0, 1) := by decide +kernel
theorem dX8_told_1 : decode cX8_told 1 = .ok (.iload_n 1, 1) := by decide +kernel
theorem dX8_told_2 : decode cX8_told 2 = .ok (.invokevirtual 110, 3) := by decide +kernel
theorem dX8_told_5 : decode cX8_told 5 = .ok (.ifCond .ne 5, 3) := by decide +kernel
theorem dX8_told_8 : decode cX8_told 8 = .ok (.iconst (-1), 1) := by decide +kernel
theorem dX8_told_9 : decode cX8_told 9 = .ok (.ireturn, 1) := by decide +kernel
theorem dX8_told_10 : decode cX8_told 10 = .ok (.iload_n 2, 1) := by decide +kernel
theorem dX8_told_11 : decode cX8_told 11 = .ok (.tableswitch 58 0 2 #[25, 35, 45], 25) := by decide +kernel
theorem dX8_told_36 : decode cX8_told 36 = .ok (.aload_n 0, 1) := by decide +kernel
theorem dX8_told_37 : decode cX8_told 37 = .ok (.getfield 54, 3) := by decide +kernel
theorem dX8_told_40 : decode cX8_told 40 = .ok (.getfield 216, 3) := by decide +kernel
theorem dX8_told_43 : decode cX8_told 43 = .ok (.iload_n 1, 1) := by decide +kernel
theorem dX8_told_44 : decode cX8_told 44 = .ok (.iaload, 1) := by decide +kernel
theorem dX8_told_45 : decode cX8_told 45 = .ok (.ireturn, 1) := by decide +kernel
theorem dX8_told_46 : decode cX8_told 46 = .ok (.aload_n 0, 1) := by decide +kernel
theorem dX8_told_47 : decode cX8_told 47 = .ok (.getfield 19, 3) := by decide +kernel
theorem dX8_told_50 : decode cX8_told 50 = .ok (.getfield 114, 3) := by decide +kernel
theorem dX8_told_53 : decode cX8_told 53 = .ok (.iload_n 1, 1) := by decide +kernel
theorem dX8_told_54 : decode cX8_told 54 = .ok (.iaload, 1) := by decide +kernel
theorem dX8_told_55 : decode cX8_told 55 = .ok (.ireturn, 1) := by decide +kernel
theorem dX8_told_56 : decode cX8_told 56 = .ok (.aload_n 0, 1) := by decide +kernel
theorem dX8_told_57 : decode cX8_told 57 = .ok (.getfield 40, 3) := by decide +kernel
theorem dX8_told_60 : decode cX8_told 60 = .ok (.aload_n 0, 1) := by decide +kernel
theorem dX8_told_61 : decode cX8_told 61 = .ok (.getfield 33, 3) := by decide +kernel
theorem dX8_told_64 : decode cX8_told 64 = .ok (.iload_n 1, 1) := by decide +kernel
theorem dX8_told_65 : decode cX8_told 65 = .ok (.invokevirtual 229, 3) := by decide +kernel
theorem dX8_told_68 : decode cX8_told 68 = .ok (.ireturn, 1) := by decide +kernel
theorem dX8_told_69 : decode cX8_told 69 = .ok (.iconst (-1), 1) := by decide +kernel
theorem dX8_told_70 : decode cX8_told 70 = .ok (.ireturn, 1) := by decide +kernel
theorem dX8_isRule_0 : decode cX8_isRule 0 = .ok (.iload_n 1, 1) := by decide +kernel
theorem dX8_isRule_1 : decode cX8_isRule 1 = .ok (.ifCond .lt 23, 3) := by decide +kernel
theorem dX8_isRule_4 : decode cX8_isRule 4 = .ok (.iload_n 1, 1) := by decide +kernel
theorem dX8_isRule_5 : decode cX8_isRule 5 = .ok (.aload_n 0, 1) := by decide +kernel
theorem dX8_isRule_6 : decode cX8_isRule 6 = .ok (.getfield 54, 3) := by decide +kernel
theorem dX8_isRule_9 : decode cX8_isRule 9 = .ok (.getfield 80, 3) := by decide +kernel
theorem dX8_isRule_12 : decode cX8_isRule 12 = .ok (.if_icmp .ge 12, 3) := by decide +kernel
theorem dX8_isRule_15 : decode cX8_isRule 15 = .ok (.iload_n 1, 1) := by decide +kernel
theorem dX8_isRule_16 : decode cX8_isRule 16 = .ok (.iconst 4, 1) := by decide +kernel
theorem dX8_isRule_17 : decode cX8_isRule 17 = .ok (.if_icmp .ge 7, 3) := by decide +kernel
theorem dX8_isRule_20 : decode cX8_isRule 20 = .ok (.iconst 1, 1) := by decide +kernel
theorem dX8_isRule_21 : decode cX8_isRule 21 = .ok (.goto 4, 3) := by decide +kernel
theorem dX8_isRule_24 : decode cX8_isRule 24 = .ok (.iconst 0, 1) := by decide +kernel
theorem dX8_isRule_25 : decode cX8_isRule 25 = .ok (.ireturn, 1) := by decide +kernel
theorem dX8_isValve_0 : decode cX8_isValve 0 = .ok (.iload_n 1, 1) := by decide +kernel
theorem dX8_isValve_1 : decode cX8_isValve 1 = .ok (.ifCond .lt 24, 3) := by decide +kernel
theorem dX8_isValve_4 : decode cX8_isValve 4 = .ok (.iload_n 1, 1) := by decide +kernel
theorem dX8_isValve_5 : decode cX8_isValve 5 = .ok (.aload_n 0, 1) := by decide +kernel
theorem dX8_isValve_6 : decode cX8_isValve 6 = .ok (.getfield 54, 3) := by decide +kernel
theorem dX8_isValve_9 : decode cX8_isValve 9 = .ok (.getfield 222, 3) := by decide +kernel
theorem dX8_isValve_12 : decode cX8_isValve 12 = .ok (.if_icmp .ge 13, 3) := by decide +kernel
theorem dX8_isValve_15 : decode cX8_isValve 15 = .ok (.iload_n 1, 1) := by decide +kernel
theorem dX8_isValve_16 : decode cX8_isValve 16 = .ok (.bipush 16, 2) := by decide +kernel
theorem dX8_isValve_18 : decode cX8_isValve 18 = .ok (.if_icmp .ge 7, 3) := by decide +kernel
theorem dX8_isValve_21 : decode cX8_isValve 21 = .ok (.iconst 1, 1) := by decide +kernel
theorem dX8_isValve_22 : decode cX8_isValve 22 = .ok (.goto 4, 3) := by decide +kernel
theorem dX8_isValve_25 : decode cX8_isValve 25 = .ok (.iconst 0, 1) := by decide +kernel
theorem dX8_isValve_26 : decode cX8_isValve 26 = .ok (.ireturn, 1) := by decide +kernel
theorem dX8_asFlag_0 : decode cX8_asFlag 0 = .ok (.iload_n 0, 1) := by decide +kernel
theorem dX8_asFlag_1 : decode cX8_asFlag 1 = .ok (.ifCond .eq 7, 3) := by decide +kernel
theorem dX8_asFlag_4 : decode cX8_asFlag 4 = .ok (.iconst 1, 1) := by decide +kernel
theorem dX8_asFlag_5 : decode cX8_asFlag 5 = .ok (.goto 4, 3) := by decide +kernel
theorem dX8_asFlag_8 : decode cX8_asFlag 8 = .ok (.iconst 0, 1) := by decide +kernel
theorem dX8_asFlag_9 : decode cX8_asFlag 9 = .ok (.ireturn, 1) := by decide +kernel
theorem dX8_layDraft_0 : decode cX8_layDraft 0 = .ok (.aload_n 0, 1) := by decide +kernel
theorem dX8_layDraft_1 : decode cX8_layDraft 1 = .ok (.getfield 54, 3) := by decide +kernel
theorem dX8_layDraft_4 : decode cX8_layDraft 4 = .ok (.astore_n 1, 1) := by decide +kernel
theorem dX8_layDraft_5 : decode cX8_layDraft 5 = .ok (.aload_n 0, 1) := by decide +kernel
theorem dX8_layDraft_6 : decode cX8_layDraft 6 = .ok (.aload_n 0, 1) := by decide +kernel
theorem dX8_layDraft_7 : decode cX8_layDraft 7 = .ok (.getfield 58, 3) := by decide +kernel
theorem dX8_layDraft_10 : decode cX8_layDraft 10 = .ok (.putfield 54, 3) := by decide +kernel
theorem dX8_layDraft_13 : decode cX8_layDraft 13 = .ok (.aload_n 0, 1) := by decide +kernel
theorem dX8_layDraft_14 : decode cX8_layDraft 14 = .ok (.aload_n 1, 1) := by decide +kernel
theorem dX8_layDraft_15 : decode cX8_layDraft 15 = .ok (.putfield 58, 3) := by decide +kernel
theorem dX8_layDraft_18 : decode cX8_layDraft 18 = .ok (.aload_n 0, 1) := by decide +kernel
theorem dX8_layDraft_19 : decode cX8_layDraft 19 = .ok (.getfield 54, 3) := by decide +kernel
theorem dX8_layDraft_22 : decode cX8_layDraft 22 = .ok (.getfield 233, 3) := by decide +kernel
theorem dX8_layDraft_25 : decode cX8_layDraft 25 = .ok (.iconst 0, 1) := by decide +kernel
theorem dX8_layDraft_26 : decode cX8_layDraft 26 = .ok (.aload_n 0, 1) := by decide +kernel
theorem dX8_layDraft_27 : decode cX8_layDraft 27 = .ok (.getfield 19, 3) := by decide +kernel
theorem dX8_layDraft_30 : decode cX8_layDraft 30 = .ok (.getfield 114, 3) := by decide +kernel
theorem dX8_layDraft_33 : decode cX8_layDraft 33 = .ok (.iconst 0, 1) := by decide +kernel
theorem dX8_layDraft_34 : decode cX8_layDraft 34 = .ok (.iconst 4, 1) := by decide +kernel
theorem dX8_layDraft_35 : decode cX8_layDraft 35 = .ok (.invokestatic 206, 3) := by decide +kernel
theorem dX8_layDraft_38 : decode cX8_layDraft 38 = .ok (.aload_n 0, 1) := by decide +kernel
theorem dX8_layDraft_39 : decode cX8_layDraft 39 = .ok (.getfield 26, 3) := by decide +kernel
theorem dX8_layDraft_42 : decode cX8_layDraft 42 = .ok (.invokevirtual 234, 3) := by decide +kernel
theorem dX8_layDraft_45 : decode cX8_layDraft 45 = .ok (.aload_n 0, 1) := by decide +kernel
theorem dX8_layDraft_46 : decode cX8_layDraft 46 = .ok (.invokevirtual 117, 3) := by decide +kernel
theorem dX8_layDraft_49 : decode cX8_layDraft 49 = .ok (.return_, 1) := by decide +kernel
theorem dX8_dropLines_0 : decode cX8_dropLines 0 = .ok (.aload_n 0, 1) := by decide +kernel
theorem dX8_dropLines_1 : decode cX8_dropLines 1 = .ok (.getfield 19, 3) := by decide +kernel
theorem dX8_dropLines_4 : decode cX8_dropLines 4 = .ok (.iconst 0, 1) := by decide +kernel
theorem dX8_dropLines_5 : decode cX8_dropLines 5 = .ok (.putfield 90, 3) := by decide +kernel
theorem dX8_dropLines_8 : decode cX8_dropLines 8 = .ok (.aload_n 0, 1) := by decide +kernel
theorem dX8_dropLines_9 : decode cX8_dropLines 9 = .ok (.getfield 33, 3) := by decide +kernel
theorem dX8_dropLines_12 : decode cX8_dropLines 12 = .ok (.invokevirtual 237, 3) := by decide +kernel
theorem dX8_dropLines_15 : decode cX8_dropLines 15 = .ok (.aload_n 0, 1) := by decide +kernel
theorem dX8_dropLines_16 : decode cX8_dropLines 16 = .ok (.getfield 40, 3) := by decide +kernel
theorem dX8_dropLines_19 : decode cX8_dropLines 19 = .ok (.invokevirtual 240, 3) := by decide +kernel
theorem dX8_dropLines_22 : decode cX8_dropLines 22 = .ok (.return_, 1) := by decide +kernel
theorem dX8_foldAll_0 : decode cX8_foldAll 0 = .ok (.aload_n 0, 1) := by decide +kernel
theorem dX8_foldAll_1 : decode cX8_foldAll 1 = .ok (.getfield 33, 3) := by decide +kernel
theorem dX8_foldAll_4 : decode cX8_foldAll 4 = .ok (.invokevirtual 237, 3) := by decide +kernel
theorem dX8_foldAll_7 : decode cX8_foldAll 7 = .ok (.iconst 0, 1) := by decide +kernel
theorem dX8_foldAll_8 : decode cX8_foldAll 8 = .ok (.istore_n 1, 1) := by decide +kernel
theorem dX8_foldAll_9 : decode cX8_foldAll 9 = .ok (.iload_n 1, 1) := by decide +kernel
theorem dX8_foldAll_10 : decode cX8_foldAll 10 = .ok (.aload_n 0, 1) := by decide +kernel
theorem dX8_foldAll_11 : decode cX8_foldAll 11 = .ok (.getfield 19, 3) := by decide +kernel
theorem dX8_foldAll_14 : decode cX8_foldAll 14 = .ok (.getfield 90, 3) := by decide +kernel
theorem dX8_foldAll_17 : decode cX8_foldAll 17 = .ok (.if_icmp .ge 37, 3) := by decide +kernel
theorem dX8_foldAll_20 : decode cX8_foldAll 20 = .ok (.iload_n 1, 1) := by decide +kernel
theorem dX8_foldAll_21 : decode cX8_foldAll 21 = .ok (.bipush 60, 2) := by decide +kernel
theorem dX8_foldAll_23 : decode cX8_foldAll 23 = .ok (.if_icmp .ge 31, 3) := by decide +kernel
theorem dX8_foldAll_26 : decode cX8_foldAll 26 = .ok (.aload_n 0, 1) := by decide +kernel
theorem dX8_foldAll_27 : decode cX8_foldAll 27 = .ok (.getfield 33, 3) := by decide +kernel
theorem dX8_foldAll_30 : decode cX8_foldAll 30 = .ok (.aload_n 0, 1) := by decide +kernel
theorem dX8_foldAll_31 : decode cX8_foldAll 31 = .ok (.getfield 54, 3) := by decide +kernel
theorem dX8_foldAll_34 : decode cX8_foldAll 34 = .ok (.aload_n 0, 1) := by decide +kernel
theorem dX8_foldAll_35 : decode cX8_foldAll 35 = .ok (.getfield 19, 3) := by decide +kernel
theorem dX8_foldAll_38 : decode cX8_foldAll 38 = .ok (.getfield 243, 3) := by decide +kernel
theorem dX8_foldAll_41 : decode cX8_foldAll 41 = .ok (.iload_n 1, 1) := by decide +kernel
theorem dX8_foldAll_42 : decode cX8_foldAll 42 = .ok (.laload, 1) := by decide +kernel
theorem dX8_foldAll_43 : decode cX8_foldAll 43 = .ok (.iload_n 1, 1) := by decide +kernel
theorem dX8_foldAll_44 : decode cX8_foldAll 44 = .ok (.invokevirtual 104, 3) := by decide +kernel
theorem dX8_foldAll_47 : decode cX8_foldAll 47 = .ok (.pop, 1) := by decide +kernel
theorem dX8_foldAll_48 : decode cX8_foldAll 48 = .ok (.iinc 1 1, 3) := by decide +kernel
theorem dX8_foldAll_51 : decode cX8_foldAll 51 = .ok (.goto (-42), 3) := by decide +kernel
theorem dX8_foldAll_54 : decode cX8_foldAll 54 = .ok (.aload_n 0, 1) := by decide +kernel
theorem dX8_foldAll_55 : decode cX8_foldAll 55 = .ok (.invokevirtual 107, 3) := by decide +kernel
theorem dX8_foldAll_58 : decode cX8_foldAll 58 = .ok (.return_, 1) := by decide +kernel
theorem dX8_judge_0 : decode cX8_judge 0 = .ok (.aload_n 0, 1) := by decide +kernel
theorem dX8_judge_1 : decode cX8_judge 1 = .ok (.getfield 40, 3) := by decide +kernel
theorem dX8_judge_4 : decode cX8_judge 4 = .ok (.aload_n 0, 1) := by decide +kernel
theorem dX8_judge_5 : decode cX8_judge 5 = .ok (.getfield 54, 3) := by decide +kernel
theorem dX8_judge_8 : decode cX8_judge 8 = .ok (.aload_n 0, 1) := by decide +kernel
theorem dX8_judge_9 : decode cX8_judge 9 = .ok (.getfield 19, 3) := by decide +kernel
theorem dX8_judge_12 : decode cX8_judge 12 = .ok (.getfield 114, 3) := by decide +kernel
theorem dX8_judge_15 : decode cX8_judge 15 = .ok (.aload_n 0, 1) := by decide +kernel
theorem dX8_judge_16 : decode cX8_judge 16 = .ok (.getfield 33, 3) := by decide +kernel
theorem dX8_judge_19 : decode cX8_judge 19 = .ok (.invokevirtual 247, 3) := by decide +kernel
theorem dX8_judge_22 : decode cX8_judge 22 = .ok (.return_, 1) := by decide +kernel
theorem dX8_worthByNumber_0 : decode cX8_worthByNumber 0 = .ok (.iload_n 1, 1) := by decide +kernel
theorem dX8_worthByNumber_1 : decode cX8_worthByNumber 1 = .ok (.ifCond .lt 8, 3) := by decide +kernel
theorem dX8_worthByNumber_4 : decode cX8_worthByNumber 4 = .ok (.iload_n 1, 1) := by decide +kernel
theorem dX8_worthByNumber_5 : decode cX8_worthByNumber 5 = .ok (.iconst 4, 1) := by decide +kernel
theorem dX8_worthByNumber_6 : decode cX8_worthByNumber 6 = .ok (.if_icmp .lt 5, 3) := by decide +kernel
theorem dX8_worthByNumber_9 : decode cX8_worthByNumber 9 = .ok (.iconst 0, 1) := by decide +kernel
theorem dX8_worthByNumber_10 : decode cX8_worthByNumber 10 = .ok (.ireturn, 1) := by decide +kernel
theorem dX8_worthByNumber_11 : decode cX8_worthByNumber 11 = .ok (.aload_n 0, 1) := by decide +kernel
theorem dX8_worthByNumber_12 : decode cX8_worthByNumber 12 = .ok (.getfield 47, 3) := by decide +kernel
theorem dX8_worthByNumber_15 : decode cX8_worthByNumber 15 = .ok (.iload_n 1, 1) := by decide +kernel
theorem dX8_worthByNumber_16 : decode cX8_worthByNumber 16 = .ok (.iload_n 2, 1) := by decide +kernel
theorem dX8_worthByNumber_17 : decode cX8_worthByNumber 17 = .ok (.iastore, 1) := by decide +kernel
theorem dX8_worthByNumber_18 : decode cX8_worthByNumber 18 = .ok (.aload_n 0, 1) := by decide +kernel
theorem dX8_worthByNumber_19 : decode cX8_worthByNumber 19 = .ok (.getfield 44, 3) := by decide +kernel
theorem dX8_worthByNumber_22 : decode cX8_worthByNumber 22 = .ok (.aload_n 0, 1) := by decide +kernel
theorem dX8_worthByNumber_23 : decode cX8_worthByNumber 23 = .ok (.getfield 54, 3) := by decide +kernel
theorem dX8_worthByNumber_26 : decode cX8_worthByNumber 26 = .ok (.aload_n 0, 1) := by decide +kernel
theorem dX8_worthByNumber_27 : decode cX8_worthByNumber 27 = .ok (.getfield 47, 3) := by decide +kernel
theorem dX8_worthByNumber_30 : decode cX8_worthByNumber 30 = .ok (.aload_n 0, 1) := by decide +kernel
theorem dX8_worthByNumber_31 : decode cX8_worthByNumber 31 = .ok (.getfield 33, 3) := by decide +kernel
theorem dX8_worthByNumber_34 : decode cX8_worthByNumber 34 = .ok (.invokevirtual 247, 3) := by decide +kernel
theorem dX8_worthByNumber_37 : decode cX8_worthByNumber 37 = .ok (.aload_n 0, 1) := by decide +kernel
theorem dX8_worthByNumber_38 : decode cX8_worthByNumber 38 = .ok (.getfield 44, 3) := by decide +kernel
theorem dX8_worthByNumber_41 : decode cX8_worthByNumber 41 = .ok (.aload_n 0, 1) := by decide +kernel
theorem dX8_worthByNumber_42 : decode cX8_worthByNumber 42 = .ok (.getfield 33, 3) := by decide +kernel
theorem dX8_worthByNumber_45 : decode cX8_worthByNumber 45 = .ok (.invokevirtual 202, 3) := by decide +kernel
theorem dX8_worthByNumber_48 : decode cX8_worthByNumber 48 = .ok (.ireturn, 1) := by decide +kernel
theorem dJ7_fill_53178_0 : decode cJ7_fill_53178 0 = .ok (.iconst 0, 1) := by decide +kernel
theorem dJ7_fill_53178_1 : decode cJ7_fill_53178 1 = .ok (.istore_n 2, 1) := by decide +kernel
theorem dJ7_fill_53178_2 : decode cJ7_fill_53178 2 = .ok (.aload_n 0, 1) := by decide +kernel
theorem dJ7_fill_53178_3 : decode cJ7_fill_53178 3 = .ok (.arraylength, 1) := by decide +kernel
theorem dJ7_fill_53178_4 : decode cJ7_fill_53178 4 = .ok (.istore_n 3, 1) := by decide +kernel
theorem dJ7_fill_53178_5 : decode cJ7_fill_53178 5 = .ok (.iload_n 2, 1) := by decide +kernel
theorem dJ7_fill_53178_6 : decode cJ7_fill_53178 6 = .ok (.iload_n 3, 1) := by decide +kernel
theorem dJ7_fill_53178_7 : decode cJ7_fill_53178 7 = .ok (.if_icmp .ge 13, 3) := by decide +kernel
theorem dJ7_fill_53178_10 : decode cJ7_fill_53178 10 = .ok (.aload_n 0, 1) := by decide +kernel
theorem dJ7_fill_53178_11 : decode cJ7_fill_53178 11 = .ok (.iload_n 2, 1) := by decide +kernel
theorem dJ7_fill_53178_12 : decode cJ7_fill_53178 12 = .ok (.iload_n 1, 1) := by decide +kernel
theorem dJ7_fill_53178_13 : decode cJ7_fill_53178 13 = .ok (.iastore, 1) := by decide +kernel
theorem dJ7_fill_53178_14 : decode cJ7_fill_53178 14 = .ok (.iinc 2 1, 3) := by decide +kernel
theorem dJ7_fill_53178_17 : decode cJ7_fill_53178 17 = .ok (.goto (-12), 3) := by decide +kernel
theorem dJ7_fill_53178_20 : decode cJ7_fill_53178 20 = .ok (.return_, 1) := by decide +kernel
theorem dL_law_0 : decode cL_law 0 = .ok (.new 7, 3) := by decide +kernel
theorem dL_law_3 : decode cL_law 3 = .ok (.dup, 1) := by decide +kernel
theorem dL_law_4 : decode cL_law 4 = .ok (.invokespecial 9, 3) := by decide +kernel
theorem dL_law_7 : decode cL_law 7 = .ok (.astore_n 1, 1) := by decide +kernel
theorem dL_law_8 : decode cL_law 8 = .ok (.new 10, 3) := by decide +kernel
theorem dL_law_11 : decode cL_law 11 = .ok (.dup, 1) := by decide +kernel
theorem dL_law_12 : decode cL_law 12 = .ok (.invokespecial 12, 3) := by decide +kernel
theorem dL_law_15 : decode cL_law 15 = .ok (.astore_n 2, 1) := by decide +kernel
theorem dL_law_16 : decode cL_law 16 = .ok (.iconst 0, 1) := by decide +kernel
theorem dL_law_17 : decode cL_law 17 = .ok (.istore_n 3, 1) := by decide +kernel
theorem dL_law_18 : decode cL_law 18 = .ok (.iload_n 3, 1) := by decide +kernel
theorem dL_law_19 : decode cL_law 19 = .ok (.aload_n 0, 1) := by decide +kernel
theorem dL_law_20 : decode cL_law 20 = .ok (.arraylength, 1) := by decide +kernel
theorem dL_law_21 : decode cL_law 21 = .ok (.iconst 4, 1) := by decide +kernel
theorem dL_law_22 : decode cL_law 22 = .ok (.isub, 1) := by decide +kernel
theorem dL_law_23 : decode cL_law 23 = .ok (.if_icmp .gt 493, 3) := by decide +kernel
theorem dL_law_26 : decode cL_law 26 = .ok (.aload_n 0, 1) := by decide +kernel
theorem dL_law_27 : decode cL_law 27 = .ok (.iload_n 3, 1) := by decide +kernel
theorem dL_law_28 : decode cL_law 28 = .ok (.iaload, 1) := by decide +kernel
theorem dL_law_29 : decode cL_law 29 = .ok (.bipush 15, 2) := by decide +kernel
theorem dL_law_31 : decode cL_law 31 = .ok (.iand, 1) := by decide +kernel
theorem dL_law_32 : decode cL_law 32 = .ok (.tableswitch 478 0 15 #[80, 103, 116, 129, 142, 195, 228, 241, 254, 287, 310, 353, 376, 389, 422, 445], 80) := by decide +kernel
theorem dL_law_112 : decode cL_law 112 = .ok (.aload_n 1, 1) := by decide +kernel
theorem dL_law_113 : decode cL_law 113 = .ok (.aload_n 0, 1) := by decide +kernel
theorem dL_law_114 : decode cL_law 114 = .ok (.iload_n 3, 1) := by decide +kernel
theorem dL_law_115 : decode cL_law 115 = .ok (.iconst 1, 1) := by decide +kernel
theorem dL_law_116 : decode cL_law 116 = .ok (.iadd, 1) := by decide +kernel
theorem dL_law_117 : decode cL_law 117 = .ok (.iaload, 1) := by decide +kernel
theorem dL_law_118 : decode cL_law 118 = .ok (.invokevirtual 13, 3) := by decide +kernel
theorem dL_law_121 : decode cL_law 121 = .ok (.aload_n 2, 1) := by decide +kernel
theorem dL_law_122 : decode cL_law 122 = .ok (.aload_n 0, 1) := by decide +kernel
theorem dL_law_123 : decode cL_law 123 = .ok (.iload_n 3, 1) := by decide +kernel
theorem dL_law_124 : decode cL_law 124 = .ok (.iconst 1, 1) := by decide +kernel
theorem dL_law_125 : decode cL_law 125 = .ok (.iadd, 1) := by decide +kernel
theorem dL_law_126 : decode cL_law 126 = .ok (.iaload, 1) := by decide +kernel
theorem dL_law_127 : decode cL_law 127 = .ok (.invokevirtual 17, 3) := by decide +kernel
theorem dL_law_130 : decode cL_law 130 = .ok (.if_icmp .eq 380, 3) := by decide +kernel
theorem dL_law_133 : decode cL_law 133 = .ok (.iconst 0, 1) := by decide +kernel
theorem dL_law_134 : decode cL_law 134 = .ok (.ireturn, 1) := by decide +kernel
theorem dL_law_135 : decode cL_law 135 = .ok (.aload_n 1, 1) := by decide +kernel
theorem dL_law_136 : decode cL_law 136 = .ok (.invokevirtual 18, 3) := by decide +kernel
theorem dL_law_139 : decode cL_law 139 = .ok (.aload_n 2, 1) := by decide +kernel
theorem dL_law_140 : decode cL_law 140 = .ok (.invokevirtual 22, 3) := by decide +kernel
theorem dL_law_143 : decode cL_law 143 = .ok (.if_icmp .eq 367, 3) := by decide +kernel
theorem dL_law_146 : decode cL_law 146 = .ok (.iconst 0, 1) := by decide +kernel
theorem dL_law_147 : decode cL_law 147 = .ok (.ireturn, 1) := by decide +kernel
theorem dL_law_148 : decode cL_law 148 = .ok (.aload_n 1, 1) := by decide +kernel
theorem dL_law_149 : decode cL_law 149 = .ok (.invokevirtual 23, 3) := by decide +kernel
theorem dL_law_152 : decode cL_law 152 = .ok (.aload_n 2, 1) := by decide +kernel
theorem dL_law_153 : decode cL_law 153 = .ok (.invokevirtual 26, 3) := by decide +kernel
theorem dL_law_156 : decode cL_law 156 = .ok (.if_icmp .eq 354, 3) := by decide +kernel
theorem dL_law_159 : decode cL_law 159 = .ok (.iconst 0, 1) := by decide +kernel
theorem dL_law_160 : decode cL_law 160 = .ok (.ireturn, 1) := by decide +kernel
theorem dL_law_161 : decode cL_law 161 = .ok (.aload_n 1, 1) := by decide +kernel
theorem dL_law_162 : decode cL_law 162 = .ok (.invokevirtual 27, 3) := by decide +kernel
theorem dL_law_165 : decode cL_law 165 = .ok (.aload_n 2, 1) := by decide +kernel
theorem dL_law_166 : decode cL_law 166 = .ok (.invokevirtual 30, 3) := by decide +kernel
theorem dL_law_169 : decode cL_law 169 = .ok (.if_icmp .eq 341, 3) := by decide +kernel
theorem dL_law_172 : decode cL_law 172 = .ok (.iconst 0, 1) := by decide +kernel
theorem dL_law_173 : decode cL_law 173 = .ok (.ireturn, 1) := by decide +kernel
theorem dL_law_174 : decode cL_law 174 = .ok (.aload_n 1, 1) := by decide +kernel
theorem dL_law_175 : decode cL_law 175 = .ok (.aload_n 0, 1) := by decide +kernel
theorem dL_law_176 : decode cL_law 176 = .ok (.iload_n 3, 1) := by decide +kernel
theorem dL_law_177 : decode cL_law 177 = .ok (.iconst 1, 1) := by decide +kernel
theorem dL_law_178 : decode cL_law 178 = .ok (.iadd, 1) := by decide +kernel
theorem dL_law_179 : decode cL_law 179 = .ok (.iaload, 1) := by decide +kernel
theorem dL_law_180 : decode cL_law 180 = .ok (.i2l, 1) := by decide +kernel
theorem dL_law_181 : decode cL_law 181 = .ok (.bipush 32, 2) := by decide +kernel
theorem dL_law_183 : decode cL_law 183 = .ok (.lshl, 1) := by decide +kernel
theorem dL_law_184 : decode cL_law 184 = .ok (.aload_n 0, 1) := by decide +kernel
theorem dL_law_185 : decode cL_law 185 = .ok (.iload_n 3, 1) := by decide +kernel
theorem dL_law_186 : decode cL_law 186 = .ok (.iconst 2, 1) := by decide +kernel
theorem dL_law_187 : decode cL_law 187 = .ok (.iadd, 1) := by decide +kernel
theorem dL_law_188 : decode cL_law 188 = .ok (.iaload, 1) := by decide +kernel
theorem dL_law_189 : decode cL_law 189 = .ok (.i2l, 1) := by decide +kernel
theorem dL_law_190 : decode cL_law 190 = .ok (.ldc2_w 31, 3) := by decide +kernel
theorem dL_law_193 : decode cL_law 193 = .ok (.land, 1) := by decide +kernel
theorem dL_law_194 : decode cL_law 194 = .ok (.lor, 1) := by decide +kernel
theorem dL_law_195 : decode cL_law 195 = .ok (.invokevirtual 33, 3) := by decide +kernel
theorem dL_law_198 : decode cL_law 198 = .ok (.aload_n 2, 1) := by decide +kernel
theorem dL_law_199 : decode cL_law 199 = .ok (.aload_n 0, 1) := by decide +kernel
theorem dL_law_200 : decode cL_law 200 = .ok (.iload_n 3, 1) := by decide +kernel
theorem dL_law_201 : decode cL_law 201 = .ok (.iconst 1, 1) := by decide +kernel
theorem dL_law_202 : decode cL_law 202 = .ok (.iadd, 1) := by decide +kernel
theorem dL_law_203 : decode cL_law 203 = .ok (.iaload, 1) := by decide +kernel
theorem dL_law_204 : decode cL_law 204 = .ok (.i2l, 1) := by decide +kernel
theorem dL_law_205 : decode cL_law 205 = .ok (.bipush 32, 2) := by decide +kernel
theorem dL_law_207 : decode cL_law 207 = .ok (.lshl, 1) := by decide +kernel
theorem dL_law_208 : decode cL_law 208 = .ok (.aload_n 0, 1) := by decide +kernel
theorem dL_law_209 : decode cL_law 209 = .ok (.iload_n 3, 1) := by decide +kernel
theorem dL_law_210 : decode cL_law 210 = .ok (.iconst 2, 1) := by decide +kernel
theorem dL_law_211 : decode cL_law 211 = .ok (.iadd, 1) := by decide +kernel
theorem dL_law_212 : decode cL_law 212 = .ok (.iaload, 1) := by decide +kernel
theorem dL_law_213 : decode cL_law 213 = .ok (.i2l, 1) := by decide +kernel
theorem dL_law_214 : decode cL_law 214 = .ok (.ldc2_w 31, 3) := by decide +kernel
theorem dL_law_217 : decode cL_law 217 = .ok (.land, 1) := by decide +kernel
theorem dL_law_218 : decode cL_law 218 = .ok (.lor, 1) := by decide +kernel
theorem dL_law_219 : decode cL_law 219 = .ok (.invokevirtual 37, 3) := by decide +kernel
theorem dL_law_222 : decode cL_law 222 = .ok (.if_icmp .eq 288, 3) := by decide +kernel
theorem dL_law_225 : decode cL_law 225 = .ok (.iconst 0, 1) := by decide +kernel
theorem dL_law_226 : decode cL_law 226 = .ok (.ireturn, 1) := by decide +kernel
theorem dL_law_227 : decode cL_law 227 = .ok (.aload_n 1, 1) := by decide +kernel
theorem dL_law_228 : decode cL_law 228 = .ok (.aload_n 0, 1) := by decide +kernel
theorem dL_law_229 : decode cL_law 229 = .ok (.iload_n 3, 1) := by decide +kernel
theorem dL_law_230 : decode cL_law 230 = .ok (.iconst 1, 1) := by decide +kernel
theorem dL_law_231 : decode cL_law 231 = .ok (.iadd, 1) := by decide +kernel
theorem dL_law_232 : decode cL_law 232 = .ok (.iaload, 1) := by decide +kernel
theorem dL_law_233 : decode cL_law 233 = .ok (.aload_n 0, 1) := by decide +kernel
theorem dL_law_234 : decode cL_law 234 = .ok (.iload_n 3, 1) := by decide +kernel
theorem dL_law_235 : decode cL_law 235 = .ok (.iconst 2, 1) := by decide +kernel
theorem dL_law_236 : decode cL_law 236 = .ok (.iadd, 1) := by decide +kernel
theorem dL_law_237 : decode cL_law 237 = .ok (.iaload, 1) := by decide +kernel
theorem dL_law_238 : decode cL_law 238 = .ok (.invokevirtual 38, 3) := by decide +kernel
theorem dL_law_241 : decode cL_law 241 = .ok (.aload_n 2, 1) := by decide +kernel
theorem dL_law_242 : decode cL_law 242 = .ok (.aload_n 0, 1) := by decide +kernel
theorem dL_law_243 : decode cL_law 243 = .ok (.iload_n 3, 1) := by decide +kernel
theorem dL_law_244 : decode cL_law 244 = .ok (.iconst 1, 1) := by decide +kernel
theorem dL_law_245 : decode cL_law 245 = .ok (.iadd, 1) := by decide +kernel
theorem dL_law_246 : decode cL_law 246 = .ok (.iaload, 1) := by decide +kernel
theorem dL_law_247 : decode cL_law 247 = .ok (.aload_n 0, 1) := by decide +kernel
theorem dL_law_248 : decode cL_law 248 = .ok (.iload_n 3, 1) := by decide +kernel
theorem dL_law_249 : decode cL_law 249 = .ok (.iconst 2, 1) := by decide +kernel
theorem dL_law_250 : decode cL_law 250 = .ok (.iadd, 1) := by decide +kernel
theorem dL_law_251 : decode cL_law 251 = .ok (.iaload, 1) := by decide +kernel
theorem dL_law_252 : decode cL_law 252 = .ok (.invokevirtual 42, 3) := by decide +kernel
theorem dL_law_255 : decode cL_law 255 = .ok (.if_icmp .eq 255, 3) := by decide +kernel
theorem dL_law_258 : decode cL_law 258 = .ok (.iconst 0, 1) := by decide +kernel
theorem dL_law_259 : decode cL_law 259 = .ok (.ireturn, 1) := by decide +kernel
theorem dL_law_260 : decode cL_law 260 = .ok (.aload_n 1, 1) := by decide +kernel
theorem dL_law_261 : decode cL_law 261 = .ok (.invokevirtual 43, 3) := by decide +kernel
theorem dL_law_264 : decode cL_law 264 = .ok (.aload_n 2, 1) := by decide +kernel
theorem dL_law_265 : decode cL_law 265 = .ok (.invokevirtual 46, 3) := by decide +kernel
theorem dL_law_268 : decode cL_law 268 = .ok (.if_icmp .eq 242, 3) := by decide +kernel
theorem dL_law_271 : decode cL_law 271 = .ok (.iconst 0, 1) := by decide +kernel
theorem dL_law_272 : decode cL_law 272 = .ok (.ireturn, 1) := by decide +kernel
theorem dL_law_273 : decode cL_law 273 = .ok (.aload_n 1, 1) := by decide +kernel
theorem dL_law_274 : decode cL_law 274 = .ok (.invokevirtual 47, 3) := by decide +kernel
theorem dL_law_277 : decode cL_law 277 = .ok (.aload_n 2, 1) := by decide +kernel
theorem dL_law_278 : decode cL_law 278 = .ok (.invokevirtual 50, 3) := by decide +kernel
theorem dL_law_281 : decode cL_law 281 = .ok (.if_icmp .eq 229, 3) := by decide +kernel
theorem dL_law_284 : decode cL_law 284 = .ok (.iconst 0, 1) := by decide +kernel
theorem dL_law_285 : decode cL_law 285 = .ok (.ireturn, 1) := by decide +kernel
theorem dL_law_286 : decode cL_law 286 = .ok (.aload_n 1, 1) := by decide +kernel
theorem dL_law_287 : decode cL_law 287 = .ok (.aload_n 0, 1) := by decide +kernel
theorem dL_law_288 : decode cL_law 288 = .ok (.iload_n 3, 1) := by decide +kernel
theorem dL_law_289 : decode cL_law 289 = .ok (.iconst 1, 1) := by decide +kernel
theorem dL_law_290 : decode cL_law 290 = .ok (.iadd, 1) := by decide +kernel
theorem dL_law_291 : decode cL_law 291 = .ok (.iaload, 1) := by decide +kernel
theorem dL_law_292 : decode cL_law 292 = .ok (.aload_n 0, 1) := by decide +kernel
theorem dL_law_293 : decode cL_law 293 = .ok (.iload_n 3, 1) := by decide +kernel
theorem dL_law_294 : decode cL_law 294 = .ok (.iconst 2, 1) := by decide +kernel
theorem dL_law_295 : decode cL_law 295 = .ok (.iadd, 1) := by decide +kernel
theorem dL_law_296 : decode cL_law 296 = .ok (.iaload, 1) := by decide +kernel
theorem dL_law_297 : decode cL_law 297 = .ok (.invokevirtual 51, 3) := by decide +kernel
theorem dL_law_300 : decode cL_law 300 = .ok (.aload_n 2, 1) := by decide +kernel
theorem dL_law_301 : decode cL_law 301 = .ok (.aload_n 0, 1) := by decide +kernel
theorem dL_law_302 : decode cL_law 302 = .ok (.iload_n 3, 1) := by decide +kernel
theorem dL_law_303 : decode cL_law 303 = .ok (.iconst 1, 1) := by decide +kernel
theorem dL_law_304 : decode cL_law 304 = .ok (.iadd, 1) := by decide +kernel
theorem dL_law_305 : decode cL_law 305 = .ok (.iaload, 1) := by decide +kernel
theorem dL_law_306 : decode cL_law 306 = .ok (.aload_n 0, 1) := by decide +kernel
theorem dL_law_307 : decode cL_law 307 = .ok (.iload_n 3, 1) := by decide +kernel
theorem dL_law_308 : decode cL_law 308 = .ok (.iconst 2, 1) := by decide +kernel
theorem dL_law_309 : decode cL_law 309 = .ok (.iadd, 1) := by decide +kernel
theorem dL_law_310 : decode cL_law 310 = .ok (.iaload, 1) := by decide +kernel
theorem dL_law_311 : decode cL_law 311 = .ok (.invokevirtual 54, 3) := by decide +kernel
theorem dL_law_314 : decode cL_law 314 = .ok (.if_icmp .eq 196, 3) := by decide +kernel
theorem dL_law_317 : decode cL_law 317 = .ok (.iconst 0, 1) := by decide +kernel
theorem dL_law_318 : decode cL_law 318 = .ok (.ireturn, 1) := by decide +kernel
theorem dL_law_319 : decode cL_law 319 = .ok (.aload_n 1, 1) := by decide +kernel
theorem dL_law_320 : decode cL_law 320 = .ok (.aload_n 0, 1) := by decide +kernel
theorem dL_law_321 : decode cL_law 321 = .ok (.iload_n 3, 1) := by decide +kernel
theorem dL_law_322 : decode cL_law 322 = .ok (.iconst 1, 1) := by decide +kernel
theorem dL_law_323 : decode cL_law 323 = .ok (.iadd, 1) := by decide +kernel
theorem dL_law_324 : decode cL_law 324 = .ok (.iaload, 1) := by decide +kernel
theorem dL_law_325 : decode cL_law 325 = .ok (.invokevirtual 55, 3) := by decide +kernel
theorem dL_law_328 : decode cL_law 328 = .ok (.aload_n 2, 1) := by decide +kernel
theorem dL_law_329 : decode cL_law 329 = .ok (.aload_n 0, 1) := by decide +kernel
theorem dL_law_330 : decode cL_law 330 = .ok (.iload_n 3, 1) := by decide +kernel
theorem dL_law_331 : decode cL_law 331 = .ok (.iconst 1, 1) := by decide +kernel
theorem dL_law_332 : decode cL_law 332 = .ok (.iadd, 1) := by decide +kernel
theorem dL_law_333 : decode cL_law 333 = .ok (.iaload, 1) := by decide +kernel
theorem dL_law_334 : decode cL_law 334 = .ok (.invokevirtual 58, 3) := by decide +kernel
theorem dL_law_337 : decode cL_law 337 = .ok (.if_icmp .eq 173, 3) := by decide +kernel
theorem dL_law_340 : decode cL_law 340 = .ok (.iconst 0, 1) := by decide +kernel
theorem dL_law_341 : decode cL_law 341 = .ok (.ireturn, 1) := by decide +kernel
theorem dL_law_342 : decode cL_law 342 = .ok (.aload_n 1, 1) := by decide +kernel
theorem dL_law_343 : decode cL_law 343 = .ok (.aload_n 0, 1) := by decide +kernel
theorem dL_law_344 : decode cL_law 344 = .ok (.iload_n 3, 1) := by decide +kernel
theorem dL_law_345 : decode cL_law 345 = .ok (.iconst 1, 1) := by decide +kernel
theorem dL_law_346 : decode cL_law 346 = .ok (.iadd, 1) := by decide +kernel
theorem dL_law_347 : decode cL_law 347 = .ok (.iaload, 1) := by decide +kernel
theorem dL_law_348 : decode cL_law 348 = .ok (.aload_n 0, 1) := by decide +kernel
theorem dL_law_349 : decode cL_law 349 = .ok (.iload_n 3, 1) := by decide +kernel
theorem dL_law_350 : decode cL_law 350 = .ok (.iconst 2, 1) := by decide +kernel
theorem dL_law_351 : decode cL_law 351 = .ok (.iadd, 1) := by decide +kernel
theorem dL_law_352 : decode cL_law 352 = .ok (.iaload, 1) := by decide +kernel
theorem dL_law_353 : decode cL_law 353 = .ok (.aload_n 0, 1) := by decide +kernel
theorem dL_law_354 : decode cL_law 354 = .ok (.iload_n 3, 1) := by decide +kernel
theorem dL_law_355 : decode cL_law 355 = .ok (.iconst 3, 1) := by decide +kernel
theorem dL_law_356 : decode cL_law 356 = .ok (.iadd, 1) := by decide +kernel
theorem dL_law_357 : decode cL_law 357 = .ok (.iaload, 1) := by decide +kernel
theorem dL_law_358 : decode cL_law 358 = .ok (.invokevirtual 59, 3) := by decide +kernel
theorem dL_law_361 : decode cL_law 361 = .ok (.aload_n 2, 1) := by decide +kernel
theorem dL_law_362 : decode cL_law 362 = .ok (.aload_n 0, 1) := by decide +kernel
theorem dL_law_363 : decode cL_law 363 = .ok (.iload_n 3, 1) := by decide +kernel
theorem dL_law_364 : decode cL_law 364 = .ok (.iconst 1, 1) := by decide +kernel
theorem dL_law_365 : decode cL_law 365 = .ok (.iadd, 1) := by decide +kernel
theorem dL_law_366 : decode cL_law 366 = .ok (.iaload, 1) := by decide +kernel
theorem dL_law_367 : decode cL_law 367 = .ok (.aload_n 0, 1) := by decide +kernel
theorem dL_law_368 : decode cL_law 368 = .ok (.iload_n 3, 1) := by decide +kernel
theorem dL_law_369 : decode cL_law 369 = .ok (.iconst 2, 1) := by decide +kernel
theorem dL_law_370 : decode cL_law 370 = .ok (.iadd, 1) := by decide +kernel
theorem dL_law_371 : decode cL_law 371 = .ok (.iaload, 1) := by decide +kernel
theorem dL_law_372 : decode cL_law 372 = .ok (.aload_n 0, 1) := by decide +kernel
theorem dL_law_373 : decode cL_law 373 = .ok (.iload_n 3, 1) := by decide +kernel
theorem dL_law_374 : decode cL_law 374 = .ok (.iconst 3, 1) := by decide +kernel
theorem dL_law_375 : decode cL_law 375 = .ok (.iadd, 1) := by decide +kernel
theorem dL_law_376 : decode cL_law 376 = .ok (.iaload, 1) := by decide +kernel
theorem dL_law_377 : decode cL_law 377 = .ok (.invokevirtual 63, 3) := by decide +kernel
theorem dL_law_380 : decode cL_law 380 = .ok (.if_icmp .eq 130, 3) := by decide +kernel
theorem dL_law_383 : decode cL_law 383 = .ok (.iconst 0, 1) := by decide +kernel
theorem dL_law_384 : decode cL_law 384 = .ok (.ireturn, 1) := by decide +kernel
theorem dL_law_385 : decode cL_law 385 = .ok (.aload_n 1, 1) := by decide +kernel
theorem dL_law_386 : decode cL_law 386 = .ok (.aload_n 0, 1) := by decide +kernel
theorem dL_law_387 : decode cL_law 387 = .ok (.iload_n 3, 1) := by decide +kernel
theorem dL_law_388 : decode cL_law 388 = .ok (.iconst 1, 1) := by decide +kernel
theorem dL_law_389 : decode cL_law 389 = .ok (.iadd, 1) := by decide +kernel
theorem dL_law_390 : decode cL_law 390 = .ok (.iaload, 1) := by decide +kernel
theorem dL_law_391 : decode cL_law 391 = .ok (.invokevirtual 64, 3) := by decide +kernel
theorem dL_law_394 : decode cL_law 394 = .ok (.aload_n 2, 1) := by decide +kernel
theorem dL_law_395 : decode cL_law 395 = .ok (.aload_n 0, 1) := by decide +kernel
theorem dL_law_396 : decode cL_law 396 = .ok (.iload_n 3, 1) := by decide +kernel
theorem dL_law_397 : decode cL_law 397 = .ok (.iconst 1, 1) := by decide +kernel
theorem dL_law_398 : decode cL_law 398 = .ok (.iadd, 1) := by decide +kernel
theorem dL_law_399 : decode cL_law 399 = .ok (.iaload, 1) := by decide +kernel
theorem dL_law_400 : decode cL_law 400 = .ok (.invokevirtual 67, 3) := by decide +kernel
theorem dL_law_403 : decode cL_law 403 = .ok (.if_icmp .eq 107, 3) := by decide +kernel
theorem dL_law_406 : decode cL_law 406 = .ok (.iconst 0, 1) := by decide +kernel
theorem dL_law_407 : decode cL_law 407 = .ok (.ireturn, 1) := by decide +kernel
theorem dL_law_408 : decode cL_law 408 = .ok (.aload_n 1, 1) := by decide +kernel
theorem dL_law_409 : decode cL_law 409 = .ok (.invokevirtual 68, 3) := by decide +kernel
theorem dL_law_412 : decode cL_law 412 = .ok (.aload_n 2, 1) := by decide +kernel
theorem dL_law_413 : decode cL_law 413 = .ok (.invokevirtual 71, 3) := by decide +kernel
theorem dL_law_416 : decode cL_law 416 = .ok (.if_icmp .eq 94, 3) := by decide +kernel
theorem dL_law_419 : decode cL_law 419 = .ok (.iconst 0, 1) := by decide +kernel
theorem dL_law_420 : decode cL_law 420 = .ok (.ireturn, 1) := by decide +kernel
theorem dL_law_421 : decode cL_law 421 = .ok (.aload_n 1, 1) := by decide +kernel
theorem dL_law_422 : decode cL_law 422 = .ok (.aload_n 0, 1) := by decide +kernel
theorem dL_law_423 : decode cL_law 423 = .ok (.iload_n 3, 1) := by decide +kernel
theorem dL_law_424 : decode cL_law 424 = .ok (.iconst 1, 1) := by decide +kernel
theorem dL_law_425 : decode cL_law 425 = .ok (.iadd, 1) := by decide +kernel
theorem dL_law_426 : decode cL_law 426 = .ok (.iaload, 1) := by decide +kernel
theorem dL_law_427 : decode cL_law 427 = .ok (.aload_n 0, 1) := by decide +kernel
theorem dL_law_428 : decode cL_law 428 = .ok (.iload_n 3, 1) := by decide +kernel
theorem dL_law_429 : decode cL_law 429 = .ok (.iconst 2, 1) := by decide +kernel
theorem dL_law_430 : decode cL_law 430 = .ok (.iadd, 1) := by decide +kernel
theorem dL_law_431 : decode cL_law 431 = .ok (.iaload, 1) := by decide +kernel
theorem dL_law_432 : decode cL_law 432 = .ok (.invokevirtual 72, 3) := by decide +kernel
theorem dL_law_435 : decode cL_law 435 = .ok (.aload_n 2, 1) := by decide +kernel
theorem dL_law_436 : decode cL_law 436 = .ok (.aload_n 0, 1) := by decide +kernel
theorem dL_law_437 : decode cL_law 437 = .ok (.iload_n 3, 1) := by decide +kernel
theorem dL_law_438 : decode cL_law 438 = .ok (.iconst 1, 1) := by decide +kernel
theorem dL_law_439 : decode cL_law 439 = .ok (.iadd, 1) := by decide +kernel
theorem dL_law_440 : decode cL_law 440 = .ok (.iaload, 1) := by decide +kernel
theorem dL_law_441 : decode cL_law 441 = .ok (.aload_n 0, 1) := by decide +kernel
theorem dL_law_442 : decode cL_law 442 = .ok (.iload_n 3, 1) := by decide +kernel
theorem dL_law_443 : decode cL_law 443 = .ok (.iconst 2, 1) := by decide +kernel
theorem dL_law_444 : decode cL_law 444 = .ok (.iadd, 1) := by decide +kernel
theorem dL_law_445 : decode cL_law 445 = .ok (.iaload, 1) := by decide +kernel
theorem dL_law_446 : decode cL_law 446 = .ok (.invokevirtual 75, 3) := by decide +kernel
theorem dL_law_449 : decode cL_law 449 = .ok (.if_icmp .eq 61, 3) := by decide +kernel
theorem dL_law_452 : decode cL_law 452 = .ok (.iconst 0, 1) := by decide +kernel
theorem dL_law_453 : decode cL_law 453 = .ok (.ireturn, 1) := by decide +kernel
theorem dL_law_454 : decode cL_law 454 = .ok (.aload_n 1, 1) := by decide +kernel
theorem dL_law_455 : decode cL_law 455 = .ok (.aload_n 0, 1) := by decide +kernel
theorem dL_law_456 : decode cL_law 456 = .ok (.iload_n 3, 1) := by decide +kernel
theorem dL_law_457 : decode cL_law 457 = .ok (.iconst 1, 1) := by decide +kernel
theorem dL_law_458 : decode cL_law 458 = .ok (.iadd, 1) := by decide +kernel
theorem dL_law_459 : decode cL_law 459 = .ok (.iaload, 1) := by decide +kernel
theorem dL_law_460 : decode cL_law 460 = .ok (.invokevirtual 76, 3) := by decide +kernel
theorem dL_law_463 : decode cL_law 463 = .ok (.aload_n 2, 1) := by decide +kernel
theorem dL_law_464 : decode cL_law 464 = .ok (.aload_n 0, 1) := by decide +kernel
theorem dL_law_465 : decode cL_law 465 = .ok (.iload_n 3, 1) := by decide +kernel
theorem dL_law_466 : decode cL_law 466 = .ok (.iconst 1, 1) := by decide +kernel
theorem dL_law_467 : decode cL_law 467 = .ok (.iadd, 1) := by decide +kernel
theorem dL_law_468 : decode cL_law 468 = .ok (.iaload, 1) := by decide +kernel
theorem dL_law_469 : decode cL_law 469 = .ok (.invokevirtual 79, 3) := by decide +kernel
theorem dL_law_472 : decode cL_law 472 = .ok (.if_icmp .eq 38, 3) := by decide +kernel
theorem dL_law_475 : decode cL_law 475 = .ok (.iconst 0, 1) := by decide +kernel
theorem dL_law_476 : decode cL_law 476 = .ok (.ireturn, 1) := by decide +kernel
theorem dL_law_477 : decode cL_law 477 = .ok (.aload_n 1, 1) := by decide +kernel
theorem dL_law_478 : decode cL_law 478 = .ok (.aload_n 0, 1) := by decide +kernel
theorem dL_law_479 : decode cL_law 479 = .ok (.iload_n 3, 1) := by decide +kernel
theorem dL_law_480 : decode cL_law 480 = .ok (.iconst 1, 1) := by decide +kernel
theorem dL_law_481 : decode cL_law 481 = .ok (.iadd, 1) := by decide +kernel
theorem dL_law_482 : decode cL_law 482 = .ok (.iaload, 1) := by decide +kernel
theorem dL_law_483 : decode cL_law 483 = .ok (.aload_n 0, 1) := by decide +kernel
theorem dL_law_484 : decode cL_law 484 = .ok (.iload_n 3, 1) := by decide +kernel
theorem dL_law_485 : decode cL_law 485 = .ok (.iconst 2, 1) := by decide +kernel
theorem dL_law_486 : decode cL_law 486 = .ok (.iadd, 1) := by decide +kernel
theorem dL_law_487 : decode cL_law 487 = .ok (.iaload, 1) := by decide +kernel
theorem dL_law_488 : decode cL_law 488 = .ok (.invokevirtual 80, 3) := by decide +kernel
theorem dL_law_491 : decode cL_law 491 = .ok (.aload_n 2, 1) := by decide +kernel
theorem dL_law_492 : decode cL_law 492 = .ok (.aload_n 0, 1) := by decide +kernel
theorem dL_law_493 : decode cL_law 493 = .ok (.iload_n 3, 1) := by decide +kernel
theorem dL_law_494 : decode cL_law 494 = .ok (.iconst 1, 1) := by decide +kernel
theorem dL_law_495 : decode cL_law 495 = .ok (.iadd, 1) := by decide +kernel
theorem dL_law_496 : decode cL_law 496 = .ok (.iaload, 1) := by decide +kernel
theorem dL_law_497 : decode cL_law 497 = .ok (.aload_n 0, 1) := by decide +kernel
theorem dL_law_498 : decode cL_law 498 = .ok (.iload_n 3, 1) := by decide +kernel
theorem dL_law_499 : decode cL_law 499 = .ok (.iconst 2, 1) := by decide +kernel
theorem dL_law_500 : decode cL_law 500 = .ok (.iadd, 1) := by decide +kernel
theorem dL_law_501 : decode cL_law 501 = .ok (.iaload, 1) := by decide +kernel
theorem dL_law_502 : decode cL_law 502 = .ok (.invokevirtual 83, 3) := by decide +kernel
theorem dL_law_505 : decode cL_law 505 = .ok (.if_icmp .eq 5, 3) := by decide +kernel
theorem dL_law_508 : decode cL_law 508 = .ok (.iconst 0, 1) := by decide +kernel
theorem dL_law_509 : decode cL_law 509 = .ok (.ireturn, 1) := by decide +kernel
theorem dL_law_510 : decode cL_law 510 = .ok (.iinc 3 4, 3) := by decide +kernel
theorem dL_law_513 : decode cL_law 513 = .ok (.goto (-495), 3) := by decide +kernel
theorem dL_law_516 : decode cL_law 516 = .ok (.iconst 1, 1) := by decide +kernel
theorem dL_law_517 : decode cL_law 517 = .ok (.ireturn, 1) := by decide +kernel
