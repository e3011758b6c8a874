theorem dX0_init_0 : decode cX0_init 0 = .ok (.aload_n 0, 1) := by decide +kernel
theorem dX0_init_1 : decode cX0_init 1 = .ok (.invokespecial 3, 3) := by decide +kernel
theorem dX0_init_4 : decode cX0_init 4 = .ok (.aload_n 0, 1) := by decide +kernel
theorem dX0_init_5 : decode cX0_init 5 = .ok (.new 9, 3) := by decide +kernel
theorem dX0_init_8 : decode cX0_init 8 = .ok (.dup, 1) := by decide +kernel
theorem dX0_init_9 : decode cX0_init 9 = .ok (.invokespecial 11, 3) := by decide +kernel
theorem dX0_init_12 : decode cX0_init 12 = .ok (.putfield 12, 3) := by decide +kernel
theorem dX0_init_15 : decode cX0_init 15 = .ok (.aload_n 0, 1) := by decide +kernel
theorem dX0_init_16 : decode cX0_init 16 = .ok (.new 9, 3) := by decide +kernel
theorem dX0_init_19 : decode cX0_init 19 = .ok (.dup, 1) := by decide +kernel
theorem dX0_init_20 : decode cX0_init 20 = .ok (.invokespecial 11, 3) := by decide +kernel
theorem dX0_init_23 : decode cX0_init 23 = .ok (.putfield 18, 3) := by decide +kernel
theorem dX0_init_26 : decode cX0_init 26 = .ok (.aload_n 0, 1) := by decide +kernel
theorem dX0_init_27 : decode cX0_init 27 = .ok (.new 21, 3) := by decide +kernel
theorem dX0_init_30 : decode cX0_init 30 = .ok (.dup, 1) := by decide +kernel
theorem dX0_init_31 : decode cX0_init 31 = .ok (.invokespecial 23, 3) := by decide +kernel
theorem dX0_init_34 : decode cX0_init 34 = .ok (.putfield 24, 3) := by decide +kernel
theorem dX0_init_37 : decode cX0_init 37 = .ok (.aload_n 0, 1) := by decide +kernel
theorem dX0_init_38 : decode cX0_init 38 = .ok (.new 28, 3) := by decide +kernel
theorem dX0_init_41 : decode cX0_init 41 = .ok (.dup, 1) := by decide +kernel
theorem dX0_init_42 : decode cX0_init 42 = .ok (.invokespecial 30, 3) := by decide +kernel
theorem dX0_init_45 : decode cX0_init 45 = .ok (.putfield 31, 3) := by decide +kernel
theorem dX0_init_48 : decode cX0_init 48 = .ok (.aload_n 0, 1) := by decide +kernel
theorem dX0_init_49 : decode cX0_init 49 = .ok (.sipush 191, 3) := by decide +kernel
theorem dX0_init_52 : decode cX0_init 52 = .ok (.newarray .int, 2) := by decide +kernel
theorem dX0_init_54 : decode cX0_init 54 = .ok (.putfield 35, 3) := by decide +kernel
theorem dX0_init_57 : decode cX0_init 57 = .ok (.aload_n 0, 1) := by decide +kernel
theorem dX0_init_58 : decode cX0_init 58 = .ok (.sipush 191, 3) := by decide +kernel
theorem dX0_init_61 : decode cX0_init 61 = .ok (.newarray .int, 2) := by decide +kernel
theorem dX0_init_63 : decode cX0_init 63 = .ok (.putfield 39, 3) := by decide +kernel
theorem dX0_init_66 : decode cX0_init 66 = .ok (.aload_n 0, 1) := by decide +kernel
theorem dX0_init_67 : decode cX0_init 67 = .ok (.bipush 31, 2) := by decide +kernel
theorem dX0_init_69 : decode cX0_init 69 = .ok (.newarray .int, 2) := by decide +kernel
theorem dX0_init_71 : decode cX0_init 71 = .ok (.putfield 42, 3) := by decide +kernel
theorem dX0_init_74 : decode cX0_init 74 = .ok (.aload_n 0, 1) := by decide +kernel
theorem dX0_init_75 : decode cX0_init 75 = .ok (.iconst 0, 1) := by decide +kernel
theorem dX0_init_76 : decode cX0_init 76 = .ok (.putfield 45, 3) := by decide +kernel
theorem dX0_init_79 : decode cX0_init 79 = .ok (.aload_n 0, 1) := by decide +kernel
theorem dX0_init_80 : decode cX0_init 80 = .ok (.iconst 0, 1) := by decide +kernel
theorem dX0_init_81 : decode cX0_init 81 = .ok (.putfield 49, 3) := by decide +kernel
theorem dX0_init_84 : decode cX0_init 84 = .ok (.aload_n 0, 1) := by decide +kernel
theorem dX0_init_85 : decode cX0_init 85 = .ok (.iconst 0, 1) := by decide +kernel
theorem dX0_init_86 : decode cX0_init 86 = .ok (.putfield 52, 3) := by decide +kernel
theorem dX0_init_89 : decode cX0_init 89 = .ok (.aload_n 0, 1) := by decide +kernel
theorem dX0_init_90 : decode cX0_init 90 = .ok (.iconst 0, 1) := by decide +kernel
theorem dX0_init_91 : decode cX0_init 91 = .ok (.putfield 56, 3) := by decide +kernel
theorem dX0_init_94 : decode cX0_init 94 = .ok (.aload_n 0, 1) := by decide +kernel
theorem dX0_init_95 : decode cX0_init 95 = .ok (.iconst 0, 1) := by decide +kernel
theorem dX0_init_96 : decode cX0_init 96 = .ok (.putfield 59, 3) := by decide +kernel
theorem dX0_init_99 : decode cX0_init 99 = .ok (.return_, 1) := by decide +kernel
theorem dX0_forget_0 : decode cX0_forget 0 = .ok (.aload_n 0, 1) := by decide +kernel
theorem dX0_forget_1 : decode cX0_forget 1 = .ok (.iconst 0, 1) := by decide +kernel
theorem dX0_forget_2 : decode cX0_forget 2 = .ok (.putfield 52, 3) := by decide +kernel
theorem dX0_forget_5 : decode cX0_forget 5 = .ok (.aload_n 0, 1) := by decide +kernel
theorem dX0_forget_6 : decode cX0_forget 6 = .ok (.iconst 0, 1) := by decide +kernel
theorem dX0_forget_7 : decode cX0_forget 7 = .ok (.putfield 56, 3) := by decide +kernel
theorem dX0_forget_10 : decode cX0_forget 10 = .ok (.aload_n 0, 1) := by decide +kernel
theorem dX0_forget_11 : decode cX0_forget 11 = .ok (.iconst 0, 1) := by decide +kernel
theorem dX0_forget_12 : decode cX0_forget 12 = .ok (.putfield 59, 3) := by decide +kernel
theorem dX0_forget_15 : decode cX0_forget 15 = .ok (.return_, 1) := by decide +kernel
theorem dX0_manyWithEnergy_0 : decode cX0_manyWithEnergy 0 = .ok (.aload_n 0, 1) := by decide +kernel
theorem dX0_manyWithEnergy_1 : decode cX0_manyWithEnergy 1 = .ok (.aload_n 1, 1) := by decide +kernel
theorem dX0_manyWithEnergy_2 : decode cX0_manyWithEnergy 2 = .ok (.invokevirtual 62, 3) := by decide +kernel
theorem dX0_manyWithEnergy_5 : decode cX0_manyWithEnergy 5 = .ok (.aload_n 0, 1) := by decide +kernel
theorem dX0_manyWithEnergy_6 : decode cX0_manyWithEnergy 6 = .ok (.iload_n 2, 1) := by decide +kernel
theorem dX0_manyWithEnergy_7 : decode cX0_manyWithEnergy 7 = .ok (.invokevirtual 66, 3) := by decide +kernel
theorem dX0_manyWithEnergy_10 : decode cX0_manyWithEnergy 10 = .ok (.ireturn, 1) := by decide +kernel
theorem dX0_manyWithWalls_0 : decode cX0_manyWithWalls 0 = .ok (.aload_n 0, 1) := by decide +kernel
theorem dX0_manyWithWalls_1 : decode cX0_manyWithWalls 1 = .ok (.getfield 56, 3) := by decide +kernel
theorem dX0_manyWithWalls_4 : decode cX0_manyWithWalls 4 = .ok (.ifCond .ne 32, 3) := by decide +kernel
theorem dX0_manyWithWalls_7 : decode cX0_manyWithWalls 7 = .ok (.aload_n 0, 1) := by decide +kernel
theorem dX0_manyWithWalls_8 : decode cX0_manyWithWalls 8 = .ok (.getfield 18, 3) := by decide +kernel
theorem dX0_manyWithWalls_11 : decode cX0_manyWithWalls 11 = .ok (.aload_n 1, 1) := by decide +kernel
theorem dX0_manyWithWalls_12 : decode cX0_manyWithWalls 12 = .ok (.iconst 1, 1) := by decide +kernel
theorem dX0_manyWithWalls_13 : decode cX0_manyWithWalls 13 = .ok (.invokevirtual 70, 3) := by decide +kernel
theorem dX0_manyWithWalls_16 : decode cX0_manyWithWalls 16 = .ok (.aload_n 0, 1) := by decide +kernel
theorem dX0_manyWithWalls_17 : decode cX0_manyWithWalls 17 = .ok (.getfield 24, 3) := by decide +kernel
theorem dX0_manyWithWalls_20 : decode cX0_manyWithWalls 20 = .ok (.aload_n 0, 1) := by decide +kernel
theorem dX0_manyWithWalls_21 : decode cX0_manyWithWalls 21 = .ok (.getfield 39, 3) := by decide +kernel
theorem dX0_manyWithWalls_24 : decode cX0_manyWithWalls 24 = .ok (.aload_n 0, 1) := by decide +kernel
theorem dX0_manyWithWalls_25 : decode cX0_manyWithWalls 25 = .ok (.getfield 18, 3) := by decide +kernel
theorem dX0_manyWithWalls_28 : decode cX0_manyWithWalls 28 = .ok (.invokevirtual 74, 3) := by decide +kernel
theorem dX0_manyWithWalls_31 : decode cX0_manyWithWalls 31 = .ok (.aload_n 0, 1) := by decide +kernel
theorem dX0_manyWithWalls_32 : decode cX0_manyWithWalls 32 = .ok (.iconst 1, 1) := by decide +kernel
theorem dX0_manyWithWalls_33 : decode cX0_manyWithWalls 33 = .ok (.putfield 56, 3) := by decide +kernel
theorem dX0_manyWithWalls_36 : decode cX0_manyWithWalls 36 = .ok (.aload_n 0, 1) := by decide +kernel
theorem dX0_manyWithWalls_37 : decode cX0_manyWithWalls 37 = .ok (.getfield 39, 3) := by decide +kernel
theorem dX0_manyWithWalls_40 : decode cX0_manyWithWalls 40 = .ok (.iload_n 2, 1) := by decide +kernel
theorem dX0_manyWithWalls_41 : decode cX0_manyWithWalls 41 = .ok (.invokestatic 78, 3) := by decide +kernel
theorem dX0_manyWithWalls_44 : decode cX0_manyWithWalls 44 = .ok (.ireturn, 1) := by decide +kernel
theorem dX0_manyOfLeastWithUps_0 : decode cX0_manyOfLeastWithUps 0 = .ok (.aload_n 0, 1) := by decide +kernel
theorem dX0_manyOfLeastWithUps_1 : decode cX0_manyOfLeastWithUps 1 = .ok (.getfield 59, 3) := by decide +kernel
theorem dX0_manyOfLeastWithUps_4 : decode cX0_manyOfLeastWithUps 4 = .ok (.ifCond .ne 32, 3) := by decide +kernel
theorem dX0_manyOfLeastWithUps_7 : decode cX0_manyOfLeastWithUps 7 = .ok (.aload_n 0, 1) := by decide +kernel
theorem dX0_manyOfLeastWithUps_8 : decode cX0_manyOfLeastWithUps 8 = .ok (.getfield 12, 3) := by decide +kernel
theorem dX0_manyOfLeastWithUps_11 : decode cX0_manyOfLeastWithUps 11 = .ok (.aload_n 1, 1) := by decide +kernel
theorem dX0_manyOfLeastWithUps_12 : decode cX0_manyOfLeastWithUps 12 = .ok (.iconst 0, 1) := by decide +kernel
theorem dX0_manyOfLeastWithUps_13 : decode cX0_manyOfLeastWithUps 13 = .ok (.invokevirtual 70, 3) := by decide +kernel
theorem dX0_manyOfLeastWithUps_16 : decode cX0_manyOfLeastWithUps 16 = .ok (.aload_n 0, 1) := by decide +kernel
theorem dX0_manyOfLeastWithUps_17 : decode cX0_manyOfLeastWithUps 17 = .ok (.getfield 31, 3) := by decide +kernel
theorem dX0_manyOfLeastWithUps_20 : decode cX0_manyOfLeastWithUps 20 = .ok (.aload_n 0, 1) := by decide +kernel
theorem dX0_manyOfLeastWithUps_21 : decode cX0_manyOfLeastWithUps 21 = .ok (.getfield 42, 3) := by decide +kernel
theorem dX0_manyOfLeastWithUps_24 : decode cX0_manyOfLeastWithUps 24 = .ok (.aload_n 0, 1) := by decide +kernel
theorem dX0_manyOfLeastWithUps_25 : decode cX0_manyOfLeastWithUps 25 = .ok (.getfield 12, 3) := by decide +kernel
theorem dX0_manyOfLeastWithUps_28 : decode cX0_manyOfLeastWithUps 28 = .ok (.invokevirtual 82, 3) := by decide +kernel
theorem dX0_manyOfLeastWithUps_31 : decode cX0_manyOfLeastWithUps 31 = .ok (.aload_n 0, 1) := by decide +kernel
theorem dX0_manyOfLeastWithUps_32 : decode cX0_manyOfLeastWithUps 32 = .ok (.iconst 1, 1) := by decide +kernel
theorem dX0_manyOfLeastWithUps_33 : decode cX0_manyOfLeastWithUps 33 = .ok (.putfield 59, 3) := by decide +kernel
theorem dX0_manyOfLeastWithUps_36 : decode cX0_manyOfLeastWithUps 36 = .ok (.aload_n 0, 1) := by decide +kernel
theorem dX0_manyOfLeastWithUps_37 : decode cX0_manyOfLeastWithUps 37 = .ok (.getfield 42, 3) := by decide +kernel
theorem dX0_manyOfLeastWithUps_40 : decode cX0_manyOfLeastWithUps 40 = .ok (.iload_n 2, 1) := by decide +kernel
theorem dX0_manyOfLeastWithUps_41 : decode cX0_manyOfLeastWithUps 41 = .ok (.invokestatic 78, 3) := by decide +kernel
theorem dX0_manyOfLeastWithUps_44 : decode cX0_manyOfLeastWithUps 44 = .ok (.ireturn, 1) := by decide +kernel
theorem dX0_manyWithUps_0 : decode cX0_manyWithUps 0 = .ok (.aload_n 0, 1) := by decide +kernel
theorem dX0_manyWithUps_1 : decode cX0_manyWithUps 1 = .ok (.getfield 85, 3) := by decide +kernel
theorem dX0_manyWithUps_4 : decode cX0_manyWithUps 4 = .ok (.aload_n 0, 1) := by decide +kernel
theorem dX0_manyWithUps_5 : decode cX0_manyWithUps 5 = .ok (.getfield 90, 3) := by decide +kernel
theorem dX0_manyWithUps_8 : decode cX0_manyWithUps 8 = .ok (.imul, 1) := by decide +kernel
theorem dX0_manyWithUps_9 : decode cX0_manyWithUps 9 = .ok (.istore_n 2, 1) := by decide +kernel
theorem dX0_manyWithUps_10 : decode cX0_manyWithUps 10 = .ok (.iload_n 1, 1) := by decide +kernel
theorem dX0_manyWithUps_11 : decode cX0_manyWithUps 11 = .ok (.ifCond .lt 8, 3) := by decide +kernel
theorem dX0_manyWithUps_14 : decode cX0_manyWithUps 14 = .ok (.iload_n 1, 1) := by decide +kernel
theorem dX0_manyWithUps_15 : decode cX0_manyWithUps 15 = .ok (.iload_n 2, 1) := by decide +kernel
theorem dX0_manyWithUps_16 : decode cX0_manyWithUps 16 = .ok (.if_icmp .le 5, 3) := by decide +kernel
theorem dX0_manyWithUps_19 : decode cX0_manyWithUps 19 = .ok (.iconst 0, 1) := by decide +kernel
theorem dX0_manyWithUps_20 : decode cX0_manyWithUps 20 = .ok (.ireturn, 1) := by decide +kernel
theorem dX0_manyWithUps_21 : decode cX0_manyWithUps 21 = .ok (.lconst 1, 1) := by decide +kernel
theorem dX0_manyWithUps_22 : decode cX0_manyWithUps 22 = .ok (.lstore_n 3, 1) := by decide +kernel
theorem dX0_manyWithUps_23 : decode cX0_manyWithUps 23 = .ok (.iconst 1, 1) := by decide +kernel
theorem dX0_manyWithUps_24 : decode cX0_manyWithUps 24 = .ok (.istore 5, 2) := by decide +kernel
theorem dX0_manyWithUps_26 : decode cX0_manyWithUps 26 = .ok (.iload 5, 2) := by decide +kernel
theorem dX0_manyWithUps_28 : decode cX0_manyWithUps 28 = .ok (.iload_n 1, 1) := by decide +kernel
theorem dX0_manyWithUps_29 : decode cX0_manyWithUps 29 = .ok (.if_icmp .gt 23, 3) := by decide +kernel
theorem dX0_manyWithUps_32 : decode cX0_manyWithUps 32 = .ok (.lload_n 3, 1) := by decide +kernel
theorem dX0_manyWithUps_33 : decode cX0_manyWithUps 33 = .ok (.iload_n 2, 1) := by decide +kernel
theorem dX0_manyWithUps_34 : decode cX0_manyWithUps 34 = .ok (.iload 5, 2) := by decide +kernel
theorem dX0_manyWithUps_36 : decode cX0_manyWithUps 36 = .ok (.isub, 1) := by decide +kernel
theorem dX0_manyWithUps_37 : decode cX0_manyWithUps 37 = .ok (.iconst 1, 1) := by decide +kernel
theorem dX0_manyWithUps_38 : decode cX0_manyWithUps 38 = .ok (.iadd, 1) := by decide +kernel
theorem dX0_manyWithUps_39 : decode cX0_manyWithUps 39 = .ok (.i2l, 1) := by decide +kernel
theorem dX0_manyWithUps_40 : decode cX0_manyWithUps 40 = .ok (.lmul, 1) := by decide +kernel
theorem dX0_manyWithUps_41 : decode cX0_manyWithUps 41 = .ok (.iload 5, 2) := by decide +kernel
theorem dX0_manyWithUps_43 : decode cX0_manyWithUps 43 = .ok (.i2l, 1) := by decide +kernel
theorem dX0_manyWithUps_44 : decode cX0_manyWithUps 44 = .ok (.ldiv, 1) := by decide +kernel
theorem dX0_manyWithUps_45 : decode cX0_manyWithUps 45 = .ok (.lstore_n 3, 1) := by decide +kernel
theorem dX0_manyWithUps_46 : decode cX0_manyWithUps 46 = .ok (.iinc 5 1, 3) := by decide +kernel
theorem dX0_manyWithUps_49 : decode cX0_manyWithUps 49 = .ok (.goto (-23), 3) := by decide +kernel
theorem dX0_manyWithUps_52 : decode cX0_manyWithUps 52 = .ok (.lload_n 3, 1) := by decide +kernel
theorem dX0_manyWithUps_53 : decode cX0_manyWithUps 53 = .ok (.l2i, 1) := by decide +kernel
theorem dX0_manyWithUps_54 : decode cX0_manyWithUps 54 = .ok (.ireturn, 1) := by decide +kernel
theorem dX0_leastEnergy_0 : decode cX0_leastEnergy 0 = .ok (.aload_n 0, 1) := by decide +kernel
theorem dX0_leastEnergy_1 : decode cX0_leastEnergy 1 = .ok (.aload_n 1, 1) := by decide +kernel
theorem dX0_leastEnergy_2 : decode cX0_leastEnergy 2 = .ok (.invokevirtual 62, 3) := by decide +kernel
theorem dX0_leastEnergy_5 : decode cX0_leastEnergy 5 = .ok (.aload_n 0, 1) := by decide +kernel
theorem dX0_leastEnergy_6 : decode cX0_leastEnergy 6 = .ok (.aload_n 0, 1) := by decide +kernel
theorem dX0_leastEnergy_7 : decode cX0_leastEnergy 7 = .ok (.getfield 45, 3) := by decide +kernel
theorem dX0_leastEnergy_10 : decode cX0_leastEnergy 10 = .ok (.invokevirtual 93, 3) := by decide +kernel
theorem dX0_leastEnergy_13 : decode cX0_leastEnergy 13 = .ok (.ireturn, 1) := by decide +kernel
theorem dX0_greatestEnergy_0 : decode cX0_greatestEnergy 0 = .ok (.aload_n 0, 1) := by decide +kernel
theorem dX0_greatestEnergy_1 : decode cX0_greatestEnergy 1 = .ok (.aload_n 1, 1) := by decide +kernel
theorem dX0_greatestEnergy_2 : decode cX0_greatestEnergy 2 = .ok (.invokevirtual 62, 3) := by decide +kernel
theorem dX0_greatestEnergy_5 : decode cX0_greatestEnergy 5 = .ok (.aload_n 0, 1) := by decide +kernel
theorem dX0_greatestEnergy_6 : decode cX0_greatestEnergy 6 = .ok (.aload_n 0, 1) := by decide +kernel
theorem dX0_greatestEnergy_7 : decode cX0_greatestEnergy 7 = .ok (.getfield 49, 3) := by decide +kernel
theorem dX0_greatestEnergy_10 : decode cX0_greatestEnergy 10 = .ok (.invokevirtual 93, 3) := by decide +kernel
theorem dX0_greatestEnergy_13 : decode cX0_greatestEnergy 13 = .ok (.ireturn, 1) := by decide +kernel
theorem dX0_sumOfWeights_0 : decode cX0_sumOfWeights 0 = .ok (.aload_n 0, 1) := by decide +kernel
theorem dX0_sumOfWeights_1 : decode cX0_sumOfWeights 1 = .ok (.aload_n 1, 1) := by decide +kernel
theorem dX0_sumOfWeights_2 : decode cX0_sumOfWeights 2 = .ok (.invokevirtual 62, 3) := by decide +kernel
theorem dX0_sumOfWeights_5 : decode cX0_sumOfWeights 5 = .ok (.aload_n 0, 1) := by decide +kernel
theorem dX0_sumOfWeights_6 : decode cX0_sumOfWeights 6 = .ok (.aload_n 0, 1) := by decide +kernel
theorem dX0_sumOfWeights_7 : decode cX0_sumOfWeights 7 = .ok (.getfield 49, 3) := by decide +kernel
theorem dX0_sumOfWeights_10 : decode cX0_sumOfWeights 10 = .ok (.invokevirtual 93, 3) := by decide +kernel
theorem dX0_sumOfWeights_13 : decode cX0_sumOfWeights 13 = .ok (.istore 4, 2) := by decide +kernel
theorem dX0_sumOfWeights_15 : decode cX0_sumOfWeights 15 = .ok (.fconst 1, 1) := by decide +kernel
theorem dX0_sumOfWeights_16 : decode cX0_sumOfWeights 16 = .ok (.fstore 5, 2) := by decide +kernel
theorem dX0_sumOfWeights_18 : decode cX0_sumOfWeights 18 = .ok (.fconst 0, 1) := by decide +kernel
theorem dX0_sumOfWeights_19 : decode cX0_sumOfWeights 19 = .ok (.fstore 6, 2) := by decide +kernel
theorem dX0_sumOfWeights_21 : decode cX0_sumOfWeights 21 = .ok (.aload_n 0, 1) := by decide +kernel
theorem dX0_sumOfWeights_22 : decode cX0_sumOfWeights 22 = .ok (.aload_n 0, 1) := by decide +kernel
theorem dX0_sumOfWeights_23 : decode cX0_sumOfWeights 23 = .ok (.getfield 45, 3) := by decide +kernel
theorem dX0_sumOfWeights_26 : decode cX0_sumOfWeights 26 = .ok (.invokevirtual 93, 3) := by decide +kernel
theorem dX0_sumOfWeights_29 : decode cX0_sumOfWeights 29 = .ok (.istore 7, 2) := by decide +kernel
theorem dX0_sumOfWeights_31 : decode cX0_sumOfWeights 31 = .ok (.iload 7, 2) := by decide +kernel
theorem dX0_sumOfWeights_33 : decode cX0_sumOfWeights 33 = .ok (.iload 4, 2) := by decide +kernel
theorem dX0_sumOfWeights_35 : decode cX0_sumOfWeights 35 = .ok (.if_icmp .gt 47, 3) := by decide +kernel
theorem dX0_sumOfWeights_38 : decode cX0_sumOfWeights 38 = .ok (.aload_n 0, 1) := by decide +kernel
theorem dX0_sumOfWeights_39 : decode cX0_sumOfWeights 39 = .ok (.iload 7, 2) := by decide +kernel
theorem dX0_sumOfWeights_41 : decode cX0_sumOfWeights 41 = .ok (.invokevirtual 66, 3) := by decide +kernel
theorem dX0_sumOfWeights_44 : decode cX0_sumOfWeights 44 = .ok (.i2f, 1) := by decide +kernel
theorem dX0_sumOfWeights_45 : decode cX0_sumOfWeights 45 = .ok (.fload 5, 2) := by decide +kernel
theorem dX0_sumOfWeights_47 : decode cX0_sumOfWeights 47 = .ok (.fmul, 1) := by decide +kernel
theorem dX0_sumOfWeights_48 : decode cX0_sumOfWeights 48 = .ok (.fstore 8, 2) := by decide +kernel
theorem dX0_sumOfWeights_50 : decode cX0_sumOfWeights 50 = .ok (.fload 6, 2) := by decide +kernel
theorem dX0_sumOfWeights_52 : decode cX0_sumOfWeights 52 = .ok (.iload_n 3, 1) := by decide +kernel
theorem dX0_sumOfWeights_53 : decode cX0_sumOfWeights 53 = .ok (.ifCond .eq 12, 3) := by decide +kernel
theorem dX0_sumOfWeights_56 : decode cX0_sumOfWeights 56 = .ok (.fload 8, 2) := by decide +kernel
theorem dX0_sumOfWeights_58 : decode cX0_sumOfWeights 58 = .ok (.iload 7, 2) := by decide +kernel
theorem dX0_sumOfWeights_60 : decode cX0_sumOfWeights 60 = .ok (.i2f, 1) := by decide +kernel
theorem dX0_sumOfWeights_61 : decode cX0_sumOfWeights 61 = .ok (.fmul, 1) := by decide +kernel
theorem dX0_sumOfWeights_62 : decode cX0_sumOfWeights 62 = .ok (.goto 5, 3) := by decide +kernel
theorem dX0_sumOfWeights_65 : decode cX0_sumOfWeights 65 = .ok (.fload 8, 2) := by decide +kernel
theorem dX0_sumOfWeights_67 : decode cX0_sumOfWeights 67 = .ok (.fadd, 1) := by decide +kernel
theorem dX0_sumOfWeights_68 : decode cX0_sumOfWeights 68 = .ok (.fstore 6, 2) := by decide +kernel
theorem dX0_sumOfWeights_70 : decode cX0_sumOfWeights 70 = .ok (.fload 5, 2) := by decide +kernel
theorem dX0_sumOfWeights_72 : decode cX0_sumOfWeights 72 = .ok (.fload_n 2, 1) := by decide +kernel
theorem dX0_sumOfWeights_73 : decode cX0_sumOfWeights 73 = .ok (.fmul, 1) := by decide +kernel
theorem dX0_sumOfWeights_74 : decode cX0_sumOfWeights 74 = .ok (.fstore 5, 2) := by decide +kernel
theorem dX0_sumOfWeights_76 : decode cX0_sumOfWeights 76 = .ok (.iinc 7 1, 3) := by decide +kernel
theorem dX0_sumOfWeights_79 : decode cX0_sumOfWeights 79 = .ok (.goto (-48), 3) := by decide +kernel
theorem dX0_sumOfWeights_82 : decode cX0_sumOfWeights 82 = .ok (.fload 6, 2) := by decide +kernel
theorem dX0_sumOfWeights_84 : decode cX0_sumOfWeights 84 = .ok (.freturn, 1) := by decide +kernel
theorem dX0_learnCosts_0 : decode cX0_learnCosts 0 = .ok (.aload_n 0, 1) := by decide +kernel
theorem dX0_learnCosts_1 : decode cX0_learnCosts 1 = .ok (.getfield 52, 3) := by decide +kernel
theorem dX0_learnCosts_4 : decode cX0_learnCosts 4 = .ok (.ifCond .eq 4, 3) := by decide +kernel
theorem dX0_learnCosts_7 : decode cX0_learnCosts 7 = .ok (.return_, 1) := by decide +kernel
theorem dX0_learnCosts_8 : decode cX0_learnCosts 8 = .ok (.aload_n 0, 1) := by decide +kernel
theorem dX0_learnCosts_9 : decode cX0_learnCosts 9 = .ok (.getfield 12, 3) := by decide +kernel
theorem dX0_learnCosts_12 : decode cX0_learnCosts 12 = .ok (.aload_n 1, 1) := by decide +kernel
theorem dX0_learnCosts_13 : decode cX0_learnCosts 13 = .ok (.iconst 0, 1) := by decide +kernel
theorem dX0_learnCosts_14 : decode cX0_learnCosts 14 = .ok (.invokevirtual 70, 3) := by decide +kernel
theorem dX0_learnCosts_17 : decode cX0_learnCosts 17 = .ok (.aload_n 0, 1) := by decide +kernel
theorem dX0_learnCosts_18 : decode cX0_learnCosts 18 = .ok (.getfield 24, 3) := by decide +kernel
theorem dX0_learnCosts_21 : decode cX0_learnCosts 21 = .ok (.aload_n 0, 1) := by decide +kernel
theorem dX0_learnCosts_22 : decode cX0_learnCosts 22 = .ok (.getfield 35, 3) := by decide +kernel
theorem dX0_learnCosts_25 : decode cX0_learnCosts 25 = .ok (.aload_n 0, 1) := by decide +kernel
theorem dX0_learnCosts_26 : decode cX0_learnCosts 26 = .ok (.getfield 12, 3) := by decide +kernel
theorem dX0_learnCosts_29 : decode cX0_learnCosts 29 = .ok (.invokevirtual 74, 3) := by decide +kernel
theorem dX0_learnCosts_32 : decode cX0_learnCosts 32 = .ok (.aload_n 0, 1) := by decide +kernel
theorem dX0_learnCosts_33 : decode cX0_learnCosts 33 = .ok (.iconst 0, 1) := by decide +kernel
theorem dX0_learnCosts_34 : decode cX0_learnCosts 34 = .ok (.putfield 45, 3) := by decide +kernel
theorem dX0_learnCosts_37 : decode cX0_learnCosts 37 = .ok (.aload_n 0, 1) := by decide +kernel
theorem dX0_learnCosts_38 : decode cX0_learnCosts 38 = .ok (.getfield 45, 3) := by decide +kernel
theorem dX0_learnCosts_41 : decode cX0_learnCosts 41 = .ok (.sipush 190, 3) := by decide +kernel
theorem dX0_learnCosts_44 : decode cX0_learnCosts 44 = .ok (.if_icmp .ge 28, 3) := by decide +kernel
theorem dX0_learnCosts_47 : decode cX0_learnCosts 47 = .ok (.aload_n 0, 1) := by decide +kernel
theorem dX0_learnCosts_48 : decode cX0_learnCosts 48 = .ok (.getfield 35, 3) := by decide +kernel
theorem dX0_learnCosts_51 : decode cX0_learnCosts 51 = .ok (.aload_n 0, 1) := by decide +kernel
theorem dX0_learnCosts_52 : decode cX0_learnCosts 52 = .ok (.getfield 45, 3) := by decide +kernel
theorem dX0_learnCosts_55 : decode cX0_learnCosts 55 = .ok (.iaload, 1) := by decide +kernel
theorem dX0_learnCosts_56 : decode cX0_learnCosts 56 = .ok (.ifCond .ne 16, 3) := by decide +kernel
theorem dX0_learnCosts_59 : decode cX0_learnCosts 59 = .ok (.aload_n 0, 1) := by decide +kernel
theorem dX0_learnCosts_60 : decode cX0_learnCosts 60 = .ok (.dup, 1) := by decide +kernel
theorem dX0_learnCosts_61 : decode cX0_learnCosts 61 = .ok (.getfield 45, 3) := by decide +kernel
theorem dX0_learnCosts_64 : decode cX0_learnCosts 64 = .ok (.iconst 1, 1) := by decide +kernel
theorem dX0_learnCosts_65 : decode cX0_learnCosts 65 = .ok (.iadd, 1) := by decide +kernel
theorem dX0_learnCosts_66 : decode cX0_learnCosts 66 = .ok (.putfield 45, 3) := by decide +kernel
theorem dX0_learnCosts_69 : decode cX0_learnCosts 69 = .ok (.goto (-32), 3) := by decide +kernel
theorem dX0_learnCosts_72 : decode cX0_learnCosts 72 = .ok (.aload_n 0, 1) := by decide +kernel
theorem dX0_learnCosts_73 : decode cX0_learnCosts 73 = .ok (.sipush 190, 3) := by decide +kernel
theorem dX0_learnCosts_76 : decode cX0_learnCosts 76 = .ok (.putfield 49, 3) := by decide +kernel
theorem dX0_learnCosts_79 : decode cX0_learnCosts 79 = .ok (.aload_n 0, 1) := by decide +kernel
theorem dX0_learnCosts_80 : decode cX0_learnCosts 80 = .ok (.getfield 49, 3) := by decide +kernel
theorem dX0_learnCosts_83 : decode cX0_learnCosts 83 = .ok (.ifCond .le 28, 3) := by decide +kernel
theorem dX0_learnCosts_86 : decode cX0_learnCosts 86 = .ok (.aload_n 0, 1) := by decide +kernel
theorem dX0_learnCosts_87 : decode cX0_learnCosts 87 = .ok (.getfield 35, 3) := by decide +kernel
theorem dX0_learnCosts_90 : decode cX0_learnCosts 90 = .ok (.aload_n 0, 1) := by decide +kernel
theorem dX0_learnCosts_91 : decode cX0_learnCosts 91 = .ok (.getfield 49, 3) := by decide +kernel
theorem dX0_learnCosts_94 : decode cX0_learnCosts 94 = .ok (.iaload, 1) := by decide +kernel
theorem dX0_learnCosts_95 : decode cX0_learnCosts 95 = .ok (.ifCond .ne 16, 3) := by decide +kernel
theorem dX0_learnCosts_98 : decode cX0_learnCosts 98 = .ok (.aload_n 0, 1) := by decide +kernel
theorem dX0_learnCosts_99 : decode cX0_learnCosts 99 = .ok (.dup, 1) := by decide +kernel
theorem dX0_learnCosts_100 : decode cX0_learnCosts 100 = .ok (.getfield 49, 3) := by decide +kernel
theorem dX0_learnCosts_103 : decode cX0_learnCosts 103 = .ok (.iconst 1, 1) := by decide +kernel
theorem dX0_learnCosts_104 : decode cX0_learnCosts 104 = .ok (.isub, 1) := by decide +kernel
theorem dX0_learnCosts_105 : decode cX0_learnCosts 105 = .ok (.putfield 49, 3) := by decide +kernel
theorem dX0_learnCosts_108 : decode cX0_learnCosts 108 = .ok (.goto (-29), 3) := by decide +kernel
theorem dX0_learnCosts_111 : decode cX0_learnCosts 111 = .ok (.aload_n 0, 1) := by decide +kernel
theorem dX0_learnCosts_112 : decode cX0_learnCosts 112 = .ok (.iconst 1, 1) := by decide +kernel
theorem dX0_learnCosts_113 : decode cX0_learnCosts 113 = .ok (.putfield 52, 3) := by decide +kernel
theorem dX0_learnCosts_116 : decode cX0_learnCosts 116 = .ok (.return_, 1) := by decide +kernel
theorem dX0_energyOf_0 : decode cX0_energyOf 0 = .ok (.iconst 2, 1) := by decide +kernel
theorem dX0_energyOf_1 : decode cX0_energyOf 1 = .ok (.iload_n 1, 1) := by decide +kernel
theorem dX0_energyOf_2 : decode cX0_energyOf 2 = .ok (.imul, 1) := by decide +kernel
theorem dX0_energyOf_3 : decode cX0_energyOf 3 = .ok (.aload_n 0, 1) := by decide +kernel
theorem dX0_energyOf_4 : decode cX0_energyOf 4 = .ok (.getfield 12, 3) := by decide +kernel
theorem dX0_energyOf_7 : decode cX0_energyOf 7 = .ok (.getfield 100, 3) := by decide +kernel
theorem dX0_energyOf_10 : decode cX0_energyOf 10 = .ok (.isub, 1) := by decide +kernel
theorem dX0_energyOf_11 : decode cX0_energyOf 11 = .ok (.ireturn, 1) := by decide +kernel
theorem dX0_manyAtEnergy_0 : decode cX0_manyAtEnergy 0 = .ok (.aload_n 0, 1) := by decide +kernel
theorem dX0_manyAtEnergy_1 : decode cX0_manyAtEnergy 1 = .ok (.getfield 12, 3) := by decide +kernel
theorem dX0_manyAtEnergy_4 : decode cX0_manyAtEnergy 4 = .ok (.getfield 100, 3) := by decide +kernel
theorem dX0_manyAtEnergy_7 : decode cX0_manyAtEnergy 7 = .ok (.istore_n 2, 1) := by decide +kernel
theorem dX0_manyAtEnergy_8 : decode cX0_manyAtEnergy 8 = .ok (.iload_n 1, 1) := by decide +kernel
theorem dX0_manyAtEnergy_9 : decode cX0_manyAtEnergy 9 = .ok (.iload_n 2, 1) := by decide +kernel
theorem dX0_manyAtEnergy_10 : decode cX0_manyAtEnergy 10 = .ok (.iadd, 1) := by decide +kernel
theorem dX0_manyAtEnergy_11 : decode cX0_manyAtEnergy 11 = .ok (.iconst 1, 1) := by decide +kernel
theorem dX0_manyAtEnergy_12 : decode cX0_manyAtEnergy 12 = .ok (.iand, 1) := by decide +kernel
theorem dX0_manyAtEnergy_13 : decode cX0_manyAtEnergy 13 = .ok (.iconst 1, 1) := by decide +kernel
theorem dX0_manyAtEnergy_14 : decode cX0_manyAtEnergy 14 = .ok (.if_icmp .ne 7, 3) := by decide +kernel
theorem dX0_manyAtEnergy_17 : decode cX0_manyAtEnergy 17 = .ok (.iconst 1, 1) := by decide +kernel
theorem dX0_manyAtEnergy_18 : decode cX0_manyAtEnergy 18 = .ok (.goto 4, 3) := by decide +kernel
theorem dX0_manyAtEnergy_21 : decode cX0_manyAtEnergy 21 = .ok (.iconst 0, 1) := by decide +kernel
theorem dX0_manyAtEnergy_22 : decode cX0_manyAtEnergy 22 = .ok (.istore_n 3, 1) := by decide +kernel
theorem dX0_manyAtEnergy_23 : decode cX0_manyAtEnergy 23 = .ok (.iload_n 3, 1) := by decide +kernel
theorem dX0_manyAtEnergy_24 : decode cX0_manyAtEnergy 24 = .ok (.ifCond .ne 14, 3) := by decide +kernel
theorem dX0_manyAtEnergy_27 : decode cX0_manyAtEnergy 27 = .ok (.iload_n 1, 1) := by decide +kernel
theorem dX0_manyAtEnergy_28 : decode cX0_manyAtEnergy 28 = .ok (.iload_n 2, 1) := by decide +kernel
theorem dX0_manyAtEnergy_29 : decode cX0_manyAtEnergy 29 = .ok (.ineg, 1) := by decide +kernel
theorem dX0_manyAtEnergy_30 : decode cX0_manyAtEnergy 30 = .ok (.if_icmp .lt 8, 3) := by decide +kernel
theorem dX0_manyAtEnergy_33 : decode cX0_manyAtEnergy 33 = .ok (.iload_n 1, 1) := by decide +kernel
theorem dX0_manyAtEnergy_34 : decode cX0_manyAtEnergy 34 = .ok (.iload_n 2, 1) := by decide +kernel
theorem dX0_manyAtEnergy_35 : decode cX0_manyAtEnergy 35 = .ok (.if_icmp .le 5, 3) := by decide +kernel
theorem dX0_manyAtEnergy_38 : decode cX0_manyAtEnergy 38 = .ok (.iconst 0, 1) := by decide +kernel
theorem dX0_manyAtEnergy_39 : decode cX0_manyAtEnergy 39 = .ok (.ireturn, 1) := by decide +kernel
theorem dX0_manyAtEnergy_40 : decode cX0_manyAtEnergy 40 = .ok (.aload_n 0, 1) := by decide +kernel
theorem dX0_manyAtEnergy_41 : decode cX0_manyAtEnergy 41 = .ok (.getfield 35, 3) := by decide +kernel
theorem dX0_manyAtEnergy_44 : decode cX0_manyAtEnergy 44 = .ok (.iload_n 1, 1) := by decide +kernel
theorem dX0_manyAtEnergy_45 : decode cX0_manyAtEnergy 45 = .ok (.iload_n 2, 1) := by decide +kernel
theorem dX0_manyAtEnergy_46 : decode cX0_manyAtEnergy 46 = .ok (.iadd, 1) := by decide +kernel
theorem dX0_manyAtEnergy_47 : decode cX0_manyAtEnergy 47 = .ok (.iconst 2, 1) := by decide +kernel
theorem dX0_manyAtEnergy_48 : decode cX0_manyAtEnergy 48 = .ok (.idiv, 1) := by decide +kernel
theorem dX0_manyAtEnergy_49 : decode cX0_manyAtEnergy 49 = .ok (.invokestatic 78, 3) := by decide +kernel
theorem dX0_manyAtEnergy_52 : decode cX0_manyAtEnergy 52 = .ok (.ireturn, 1) := by decide +kernel
theorem dX0_at_0 : decode cX0_at 0 = .ok (.iload_n 1, 1) := by decide +kernel
theorem dX0_at_1 : decode cX0_at 1 = .ok (.ifCond .lt 15, 3) := by decide +kernel
theorem dX0_at_4 : decode cX0_at 4 = .ok (.iload_n 1, 1) := by decide +kernel
theorem dX0_at_5 : decode cX0_at 5 = .ok (.aload_n 0, 1) := by decide +kernel
theorem dX0_at_6 : decode cX0_at 6 = .ok (.arraylength, 1) := by decide +kernel
theorem dX0_at_7 : decode cX0_at 7 = .ok (.if_icmp .ge 9, 3) := by decide +kernel
theorem dX0_at_10 : decode cX0_at 10 = .ok (.aload_n 0, 1) := by decide +kernel
theorem dX0_at_11 : decode cX0_at 11 = .ok (.iload_n 1, 1) := by decide +kernel
theorem dX0_at_12 : decode cX0_at 12 = .ok (.iaload, 1) := by decide +kernel
theorem dX0_at_13 : decode cX0_at 13 = .ok (.goto 4, 3) := by decide +kernel
theorem dX0_at_16 : decode cX0_at 16 = .ok (.iconst 0, 1) := by decide +kernel
theorem dX0_at_17 : decode cX0_at 17 = .ok (.ireturn, 1) := by decide +kernel
theorem dX1_init_0 : decode cX1_init 0 = .ok (.aload_n 0, 1) := by decide +kernel
theorem dX1_init_1 : decode cX1_init 1 = .ok (.invokespecial 3, 3) := by decide +kernel
theorem dX1_init_4 : decode cX1_init 4 = .ok (.aload_n 0, 1) := by decide +kernel
theorem dX1_init_5 : decode cX1_init 5 = .ok (.iconst 4, 1) := by decide +kernel
theorem dX1_init_6 : decode cX1_init 6 = .ok (.anewarray 9, 3) := by decide +kernel
theorem dX1_init_9 : decode cX1_init 9 = .ok (.putfield 11, 3) := by decide +kernel
theorem dX1_init_12 : decode cX1_init 12 = .ok (.aload_n 0, 1) := by decide +kernel
theorem dX1_init_13 : decode cX1_init 13 = .ok (.iconst 0, 1) := by decide +kernel
theorem dX1_init_14 : decode cX1_init 14 = .ok (.putfield 17, 3) := by decide +kernel
theorem dX1_init_17 : decode cX1_init 17 = .ok (.aload_n 0, 1) := by decide +kernel
theorem dX1_init_18 : decode cX1_init 18 = .ok (.iconst 0, 1) := by decide +kernel
theorem dX1_init_19 : decode cX1_init 19 = .ok (.putfield 21, 3) := by decide +kernel
theorem dX1_init_22 : decode cX1_init 22 = .ok (.iconst 0, 1) := by decide +kernel
theorem dX1_init_23 : decode cX1_init 23 = .ok (.istore_n 1, 1) := by decide +kernel
theorem dX1_init_24 : decode cX1_init 24 = .ok (.iload_n 1, 1) := by decide +kernel
theorem dX1_init_25 : decode cX1_init 25 = .ok (.iconst 4, 1) := by decide +kernel
theorem dX1_init_26 : decode cX1_init 26 = .ok (.if_icmp .ge 22, 3) := by decide +kernel
theorem dX1_init_29 : decode cX1_init 29 = .ok (.aload_n 0, 1) := by decide +kernel
theorem dX1_init_30 : decode cX1_init 30 = .ok (.getfield 11, 3) := by decide +kernel
theorem dX1_init_33 : decode cX1_init 33 = .ok (.iload_n 1, 1) := by decide +kernel
theorem dX1_init_34 : decode cX1_init 34 = .ok (.new 9, 3) := by decide +kernel
theorem dX1_init_37 : decode cX1_init 37 = .ok (.dup, 1) := by decide +kernel
theorem dX1_init_38 : decode cX1_init 38 = .ok (.invokespecial 24, 3) := by decide +kernel
theorem dX1_init_41 : decode cX1_init 41 = .ok (.aastore, 1) := by decide +kernel
theorem dX1_init_42 : decode cX1_init 42 = .ok (.iinc 1 1, 3) := by decide +kernel
theorem dX1_init_45 : decode cX1_init 45 = .ok (.goto (-21), 3) := by decide +kernel
theorem dX1_init_48 : decode cX1_init 48 = .ok (.return_, 1) := by decide +kernel
theorem dX1_record_0 : decode cX1_record 0 = .ok (.aload_n 0, 1) := by decide +kernel
theorem dX1_record_1 : decode cX1_record 1 = .ok (.getfield 21, 3) := by decide +kernel
theorem dX1_record_4 : decode cX1_record 4 = .ok (.iconst 4, 1) := by decide +kernel
theorem dX1_record_5 : decode cX1_record 5 = .ok (.if_icmp .ne 25, 3) := by decide +kernel
theorem dX1_record_8 : decode cX1_record 8 = .ok (.aload_n 0, 1) := by decide +kernel
theorem dX1_record_9 : decode cX1_record 9 = .ok (.aload_n 0, 1) := by decide +kernel
theorem dX1_record_10 : decode cX1_record 10 = .ok (.getfield 17, 3) := by decide +kernel
theorem dX1_record_13 : decode cX1_record 13 = .ok (.iconst 1, 1) := by decide +kernel
theorem dX1_record_14 : decode cX1_record 14 = .ok (.iadd, 1) := by decide +kernel
theorem dX1_record_15 : decode cX1_record 15 = .ok (.iconst 4, 1) := by decide +kernel
theorem dX1_record_16 : decode cX1_record 16 = .ok (.irem, 1) := by decide +kernel
theorem dX1_record_17 : decode cX1_record 17 = .ok (.putfield 17, 3) := by decide +kernel
theorem dX1_record_20 : decode cX1_record 20 = .ok (.aload_n 0, 1) := by decide +kernel
theorem dX1_record_21 : decode cX1_record 21 = .ok (.dup, 1) := by decide +kernel
theorem dX1_record_22 : decode cX1_record 22 = .ok (.getfield 21, 3) := by decide +kernel
theorem dX1_record_25 : decode cX1_record 25 = .ok (.iconst 1, 1) := by decide +kernel
theorem dX1_record_26 : decode cX1_record 26 = .ok (.isub, 1) := by decide +kernel
theorem dX1_record_27 : decode cX1_record 27 = .ok (.putfield 21, 3) := by decide +kernel
theorem dX1_record_30 : decode cX1_record 30 = .ok (.aload_n 0, 1) := by decide +kernel
theorem dX1_record_31 : decode cX1_record 31 = .ok (.getfield 11, 3) := by decide +kernel
theorem dX1_record_34 : decode cX1_record 34 = .ok (.aload_n 0, 1) := by decide +kernel
theorem dX1_record_35 : decode cX1_record 35 = .ok (.getfield 17, 3) := by decide +kernel
theorem dX1_record_38 : decode cX1_record 38 = .ok (.aload_n 0, 1) := by decide +kernel
theorem dX1_record_39 : decode cX1_record 39 = .ok (.getfield 21, 3) := by decide +kernel
theorem dX1_record_42 : decode cX1_record 42 = .ok (.iadd, 1) := by decide +kernel
theorem dX1_record_43 : decode cX1_record 43 = .ok (.iconst 4, 1) := by decide +kernel
theorem dX1_record_44 : decode cX1_record 44 = .ok (.irem, 1) := by decide +kernel
theorem dX1_record_45 : decode cX1_record 45 = .ok (.aaload, 1) := by decide +kernel
theorem dX1_record_46 : decode cX1_record 46 = .ok (.aload_n 1, 1) := by decide +kernel
theorem dX1_record_47 : decode cX1_record 47 = .ok (.invokevirtual 25, 3) := by decide +kernel
theorem dX1_record_50 : decode cX1_record 50 = .ok (.aload_n 0, 1) := by decide +kernel
theorem dX1_record_51 : decode cX1_record 51 = .ok (.dup, 1) := by decide +kernel
theorem dX1_record_52 : decode cX1_record 52 = .ok (.getfield 21, 3) := by decide +kernel
theorem dX1_record_55 : decode cX1_record 55 = .ok (.iconst 1, 1) := by decide +kernel
theorem dX1_record_56 : decode cX1_record 56 = .ok (.iadd, 1) := by decide +kernel
theorem dX1_record_57 : decode cX1_record 57 = .ok (.putfield 21, 3) := by decide +kernel
theorem dX1_record_60 : decode cX1_record 60 = .ok (.return_, 1) := by decide +kernel
theorem dX2_init_0 : decode cX2_init 0 = .ok (.aload_n 0, 1) := by decide +kernel
theorem dX2_init_1 : decode cX2_init 1 = .ok (.invokespecial 3, 3) := by decide +kernel
theorem dX2_init_4 : decode cX2_init 4 = .ok (.aload_n 0, 1) := by decide +kernel
theorem dX2_init_5 : decode cX2_init 5 = .ok (.bipush 10, 2) := by decide +kernel
theorem dX2_init_7 : decode cX2_init 7 = .ok (.bipush 8, 2) := by decide +kernel
theorem dX2_init_9 : decode cX2_init 9 = .ok (.multianewarray 9 2, 4) := by decide +kernel
theorem dX2_init_13 : decode cX2_init 13 = .ok (.putfield 11, 3) := by decide +kernel
theorem dX2_init_16 : decode cX2_init 16 = .ok (.aload_n 0, 1) := by decide +kernel
theorem dX2_init_17 : decode cX2_init 17 = .ok (.bipush 8, 2) := by decide +kernel
theorem dX2_init_19 : decode cX2_init 19 = .ok (.bipush 31, 2) := by decide +kernel
theorem dX2_init_21 : decode cX2_init 21 = .ok (.multianewarray 9 2, 4) := by decide +kernel
theorem dX2_init_25 : decode cX2_init 25 = .ok (.putfield 16, 3) := by decide +kernel
theorem dX2_init_28 : decode cX2_init 28 = .ok (.aload_n 0, 1) := by decide +kernel
theorem dX2_init_29 : decode cX2_init 29 = .ok (.bipush 8, 2) := by decide +kernel
theorem dX2_init_31 : decode cX2_init 31 = .ok (.bipush 31, 2) := by decide +kernel
theorem dX2_init_33 : decode cX2_init 33 = .ok (.multianewarray 9 2, 4) := by decide +kernel
theorem dX2_init_37 : decode cX2_init 37 = .ok (.putfield 19, 3) := by decide +kernel
theorem dX2_init_40 : decode cX2_init 40 = .ok (.return_, 1) := by decide +kernel
theorem dX2_fillUps_0 : decode cX2_fillUps 0 = .ok (.aload_n 1, 1) := by decide +kernel
theorem dX2_fillUps_1 : decode cX2_fillUps 1 = .ok (.iconst 0, 1) := by decide +kernel
theorem dX2_fillUps_2 : decode cX2_fillUps 2 = .ok (.invokestatic 44, 3) := by decide +kernel
theorem dX2_fillUps_5 : decode cX2_fillUps 5 = .ok (.aload_n 0, 1) := by decide +kernel
theorem dX2_fillUps_6 : decode cX2_fillUps 6 = .ok (.aload_n 2, 1) := by decide +kernel
theorem dX2_fillUps_7 : decode cX2_fillUps 7 = .ok (.invokevirtual 22, 3) := by decide +kernel
theorem dX2_fillUps_10 : decode cX2_fillUps 10 = .ok (.istore_n 3, 1) := by decide +kernel
theorem dX2_fillUps_11 : decode cX2_fillUps 11 = .ok (.iconst 0, 1) := by decide +kernel
theorem dX2_fillUps_12 : decode cX2_fillUps 12 = .ok (.istore 4, 2) := by decide +kernel
theorem dX2_fillUps_14 : decode cX2_fillUps 14 = .ok (.iload 4, 2) := by decide +kernel
theorem dX2_fillUps_16 : decode cX2_fillUps 16 = .ok (.aload_n 2, 1) := by decide +kernel
theorem dX2_fillUps_17 : decode cX2_fillUps 17 = .ok (.getfield 26, 3) := by decide +kernel
theorem dX2_fillUps_20 : decode cX2_fillUps 20 = .ok (.if_icmp .ge 28, 3) := by decide +kernel
theorem dX2_fillUps_23 : decode cX2_fillUps 23 = .ok (.aload_n 0, 1) := by decide +kernel
theorem dX2_fillUps_24 : decode cX2_fillUps 24 = .ok (.aload_n 2, 1) := by decide +kernel
theorem dX2_fillUps_25 : decode cX2_fillUps 25 = .ok (.iload 4, 2) := by decide +kernel
theorem dX2_fillUps_27 : decode cX2_fillUps 27 = .ok (.invokevirtual 36, 3) := by decide +kernel
theorem dX2_fillUps_30 : decode cX2_fillUps 30 = .ok (.iload_n 3, 1) := by decide +kernel
theorem dX2_fillUps_31 : decode cX2_fillUps 31 = .ok (.if_icmp .ne 11, 3) := by decide +kernel
theorem dX2_fillUps_34 : decode cX2_fillUps 34 = .ok (.aload_n 0, 1) := by decide +kernel
theorem dX2_fillUps_35 : decode cX2_fillUps 35 = .ok (.aload_n 1, 1) := by decide +kernel
theorem dX2_fillUps_36 : decode cX2_fillUps 36 = .ok (.aload_n 2, 1) := by decide +kernel
theorem dX2_fillUps_37 : decode cX2_fillUps 37 = .ok (.iload 4, 2) := by decide +kernel
theorem dX2_fillUps_39 : decode cX2_fillUps 39 = .ok (.invokevirtual 50, 3) := by decide +kernel
theorem dX2_fillUps_42 : decode cX2_fillUps 42 = .ok (.iinc 4 1, 3) := by decide +kernel
theorem dX2_fillUps_45 : decode cX2_fillUps 45 = .ok (.goto (-31), 3) := by decide +kernel
theorem dX2_fillUps_48 : decode cX2_fillUps 48 = .ok (.return_, 1) := by decide +kernel
theorem dX2_leastCost_0 : decode cX2_leastCost 0 = .ok (.aload_n 0, 1) := by decide +kernel
theorem dX2_leastCost_1 : decode cX2_leastCost 1 = .ok (.aload_n 1, 1) := by decide +kernel
theorem dX2_leastCost_2 : decode cX2_leastCost 2 = .ok (.iconst 0, 1) := by decide +kernel
theorem dX2_leastCost_3 : decode cX2_leastCost 3 = .ok (.invokevirtual 36, 3) := by decide +kernel
theorem dX2_leastCost_6 : decode cX2_leastCost 6 = .ok (.istore_n 2, 1) := by decide +kernel
theorem dX2_leastCost_7 : decode cX2_leastCost 7 = .ok (.iconst 1, 1) := by decide +kernel
theorem dX2_leastCost_8 : decode cX2_leastCost 8 = .ok (.istore_n 3, 1) := by decide +kernel
theorem dX2_leastCost_9 : decode cX2_leastCost 9 = .ok (.iload_n 3, 1) := by decide +kernel
theorem dX2_leastCost_10 : decode cX2_leastCost 10 = .ok (.aload_n 1, 1) := by decide +kernel
theorem dX2_leastCost_11 : decode cX2_leastCost 11 = .ok (.getfield 26, 3) := by decide +kernel
theorem dX2_leastCost_14 : decode cX2_leastCost 14 = .ok (.if_icmp .ge 20, 3) := by decide +kernel
theorem dX2_leastCost_17 : decode cX2_leastCost 17 = .ok (.iload_n 2, 1) := by decide +kernel
theorem dX2_leastCost_18 : decode cX2_leastCost 18 = .ok (.aload_n 0, 1) := by decide +kernel
theorem dX2_leastCost_19 : decode cX2_leastCost 19 = .ok (.aload_n 1, 1) := by decide +kernel
theorem dX2_leastCost_20 : decode cX2_leastCost 20 = .ok (.iload_n 3, 1) := by decide +kernel
theorem dX2_leastCost_21 : decode cX2_leastCost 21 = .ok (.invokevirtual 36, 3) := by decide +kernel
theorem dX2_leastCost_24 : decode cX2_leastCost 24 = .ok (.invokestatic 54, 3) := by decide +kernel
theorem dX2_leastCost_27 : decode cX2_leastCost 27 = .ok (.istore_n 2, 1) := by decide +kernel
theorem dX2_leastCost_28 : decode cX2_leastCost 28 = .ok (.iinc 3 1, 3) := by decide +kernel
theorem dX2_leastCost_31 : decode cX2_leastCost 31 = .ok (.goto (-22), 3) := by decide +kernel
theorem dX2_leastCost_34 : decode cX2_leastCost 34 = .ok (.iload_n 2, 1) := by decide +kernel
theorem dX2_leastCost_35 : decode cX2_leastCost 35 = .ok (.ireturn, 1) := by decide +kernel
theorem dX2_lookBehind_0 : decode cX2_lookBehind 0 = .ok (.aload_n 1, 1) := by decide +kernel
theorem dX2_lookBehind_1 : decode cX2_lookBehind 1 = .ok (.getfield 60, 3) := by decide +kernel
theorem dX2_lookBehind_4 : decode cX2_lookBehind 4 = .ok (.iconst 1, 1) := by decide +kernel
theorem dX2_lookBehind_5 : decode cX2_lookBehind 5 = .ok (.isub, 1) := by decide +kernel
theorem dX2_lookBehind_6 : decode cX2_lookBehind 6 = .ok (.istore_n 3, 1) := by decide +kernel
theorem dX2_lookBehind_7 : decode cX2_lookBehind 7 = .ok (.iconst 0, 1) := by decide +kernel
theorem dX2_lookBehind_8 : decode cX2_lookBehind 8 = .ok (.istore 4, 2) := by decide +kernel
theorem dX2_lookBehind_10 : decode cX2_lookBehind 10 = .ok (.iload 4, 2) := by decide +kernel
theorem dX2_lookBehind_12 : decode cX2_lookBehind 12 = .ok (.aload_n 1, 1) := by decide +kernel
theorem dX2_lookBehind_13 : decode cX2_lookBehind 13 = .ok (.getfield 26, 3) := by decide +kernel
theorem dX2_lookBehind_16 : decode cX2_lookBehind 16 = .ok (.if_icmp .ge 25, 3) := by decide +kernel
theorem dX2_lookBehind_19 : decode cX2_lookBehind 19 = .ok (.aload_n 0, 1) := by decide +kernel
theorem dX2_lookBehind_20 : decode cX2_lookBehind 20 = .ok (.getfield 11, 3) := by decide +kernel
theorem dX2_lookBehind_23 : decode cX2_lookBehind 23 = .ok (.iload_n 3, 1) := by decide +kernel
theorem dX2_lookBehind_24 : decode cX2_lookBehind 24 = .ok (.aaload, 1) := by decide +kernel
theorem dX2_lookBehind_25 : decode cX2_lookBehind 25 = .ok (.iload 4, 2) := by decide +kernel
theorem dX2_lookBehind_27 : decode cX2_lookBehind 27 = .ok (.aload_n 1, 1) := by decide +kernel
theorem dX2_lookBehind_28 : decode cX2_lookBehind 28 = .ok (.iload 4, 2) := by decide +kernel
theorem dX2_lookBehind_30 : decode cX2_lookBehind 30 = .ok (.iload_n 2, 1) := by decide +kernel
theorem dX2_lookBehind_31 : decode cX2_lookBehind 31 = .ok (.invokevirtual 63, 3) := by decide +kernel
theorem dX2_lookBehind_34 : decode cX2_lookBehind 34 = .ok (.iastore, 1) := by decide +kernel
theorem dX2_lookBehind_35 : decode cX2_lookBehind 35 = .ok (.iinc 4 1, 3) := by decide +kernel
theorem dX2_lookBehind_38 : decode cX2_lookBehind 38 = .ok (.goto (-28), 3) := by decide +kernel
theorem dX2_lookBehind_41 : decode cX2_lookBehind 41 = .ok (.iload_n 3, 1) := by decide +kernel
theorem dX2_lookBehind_42 : decode cX2_lookBehind 42 = .ok (.iconst 1, 1) := by decide +kernel
theorem dX2_lookBehind_43 : decode cX2_lookBehind 43 = .ok (.isub, 1) := by decide +kernel
theorem dX2_lookBehind_44 : decode cX2_lookBehind 44 = .ok (.istore 4, 2) := by decide +kernel
theorem dX2_lookBehind_46 : decode cX2_lookBehind 46 = .ok (.iload 4, 2) := by decide +kernel
theorem dX2_lookBehind_48 : decode cX2_lookBehind 48 = .ok (.ifCond .lt 87, 3) := by decide +kernel
theorem dX2_lookBehind_51 : decode cX2_lookBehind 51 = .ok (.iconst 0, 1) := by decide +kernel
theorem dX2_lookBehind_52 : decode cX2_lookBehind 52 = .ok (.istore 5, 2) := by decide +kernel
theorem dX2_lookBehind_54 : decode cX2_lookBehind 54 = .ok (.iload 5, 2) := by decide +kernel
theorem dX2_lookBehind_56 : decode cX2_lookBehind 56 = .ok (.aload_n 1, 1) := by decide +kernel
theorem dX2_lookBehind_57 : decode cX2_lookBehind 57 = .ok (.getfield 26, 3) := by decide +kernel
theorem dX2_lookBehind_60 : decode cX2_lookBehind 60 = .ok (.if_icmp .ge 69, 3) := by decide +kernel
theorem dX2_lookBehind_63 : decode cX2_lookBehind 63 = .ok (.aload_n 0, 1) := by decide +kernel
theorem dX2_lookBehind_64 : decode cX2_lookBehind 64 = .ok (.aload_n 1, 1) := by decide +kernel
theorem dX2_lookBehind_65 : decode cX2_lookBehind 65 = .ok (.iload 4, 2) := by decide +kernel
theorem dX2_lookBehind_67 : decode cX2_lookBehind 67 = .ok (.iload 5, 2) := by decide +kernel
theorem dX2_lookBehind_69 : decode cX2_lookBehind 69 = .ok (.iconst 0, 1) := by decide +kernel
theorem dX2_lookBehind_70 : decode cX2_lookBehind 70 = .ok (.invokevirtual 66, 3) := by decide +kernel
theorem dX2_lookBehind_73 : decode cX2_lookBehind 73 = .ok (.istore 6, 2) := by decide +kernel
theorem dX2_lookBehind_75 : decode cX2_lookBehind 75 = .ok (.iconst 1, 1) := by decide +kernel
theorem dX2_lookBehind_76 : decode cX2_lookBehind 76 = .ok (.istore 7, 2) := by decide +kernel
theorem dX2_lookBehind_78 : decode cX2_lookBehind 78 = .ok (.iload 7, 2) := by decide +kernel
theorem dX2_lookBehind_80 : decode cX2_lookBehind 80 = .ok (.aload_n 1, 1) := by decide +kernel
theorem dX2_lookBehind_81 : decode cX2_lookBehind 81 = .ok (.getfield 26, 3) := by decide +kernel
theorem dX2_lookBehind_84 : decode cX2_lookBehind 84 = .ok (.if_icmp .ge 27, 3) := by decide +kernel
theorem dX2_lookBehind_87 : decode cX2_lookBehind 87 = .ok (.iload 6, 2) := by decide +kernel
theorem dX2_lookBehind_89 : decode cX2_lookBehind 89 = .ok (.aload_n 0, 1) := by decide +kernel
theorem dX2_lookBehind_90 : decode cX2_lookBehind 90 = .ok (.aload_n 1, 1) := by decide +kernel
theorem dX2_lookBehind_91 : decode cX2_lookBehind 91 = .ok (.iload 4, 2) := by decide +kernel
theorem dX2_lookBehind_93 : decode cX2_lookBehind 93 = .ok (.iload 5, 2) := by decide +kernel
theorem dX2_lookBehind_95 : decode cX2_lookBehind 95 = .ok (.iload 7, 2) := by decide +kernel
theorem dX2_lookBehind_97 : decode cX2_lookBehind 97 = .ok (.invokevirtual 66, 3) := by decide +kernel
theorem dX2_lookBehind_100 : decode cX2_lookBehind 100 = .ok (.invokestatic 54, 3) := by decide +kernel
theorem dX2_lookBehind_103 : decode cX2_lookBehind 103 = .ok (.istore 6, 2) := by decide +kernel
theorem dX2_lookBehind_105 : decode cX2_lookBehind 105 = .ok (.iinc 7 1, 3) := by decide +kernel
theorem dX2_lookBehind_108 : decode cX2_lookBehind 108 = .ok (.goto (-30), 3) := by decide +kernel
theorem dX2_lookBehind_111 : decode cX2_lookBehind 111 = .ok (.aload_n 0, 1) := by decide +kernel
theorem dX2_lookBehind_112 : decode cX2_lookBehind 112 = .ok (.getfield 11, 3) := by decide +kernel
theorem dX2_lookBehind_115 : decode cX2_lookBehind 115 = .ok (.iload 4, 2) := by decide +kernel
theorem dX2_lookBehind_117 : decode cX2_lookBehind 117 = .ok (.aaload, 1) := by decide +kernel
theorem dX2_lookBehind_118 : decode cX2_lookBehind 118 = .ok (.iload 5, 2) := by decide +kernel
theorem dX2_lookBehind_120 : decode cX2_lookBehind 120 = .ok (.iload 6, 2) := by decide +kernel
theorem dX2_lookBehind_122 : decode cX2_lookBehind 122 = .ok (.iastore, 1) := by decide +kernel
theorem dX2_lookBehind_123 : decode cX2_lookBehind 123 = .ok (.iinc 5 1, 3) := by decide +kernel
theorem dX2_lookBehind_126 : decode cX2_lookBehind 126 = .ok (.goto (-72), 3) := by decide +kernel
theorem dX2_lookBehind_129 : decode cX2_lookBehind 129 = .ok (.iinc 4 (-1), 3) := by decide +kernel
theorem dX2_lookBehind_132 : decode cX2_lookBehind 132 = .ok (.goto (-86), 3) := by decide +kernel
theorem dX2_lookBehind_135 : decode cX2_lookBehind 135 = .ok (.aload_n 1, 1) := by decide +kernel
theorem dX2_lookBehind_136 : decode cX2_lookBehind 136 = .ok (.getfield 70, 3) := by decide +kernel
theorem dX2_lookBehind_139 : decode cX2_lookBehind 139 = .ok (.iconst 0, 1) := by decide +kernel
theorem dX2_lookBehind_140 : decode cX2_lookBehind 140 = .ok (.aaload, 1) := by decide +kernel
theorem dX2_lookBehind_141 : decode cX2_lookBehind 141 = .ok (.iload_n 2, 1) := by decide +kernel
theorem dX2_lookBehind_142 : decode cX2_lookBehind 142 = .ok (.iaload, 1) := by decide +kernel
theorem dX2_lookBehind_143 : decode cX2_lookBehind 143 = .ok (.aload_n 0, 1) := by decide +kernel
theorem dX2_lookBehind_144 : decode cX2_lookBehind 144 = .ok (.getfield 11, 3) := by decide +kernel
theorem dX2_lookBehind_147 : decode cX2_lookBehind 147 = .ok (.iconst 0, 1) := by decide +kernel
theorem dX2_lookBehind_148 : decode cX2_lookBehind 148 = .ok (.aaload, 1) := by decide +kernel
theorem dX2_lookBehind_149 : decode cX2_lookBehind 149 = .ok (.iload_n 2, 1) := by decide +kernel
theorem dX2_lookBehind_150 : decode cX2_lookBehind 150 = .ok (.iaload, 1) := by decide +kernel
theorem dX2_lookBehind_151 : decode cX2_lookBehind 151 = .ok (.iadd, 1) := by decide +kernel
theorem dX2_lookBehind_152 : decode cX2_lookBehind 152 = .ok (.ireturn, 1) := by decide +kernel
theorem dX2_costOfNext_0 : decode cX2_costOfNext 0 = .ok (.iload_n 2, 1) := by decide +kernel
theorem dX2_costOfNext_1 : decode cX2_costOfNext 1 = .ok (.ifCond .lt 13, 3) := by decide +kernel
theorem dX2_costOfNext_4 : decode cX2_costOfNext 4 = .ok (.iload_n 2, 1) := by decide +kernel
theorem dX2_costOfNext_5 : decode cX2_costOfNext 5 = .ok (.iconst 1, 1) := by decide +kernel
theorem dX2_costOfNext_6 : decode cX2_costOfNext 6 = .ok (.iadd, 1) := by decide +kernel
theorem dX2_costOfNext_7 : decode cX2_costOfNext 7 = .ok (.aload_n 1, 1) := by decide +kernel
theorem dX2_costOfNext_8 : decode cX2_costOfNext 8 = .ok (.getfield 60, 3) := by decide +kernel
theorem dX2_costOfNext_11 : decode cX2_costOfNext 11 = .ok (.if_icmp .lt 5, 3) := by decide +kernel
theorem dX2_costOfNext_14 : decode cX2_costOfNext 14 = .ok (.iconst 0, 1) := by decide +kernel
theorem dX2_costOfNext_15 : decode cX2_costOfNext 15 = .ok (.ireturn, 1) := by decide +kernel
theorem dX2_costOfNext_16 : decode cX2_costOfNext 16 = .ok (.aload_n 1, 1) := by decide +kernel
theorem dX2_costOfNext_17 : decode cX2_costOfNext 17 = .ok (.getfield 73, 3) := by decide +kernel
theorem dX2_costOfNext_20 : decode cX2_costOfNext 20 = .ok (.iload_n 3, 1) := by decide +kernel
theorem dX2_costOfNext_21 : decode cX2_costOfNext 21 = .ok (.aaload, 1) := by decide +kernel
theorem dX2_costOfNext_22 : decode cX2_costOfNext 22 = .ok (.iload 4, 2) := by decide +kernel
theorem dX2_costOfNext_24 : decode cX2_costOfNext 24 = .ok (.iaload, 1) := by decide +kernel
theorem dX2_costOfNext_25 : decode cX2_costOfNext 25 = .ok (.aload_n 1, 1) := by decide +kernel
theorem dX2_costOfNext_26 : decode cX2_costOfNext 26 = .ok (.getfield 70, 3) := by decide +kernel
theorem dX2_costOfNext_29 : decode cX2_costOfNext 29 = .ok (.iload_n 2, 1) := by decide +kernel
theorem dX2_costOfNext_30 : decode cX2_costOfNext 30 = .ok (.iconst 1, 1) := by decide +kernel
theorem dX2_costOfNext_31 : decode cX2_costOfNext 31 = .ok (.iadd, 1) := by decide +kernel
theorem dX2_costOfNext_32 : decode cX2_costOfNext 32 = .ok (.aaload, 1) := by decide +kernel
theorem dX2_costOfNext_33 : decode cX2_costOfNext 33 = .ok (.iload 4, 2) := by decide +kernel
theorem dX2_costOfNext_35 : decode cX2_costOfNext 35 = .ok (.iaload, 1) := by decide +kernel
theorem dX2_costOfNext_36 : decode cX2_costOfNext 36 = .ok (.iadd, 1) := by decide +kernel
theorem dX2_costOfNext_37 : decode cX2_costOfNext 37 = .ok (.aload_n 0, 1) := by decide +kernel
theorem dX2_costOfNext_38 : decode cX2_costOfNext 38 = .ok (.getfield 11, 3) := by decide +kernel
theorem dX2_costOfNext_41 : decode cX2_costOfNext 41 = .ok (.iload_n 2, 1) := by decide +kernel
theorem dX2_costOfNext_42 : decode cX2_costOfNext 42 = .ok (.iconst 1, 1) := by decide +kernel
theorem dX2_costOfNext_43 : decode cX2_costOfNext 43 = .ok (.iadd, 1) := by decide +kernel
theorem dX2_costOfNext_44 : decode cX2_costOfNext 44 = .ok (.aaload, 1) := by decide +kernel
theorem dX2_costOfNext_45 : decode cX2_costOfNext 45 = .ok (.iload 4, 2) := by decide +kernel
theorem dX2_costOfNext_47 : decode cX2_costOfNext 47 = .ok (.iaload, 1) := by decide +kernel
theorem dX2_costOfNext_48 : decode cX2_costOfNext 48 = .ok (.iadd, 1) := by decide +kernel
theorem dX2_costOfNext_49 : decode cX2_costOfNext 49 = .ok (.ireturn, 1) := by decide +kernel
theorem dX2_isLeast_0 : decode cX2_isLeast 0 = .ok (.aload_n 0, 1) := by decide +kernel
theorem dX2_isLeast_1 : decode cX2_isLeast 1 = .ok (.aload_n 1, 1) := by decide +kernel
theorem dX2_isLeast_2 : decode cX2_isLeast 2 = .ok (.iload_n 2, 1) := by decide +kernel
theorem dX2_isLeast_3 : decode cX2_isLeast 3 = .ok (.iload_n 3, 1) := by decide +kernel
theorem dX2_isLeast_4 : decode cX2_isLeast 4 = .ok (.iload 4, 2) := by decide +kernel
theorem dX2_isLeast_6 : decode cX2_isLeast 6 = .ok (.invokevirtual 66, 3) := by decide +kernel
theorem dX2_isLeast_9 : decode cX2_isLeast 9 = .ok (.aload_n 0, 1) := by decide +kernel
theorem dX2_isLeast_10 : decode cX2_isLeast 10 = .ok (.getfield 11, 3) := by decide +kernel
theorem dX2_isLeast_13 : decode cX2_isLeast 13 = .ok (.iload_n 2, 1) := by decide +kernel
theorem dX2_isLeast_14 : decode cX2_isLeast 14 = .ok (.aaload, 1) := by decide +kernel
theorem dX2_isLeast_15 : decode cX2_isLeast 15 = .ok (.iload_n 3, 1) := by decide +kernel
theorem dX2_isLeast_16 : decode cX2_isLeast 16 = .ok (.iaload, 1) := by decide +kernel
theorem dX2_isLeast_17 : decode cX2_isLeast 17 = .ok (.if_icmp .ne 7, 3) := by decide +kernel
theorem dX2_isLeast_20 : decode cX2_isLeast 20 = .ok (.iconst 1, 1) := by decide +kernel
theorem dX2_isLeast_21 : decode cX2_isLeast 21 = .ok (.goto 4, 3) := by decide +kernel
theorem dX2_isLeast_24 : decode cX2_isLeast 24 = .ok (.iconst 0, 1) := by decide +kernel
theorem dX2_isLeast_25 : decode cX2_isLeast 25 = .ok (.ireturn, 1) := by decide +kernel
theorem dX2_addUps_0 : decode cX2_addUps 0 = .ok (.iconst 0, 1) := by decide +kernel
theorem dX2_addUps_1 : decode cX2_addUps 1 = .ok (.istore 4, 2) := by decide +kernel
theorem dX2_addUps_3 : decode cX2_addUps 3 = .ok (.iload 4, 2) := by decide +kernel
theorem dX2_addUps_5 : decode cX2_addUps 5 = .ok (.aload_n 2, 1) := by decide +kernel
theorem dX2_addUps_6 : decode cX2_addUps 6 = .ok (.getfield 26, 3) := by decide +kernel
theorem dX2_addUps_9 : decode cX2_addUps 9 = .ok (.if_icmp .ge 20, 3) := by decide +kernel
theorem dX2_addUps_12 : decode cX2_addUps 12 = .ok (.aload_n 0, 1) := by decide +kernel
theorem dX2_addUps_13 : decode cX2_addUps 13 = .ok (.getfield 16, 3) := by decide +kernel
theorem dX2_addUps_16 : decode cX2_addUps 16 = .ok (.iload 4, 2) := by decide +kernel
theorem dX2_addUps_18 : decode cX2_addUps 18 = .ok (.aaload, 1) := by decide +kernel
theorem dX2_addUps_19 : decode cX2_addUps 19 = .ok (.iconst 0, 1) := by decide +kernel
theorem dX2_addUps_20 : decode cX2_addUps 20 = .ok (.invokestatic 44, 3) := by decide +kernel
theorem dX2_addUps_23 : decode cX2_addUps 23 = .ok (.iinc 4 1, 3) := by decide +kernel
theorem dX2_addUps_26 : decode cX2_addUps 26 = .ok (.goto (-23), 3) := by decide +kernel
theorem dX2_addUps_29 : decode cX2_addUps 29 = .ok (.aload_n 0, 1) := by decide +kernel
theorem dX2_addUps_30 : decode cX2_addUps 30 = .ok (.getfield 16, 3) := by decide +kernel
theorem dX2_addUps_33 : decode cX2_addUps 33 = .ok (.iload_n 3, 1) := by decide +kernel
theorem dX2_addUps_34 : decode cX2_addUps 34 = .ok (.aaload, 1) := by decide +kernel
theorem dX2_addUps_35 : decode cX2_addUps 35 = .ok (.iload_n 3, 1) := by decide +kernel
theorem dX2_addUps_36 : decode cX2_addUps 36 = .ok (.invokestatic 89, 3) := by decide +kernel
theorem dX2_addUps_39 : decode cX2_addUps 39 = .ok (.iconst 1, 1) := by decide +kernel
theorem dX2_addUps_40 : decode cX2_addUps 40 = .ok (.iastore, 1) := by decide +kernel
theorem dX2_addUps_41 : decode cX2_addUps 41 = .ok (.iconst 0, 1) := by decide +kernel
theorem dX2_addUps_42 : decode cX2_addUps 42 = .ok (.istore 4, 2) := by decide +kernel
theorem dX2_addUps_44 : decode cX2_addUps 44 = .ok (.iload 4, 2) := by decide +kernel
theorem dX2_addUps_46 : decode cX2_addUps 46 = .ok (.aload_n 2, 1) := by decide +kernel
theorem dX2_addUps_47 : decode cX2_addUps 47 = .ok (.getfield 60, 3) := by decide +kernel
theorem dX2_addUps_50 : decode cX2_addUps 50 = .ok (.iconst 1, 1) := by decide +kernel
theorem dX2_addUps_51 : decode cX2_addUps 51 = .ok (.isub, 1) := by decide +kernel
theorem dX2_addUps_52 : decode cX2_addUps 52 = .ok (.if_icmp .ge 16, 3) := by decide +kernel
theorem dX2_addUps_55 : decode cX2_addUps 55 = .ok (.aload_n 0, 1) := by decide +kernel
theorem dX2_addUps_56 : decode cX2_addUps 56 = .ok (.aload_n 2, 1) := by decide +kernel
theorem dX2_addUps_57 : decode cX2_addUps 57 = .ok (.iload 4, 2) := by decide +kernel
theorem dX2_addUps_59 : decode cX2_addUps 59 = .ok (.invokevirtual 94, 3) := by decide +kernel
theorem dX2_addUps_62 : decode cX2_addUps 62 = .ok (.iinc 4 1, 3) := by decide +kernel
theorem dX2_addUps_65 : decode cX2_addUps 65 = .ok (.goto (-21), 3) := by decide +kernel
theorem dX2_addUps_68 : decode cX2_addUps 68 = .ok (.iconst 0, 1) := by decide +kernel
theorem dX2_addUps_69 : decode cX2_addUps 69 = .ok (.istore 4, 2) := by decide +kernel
theorem dX2_addUps_71 : decode cX2_addUps 71 = .ok (.iload 4, 2) := by decide +kernel
theorem dX2_addUps_73 : decode cX2_addUps 73 = .ok (.aload_n 2, 1) := by decide +kernel
theorem dX2_addUps_74 : decode cX2_addUps 74 = .ok (.getfield 26, 3) := by decide +kernel
theorem dX2_addUps_77 : decode cX2_addUps 77 = .ok (.if_icmp .ge 23, 3) := by decide +kernel
theorem dX2_addUps_80 : decode cX2_addUps 80 = .ok (.aload_n 0, 1) := by decide +kernel
theorem dX2_addUps_81 : decode cX2_addUps 81 = .ok (.getfield 16, 3) := by decide +kernel
theorem dX2_addUps_84 : decode cX2_addUps 84 = .ok (.iload 4, 2) := by decide +kernel
theorem dX2_addUps_86 : decode cX2_addUps 86 = .ok (.aaload, 1) := by decide +kernel
theorem dX2_addUps_87 : decode cX2_addUps 87 = .ok (.bipush 30, 2) := by decide +kernel
theorem dX2_addUps_89 : decode cX2_addUps 89 = .ok (.iconst 0, 1) := by decide +kernel
theorem dX2_addUps_90 : decode cX2_addUps 90 = .ok (.aload_n 1, 1) := by decide +kernel
theorem dX2_addUps_91 : decode cX2_addUps 91 = .ok (.invokestatic 98, 3) := by decide +kernel
theorem dX2_addUps_94 : decode cX2_addUps 94 = .ok (.iinc 4 1, 3) := by decide +kernel
theorem dX2_addUps_97 : decode cX2_addUps 97 = .ok (.goto (-26), 3) := by decide +kernel
theorem dX2_addUps_100 : decode cX2_addUps 100 = .ok (.return_, 1) := by decide +kernel
theorem dX2_addColumn_0 : decode cX2_addColumn 0 = .ok (.iconst 0, 1) := by decide +kernel
theorem dX2_addColumn_1 : decode cX2_addColumn 1 = .ok (.istore_n 3, 1) := by decide +kernel
theorem dX2_addColumn_2 : decode cX2_addColumn 2 = .ok (.iload_n 3, 1) := by decide +kernel
theorem dX2_addColumn_3 : decode cX2_addColumn 3 = .ok (.aload_n 1, 1) := by decide +kernel
theorem dX2_addColumn_4 : decode cX2_addColumn 4 = .ok (.getfield 26, 3) := by decide +kernel
theorem dX2_addColumn_7 : decode cX2_addColumn 7 = .ok (.if_icmp .ge 19, 3) := by decide +kernel
theorem dX2_addColumn_10 : decode cX2_addColumn 10 = .ok (.aload_n 0, 1) := by decide +kernel
theorem dX2_addColumn_11 : decode cX2_addColumn 11 = .ok (.getfield 19, 3) := by decide +kernel
theorem dX2_addColumn_14 : decode cX2_addColumn 14 = .ok (.iload_n 3, 1) := by decide +kernel
theorem dX2_addColumn_15 : decode cX2_addColumn 15 = .ok (.aaload, 1) := by decide +kernel
theorem dX2_addColumn_16 : decode cX2_addColumn 16 = .ok (.iconst 0, 1) := by decide +kernel
theorem dX2_addColumn_17 : decode cX2_addColumn 17 = .ok (.invokestatic 44, 3) := by decide +kernel
theorem dX2_addColumn_20 : decode cX2_addColumn 20 = .ok (.iinc 3 1, 3) := by decide +kernel
theorem dX2_addColumn_23 : decode cX2_addColumn 23 = .ok (.goto (-21), 3) := by decide +kernel
theorem dX2_addColumn_26 : decode cX2_addColumn 26 = .ok (.iconst 0, 1) := by decide +kernel
theorem dX2_addColumn_27 : decode cX2_addColumn 27 = .ok (.istore_n 3, 1) := by decide +kernel
theorem dX2_addColumn_28 : decode cX2_addColumn 28 = .ok (.iload_n 3, 1) := by decide +kernel
theorem dX2_addColumn_29 : decode cX2_addColumn 29 = .ok (.aload_n 1, 1) := by decide +kernel
theorem dX2_addColumn_30 : decode cX2_addColumn 30 = .ok (.getfield 26, 3) := by decide +kernel
theorem dX2_addColumn_33 : decode cX2_addColumn 33 = .ok (.if_icmp .ge 62, 3) := by decide +kernel
theorem dX2_addColumn_36 : decode cX2_addColumn 36 = .ok (.iconst 0, 1) := by decide +kernel
theorem dX2_addColumn_37 : decode cX2_addColumn 37 = .ok (.istore 4, 2) := by decide +kernel
theorem dX2_addColumn_39 : decode cX2_addColumn 39 = .ok (.iload 4, 2) := by decide +kernel
theorem dX2_addColumn_41 : decode cX2_addColumn 41 = .ok (.aload_n 1, 1) := by decide +kernel
theorem dX2_addColumn_42 : decode cX2_addColumn 42 = .ok (.getfield 26, 3) := by decide +kernel
theorem dX2_addColumn_45 : decode cX2_addColumn 45 = .ok (.if_icmp .ge 44, 3) := by decide +kernel
theorem dX2_addColumn_48 : decode cX2_addColumn 48 = .ok (.aload_n 0, 1) := by decide +kernel
theorem dX2_addColumn_49 : decode cX2_addColumn 49 = .ok (.aload_n 1, 1) := by decide +kernel
theorem dX2_addColumn_50 : decode cX2_addColumn 50 = .ok (.iload_n 2, 1) := by decide +kernel
theorem dX2_addColumn_51 : decode cX2_addColumn 51 = .ok (.iload_n 3, 1) := by decide +kernel
theorem dX2_addColumn_52 : decode cX2_addColumn 52 = .ok (.iload 4, 2) := by decide +kernel
theorem dX2_addColumn_54 : decode cX2_addColumn 54 = .ok (.invokevirtual 85, 3) := by decide +kernel
theorem dX2_addColumn_57 : decode cX2_addColumn 57 = .ok (.ifCond .eq 26, 3) := by decide +kernel
theorem dX2_addColumn_60 : decode cX2_addColumn 60 = .ok (.aload_n 0, 1) := by decide +kernel
theorem dX2_addColumn_61 : decode cX2_addColumn 61 = .ok (.getfield 16, 3) := by decide +kernel
theorem dX2_addColumn_64 : decode cX2_addColumn 64 = .ok (.iload_n 3, 1) := by decide +kernel
theorem dX2_addColumn_65 : decode cX2_addColumn 65 = .ok (.aaload, 1) := by decide +kernel
theorem dX2_addColumn_66 : decode cX2_addColumn 66 = .ok (.bipush 30, 2) := by decide +kernel
theorem dX2_addColumn_68 : decode cX2_addColumn 68 = .ok (.iload 4, 2) := by decide +kernel
theorem dX2_addColumn_70 : decode cX2_addColumn 70 = .ok (.invokestatic 89, 3) := by decide +kernel
theorem dX2_addColumn_73 : decode cX2_addColumn 73 = .ok (.aload_n 0, 1) := by decide +kernel
theorem dX2_addColumn_74 : decode cX2_addColumn 74 = .ok (.getfield 19, 3) := by decide +kernel
theorem dX2_addColumn_77 : decode cX2_addColumn 77 = .ok (.iload 4, 2) := by decide +kernel
theorem dX2_addColumn_79 : decode cX2_addColumn 79 = .ok (.aaload, 1) := by decide +kernel
theorem dX2_addColumn_80 : decode cX2_addColumn 80 = .ok (.invokestatic 98, 3) := by decide +kernel
theorem dX2_addColumn_83 : decode cX2_addColumn 83 = .ok (.iinc 4 1, 3) := by decide +kernel
theorem dX2_addColumn_86 : decode cX2_addColumn 86 = .ok (.goto (-47), 3) := by decide +kernel
theorem dX2_addColumn_89 : decode cX2_addColumn 89 = .ok (.iinc 3 1, 3) := by decide +kernel
theorem dX2_addColumn_92 : decode cX2_addColumn 92 = .ok (.goto (-64), 3) := by decide +kernel
theorem dX2_addColumn_95 : decode cX2_addColumn 95 = .ok (.aload_n 0, 1) := by decide +kernel
theorem dX2_addColumn_96 : decode cX2_addColumn 96 = .ok (.getfield 16, 3) := by decide +kernel
theorem dX2_addColumn_99 : decode cX2_addColumn 99 = .ok (.astore_n 3, 1) := by decide +kernel
theorem dX2_addColumn_100 : decode cX2_addColumn 100 = .ok (.aload_n 0, 1) := by decide +kernel
theorem dX2_addColumn_101 : decode cX2_addColumn 101 = .ok (.aload_n 0, 1) := by decide +kernel
theorem dX2_addColumn_102 : decode cX2_addColumn 102 = .ok (.getfield 19, 3) := by decide +kernel
theorem dX2_addColumn_105 : decode cX2_addColumn 105 = .ok (.putfield 16, 3) := by decide +kernel
theorem dX2_addColumn_108 : decode cX2_addColumn 108 = .ok (.aload_n 0, 1) := by decide +kernel
theorem dX2_addColumn_109 : decode cX2_addColumn 109 = .ok (.aload_n 3, 1) := by decide +kernel
theorem dX2_addColumn_110 : decode cX2_addColumn 110 = .ok (.putfield 19, 3) := by decide +kernel
theorem dX2_addColumn_113 : decode cX2_addColumn 113 = .ok (.return_, 1) := by decide +kernel
theorem dX3_init_0 : decode cX3_init 0 = .ok (.aload_n 0, 1) := by decide +kernel
theorem dX3_init_1 : decode cX3_init 1 = .ok (.invokespecial 3, 3) := by decide +kernel
theorem dX3_init_4 : decode cX3_init 4 = .ok (.aload_n 0, 1) := by decide +kernel
theorem dX3_init_5 : decode cX3_init 5 = .ok (.iconst 1, 1) := by decide +kernel
theorem dX3_init_6 : decode cX3_init 6 = .ok (.putfield 9, 3) := by decide +kernel
theorem dX3_init_9 : decode cX3_init 9 = .ok (.aload_n 0, 1) := by decide +kernel
theorem dX3_init_10 : decode cX3_init 10 = .ok (.iconst 1, 1) := by decide +kernel
theorem dX3_init_11 : decode cX3_init 11 = .ok (.putfield 15, 3) := by decide +kernel
theorem dX3_init_14 : decode cX3_init 14 = .ok (.aload_n 0, 1) := by decide +kernel
theorem dX3_init_15 : decode cX3_init 15 = .ok (.iconst 2, 1) := by decide +kernel
theorem dX3_init_16 : decode cX3_init 16 = .ok (.putfield 18, 3) := by decide +kernel
theorem dX3_init_19 : decode cX3_init 19 = .ok (.aload_n 0, 1) := by decide +kernel
theorem dX3_init_20 : decode cX3_init 20 = .ok (.iconst 0, 1) := by decide +kernel
theorem dX3_init_21 : decode cX3_init 21 = .ok (.putfield 21, 3) := by decide +kernel
theorem dX3_init_24 : decode cX3_init 24 = .ok (.aload_n 0, 1) := by decide +kernel
theorem dX3_init_25 : decode cX3_init 25 = .ok (.iconst 0, 1) := by decide +kernel
theorem dX3_init_26 : decode cX3_init 26 = .ok (.putfield 25, 3) := by decide +kernel
theorem dX3_init_29 : decode cX3_init 29 = .ok (.aload_n 0, 1) := by decide +kernel
theorem dX3_init_30 : decode cX3_init 30 = .ok (.bipush 10, 2) := by decide +kernel
theorem dX3_init_32 : decode cX3_init 32 = .ok (.newarray .int, 2) := by decide +kernel
theorem dX3_init_34 : decode cX3_init 34 = .ok (.putfield 28, 3) := by decide +kernel
theorem dX3_init_37 : decode cX3_init 37 = .ok (.aload_n 0, 1) := by decide +kernel
theorem dX3_init_38 : decode cX3_init 38 = .ok (.bipush 10, 2) := by decide +kernel
theorem dX3_init_40 : decode cX3_init 40 = .ok (.bipush 8, 2) := by decide +kernel
theorem dX3_init_42 : decode cX3_init 42 = .ok (.multianewarray 32 2, 4) := by decide +kernel
theorem dX3_init_46 : decode cX3_init 46 = .ok (.putfield 34, 3) := by decide +kernel
theorem dX3_init_49 : decode cX3_init 49 = .ok (.aload_n 0, 1) := by decide +kernel
theorem dX3_init_50 : decode cX3_init 50 = .ok (.bipush 8, 2) := by decide +kernel
theorem dX3_init_52 : decode cX3_init 52 = .ok (.bipush 8, 2) := by decide +kernel
theorem dX3_init_54 : decode cX3_init 54 = .ok (.multianewarray 32 2, 4) := by decide +kernel
theorem dX3_init_58 : decode cX3_init 58 = .ok (.putfield 37, 3) := by decide +kernel
theorem dX3_init_61 : decode cX3_init 61 = .ok (.return_, 1) := by decide +kernel
theorem dX3_takeFrom_0 : decode cX3_takeFrom 0 = .ok (.aload_n 0, 1) := by decide +kernel
theorem dX3_takeFrom_1 : decode cX3_takeFrom 1 = .ok (.aload_n 1, 1) := by decide +kernel
theorem dX3_takeFrom_2 : decode cX3_takeFrom 2 = .ok (.getfield 40, 3) := by decide +kernel
theorem dX3_takeFrom_5 : decode cX3_takeFrom 5 = .ok (.putfield 9, 3) := by decide +kernel
theorem dX3_takeFrom_8 : decode cX3_takeFrom 8 = .ok (.aload_n 0, 1) := by decide +kernel
theorem dX3_takeFrom_9 : decode cX3_takeFrom 9 = .ok (.aload_n 1, 1) := by decide +kernel
theorem dX3_takeFrom_10 : decode cX3_takeFrom 10 = .ok (.getfield 43, 3) := by decide +kernel
theorem dX3_takeFrom_13 : decode cX3_takeFrom 13 = .ok (.putfield 15, 3) := by decide +kernel
theorem dX3_takeFrom_16 : decode cX3_takeFrom 16 = .ok (.aload_n 0, 1) := by decide +kernel
theorem dX3_takeFrom_17 : decode cX3_takeFrom 17 = .ok (.iconst 1, 1) := by decide +kernel
theorem dX3_takeFrom_18 : decode cX3_takeFrom 18 = .ok (.aload_n 0, 1) := by decide +kernel
theorem dX3_takeFrom_19 : decode cX3_takeFrom 19 = .ok (.getfield 15, 3) := by decide +kernel
theorem dX3_takeFrom_22 : decode cX3_takeFrom 22 = .ok (.ishl, 1) := by decide +kernel
theorem dX3_takeFrom_23 : decode cX3_takeFrom 23 = .ok (.putfield 18, 3) := by decide +kernel
theorem dX3_takeFrom_26 : decode cX3_takeFrom 26 = .ok (.aload_n 0, 1) := by decide +kernel
theorem dX3_takeFrom_27 : decode cX3_takeFrom 27 = .ok (.aload_n 1, 1) := by decide +kernel
theorem dX3_takeFrom_28 : decode cX3_takeFrom 28 = .ok (.invokevirtual 44, 3) := by decide +kernel
theorem dX3_takeFrom_31 : decode cX3_takeFrom 31 = .ok (.putfield 21, 3) := by decide +kernel
theorem dX3_takeFrom_34 : decode cX3_takeFrom 34 = .ok (.iload_n 2, 1) := by decide +kernel
theorem dX3_takeFrom_35 : decode cX3_takeFrom 35 = .ok (.ifCond .eq 7, 3) := by decide +kernel
theorem dX3_takeFrom_38 : decode cX3_takeFrom 38 = .ok (.iconst 1, 1) := by decide +kernel
theorem dX3_takeFrom_39 : decode cX3_takeFrom 39 = .ok (.goto 7, 3) := by decide +kernel
theorem dX3_takeFrom_42 : decode cX3_takeFrom 42 = .ok (.aload_n 1, 1) := by decide +kernel
theorem dX3_takeFrom_43 : decode cX3_takeFrom 43 = .ok (.getfield 47, 3) := by decide +kernel
theorem dX3_takeFrom_46 : decode cX3_takeFrom 46 = .ok (.istore_n 3, 1) := by decide +kernel
theorem dX3_takeFrom_47 : decode cX3_takeFrom 47 = .ok (.iload_n 2, 1) := by decide +kernel
theorem dX3_takeFrom_48 : decode cX3_takeFrom 48 = .ok (.ifCond .eq 7, 3) := by decide +kernel
theorem dX3_takeFrom_51 : decode cX3_takeFrom 51 = .ok (.iconst 1, 1) := by decide +kernel
theorem dX3_takeFrom_52 : decode cX3_takeFrom 52 = .ok (.goto 7, 3) := by decide +kernel
theorem dX3_takeFrom_55 : decode cX3_takeFrom 55 = .ok (.aload_n 1, 1) := by decide +kernel
theorem dX3_takeFrom_56 : decode cX3_takeFrom 56 = .ok (.getfield 50, 3) := by decide +kernel
theorem dX3_takeFrom_59 : decode cX3_takeFrom 59 = .ok (.istore 4, 2) := by decide +kernel
theorem dX3_takeFrom_61 : decode cX3_takeFrom 61 = .ok (.aload_n 0, 1) := by decide +kernel
theorem dX3_takeFrom_62 : decode cX3_takeFrom 62 = .ok (.iload_n 3, 1) := by decide +kernel
theorem dX3_takeFrom_63 : decode cX3_takeFrom 63 = .ok (.invokevirtual 53, 3) := by decide +kernel
theorem dX3_takeFrom_66 : decode cX3_takeFrom 66 = .ok (.aload_n 0, 1) := by decide +kernel
theorem dX3_takeFrom_67 : decode cX3_takeFrom 67 = .ok (.iload 4, 2) := by decide +kernel
theorem dX3_takeFrom_69 : decode cX3_takeFrom 69 = .ok (.invokevirtual 57, 3) := by decide +kernel
theorem dX3_takeFrom_72 : decode cX3_takeFrom 72 = .ok (.aload_n 0, 1) := by decide +kernel
theorem dX3_takeFrom_73 : decode cX3_takeFrom 73 = .ok (.getfield 15, 3) := by decide +kernel
theorem dX3_takeFrom_76 : decode cX3_takeFrom 76 = .ok (.iload_n 3, 1) := by decide +kernel
theorem dX3_takeFrom_77 : decode cX3_takeFrom 77 = .ok (.invokestatic 60, 3) := by decide +kernel
theorem dX3_takeFrom_80 : decode cX3_takeFrom 80 = .ok (.imul, 1) := by decide +kernel
theorem dX3_takeFrom_81 : decode cX3_takeFrom 81 = .ok (.istore 5, 2) := by decide +kernel
theorem dX3_takeFrom_83 : decode cX3_takeFrom 83 = .ok (.aload_n 0, 1) := by decide +kernel
theorem dX3_takeFrom_84 : decode cX3_takeFrom 84 = .ok (.getfield 15, 3) := by decide +kernel
theorem dX3_takeFrom_87 : decode cX3_takeFrom 87 = .ok (.iconst 1, 1) := by decide +kernel
theorem dX3_takeFrom_88 : decode cX3_takeFrom 88 = .ok (.isub, 1) := by decide +kernel
theorem dX3_takeFrom_89 : decode cX3_takeFrom 89 = .ok (.iload 4, 2) := by decide +kernel
theorem dX3_takeFrom_91 : decode cX3_takeFrom 91 = .ok (.invokestatic 60, 3) := by decide +kernel
theorem dX3_takeFrom_94 : decode cX3_takeFrom 94 = .ok (.imul, 1) := by decide +kernel
theorem dX3_takeFrom_95 : decode cX3_takeFrom 95 = .ok (.istore 6, 2) := by decide +kernel
theorem dX3_takeFrom_97 : decode cX3_takeFrom 97 = .ok (.iconst 0, 1) := by decide +kernel
theorem dX3_takeFrom_98 : decode cX3_takeFrom 98 = .ok (.istore 7, 2) := by decide +kernel
theorem dX3_takeFrom_100 : decode cX3_takeFrom 100 = .ok (.iconst 0, 1) := by decide +kernel
theorem dX3_takeFrom_101 : decode cX3_takeFrom 101 = .ok (.istore 8, 2) := by decide +kernel
theorem dX3_takeFrom_103 : decode cX3_takeFrom 103 = .ok (.iload 8, 2) := by decide +kernel
theorem dX3_takeFrom_105 : decode cX3_takeFrom 105 = .ok (.aload_n 0, 1) := by decide +kernel
theorem dX3_takeFrom_106 : decode cX3_takeFrom 106 = .ok (.getfield 9, 3) := by decide +kernel
theorem dX3_takeFrom_109 : decode cX3_takeFrom 109 = .ok (.if_icmp .ge 54, 3) := by decide +kernel
theorem dX3_takeFrom_112 : decode cX3_takeFrom 112 = .ok (.iload 7, 2) := by decide +kernel
theorem dX3_takeFrom_114 : decode cX3_takeFrom 114 = .ok (.iload 8, 2) := by decide +kernel
theorem dX3_takeFrom_116 : decode cX3_takeFrom 116 = .ok (.ifCond .ne 8, 3) := by decide +kernel
theorem dX3_takeFrom_119 : decode cX3_takeFrom 119 = .ok (.iload 6, 2) := by decide +kernel
theorem dX3_takeFrom_121 : decode cX3_takeFrom 121 = .ok (.goto 8, 3) := by decide +kernel
theorem dX3_takeFrom_124 : decode cX3_takeFrom 124 = .ok (.iload 6, 2) := by decide +kernel
theorem dX3_takeFrom_126 : decode cX3_takeFrom 126 = .ok (.iload 5, 2) := by decide +kernel
theorem dX3_takeFrom_128 : decode cX3_takeFrom 128 = .ok (.iadd, 1) := by decide +kernel
theorem dX3_takeFrom_129 : decode cX3_takeFrom 129 = .ok (.iadd, 1) := by decide +kernel
theorem dX3_takeFrom_130 : decode cX3_takeFrom 130 = .ok (.istore 7, 2) := by decide +kernel
theorem dX3_takeFrom_132 : decode cX3_takeFrom 132 = .ok (.iload_n 2, 1) := by decide +kernel
theorem dX3_takeFrom_133 : decode cX3_takeFrom 133 = .ok (.ifCond .ne 15, 3) := by decide +kernel
theorem dX3_takeFrom_136 : decode cX3_takeFrom 136 = .ok (.iload 7, 2) := by decide +kernel
theorem dX3_takeFrom_138 : decode cX3_takeFrom 138 = .ok (.aload_n 0, 1) := by decide +kernel
theorem dX3_takeFrom_139 : decode cX3_takeFrom 139 = .ok (.aload_n 1, 1) := by decide +kernel
theorem dX3_takeFrom_140 : decode cX3_takeFrom 140 = .ok (.iload 8, 2) := by decide +kernel
theorem dX3_takeFrom_142 : decode cX3_takeFrom 142 = .ok (.invokevirtual 66, 3) := by decide +kernel
theorem dX3_takeFrom_145 : decode cX3_takeFrom 145 = .ok (.iadd, 1) := by decide +kernel
theorem dX3_takeFrom_146 : decode cX3_takeFrom 146 = .ok (.istore 7, 2) := by decide +kernel
theorem dX3_takeFrom_148 : decode cX3_takeFrom 148 = .ok (.aload_n 0, 1) := by decide +kernel
theorem dX3_takeFrom_149 : decode cX3_takeFrom 149 = .ok (.getfield 28, 3) := by decide +kernel
theorem dX3_takeFrom_152 : decode cX3_takeFrom 152 = .ok (.iload 8, 2) := by decide +kernel
theorem dX3_takeFrom_154 : decode cX3_takeFrom 154 = .ok (.iload 7, 2) := by decide +kernel
theorem dX3_takeFrom_156 : decode cX3_takeFrom 156 = .ok (.iastore, 1) := by decide +kernel
theorem dX3_takeFrom_157 : decode cX3_takeFrom 157 = .ok (.iinc 8 1, 3) := by decide +kernel
theorem dX3_takeFrom_160 : decode cX3_takeFrom 160 = .ok (.goto (-57), 3) := by decide +kernel
theorem dX3_takeFrom_163 : decode cX3_takeFrom 163 = .ok (.aload_n 0, 1) := by decide +kernel
theorem dX3_takeFrom_164 : decode cX3_takeFrom 164 = .ok (.aload_n 0, 1) := by decide +kernel
theorem dX3_takeFrom_165 : decode cX3_takeFrom 165 = .ok (.getfield 21, 3) := by decide +kernel
theorem dX3_takeFrom_168 : decode cX3_takeFrom 168 = .ok (.ifCond .eq 11, 3) := by decide +kernel
theorem dX3_takeFrom_171 : decode cX3_takeFrom 171 = .ok (.iload 7, 2) := by decide +kernel
theorem dX3_takeFrom_173 : decode cX3_takeFrom 173 = .ok (.iload 5, 2) := by decide +kernel
theorem dX3_takeFrom_175 : decode cX3_takeFrom 175 = .ok (.iadd, 1) := by decide +kernel
theorem dX3_takeFrom_176 : decode cX3_takeFrom 176 = .ok (.goto 5, 3) := by decide +kernel
theorem dX3_takeFrom_179 : decode cX3_takeFrom 179 = .ok (.iload 7, 2) := by decide +kernel
theorem dX3_takeFrom_181 : decode cX3_takeFrom 181 = .ok (.putfield 25, 3) := by decide +kernel
theorem dX3_takeFrom_184 : decode cX3_takeFrom 184 = .ok (.return_, 1) := by decide +kernel
theorem dX3_priceAlong_0 : decode cX3_priceAlong 0 = .ok (.iconst 0, 1) := by decide +kernel
theorem dX3_priceAlong_1 : decode cX3_priceAlong 1 = .ok (.istore_n 2, 1) := by decide +kernel
theorem dX3_priceAlong_2 : decode cX3_priceAlong 2 = .ok (.iload_n 2, 1) := by decide +kernel
theorem dX3_priceAlong_3 : decode cX3_priceAlong 3 = .ok (.aload_n 0, 1) := by decide +kernel
theorem dX3_priceAlong_4 : decode cX3_priceAlong 4 = .ok (.getfield 18, 3) := by decide +kernel
theorem dX3_priceAlong_7 : decode cX3_priceAlong 7 = .ok (.if_icmp .ge 47, 3) := by decide +kernel
theorem dX3_priceAlong_10 : decode cX3_priceAlong 10 = .ok (.iconst 0, 1) := by decide +kernel
theorem dX3_priceAlong_11 : decode cX3_priceAlong 11 = .ok (.istore_n 3, 1) := by decide +kernel
theorem dX3_priceAlong_12 : decode cX3_priceAlong 12 = .ok (.iload_n 3, 1) := by decide +kernel
theorem dX3_priceAlong_13 : decode cX3_priceAlong 13 = .ok (.aload_n 0, 1) := by decide +kernel
theorem dX3_priceAlong_14 : decode cX3_priceAlong 14 = .ok (.getfield 18, 3) := by decide +kernel
theorem dX3_priceAlong_17 : decode cX3_priceAlong 17 = .ok (.if_icmp .ge 31, 3) := by decide +kernel
theorem dX3_priceAlong_20 : decode cX3_priceAlong 20 = .ok (.aload_n 0, 1) := by decide +kernel
theorem dX3_priceAlong_21 : decode cX3_priceAlong 21 = .ok (.getfield 37, 3) := by decide +kernel
theorem dX3_priceAlong_24 : decode cX3_priceAlong 24 = .ok (.iload_n 2, 1) := by decide +kernel
theorem dX3_priceAlong_25 : decode cX3_priceAlong 25 = .ok (.aaload, 1) := by decide +kernel
theorem dX3_priceAlong_26 : decode cX3_priceAlong 26 = .ok (.iload_n 3, 1) := by decide +kernel
theorem dX3_priceAlong_27 : decode cX3_priceAlong 27 = .ok (.iload_n 1, 1) := by decide +kernel
theorem dX3_priceAlong_28 : decode cX3_priceAlong 28 = .ok (.iload_n 2, 1) := by decide +kernel
theorem dX3_priceAlong_29 : decode cX3_priceAlong 29 = .ok (.iload_n 3, 1) := by decide +kernel
theorem dX3_priceAlong_30 : decode cX3_priceAlong 30 = .ok (.ixor, 1) := by decide +kernel
theorem dX3_priceAlong_31 : decode cX3_priceAlong 31 = .ok (.invokestatic 70, 3) := by decide +kernel
theorem dX3_priceAlong_34 : decode cX3_priceAlong 34 = .ok (.aload_n 0, 1) := by decide +kernel
theorem dX3_priceAlong_35 : decode cX3_priceAlong 35 = .ok (.getfield 15, 3) := by decide +kernel
theorem dX3_priceAlong_38 : decode cX3_priceAlong 38 = .ok (.invokestatic 75, 3) := by decide +kernel
theorem dX3_priceAlong_41 : decode cX3_priceAlong 41 = .ok (.iastore, 1) := by decide +kernel
theorem dX3_priceAlong_42 : decode cX3_priceAlong 42 = .ok (.iinc 3 1, 3) := by decide +kernel
theorem dX3_priceAlong_45 : decode cX3_priceAlong 45 = .ok (.goto (-33), 3) := by decide +kernel
theorem dX3_priceAlong_48 : decode cX3_priceAlong 48 = .ok (.iinc 2 1, 3) := by decide +kernel
theorem dX3_priceAlong_51 : decode cX3_priceAlong 51 = .ok (.goto (-49), 3) := by decide +kernel
theorem dX3_priceAlong_54 : decode cX3_priceAlong 54 = .ok (.return_, 1) := by decide +kernel
theorem dX3_priceAcross_0 : decode cX3_priceAcross 0 = .ok (.aload_n 0, 1) := by decide +kernel
theorem dX3_priceAcross_1 : decode cX3_priceAcross 1 = .ok (.getfield 15, 3) := by decide +kernel
theorem dX3_priceAcross_4 : decode cX3_priceAcross 4 = .ok (.iconst 1, 1) := by decide +kernel
theorem dX3_priceAcross_5 : decode cX3_priceAcross 5 = .ok (.isub, 1) := by decide +kernel
theorem dX3_priceAcross_6 : decode cX3_priceAcross 6 = .ok (.istore_n 2, 1) := by decide +kernel
theorem dX3_priceAcross_7 : decode cX3_priceAcross 7 = .ok (.iconst 0, 1) := by decide +kernel
theorem dX3_priceAcross_8 : decode cX3_priceAcross 8 = .ok (.istore_n 3, 1) := by decide +kernel
theorem dX3_priceAcross_9 : decode cX3_priceAcross 9 = .ok (.iload_n 3, 1) := by decide +kernel
theorem dX3_priceAcross_10 : decode cX3_priceAcross 10 = .ok (.aload_n 0, 1) := by decide +kernel
theorem dX3_priceAcross_11 : decode cX3_priceAcross 11 = .ok (.getfield 18, 3) := by decide +kernel
theorem dX3_priceAcross_14 : decode cX3_priceAcross 14 = .ok (.if_icmp .ge 59, 3) := by decide +kernel
theorem dX3_priceAcross_17 : decode cX3_priceAcross 17 = .ok (.iload_n 3, 1) := by decide +kernel
theorem dX3_priceAcross_18 : decode cX3_priceAcross 18 = .ok (.iload_n 3, 1) := by decide +kernel
theorem dX3_priceAcross_19 : decode cX3_priceAcross 19 = .ok (.iconst 1, 1) := by decide +kernel
theorem dX3_priceAcross_20 : decode cX3_priceAcross 20 = .ok (.ishr, 1) := by decide +kernel
theorem dX3_priceAcross_21 : decode cX3_priceAcross 21 = .ok (.ixor, 1) := by decide +kernel
theorem dX3_priceAcross_22 : decode cX3_priceAcross 22 = .ok (.iconst 1, 1) := by decide +kernel
theorem dX3_priceAcross_23 : decode cX3_priceAcross 23 = .ok (.iload_n 2, 1) := by decide +kernel
theorem dX3_priceAcross_24 : decode cX3_priceAcross 24 = .ok (.ishl, 1) := by decide +kernel
theorem dX3_priceAcross_25 : decode cX3_priceAcross 25 = .ok (.iconst 1, 1) := by decide +kernel
theorem dX3_priceAcross_26 : decode cX3_priceAcross 26 = .ok (.isub, 1) := by decide +kernel
theorem dX3_priceAcross_27 : decode cX3_priceAcross 27 = .ok (.iand, 1) := by decide +kernel
theorem dX3_priceAcross_28 : decode cX3_priceAcross 28 = .ok (.invokestatic 70, 3) := by decide +kernel
theorem dX3_priceAcross_31 : decode cX3_priceAcross 31 = .ok (.istore 4, 2) := by decide +kernel
theorem dX3_priceAcross_33 : decode cX3_priceAcross 33 = .ok (.iconst 0, 1) := by decide +kernel
theorem dX3_priceAcross_34 : decode cX3_priceAcross 34 = .ok (.istore 5, 2) := by decide +kernel
theorem dX3_priceAcross_36 : decode cX3_priceAcross 36 = .ok (.iload 5, 2) := by decide +kernel
theorem dX3_priceAcross_38 : decode cX3_priceAcross 38 = .ok (.aload_n 0, 1) := by decide +kernel
theorem dX3_priceAcross_39 : decode cX3_priceAcross 39 = .ok (.getfield 9, 3) := by decide +kernel
theorem dX3_priceAcross_42 : decode cX3_priceAcross 42 = .ok (.if_icmp .ge 25, 3) := by decide +kernel
theorem dX3_priceAcross_45 : decode cX3_priceAcross 45 = .ok (.aload_n 0, 1) := by decide +kernel
theorem dX3_priceAcross_46 : decode cX3_priceAcross 46 = .ok (.getfield 34, 3) := by decide +kernel
theorem dX3_priceAcross_49 : decode cX3_priceAcross 49 = .ok (.iload 5, 2) := by decide +kernel
theorem dX3_priceAcross_51 : decode cX3_priceAcross 51 = .ok (.aaload, 1) := by decide +kernel
theorem dX3_priceAcross_52 : decode cX3_priceAcross 52 = .ok (.iload_n 3, 1) := by decide +kernel
theorem dX3_priceAcross_53 : decode cX3_priceAcross 53 = .ok (.iload_n 1, 1) := by decide +kernel
theorem dX3_priceAcross_54 : decode cX3_priceAcross 54 = .ok (.iload 4, 2) := by decide +kernel
theorem dX3_priceAcross_56 : decode cX3_priceAcross 56 = .ok (.iload_n 2, 1) := by decide +kernel
theorem dX3_priceAcross_57 : decode cX3_priceAcross 57 = .ok (.invokestatic 75, 3) := by decide +kernel
theorem dX3_priceAcross_60 : decode cX3_priceAcross 60 = .ok (.iastore, 1) := by decide +kernel
theorem dX3_priceAcross_61 : decode cX3_priceAcross 61 = .ok (.iinc 5 1, 3) := by decide +kernel
theorem dX3_priceAcross_64 : decode cX3_priceAcross 64 = .ok (.goto (-28), 3) := by decide +kernel
theorem dX3_priceAcross_67 : decode cX3_priceAcross 67 = .ok (.iinc 3 1, 3) := by decide +kernel
theorem dX3_priceAcross_70 : decode cX3_priceAcross 70 = .ok (.goto (-61), 3) := by decide +kernel
theorem dX3_priceAcross_73 : decode cX3_priceAcross 73 = .ok (.return_, 1) := by decide +kernel
theorem dX3_priceFields_0 : decode cX3_priceFields 0 = .ok (.iconst 0, 1) := by decide +kernel
theorem dX3_priceFields_1 : decode cX3_priceFields 1 = .ok (.istore_n 3, 1) := by decide +kernel
theorem dX3_priceFields_2 : decode cX3_priceFields 2 = .ok (.iconst 0, 1) := by decide +kernel
theorem dX3_priceFields_3 : decode cX3_priceFields 3 = .ok (.istore 4, 2) := by decide +kernel
theorem dX3_priceFields_5 : decode cX3_priceFields 5 = .ok (.iload 4, 2) := by decide +kernel
theorem dX3_priceFields_7 : decode cX3_priceFields 7 = .ok (.aload_n 0, 1) := by decide +kernel
theorem dX3_priceFields_8 : decode cX3_priceFields 8 = .ok (.getfield 15, 3) := by decide +kernel
theorem dX3_priceFields_11 : decode cX3_priceFields 11 = .ok (.if_icmp .ge 97, 3) := by decide +kernel
theorem dX3_priceFields_14 : decode cX3_priceFields 14 = .ok (.aload_n 1, 1) := by decide +kernel
theorem dX3_priceFields_15 : decode cX3_priceFields 15 = .ok (.iload 4, 2) := by decide +kernel
theorem dX3_priceFields_17 : decode cX3_priceFields 17 = .ok (.iload_n 2, 1) := by decide +kernel
theorem dX3_priceFields_18 : decode cX3_priceFields 18 = .ok (.invokevirtual 79, 3) := by decide +kernel
theorem dX3_priceFields_21 : decode cX3_priceFields 21 = .ok (.istore 5, 2) := by decide +kernel
theorem dX3_priceFields_23 : decode cX3_priceFields 23 = .ok (.iconst 0, 1) := by decide +kernel
theorem dX3_priceFields_24 : decode cX3_priceFields 24 = .ok (.istore 6, 2) := by decide +kernel
theorem dX3_priceFields_26 : decode cX3_priceFields 26 = .ok (.iload 6, 2) := by decide +kernel
theorem dX3_priceFields_28 : decode cX3_priceFields 28 = .ok (.aload_n 0, 1) := by decide +kernel
theorem dX3_priceFields_29 : decode cX3_priceFields 29 = .ok (.getfield 18, 3) := by decide +kernel
theorem dX3_priceFields_32 : decode cX3_priceFields 32 = .ok (.if_icmp .ge 62, 3) := by decide +kernel
theorem dX3_priceFields_35 : decode cX3_priceFields 35 = .ok (.iload 6, 2) := by decide +kernel
theorem dX3_priceFields_37 : decode cX3_priceFields 37 = .ok (.iload 4, 2) := by decide +kernel
theorem dX3_priceFields_39 : decode cX3_priceFields 39 = .ok (.ishr, 1) := by decide +kernel
theorem dX3_priceFields_40 : decode cX3_priceFields 40 = .ok (.iconst 1, 1) := by decide +kernel
theorem dX3_priceFields_41 : decode cX3_priceFields 41 = .ok (.iand, 1) := by decide +kernel
theorem dX3_priceFields_42 : decode cX3_priceFields 42 = .ok (.iconst 1, 1) := by decide +kernel
theorem dX3_priceFields_43 : decode cX3_priceFields 43 = .ok (.if_icmp .ne 7, 3) := by decide +kernel
theorem dX3_priceFields_46 : decode cX3_priceFields 46 = .ok (.iconst 1, 1) := by decide +kernel
theorem dX3_priceFields_47 : decode cX3_priceFields 47 = .ok (.goto 4, 3) := by decide +kernel
theorem dX3_priceFields_50 : decode cX3_priceFields 50 = .ok (.iconst 0, 1) := by decide +kernel
theorem dX3_priceFields_51 : decode cX3_priceFields 51 = .ok (.istore 7, 2) := by decide +kernel
theorem dX3_priceFields_53 : decode cX3_priceFields 53 = .ok (.iload 7, 2) := by decide +kernel
theorem dX3_priceFields_55 : decode cX3_priceFields 55 = .ok (.ifCond .eq 11, 3) := by decide +kernel
theorem dX3_priceFields_58 : decode cX3_priceFields 58 = .ok (.iload 5, 2) := by decide +kernel
theorem dX3_priceFields_60 : decode cX3_priceFields 60 = .ok (.ifCond .ge 28, 3) := by decide +kernel
theorem dX3_priceFields_63 : decode cX3_priceFields 63 = .ok (.goto 8, 3) := by decide +kernel
theorem dX3_priceFields_66 : decode cX3_priceFields 66 = .ok (.iload 5, 2) := by decide +kernel
theorem dX3_priceFields_68 : decode cX3_priceFields 68 = .ok (.ifCond .le 20, 3) := by decide +kernel
theorem dX3_priceFields_71 : decode cX3_priceFields 71 = .ok (.aload_n 0, 1) := by decide +kernel
theorem dX3_priceFields_72 : decode cX3_priceFields 72 = .ok (.getfield 34, 3) := by decide +kernel
theorem dX3_priceFields_75 : decode cX3_priceFields 75 = .ok (.iload_n 2, 1) := by decide +kernel
theorem dX3_priceFields_76 : decode cX3_priceFields 76 = .ok (.aaload, 1) := by decide +kernel
theorem dX3_priceFields_77 : decode cX3_priceFields 77 = .ok (.iload 6, 2) := by decide +kernel
theorem dX3_priceFields_79 : decode cX3_priceFields 79 = .ok (.dup2, 1) := by decide +kernel
theorem dX3_priceFields_80 : decode cX3_priceFields 80 = .ok (.iaload, 1) := by decide +kernel
theorem dX3_priceFields_81 : decode cX3_priceFields 81 = .ok (.iload 5, 2) := by decide +kernel
theorem dX3_priceFields_83 : decode cX3_priceFields 83 = .ok (.invokestatic 60, 3) := by decide +kernel
theorem dX3_priceFields_86 : decode cX3_priceFields 86 = .ok (.iadd, 1) := by decide +kernel
theorem dX3_priceFields_87 : decode cX3_priceFields 87 = .ok (.iastore, 1) := by decide +kernel
theorem dX3_priceFields_88 : decode cX3_priceFields 88 = .ok (.iinc 6 1, 3) := by decide +kernel
theorem dX3_priceFields_91 : decode cX3_priceFields 91 = .ok (.goto (-65), 3) := by decide +kernel
theorem dX3_priceFields_94 : decode cX3_priceFields 94 = .ok (.iload_n 3, 1) := by decide +kernel
theorem dX3_priceFields_95 : decode cX3_priceFields 95 = .ok (.iload 5, 2) := by decide +kernel
theorem dX3_priceFields_97 : decode cX3_priceFields 97 = .ok (.invokestatic 60, 3) := by decide +kernel
theorem dX3_priceFields_100 : decode cX3_priceFields 100 = .ok (.iadd, 1) := by decide +kernel
theorem dX3_priceFields_101 : decode cX3_priceFields 101 = .ok (.istore_n 3, 1) := by decide +kernel
theorem dX3_priceFields_102 : decode cX3_priceFields 102 = .ok (.iinc 4 1, 3) := by decide +kernel
theorem dX3_priceFields_105 : decode cX3_priceFields 105 = .ok (.goto (-100), 3) := by decide +kernel
theorem dX3_priceFields_108 : decode cX3_priceFields 108 = .ok (.iload_n 3, 1) := by decide +kernel
theorem dX3_priceFields_109 : decode cX3_priceFields 109 = .ok (.ireturn, 1) := by decide +kernel
theorem dX3_price_0 : decode cX3_price 0 = .ok (.iload_n 0, 1) := by decide +kernel
theorem dX3_price_1 : decode cX3_price 1 = .ok (.ifCond .ge 12, 3) := by decide +kernel
theorem dX3_price_4 : decode cX3_price 4 = .ok (.iload_n 0, 1) := by decide +kernel
theorem dX3_price_5 : decode cX3_price 5 = .ok (.ineg, 1) := by decide +kernel
theorem dX3_price_6 : decode cX3_price 6 = .ok (.iload_n 2, 1) := by decide +kernel
theorem dX3_price_7 : decode cX3_price 7 = .ok (.iload_n 1, 1) := by decide +kernel
theorem dX3_price_8 : decode cX3_price 8 = .ok (.isub, 1) := by decide +kernel
theorem dX3_price_9 : decode cX3_price 9 = .ok (.imul, 1) := by decide +kernel
theorem dX3_price_10 : decode cX3_price 10 = .ok (.goto 6, 3) := by decide +kernel
theorem dX3_price_13 : decode cX3_price 13 = .ok (.iload_n 0, 1) := by decide +kernel
theorem dX3_price_14 : decode cX3_price 14 = .ok (.iload_n 1, 1) := by decide +kernel
theorem dX3_price_15 : decode cX3_price 15 = .ok (.imul, 1) := by decide +kernel
theorem dX3_price_16 : decode cX3_price 16 = .ok (.ireturn, 1) := by decide +kernel
theorem dX3_seam_0 : decode cX3_seam 0 = .ok (.aload_n 0, 1) := by decide +kernel
theorem dX3_seam_1 : decode cX3_seam 1 = .ok (.getfield 21, 3) := by decide +kernel
theorem dX3_seam_4 : decode cX3_seam 4 = .ok (.ifCond .eq 14, 3) := by decide +kernel
theorem dX3_seam_7 : decode cX3_seam 7 = .ok (.aload_n 0, 1) := by decide +kernel
theorem dX3_seam_8 : decode cX3_seam 8 = .ok (.getfield 37, 3) := by decide +kernel
theorem dX3_seam_11 : decode cX3_seam 11 = .ok (.iload_n 1, 1) := by decide +kernel
theorem dX3_seam_12 : decode cX3_seam 12 = .ok (.aaload, 1) := by decide +kernel
theorem dX3_seam_13 : decode cX3_seam 13 = .ok (.iload_n 2, 1) := by decide +kernel
theorem dX3_seam_14 : decode cX3_seam 14 = .ok (.iaload, 1) := by decide +kernel
theorem dX3_seam_15 : decode cX3_seam 15 = .ok (.goto 4, 3) := by decide +kernel
theorem dX3_seam_18 : decode cX3_seam 18 = .ok (.iconst 0, 1) := by decide +kernel
theorem dX3_seam_19 : decode cX3_seam 19 = .ok (.ireturn, 1) := by decide +kernel
theorem dX4_init_0 : decode cX4_init 0 = .ok (.aload_n 0, 1) := by decide +kernel
theorem dX4_init_1 : decode cX4_init 1 = .ok (.invokespecial 3, 3) := by decide +kernel
theorem dX4_init_4 : decode cX4_init 4 = .ok (.aload_n 0, 1) := by decide +kernel
theorem dX4_init_5 : decode cX4_init 5 = .ok (.bipush 6, 2) := by decide +kernel
theorem dX4_init_7 : decode cX4_init 7 = .ok (.putfield 9, 3) := by decide +kernel
theorem dX4_init_10 : decode cX4_init 10 = .ok (.aload_n 0, 1) := by decide +kernel
theorem dX4_init_11 : decode cX4_init 11 = .ok (.iconst 2, 1) := by decide +kernel
theorem dX4_init_12 : decode cX4_init 12 = .ok (.putfield 15, 3) := by decide +kernel
theorem dX4_init_15 : decode cX4_init 15 = .ok (.aload_n 0, 1) := by decide +kernel
theorem dX4_init_16 : decode cX4_init 16 = .ok (.iconst 0, 1) := by decide +kernel
theorem dX4_init_17 : decode cX4_init 17 = .ok (.putfield 18, 3) := by decide +kernel
theorem dX4_init_20 : decode cX4_init 20 = .ok (.aload_n 0, 1) := by decide +kernel
theorem dX4_init_21 : decode cX4_init 21 = .ok (.iconst 1, 1) := by decide +kernel
theorem dX4_init_22 : decode cX4_init 22 = .ok (.putfield 22, 3) := by decide +kernel
theorem dX4_init_25 : decode cX4_init 25 = .ok (.aload_n 0, 1) := by decide +kernel
theorem dX4_init_26 : decode cX4_init 26 = .ok (.iconst 1, 1) := by decide +kernel
theorem dX4_init_27 : decode cX4_init 27 = .ok (.putfield 25, 3) := by decide +kernel
theorem dX4_init_30 : decode cX4_init 30 = .ok (.aload_n 0, 1) := by decide +kernel
theorem dX4_init_31 : decode cX4_init 31 = .ok (.aload_n 0, 1) := by decide +kernel
theorem dX4_init_32 : decode cX4_init 32 = .ok (.getfield 9, 3) := by decide +kernel
theorem dX4_init_35 : decode cX4_init 35 = .ok (.aload_n 0, 1) := by decide +kernel
theorem dX4_init_36 : decode cX4_init 36 = .ok (.getfield 15, 3) := by decide +kernel
theorem dX4_init_39 : decode cX4_init 39 = .ok (.invokestatic 28, 3) := by decide +kernel
theorem dX4_init_42 : decode cX4_init 42 = .ok (.putfield 32, 3) := by decide +kernel
theorem dX4_init_45 : decode cX4_init 45 = .ok (.aload_n 0, 1) := by decide +kernel
theorem dX4_init_46 : decode cX4_init 46 = .ok (.aload_n 0, 1) := by decide +kernel
theorem dX4_init_47 : decode cX4_init 47 = .ok (.getfield 32, 3) := by decide +kernel
theorem dX4_init_50 : decode cX4_init 50 = .ok (.putfield 36, 3) := by decide +kernel
theorem dX4_init_53 : decode cX4_init 53 = .ok (.aload_n 0, 1) := by decide +kernel
theorem dX4_init_54 : decode cX4_init 54 = .ok (.iconst 0, 1) := by decide +kernel
theorem dX4_init_55 : decode cX4_init 55 = .ok (.putfield 39, 3) := by decide +kernel
theorem dX4_init_58 : decode cX4_init 58 = .ok (.aload_n 0, 1) := by decide +kernel
theorem dX4_init_59 : decode cX4_init 59 = .ok (.bipush 40, 2) := by decide +kernel
theorem dX4_init_61 : decode cX4_init 61 = .ok (.newarray .int, 2) := by decide +kernel
theorem dX4_init_63 : decode cX4_init 63 = .ok (.putfield 42, 3) := by decide +kernel
theorem dX4_init_66 : decode cX4_init 66 = .ok (.return_, 1) := by decide +kernel
theorem dX4_place_0 : decode cX4_place 0 = .ok (.iload_n 1, 1) := by decide +kernel
theorem dX4_place_1 : decode cX4_place 1 = .ok (.iconst 4, 1) := by decide +kernel
theorem dX4_place_2 : decode cX4_place 2 = .ok (.imul, 1) := by decide +kernel
theorem dX4_place_3 : decode cX4_place 3 = .ok (.iload_n 0, 1) := by decide +kernel
theorem dX4_place_4 : decode cX4_place 4 = .ok (.iadd, 1) := by decide +kernel
theorem dX4_place_5 : decode cX4_place 5 = .ok (.ireturn, 1) := by decide +kernel
theorem dX4_bit_0 : decode cX4_bit 0 = .ok (.lconst 1, 1) := by decide +kernel
theorem dX4_bit_1 : decode cX4_bit 1 = .ok (.iload_n 0, 1) := by decide +kernel
theorem dX4_bit_2 : decode cX4_bit 2 = .ok (.iload_n 1, 1) := by decide +kernel
theorem dX4_bit_3 : decode cX4_bit 3 = .ok (.invokestatic 46, 3) := by decide +kernel
theorem dX4_bit_6 : decode cX4_bit 6 = .ok (.lshl, 1) := by decide +kernel
theorem dX4_bit_7 : decode cX4_bit 7 = .ok (.lreturn, 1) := by decide +kernel
theorem dX4_allCells_0 : decode cX4_allCells 0 = .ok (.lconst 0, 1) := by decide +kernel
theorem dX4_allCells_1 : decode cX4_allCells 1 = .ok (.lstore_n 2, 1) := by decide +kernel
theorem dX4_allCells_2 : decode cX4_allCells 2 = .ok (.iconst 0, 1) := by decide +kernel
theorem dX4_allCells_3 : decode cX4_allCells 3 = .ok (.istore 4, 2) := by decide +kernel
theorem dX4_allCells_5 : decode cX4_allCells 5 = .ok (.iload 4, 2) := by decide +kernel
theorem dX4_allCells_7 : decode cX4_allCells 7 = .ok (.iload_n 0, 1) := by decide +kernel
theorem dX4_allCells_8 : decode cX4_allCells 8 = .ok (.if_icmp .ge 24, 3) := by decide +kernel
theorem dX4_allCells_11 : decode cX4_allCells 11 = .ok (.lload_n 2, 1) := by decide +kernel
theorem dX4_allCells_12 : decode cX4_allCells 12 = .ok (.lconst 1, 1) := by decide +kernel
theorem dX4_allCells_13 : decode cX4_allCells 13 = .ok (.iload_n 1, 1) := by decide +kernel
theorem dX4_allCells_14 : decode cX4_allCells 14 = .ok (.lshl, 1) := by decide +kernel
theorem dX4_allCells_15 : decode cX4_allCells 15 = .ok (.lconst 1, 1) := by decide +kernel
theorem dX4_allCells_16 : decode cX4_allCells 16 = .ok (.lsub, 1) := by decide +kernel
theorem dX4_allCells_17 : decode cX4_allCells 17 = .ok (.iconst 0, 1) := by decide +kernel
theorem dX4_allCells_18 : decode cX4_allCells 18 = .ok (.iload 4, 2) := by decide +kernel
theorem dX4_allCells_20 : decode cX4_allCells 20 = .ok (.invokestatic 46, 3) := by decide +kernel
theorem dX4_allCells_23 : decode cX4_allCells 23 = .ok (.lshl, 1) := by decide +kernel
theorem dX4_allCells_24 : decode cX4_allCells 24 = .ok (.lor, 1) := by decide +kernel
theorem dX4_allCells_25 : decode cX4_allCells 25 = .ok (.lstore_n 2, 1) := by decide +kernel
theorem dX4_allCells_26 : decode cX4_allCells 26 = .ok (.iinc 4 1, 3) := by decide +kernel
theorem dX4_allCells_29 : decode cX4_allCells 29 = .ok (.goto (-24), 3) := by decide +kernel
theorem dX4_allCells_32 : decode cX4_allCells 32 = .ok (.lload_n 2, 1) := by decide +kernel
theorem dX4_allCells_33 : decode cX4_allCells 33 = .ok (.lreturn, 1) := by decide +kernel
theorem dX4_has_0 : decode cX4_has 0 = .ok (.iload_n 1, 1) := by decide +kernel
theorem dX4_has_1 : decode cX4_has 1 = .ok (.ifCond .lt 27, 3) := by decide +kernel
theorem dX4_has_4 : decode cX4_has 4 = .ok (.iload_n 1, 1) := by decide +kernel
theorem dX4_has_5 : decode cX4_has 5 = .ok (.aload_n 0, 1) := by decide +kernel
theorem dX4_has_6 : decode cX4_has 6 = .ok (.getfield 15, 3) := by decide +kernel
theorem dX4_has_9 : decode cX4_has 9 = .ok (.if_icmp .ge 19, 3) := by decide +kernel
theorem dX4_has_12 : decode cX4_has 12 = .ok (.iload_n 2, 1) := by decide +kernel
theorem dX4_has_13 : decode cX4_has 13 = .ok (.ifCond .lt 15, 3) := by decide +kernel
theorem dX4_has_16 : decode cX4_has 16 = .ok (.iload_n 2, 1) := by decide +kernel
theorem dX4_has_17 : decode cX4_has 17 = .ok (.aload_n 0, 1) := by decide +kernel
theorem dX4_has_18 : decode cX4_has 18 = .ok (.getfield 9, 3) := by decide +kernel
theorem dX4_has_21 : decode cX4_has 21 = .ok (.if_icmp .ge 7, 3) := by decide +kernel
theorem dX4_has_24 : decode cX4_has 24 = .ok (.iconst 1, 1) := by decide +kernel
theorem dX4_has_25 : decode cX4_has 25 = .ok (.goto 4, 3) := by decide +kernel
theorem dX4_has_28 : decode cX4_has 28 = .ok (.iconst 0, 1) := by decide +kernel
theorem dX4_has_29 : decode cX4_has 29 = .ok (.ireturn, 1) := by decide +kernel
theorem dX4_closed_0 : decode cX4_closed 0 = .ok (.aload_n 0, 1) := by decide +kernel
theorem dX4_closed_1 : decode cX4_closed 1 = .ok (.getfield 18, 3) := by decide +kernel
theorem dX4_closed_4 : decode cX4_closed 4 = .ok (.ifCond .eq 15, 3) := by decide +kernel
theorem dX4_closed_7 : decode cX4_closed 7 = .ok (.aload_n 0, 1) := by decide +kernel
theorem dX4_closed_8 : decode cX4_closed 8 = .ok (.getfield 9, 3) := by decide +kernel
theorem dX4_closed_11 : decode cX4_closed 11 = .ok (.iconst 3, 1) := by decide +kernel
theorem dX4_closed_12 : decode cX4_closed 12 = .ok (.if_icmp .lt 7, 3) := by decide +kernel
theorem dX4_closed_15 : decode cX4_closed 15 = .ok (.iconst 1, 1) := by decide +kernel
theorem dX4_closed_16 : decode cX4_closed 16 = .ok (.goto 4, 3) := by decide +kernel
theorem dX4_closed_19 : decode cX4_closed 19 = .ok (.iconst 0, 1) := by decide +kernel
theorem dX4_closed_20 : decode cX4_closed 20 = .ok (.ireturn, 1) := by decide +kernel
theorem dX4_copyFrom_0 : decode cX4_copyFrom 0 = .ok (.aload_n 0, 1) := by decide +kernel
theorem dX4_copyFrom_1 : decode cX4_copyFrom 1 = .ok (.aload_n 1, 1) := by decide +kernel
theorem dX4_copyFrom_2 : decode cX4_copyFrom 2 = .ok (.getfield 9, 3) := by decide +kernel
theorem dX4_copyFrom_5 : decode cX4_copyFrom 5 = .ok (.putfield 9, 3) := by decide +kernel
theorem dX4_copyFrom_8 : decode cX4_copyFrom 8 = .ok (.aload_n 0, 1) := by decide +kernel
theorem dX4_copyFrom_9 : decode cX4_copyFrom 9 = .ok (.aload_n 1, 1) := by decide +kernel
theorem dX4_copyFrom_10 : decode cX4_copyFrom 10 = .ok (.getfield 15, 3) := by decide +kernel
theorem dX4_copyFrom_13 : decode cX4_copyFrom 13 = .ok (.putfield 15, 3) := by decide +kernel
theorem dX4_copyFrom_16 : decode cX4_copyFrom 16 = .ok (.aload_n 0, 1) := by decide +kernel
theorem dX4_copyFrom_17 : decode cX4_copyFrom 17 = .ok (.aload_n 1, 1) := by decide +kernel
theorem dX4_copyFrom_18 : decode cX4_copyFrom 18 = .ok (.getfield 18, 3) := by decide +kernel
theorem dX4_copyFrom_21 : decode cX4_copyFrom 21 = .ok (.putfield 18, 3) := by decide +kernel
theorem dX4_copyFrom_24 : decode cX4_copyFrom 24 = .ok (.aload_n 0, 1) := by decide +kernel
theorem dX4_copyFrom_25 : decode cX4_copyFrom 25 = .ok (.aload_n 1, 1) := by decide +kernel
theorem dX4_copyFrom_26 : decode cX4_copyFrom 26 = .ok (.getfield 22, 3) := by decide +kernel
theorem dX4_copyFrom_29 : decode cX4_copyFrom 29 = .ok (.putfield 22, 3) := by decide +kernel
theorem dX4_copyFrom_32 : decode cX4_copyFrom 32 = .ok (.aload_n 0, 1) := by decide +kernel
theorem dX4_copyFrom_33 : decode cX4_copyFrom 33 = .ok (.aload_n 1, 1) := by decide +kernel
theorem dX4_copyFrom_34 : decode cX4_copyFrom 34 = .ok (.getfield 25, 3) := by decide +kernel
theorem dX4_copyFrom_37 : decode cX4_copyFrom 37 = .ok (.putfield 25, 3) := by decide +kernel
theorem dX4_copyFrom_40 : decode cX4_copyFrom 40 = .ok (.aload_n 0, 1) := by decide +kernel
theorem dX4_copyFrom_41 : decode cX4_copyFrom 41 = .ok (.aload_n 1, 1) := by decide +kernel
theorem dX4_copyFrom_42 : decode cX4_copyFrom 42 = .ok (.getfield 32, 3) := by decide +kernel
theorem dX4_copyFrom_45 : decode cX4_copyFrom 45 = .ok (.putfield 32, 3) := by decide +kernel
theorem dX4_copyFrom_48 : decode cX4_copyFrom 48 = .ok (.aload_n 0, 1) := by decide +kernel
theorem dX4_copyFrom_49 : decode cX4_copyFrom 49 = .ok (.aload_n 1, 1) := by decide +kernel
theorem dX4_copyFrom_50 : decode cX4_copyFrom 50 = .ok (.getfield 36, 3) := by decide +kernel
theorem dX4_copyFrom_53 : decode cX4_copyFrom 53 = .ok (.putfield 36, 3) := by decide +kernel
theorem dX4_copyFrom_56 : decode cX4_copyFrom 56 = .ok (.aload_n 0, 1) := by decide +kernel
theorem dX4_copyFrom_57 : decode cX4_copyFrom 57 = .ok (.aload_n 1, 1) := by decide +kernel
theorem dX4_copyFrom_58 : decode cX4_copyFrom 58 = .ok (.getfield 39, 3) := by decide +kernel
theorem dX4_copyFrom_61 : decode cX4_copyFrom 61 = .ok (.putfield 39, 3) := by decide +kernel
theorem dX4_copyFrom_64 : decode cX4_copyFrom 64 = .ok (.aload_n 1, 1) := by decide +kernel
theorem dX4_copyFrom_65 : decode cX4_copyFrom 65 = .ok (.getfield 42, 3) := by decide +kernel
theorem dX4_copyFrom_68 : decode cX4_copyFrom 68 = .ok (.iconst 0, 1) := by decide +kernel
theorem dX4_copyFrom_69 : decode cX4_copyFrom 69 = .ok (.aload_n 0, 1) := by decide +kernel
theorem dX4_copyFrom_70 : decode cX4_copyFrom 70 = .ok (.getfield 42, 3) := by decide +kernel
theorem dX4_copyFrom_73 : decode cX4_copyFrom 73 = .ok (.iconst 0, 1) := by decide +kernel
theorem dX4_copyFrom_74 : decode cX4_copyFrom 74 = .ok (.aload_n 0, 1) := by decide +kernel
theorem dX4_copyFrom_75 : decode cX4_copyFrom 75 = .ok (.getfield 42, 3) := by decide +kernel
theorem dX4_copyFrom_78 : decode cX4_copyFrom 78 = .ok (.arraylength, 1) := by decide +kernel
theorem dX4_copyFrom_79 : decode cX4_copyFrom 79 = .ok (.invokestatic 50, 3) := by decide +kernel
theorem dX4_copyFrom_82 : decode cX4_copyFrom 82 = .ok (.return_, 1) := by decide +kernel
theorem dX4_remake_0 : decode cX4_remake 0 = .ok (.aload_n 0, 1) := by decide +kernel
theorem dX4_remake_1 : decode cX4_remake 1 = .ok (.iload_n 1, 1) := by decide +kernel
theorem dX4_remake_2 : decode cX4_remake 2 = .ok (.putfield 9, 3) := by decide +kernel
theorem dX4_remake_5 : decode cX4_remake 5 = .ok (.aload_n 0, 1) := by decide +kernel
theorem dX4_remake_6 : decode cX4_remake 6 = .ok (.iload_n 2, 1) := by decide +kernel
theorem dX4_remake_7 : decode cX4_remake 7 = .ok (.putfield 15, 3) := by decide +kernel
theorem dX4_remake_10 : decode cX4_remake 10 = .ok (.aload_n 0, 1) := by decide +kernel
theorem dX4_remake_11 : decode cX4_remake 11 = .ok (.iload_n 3, 1) := by decide +kernel
theorem dX4_remake_12 : decode cX4_remake 12 = .ok (.putfield 18, 3) := by decide +kernel
theorem dX4_remake_15 : decode cX4_remake 15 = .ok (.aload_n 0, 1) := by decide +kernel
theorem dX4_remake_16 : decode cX4_remake 16 = .ok (.aload_n 0, 1) := by decide +kernel
theorem dX4_remake_17 : decode cX4_remake 17 = .ok (.getfield 9, 3) := by decide +kernel
theorem dX4_remake_20 : decode cX4_remake 20 = .ok (.aload_n 0, 1) := by decide +kernel
theorem dX4_remake_21 : decode cX4_remake 21 = .ok (.getfield 15, 3) := by decide +kernel
theorem dX4_remake_24 : decode cX4_remake 24 = .ok (.invokestatic 28, 3) := by decide +kernel
theorem dX4_remake_27 : decode cX4_remake 27 = .ok (.putfield 32, 3) := by decide +kernel
theorem dX4_remake_30 : decode cX4_remake 30 = .ok (.aload_n 0, 1) := by decide +kernel
theorem dX4_remake_31 : decode cX4_remake 31 = .ok (.aload_n 0, 1) := by decide +kernel
theorem dX4_remake_32 : decode cX4_remake 32 = .ok (.getfield 32, 3) := by decide +kernel
theorem dX4_remake_35 : decode cX4_remake 35 = .ok (.putfield 36, 3) := by decide +kernel
theorem dX4_remake_38 : decode cX4_remake 38 = .ok (.aload_n 0, 1) := by decide +kernel
theorem dX4_remake_39 : decode cX4_remake 39 = .ok (.getfield 42, 3) := by decide +kernel
theorem dX4_remake_42 : decode cX4_remake 42 = .ok (.iconst 0, 1) := by decide +kernel
theorem dX4_remake_43 : decode cX4_remake 43 = .ok (.invokestatic 56, 3) := by decide +kernel
theorem dX4_remake_46 : decode cX4_remake 46 = .ok (.return_, 1) := by decide +kernel
theorem dX4_spinAt_0 : decode cX4_spinAt 0 = .ok (.aload_n 0, 1) := by decide +kernel
theorem dX4_spinAt_1 : decode cX4_spinAt 1 = .ok (.getfield 36, 3) := by decide +kernel
theorem dX4_spinAt_4 : decode cX4_spinAt 4 = .ok (.iload_n 1, 1) := by decide +kernel
theorem dX4_spinAt_5 : decode cX4_spinAt 5 = .ok (.iload_n 2, 1) := by decide +kernel
theorem dX4_spinAt_6 : decode cX4_spinAt 6 = .ok (.invokestatic 62, 3) := by decide +kernel
theorem dX4_spinAt_9 : decode cX4_spinAt 9 = .ok (.land, 1) := by decide +kernel
theorem dX4_spinAt_10 : decode cX4_spinAt 10 = .ok (.lconst 0, 1) := by decide +kernel
theorem dX4_spinAt_11 : decode cX4_spinAt 11 = .ok (.lcmp, 1) := by decide +kernel
theorem dX4_spinAt_12 : decode cX4_spinAt 12 = .ok (.ifCond .eq 7, 3) := by decide +kernel
theorem dX4_spinAt_15 : decode cX4_spinAt 15 = .ok (.iconst 1, 1) := by decide +kernel
theorem dX4_spinAt_16 : decode cX4_spinAt 16 = .ok (.goto 4, 3) := by decide +kernel
theorem dX4_spinAt_19 : decode cX4_spinAt 19 = .ok (.iconst (-1), 1) := by decide +kernel
theorem dX4_spinAt_20 : decode cX4_spinAt 20 = .ok (.ireturn, 1) := by decide +kernel
theorem dX4_fieldAt_0 : decode cX4_fieldAt 0 = .ok (.aload_n 0, 1) := by decide +kernel
theorem dX4_fieldAt_1 : decode cX4_fieldAt 1 = .ok (.iload_n 1, 1) := by decide +kernel
theorem dX4_fieldAt_2 : decode cX4_fieldAt 2 = .ok (.iload_n 2, 1) := by decide +kernel
theorem dX4_fieldAt_3 : decode cX4_fieldAt 3 = .ok (.invokevirtual 65, 3) := by decide +kernel
theorem dX4_fieldAt_6 : decode cX4_fieldAt 6 = .ok (.ifCond .eq 16, 3) := by decide +kernel
theorem dX4_fieldAt_9 : decode cX4_fieldAt 9 = .ok (.aload_n 0, 1) := by decide +kernel
theorem dX4_fieldAt_10 : decode cX4_fieldAt 10 = .ok (.getfield 42, 3) := by decide +kernel
theorem dX4_fieldAt_13 : decode cX4_fieldAt 13 = .ok (.iload_n 1, 1) := by decide +kernel
theorem dX4_fieldAt_14 : decode cX4_fieldAt 14 = .ok (.iload_n 2, 1) := by decide +kernel
theorem dX4_fieldAt_15 : decode cX4_fieldAt 15 = .ok (.invokestatic 46, 3) := by decide +kernel
theorem dX4_fieldAt_18 : decode cX4_fieldAt 18 = .ok (.iaload, 1) := by decide +kernel
theorem dX4_fieldAt_19 : decode cX4_fieldAt 19 = .ok (.goto 4, 3) := by decide +kernel
theorem dX4_fieldAt_22 : decode cX4_fieldAt 22 = .ok (.iconst 0, 1) := by decide +kernel
theorem dX4_fieldAt_23 : decode cX4_fieldAt 23 = .ok (.ireturn, 1) := by decide +kernel
theorem dX4_putField_0 : decode cX4_putField 0 = .ok (.aload_n 0, 1) := by decide +kernel
theorem dX4_putField_1 : decode cX4_putField 1 = .ok (.iload_n 1, 1) := by decide +kernel
theorem dX4_putField_2 : decode cX4_putField 2 = .ok (.iload_n 2, 1) := by decide +kernel
theorem dX4_putField_3 : decode cX4_putField 3 = .ok (.invokevirtual 65, 3) := by decide +kernel
theorem dX4_putField_6 : decode cX4_putField 6 = .ok (.ifCond .eq 14, 3) := by decide +kernel
theorem dX4_putField_9 : decode cX4_putField 9 = .ok (.aload_n 0, 1) := by decide +kernel
theorem dX4_putField_10 : decode cX4_putField 10 = .ok (.getfield 42, 3) := by decide +kernel
theorem dX4_putField_13 : decode cX4_putField 13 = .ok (.iload_n 1, 1) := by decide +kernel
theorem dX4_putField_14 : decode cX4_putField 14 = .ok (.iload_n 2, 1) := by decide +kernel
theorem dX4_putField_15 : decode cX4_putField 15 = .ok (.invokestatic 46, 3) := by decide +kernel
theorem dX4_putField_18 : decode cX4_putField 18 = .ok (.iload_n 3, 1) := by decide +kernel
theorem dX4_putField_19 : decode cX4_putField 19 = .ok (.iastore, 1) := by decide +kernel
theorem dX4_putField_20 : decode cX4_putField 20 = .ok (.return_, 1) := by decide +kernel
theorem dX4_kindOf_0 : decode cX4_kindOf 0 = .ok (.aload_n 0, 1) := by decide +kernel
theorem dX4_kindOf_1 : decode cX4_kindOf 1 = .ok (.getfield 36, 3) := by decide +kernel
theorem dX4_kindOf_4 : decode cX4_kindOf 4 = .ok (.iconst 0, 1) := by decide +kernel
theorem dX4_kindOf_5 : decode cX4_kindOf 5 = .ok (.iload_n 1, 1) := by decide +kernel
theorem dX4_kindOf_6 : decode cX4_kindOf 6 = .ok (.invokestatic 46, 3) := by decide +kernel
theorem dX4_kindOf_9 : decode cX4_kindOf 9 = .ok (.lushr, 1) := by decide +kernel
theorem dX4_kindOf_10 : decode cX4_kindOf 10 = .ok (.l2i, 1) := by decide +kernel
theorem dX4_kindOf_11 : decode cX4_kindOf 11 = .ok (.iconst 1, 1) := by decide +kernel
theorem dX4_kindOf_12 : decode cX4_kindOf 12 = .ok (.aload_n 0, 1) := by decide +kernel
theorem dX4_kindOf_13 : decode cX4_kindOf 13 = .ok (.getfield 15, 3) := by decide +kernel
theorem dX4_kindOf_16 : decode cX4_kindOf 16 = .ok (.ishl, 1) := by decide +kernel
theorem dX4_kindOf_17 : decode cX4_kindOf 17 = .ok (.iconst 1, 1) := by decide +kernel
theorem dX4_kindOf_18 : decode cX4_kindOf 18 = .ok (.isub, 1) := by decide +kernel
theorem dX4_kindOf_19 : decode cX4_kindOf 19 = .ok (.iand, 1) := by decide +kernel
theorem dX4_kindOf_20 : decode cX4_kindOf 20 = .ok (.ireturn, 1) := by decide +kernel
theorem dX4_flip_0 : decode cX4_flip 0 = .ok (.aload_n 0, 1) := by decide +kernel
theorem dX4_flip_1 : decode cX4_flip 1 = .ok (.dup, 1) := by decide +kernel
theorem dX4_flip_2 : decode cX4_flip 2 = .ok (.getfield 36, 3) := by decide +kernel
theorem dX4_flip_5 : decode cX4_flip 5 = .ok (.lload_n 1, 1) := by decide +kernel
theorem dX4_flip_6 : decode cX4_flip 6 = .ok (.lxor, 1) := by decide +kernel
theorem dX4_flip_7 : decode cX4_flip 7 = .ok (.putfield 36, 3) := by decide +kernel
theorem dX4_flip_10 : decode cX4_flip 10 = .ok (.aload_n 0, 1) := by decide +kernel
theorem dX4_flip_11 : decode cX4_flip 11 = .ok (.dup, 1) := by decide +kernel
theorem dX4_flip_12 : decode cX4_flip 12 = .ok (.getfield 39, 3) := by decide +kernel
theorem dX4_flip_15 : decode cX4_flip 15 = .ok (.lload_n 1, 1) := by decide +kernel
theorem dX4_flip_16 : decode cX4_flip 16 = .ok (.invokestatic 69, 3) := by decide +kernel
theorem dX4_flip_19 : decode cX4_flip 19 = .ok (.iadd, 1) := by decide +kernel
theorem dX4_flip_20 : decode cX4_flip 20 = .ok (.putfield 39, 3) := by decide +kernel
theorem dX4_flip_23 : decode cX4_flip 23 = .ok (.return_, 1) := by decide +kernel
theorem dX4_besideAlong_0 : decode cX4_besideAlong 0 = .ok (.lload_n 1, 1) := by decide +kernel
theorem dX4_besideAlong_1 : decode cX4_besideAlong 1 = .ok (.iconst 4, 1) := by decide +kernel
theorem dX4_besideAlong_2 : decode cX4_besideAlong 2 = .ok (.lshl, 1) := by decide +kernel
theorem dX4_besideAlong_3 : decode cX4_besideAlong 3 = .ok (.lload_n 1, 1) := by decide +kernel
theorem dX4_besideAlong_4 : decode cX4_besideAlong 4 = .ok (.iconst 4, 1) := by decide +kernel
theorem dX4_besideAlong_5 : decode cX4_besideAlong 5 = .ok (.lushr, 1) := by decide +kernel
theorem dX4_besideAlong_6 : decode cX4_besideAlong 6 = .ok (.lor, 1) := by decide +kernel
theorem dX4_besideAlong_7 : decode cX4_besideAlong 7 = .ok (.lstore_n 3, 1) := by decide +kernel
theorem dX4_besideAlong_8 : decode cX4_besideAlong 8 = .ok (.aload_n 0, 1) := by decide +kernel
theorem dX4_besideAlong_9 : decode cX4_besideAlong 9 = .ok (.invokevirtual 75, 3) := by decide +kernel
theorem dX4_besideAlong_12 : decode cX4_besideAlong 12 = .ok (.ifCond .eq 27, 3) := by decide +kernel
theorem dX4_besideAlong_15 : decode cX4_besideAlong 15 = .ok (.iconst 0, 1) := by decide +kernel
theorem dX4_besideAlong_16 : decode cX4_besideAlong 16 = .ok (.aload_n 0, 1) := by decide +kernel
theorem dX4_besideAlong_17 : decode cX4_besideAlong 17 = .ok (.getfield 9, 3) := by decide +kernel
theorem dX4_besideAlong_20 : decode cX4_besideAlong 20 = .ok (.iconst 1, 1) := by decide +kernel
theorem dX4_besideAlong_21 : decode cX4_besideAlong 21 = .ok (.isub, 1) := by decide +kernel
theorem dX4_besideAlong_22 : decode cX4_besideAlong 22 = .ok (.invokestatic 46, 3) := by decide +kernel
theorem dX4_besideAlong_25 : decode cX4_besideAlong 25 = .ok (.istore 5, 2) := by decide +kernel
theorem dX4_besideAlong_27 : decode cX4_besideAlong 27 = .ok (.lload_n 3, 1) := by decide +kernel
theorem dX4_besideAlong_28 : decode cX4_besideAlong 28 = .ok (.lload_n 1, 1) := by decide +kernel
theorem dX4_besideAlong_29 : decode cX4_besideAlong 29 = .ok (.iload 5, 2) := by decide +kernel
theorem dX4_besideAlong_31 : decode cX4_besideAlong 31 = .ok (.lshl, 1) := by decide +kernel
theorem dX4_besideAlong_32 : decode cX4_besideAlong 32 = .ok (.lload_n 1, 1) := by decide +kernel
theorem dX4_besideAlong_33 : decode cX4_besideAlong 33 = .ok (.iload 5, 2) := by decide +kernel
theorem dX4_besideAlong_35 : decode cX4_besideAlong 35 = .ok (.lushr, 1) := by decide +kernel
theorem dX4_besideAlong_36 : decode cX4_besideAlong 36 = .ok (.lor, 1) := by decide +kernel
theorem dX4_besideAlong_37 : decode cX4_besideAlong 37 = .ok (.lor, 1) := by decide +kernel
theorem dX4_besideAlong_38 : decode cX4_besideAlong 38 = .ok (.lstore_n 3, 1) := by decide +kernel
theorem dX4_besideAlong_39 : decode cX4_besideAlong 39 = .ok (.lload_n 3, 1) := by decide +kernel
theorem dX4_besideAlong_40 : decode cX4_besideAlong 40 = .ok (.aload_n 0, 1) := by decide +kernel
theorem dX4_besideAlong_41 : decode cX4_besideAlong 41 = .ok (.getfield 32, 3) := by decide +kernel
theorem dX4_besideAlong_44 : decode cX4_besideAlong 44 = .ok (.land, 1) := by decide +kernel
theorem dX4_besideAlong_45 : decode cX4_besideAlong 45 = .ok (.lreturn, 1) := by decide +kernel
theorem dX4_besideAcross_0 : decode cX4_besideAcross 0 = .ok (.lload_n 1, 1) := by decide +kernel
theorem dX4_besideAcross_1 : decode cX4_besideAcross 1 = .ok (.iconst 1, 1) := by decide +kernel
theorem dX4_besideAcross_2 : decode cX4_besideAcross 2 = .ok (.lshl, 1) := by decide +kernel
theorem dX4_besideAcross_3 : decode cX4_besideAcross 3 = .ok (.lload_n 1, 1) := by decide +kernel
theorem dX4_besideAcross_4 : decode cX4_besideAcross 4 = .ok (.iconst 1, 1) := by decide +kernel
theorem dX4_besideAcross_5 : decode cX4_besideAcross 5 = .ok (.lushr, 1) := by decide +kernel
theorem dX4_besideAcross_6 : decode cX4_besideAcross 6 = .ok (.lor, 1) := by decide +kernel
theorem dX4_besideAcross_7 : decode cX4_besideAcross 7 = .ok (.aload_n 0, 1) := by decide +kernel
theorem dX4_besideAcross_8 : decode cX4_besideAcross 8 = .ok (.getfield 32, 3) := by decide +kernel
theorem dX4_besideAcross_11 : decode cX4_besideAcross 11 = .ok (.land, 1) := by decide +kernel
theorem dX4_besideAcross_12 : decode cX4_besideAcross 12 = .ok (.lreturn, 1) := by decide +kernel
theorem dX4_beside_0 : decode cX4_beside 0 = .ok (.aload_n 0, 1) := by decide +kernel
theorem dX4_beside_1 : decode cX4_beside 1 = .ok (.lload_n 1, 1) := by decide +kernel
theorem dX4_beside_2 : decode cX4_beside 2 = .ok (.invokevirtual 79, 3) := by decide +kernel
theorem dX4_beside_5 : decode cX4_beside 5 = .ok (.aload_n 0, 1) := by decide +kernel
theorem dX4_beside_6 : decode cX4_beside 6 = .ok (.lload_n 1, 1) := by decide +kernel
theorem dX4_beside_7 : decode cX4_beside 7 = .ok (.invokevirtual 83, 3) := by decide +kernel
theorem dX4_beside_10 : decode cX4_beside 10 = .ok (.lor, 1) := by decide +kernel
theorem dX4_beside_11 : decode cX4_beside 11 = .ok (.lreturn, 1) := by decide +kernel
theorem dX4_alike_0 : decode cX4_alike 0 = .ok (.aload_n 0, 1) := by decide +kernel
theorem dX4_alike_1 : decode cX4_alike 1 = .ok (.getfield 36, 3) := by decide +kernel
theorem dX4_alike_4 : decode cX4_alike 4 = .ok (.lload_n 1, 1) := by decide +kernel
theorem dX4_alike_5 : decode cX4_alike 5 = .ok (.land, 1) := by decide +kernel
theorem dX4_alike_6 : decode cX4_alike 6 = .ok (.lconst 0, 1) := by decide +kernel
theorem dX4_alike_7 : decode cX4_alike 7 = .ok (.lcmp, 1) := by decide +kernel
theorem dX4_alike_8 : decode cX4_alike 8 = .ok (.ifCond .eq 10, 3) := by decide +kernel
theorem dX4_alike_11 : decode cX4_alike 11 = .ok (.aload_n 0, 1) := by decide +kernel
theorem dX4_alike_12 : decode cX4_alike 12 = .ok (.getfield 36, 3) := by decide +kernel
theorem dX4_alike_15 : decode cX4_alike 15 = .ok (.goto 16, 3) := by decide +kernel
theorem dX4_alike_18 : decode cX4_alike 18 = .ok (.aload_n 0, 1) := by decide +kernel
theorem dX4_alike_19 : decode cX4_alike 19 = .ok (.getfield 32, 3) := by decide +kernel
theorem dX4_alike_22 : decode cX4_alike 22 = .ok (.aload_n 0, 1) := by decide +kernel
theorem dX4_alike_23 : decode cX4_alike 23 = .ok (.getfield 36, 3) := by decide +kernel
theorem dX4_alike_26 : decode cX4_alike 26 = .ok (.ldc2_w 86, 3) := by decide +kernel
theorem dX4_alike_29 : decode cX4_alike 29 = .ok (.lxor, 1) := by decide +kernel
theorem dX4_alike_30 : decode cX4_alike 30 = .ok (.land, 1) := by decide +kernel
theorem dX4_alike_31 : decode cX4_alike 31 = .ok (.lreturn, 1) := by decide +kernel
theorem dX4_spinSum_0 : decode cX4_spinSum 0 = .ok (.iconst 2, 1) := by decide +kernel
theorem dX4_spinSum_1 : decode cX4_spinSum 1 = .ok (.lload_n 1, 1) := by decide +kernel
theorem dX4_spinSum_2 : decode cX4_spinSum 2 = .ok (.aload_n 0, 1) := by decide +kernel
theorem dX4_spinSum_3 : decode cX4_spinSum 3 = .ok (.getfield 36, 3) := by decide +kernel
theorem dX4_spinSum_6 : decode cX4_spinSum 6 = .ok (.land, 1) := by decide +kernel
theorem dX4_spinSum_7 : decode cX4_spinSum 7 = .ok (.invokestatic 69, 3) := by decide +kernel
theorem dX4_spinSum_10 : decode cX4_spinSum 10 = .ok (.imul, 1) := by decide +kernel
theorem dX4_spinSum_11 : decode cX4_spinSum 11 = .ok (.lload_n 1, 1) := by decide +kernel
theorem dX4_spinSum_12 : decode cX4_spinSum 12 = .ok (.invokestatic 69, 3) := by decide +kernel
theorem dX4_spinSum_15 : decode cX4_spinSum 15 = .ok (.isub, 1) := by decide +kernel
theorem dX4_spinSum_16 : decode cX4_spinSum 16 = .ok (.ireturn, 1) := by decide +kernel
theorem dX4_pullOfNeighbours_0 : decode cX4_pullOfNeighbours 0 = .ok (.aload_n 0, 1) := by decide +kernel
theorem dX4_pullOfNeighbours_1 : decode cX4_pullOfNeighbours 1 = .ok (.getfield 22, 3) := by decide +kernel
theorem dX4_pullOfNeighbours_4 : decode cX4_pullOfNeighbours 4 = .ok (.aload_n 0, 1) := by decide +kernel
theorem dX4_pullOfNeighbours_5 : decode cX4_pullOfNeighbours 5 = .ok (.aload_n 0, 1) := by decide +kernel
theorem dX4_pullOfNeighbours_6 : decode cX4_pullOfNeighbours 6 = .ok (.lload_n 1, 1) := by decide +kernel
theorem dX4_pullOfNeighbours_7 : decode cX4_pullOfNeighbours 7 = .ok (.invokevirtual 79, 3) := by decide +kernel
theorem dX4_pullOfNeighbours_10 : decode cX4_pullOfNeighbours 10 = .ok (.invokevirtual 88, 3) := by decide +kernel
theorem dX4_pullOfNeighbours_13 : decode cX4_pullOfNeighbours 13 = .ok (.imul, 1) := by decide +kernel
theorem dX4_pullOfNeighbours_14 : decode cX4_pullOfNeighbours 14 = .ok (.aload_n 0, 1) := by decide +kernel
theorem dX4_pullOfNeighbours_15 : decode cX4_pullOfNeighbours 15 = .ok (.getfield 25, 3) := by decide +kernel
theorem dX4_pullOfNeighbours_18 : decode cX4_pullOfNeighbours 18 = .ok (.aload_n 0, 1) := by decide +kernel
theorem dX4_pullOfNeighbours_19 : decode cX4_pullOfNeighbours 19 = .ok (.aload_n 0, 1) := by decide +kernel
theorem dX4_pullOfNeighbours_20 : decode cX4_pullOfNeighbours 20 = .ok (.lload_n 1, 1) := by decide +kernel
theorem dX4_pullOfNeighbours_21 : decode cX4_pullOfNeighbours 21 = .ok (.invokevirtual 83, 3) := by decide +kernel
theorem dX4_pullOfNeighbours_24 : decode cX4_pullOfNeighbours 24 = .ok (.invokevirtual 88, 3) := by decide +kernel
theorem dX4_pullOfNeighbours_27 : decode cX4_pullOfNeighbours 27 = .ok (.imul, 1) := by decide +kernel
theorem dX4_pullOfNeighbours_28 : decode cX4_pullOfNeighbours 28 = .ok (.iadd, 1) := by decide +kernel
theorem dX4_pullOfNeighbours_29 : decode cX4_pullOfNeighbours 29 = .ok (.ireturn, 1) := by decide +kernel
theorem dX4_gain_0 : decode cX4_gain 0 = .ok (.aload_n 0, 1) := by decide +kernel
theorem dX4_gain_1 : decode cX4_gain 1 = .ok (.iload_n 1, 1) := by decide +kernel
theorem dX4_gain_2 : decode cX4_gain 2 = .ok (.iload_n 2, 1) := by decide +kernel
theorem dX4_gain_3 : decode cX4_gain 3 = .ok (.invokestatic 62, 3) := by decide +kernel
theorem dX4_gain_6 : decode cX4_gain 6 = .ok (.invokevirtual 91, 3) := by decide +kernel
theorem dX4_gain_9 : decode cX4_gain 9 = .ok (.aload_n 0, 1) := by decide +kernel
theorem dX4_gain_10 : decode cX4_gain 10 = .ok (.iload_n 1, 1) := by decide +kernel
theorem dX4_gain_11 : decode cX4_gain 11 = .ok (.iload_n 2, 1) := by decide +kernel
theorem dX4_gain_12 : decode cX4_gain 12 = .ok (.invokevirtual 94, 3) := by decide +kernel
theorem dX4_gain_15 : decode cX4_gain 15 = .ok (.iadd, 1) := by decide +kernel
theorem dX4_gain_16 : decode cX4_gain 16 = .ok (.istore_n 3, 1) := by decide +kernel
theorem dX4_gain_17 : decode cX4_gain 17 = .ok (.bipush (-2), 2) := by decide +kernel
theorem dX4_gain_19 : decode cX4_gain 19 = .ok (.aload_n 0, 1) := by decide +kernel
theorem dX4_gain_20 : decode cX4_gain 20 = .ok (.iload_n 1, 1) := by decide +kernel
theorem dX4_gain_21 : decode cX4_gain 21 = .ok (.iload_n 2, 1) := by decide +kernel
theorem dX4_gain_22 : decode cX4_gain 22 = .ok (.invokevirtual 97, 3) := by decide +kernel
theorem dX4_gain_25 : decode cX4_gain 25 = .ok (.imul, 1) := by decide +kernel
theorem dX4_gain_26 : decode cX4_gain 26 = .ok (.iload_n 3, 1) := by decide +kernel
theorem dX4_gain_27 : decode cX4_gain 27 = .ok (.imul, 1) := by decide +kernel
theorem dX4_gain_28 : decode cX4_gain 28 = .ok (.ireturn, 1) := by decide +kernel
theorem dX4_energy_0 : decode cX4_energy 0 = .ok (.iconst 0, 1) := by decide +kernel
theorem dX4_energy_1 : decode cX4_energy 1 = .ok (.istore_n 1, 1) := by decide +kernel
theorem dX4_energy_2 : decode cX4_energy 2 = .ok (.iconst 0, 1) := by decide +kernel
theorem dX4_energy_3 : decode cX4_energy 3 = .ok (.istore_n 2, 1) := by decide +kernel
theorem dX4_energy_4 : decode cX4_energy 4 = .ok (.iconst 0, 1) := by decide +kernel
theorem dX4_energy_5 : decode cX4_energy 5 = .ok (.istore_n 3, 1) := by decide +kernel
theorem dX4_energy_6 : decode cX4_energy 6 = .ok (.iload_n 3, 1) := by decide +kernel
theorem dX4_energy_7 : decode cX4_energy 7 = .ok (.aload_n 0, 1) := by decide +kernel
theorem dX4_energy_8 : decode cX4_energy 8 = .ok (.getfield 9, 3) := by decide +kernel
theorem dX4_energy_11 : decode cX4_energy 11 = .ok (.if_icmp .ge 65, 3) := by decide +kernel
theorem dX4_energy_14 : decode cX4_energy 14 = .ok (.iconst 0, 1) := by decide +kernel
theorem dX4_energy_15 : decode cX4_energy 15 = .ok (.istore 4, 2) := by decide +kernel
theorem dX4_energy_17 : decode cX4_energy 17 = .ok (.iload 4, 2) := by decide +kernel
theorem dX4_energy_19 : decode cX4_energy 19 = .ok (.aload_n 0, 1) := by decide +kernel
theorem dX4_energy_20 : decode cX4_energy 20 = .ok (.getfield 15, 3) := by decide +kernel
theorem dX4_energy_23 : decode cX4_energy 23 = .ok (.if_icmp .ge 47, 3) := by decide +kernel
theorem dX4_energy_26 : decode cX4_energy 26 = .ok (.aload_n 0, 1) := by decide +kernel
theorem dX4_energy_27 : decode cX4_energy 27 = .ok (.iload 4, 2) := by decide +kernel
theorem dX4_energy_29 : decode cX4_energy 29 = .ok (.iload_n 3, 1) := by decide +kernel
theorem dX4_energy_30 : decode cX4_energy 30 = .ok (.invokevirtual 97, 3) := by decide +kernel
theorem dX4_energy_33 : decode cX4_energy 33 = .ok (.istore 5, 2) := by decide +kernel
theorem dX4_energy_35 : decode cX4_energy 35 = .ok (.iload_n 1, 1) := by decide +kernel
theorem dX4_energy_36 : decode cX4_energy 36 = .ok (.iload 5, 2) := by decide +kernel
theorem dX4_energy_38 : decode cX4_energy 38 = .ok (.aload_n 0, 1) := by decide +kernel
theorem dX4_energy_39 : decode cX4_energy 39 = .ok (.iload 4, 2) := by decide +kernel
theorem dX4_energy_41 : decode cX4_energy 41 = .ok (.iload_n 3, 1) := by decide +kernel
theorem dX4_energy_42 : decode cX4_energy 42 = .ok (.invokestatic 62, 3) := by decide +kernel
theorem dX4_energy_45 : decode cX4_energy 45 = .ok (.invokevirtual 91, 3) := by decide +kernel
theorem dX4_energy_48 : decode cX4_energy 48 = .ok (.imul, 1) := by decide +kernel
theorem dX4_energy_49 : decode cX4_energy 49 = .ok (.iadd, 1) := by decide +kernel
theorem dX4_energy_50 : decode cX4_energy 50 = .ok (.istore_n 1, 1) := by decide +kernel
theorem dX4_energy_51 : decode cX4_energy 51 = .ok (.iload_n 2, 1) := by decide +kernel
theorem dX4_energy_52 : decode cX4_energy 52 = .ok (.iload 5, 2) := by decide +kernel
theorem dX4_energy_54 : decode cX4_energy 54 = .ok (.aload_n 0, 1) := by decide +kernel
theorem dX4_energy_55 : decode cX4_energy 55 = .ok (.iload 4, 2) := by decide +kernel
theorem dX4_energy_57 : decode cX4_energy 57 = .ok (.iload_n 3, 1) := by decide +kernel
theorem dX4_energy_58 : decode cX4_energy 58 = .ok (.invokevirtual 94, 3) := by decide +kernel
theorem dX4_energy_61 : decode cX4_energy 61 = .ok (.imul, 1) := by decide +kernel
theorem dX4_energy_62 : decode cX4_energy 62 = .ok (.iadd, 1) := by decide +kernel
theorem dX4_energy_63 : decode cX4_energy 63 = .ok (.istore_n 2, 1) := by decide +kernel
theorem dX4_energy_64 : decode cX4_energy 64 = .ok (.iinc 4 1, 3) := by decide +kernel
theorem dX4_energy_67 : decode cX4_energy 67 = .ok (.goto (-50), 3) := by decide +kernel
theorem dX4_energy_70 : decode cX4_energy 70 = .ok (.iinc 3 1, 3) := by decide +kernel
theorem dX4_energy_73 : decode cX4_energy 73 = .ok (.goto (-67), 3) := by decide +kernel
theorem dX4_energy_76 : decode cX4_energy 76 = .ok (.iload_n 1, 1) := by decide +kernel
theorem dX4_energy_77 : decode cX4_energy 77 = .ok (.iconst 2, 1) := by decide +kernel
theorem dX4_energy_78 : decode cX4_energy 78 = .ok (.idiv, 1) := by decide +kernel
theorem dX4_energy_79 : decode cX4_energy 79 = .ok (.iload_n 2, 1) := by decide +kernel
theorem dX4_energy_80 : decode cX4_energy 80 = .ok (.iadd, 1) := by decide +kernel
theorem dX4_energy_81 : decode cX4_energy 81 = .ok (.ineg, 1) := by decide +kernel
theorem dX4_energy_82 : decode cX4_energy 82 = .ok (.ireturn, 1) := by decide +kernel
theorem dX4_walls_0 : decode cX4_walls 0 = .ok (.iconst 0, 1) := by decide +kernel
theorem dX4_walls_1 : decode cX4_walls 1 = .ok (.istore_n 1, 1) := by decide +kernel
theorem dX4_walls_2 : decode cX4_walls 2 = .ok (.iconst 0, 1) := by decide +kernel
theorem dX4_walls_3 : decode cX4_walls 3 = .ok (.istore_n 2, 1) := by decide +kernel
theorem dX4_walls_4 : decode cX4_walls 4 = .ok (.iload_n 2, 1) := by decide +kernel
theorem dX4_walls_5 : decode cX4_walls 5 = .ok (.aload_n 0, 1) := by decide +kernel
theorem dX4_walls_6 : decode cX4_walls 6 = .ok (.getfield 9, 3) := by decide +kernel
theorem dX4_walls_9 : decode cX4_walls 9 = .ok (.if_icmp .ge 55, 3) := by decide +kernel
theorem dX4_walls_12 : decode cX4_walls 12 = .ok (.iconst 0, 1) := by decide +kernel
theorem dX4_walls_13 : decode cX4_walls 13 = .ok (.istore_n 3, 1) := by decide +kernel
theorem dX4_walls_14 : decode cX4_walls 14 = .ok (.iload_n 3, 1) := by decide +kernel
theorem dX4_walls_15 : decode cX4_walls 15 = .ok (.aload_n 0, 1) := by decide +kernel
theorem dX4_walls_16 : decode cX4_walls 16 = .ok (.getfield 15, 3) := by decide +kernel
theorem dX4_walls_19 : decode cX4_walls 19 = .ok (.if_icmp .ge 39, 3) := by decide +kernel
theorem dX4_walls_22 : decode cX4_walls 22 = .ok (.iload_n 3, 1) := by decide +kernel
theorem dX4_walls_23 : decode cX4_walls 23 = .ok (.iload_n 2, 1) := by decide +kernel
theorem dX4_walls_24 : decode cX4_walls 24 = .ok (.invokestatic 62, 3) := by decide +kernel
theorem dX4_walls_27 : decode cX4_walls 27 = .ok (.lstore 4, 2) := by decide +kernel
theorem dX4_walls_29 : decode cX4_walls 29 = .ok (.iload_n 1, 1) := by decide +kernel
theorem dX4_walls_30 : decode cX4_walls 30 = .ok (.aload_n 0, 1) := by decide +kernel
theorem dX4_walls_31 : decode cX4_walls 31 = .ok (.lload 4, 2) := by decide +kernel
theorem dX4_walls_33 : decode cX4_walls 33 = .ok (.invokevirtual 100, 3) := by decide +kernel
theorem dX4_walls_36 : decode cX4_walls 36 = .ok (.aload_n 0, 1) := by decide +kernel
theorem dX4_walls_37 : decode cX4_walls 37 = .ok (.lload 4, 2) := by decide +kernel
theorem dX4_walls_39 : decode cX4_walls 39 = .ok (.invokevirtual 103, 3) := by decide +kernel
theorem dX4_walls_42 : decode cX4_walls 42 = .ok (.ldc2_w 86, 3) := by decide +kernel
theorem dX4_walls_45 : decode cX4_walls 45 = .ok (.lxor, 1) := by decide +kernel
theorem dX4_walls_46 : decode cX4_walls 46 = .ok (.land, 1) := by decide +kernel
theorem dX4_walls_47 : decode cX4_walls 47 = .ok (.invokestatic 69, 3) := by decide +kernel
theorem dX4_walls_50 : decode cX4_walls 50 = .ok (.iadd, 1) := by decide +kernel
theorem dX4_walls_51 : decode cX4_walls 51 = .ok (.istore_n 1, 1) := by decide +kernel
theorem dX4_walls_52 : decode cX4_walls 52 = .ok (.iinc 3 1, 3) := by decide +kernel
theorem dX4_walls_55 : decode cX4_walls 55 = .ok (.goto (-41), 3) := by decide +kernel
theorem dX4_walls_58 : decode cX4_walls 58 = .ok (.iinc 2 1, 3) := by decide +kernel
theorem dX4_walls_61 : decode cX4_walls 61 = .ok (.goto (-57), 3) := by decide +kernel
theorem dX4_walls_64 : decode cX4_walls 64 = .ok (.iload_n 1, 1) := by decide +kernel
theorem dX4_walls_65 : decode cX4_walls 65 = .ok (.iconst 2, 1) := by decide +kernel
theorem dX4_walls_66 : decode cX4_walls 66 = .ok (.idiv, 1) := by decide +kernel
theorem dX4_walls_67 : decode cX4_walls 67 = .ok (.ireturn, 1) := by decide +kernel
theorem dX4_pairs_0 : decode cX4_pairs 0 = .ok (.iconst 0, 1) := by decide +kernel
theorem dX4_pairs_1 : decode cX4_pairs 1 = .ok (.istore_n 1, 1) := by decide +kernel
theorem dX4_pairs_2 : decode cX4_pairs 2 = .ok (.iconst 0, 1) := by decide +kernel
theorem dX4_pairs_3 : decode cX4_pairs 3 = .ok (.istore_n 2, 1) := by decide +kernel
theorem dX4_pairs_4 : decode cX4_pairs 4 = .ok (.iload_n 2, 1) := by decide +kernel
theorem dX4_pairs_5 : decode cX4_pairs 5 = .ok (.aload_n 0, 1) := by decide +kernel
theorem dX4_pairs_6 : decode cX4_pairs 6 = .ok (.getfield 9, 3) := by decide +kernel
theorem dX4_pairs_9 : decode cX4_pairs 9 = .ok (.if_icmp .ge 40, 3) := by decide +kernel
theorem dX4_pairs_12 : decode cX4_pairs 12 = .ok (.iconst 0, 1) := by decide +kernel
theorem dX4_pairs_13 : decode cX4_pairs 13 = .ok (.istore_n 3, 1) := by decide +kernel
theorem dX4_pairs_14 : decode cX4_pairs 14 = .ok (.iload_n 3, 1) := by decide +kernel
theorem dX4_pairs_15 : decode cX4_pairs 15 = .ok (.aload_n 0, 1) := by decide +kernel
theorem dX4_pairs_16 : decode cX4_pairs 16 = .ok (.getfield 15, 3) := by decide +kernel
theorem dX4_pairs_19 : decode cX4_pairs 19 = .ok (.if_icmp .ge 24, 3) := by decide +kernel
theorem dX4_pairs_22 : decode cX4_pairs 22 = .ok (.iload_n 1, 1) := by decide +kernel
theorem dX4_pairs_23 : decode cX4_pairs 23 = .ok (.aload_n 0, 1) := by decide +kernel
theorem dX4_pairs_24 : decode cX4_pairs 24 = .ok (.iload_n 3, 1) := by decide +kernel
theorem dX4_pairs_25 : decode cX4_pairs 25 = .ok (.iload_n 2, 1) := by decide +kernel
theorem dX4_pairs_26 : decode cX4_pairs 26 = .ok (.invokestatic 62, 3) := by decide +kernel
theorem dX4_pairs_29 : decode cX4_pairs 29 = .ok (.invokevirtual 100, 3) := by decide +kernel
theorem dX4_pairs_32 : decode cX4_pairs 32 = .ok (.invokestatic 69, 3) := by decide +kernel
theorem dX4_pairs_35 : decode cX4_pairs 35 = .ok (.iadd, 1) := by decide +kernel
theorem dX4_pairs_36 : decode cX4_pairs 36 = .ok (.istore_n 1, 1) := by decide +kernel
theorem dX4_pairs_37 : decode cX4_pairs 37 = .ok (.iinc 3 1, 3) := by decide +kernel
theorem dX4_pairs_40 : decode cX4_pairs 40 = .ok (.goto (-26), 3) := by decide +kernel
theorem dX4_pairs_43 : decode cX4_pairs 43 = .ok (.iinc 2 1, 3) := by decide +kernel
theorem dX4_pairs_46 : decode cX4_pairs 46 = .ok (.goto (-42), 3) := by decide +kernel
theorem dX4_pairs_49 : decode cX4_pairs 49 = .ok (.iload_n 1, 1) := by decide +kernel
theorem dX4_pairs_50 : decode cX4_pairs 50 = .ok (.iconst 2, 1) := by decide +kernel
theorem dX4_pairs_51 : decode cX4_pairs 51 = .ok (.idiv, 1) := by decide +kernel
theorem dX4_pairs_52 : decode cX4_pairs 52 = .ok (.ireturn, 1) := by decide +kernel
theorem dX4_patchOf_0 : decode cX4_patchOf 0 = .ok (.aload_n 0, 1) := by decide +kernel
theorem dX4_patchOf_1 : decode cX4_patchOf 1 = .ok (.lload_n 1, 1) := by decide +kernel
theorem dX4_patchOf_2 : decode cX4_patchOf 2 = .ok (.invokevirtual 103, 3) := by decide +kernel
theorem dX4_patchOf_5 : decode cX4_patchOf 5 = .ok (.lstore_n 3, 1) := by decide +kernel
theorem dX4_patchOf_6 : decode cX4_patchOf 6 = .ok (.lload_n 1, 1) := by decide +kernel
theorem dX4_patchOf_7 : decode cX4_patchOf 7 = .ok (.lstore 5, 2) := by decide +kernel
theorem dX4_patchOf_9 : decode cX4_patchOf 9 = .ok (.lconst 0, 1) := by decide +kernel
theorem dX4_patchOf_10 : decode cX4_patchOf 10 = .ok (.lstore 7, 2) := by decide +kernel
theorem dX4_patchOf_12 : decode cX4_patchOf 12 = .ok (.iconst 0, 1) := by decide +kernel
theorem dX4_patchOf_13 : decode cX4_patchOf 13 = .ok (.istore 9, 2) := by decide +kernel
theorem dX4_patchOf_15 : decode cX4_patchOf 15 = .ok (.iload 9, 2) := by decide +kernel
theorem dX4_patchOf_17 : decode cX4_patchOf 17 = .ok (.bipush 30, 2) := by decide +kernel
theorem dX4_patchOf_19 : decode cX4_patchOf 19 = .ok (.if_icmp .ge 34, 3) := by decide +kernel
theorem dX4_patchOf_22 : decode cX4_patchOf 22 = .ok (.lload 5, 2) := by decide +kernel
theorem dX4_patchOf_24 : decode cX4_patchOf 24 = .ok (.lload 7, 2) := by decide +kernel
theorem dX4_patchOf_26 : decode cX4_patchOf 26 = .ok (.lcmp, 1) := by decide +kernel
theorem dX4_patchOf_27 : decode cX4_patchOf 27 = .ok (.ifCond .eq 26, 3) := by decide +kernel
theorem dX4_patchOf_30 : decode cX4_patchOf 30 = .ok (.lload 5, 2) := by decide +kernel
theorem dX4_patchOf_32 : decode cX4_patchOf 32 = .ok (.lstore 7, 2) := by decide +kernel
theorem dX4_patchOf_34 : decode cX4_patchOf 34 = .ok (.lload 5, 2) := by decide +kernel
theorem dX4_patchOf_36 : decode cX4_patchOf 36 = .ok (.aload_n 0, 1) := by decide +kernel
theorem dX4_patchOf_37 : decode cX4_patchOf 37 = .ok (.lload 5, 2) := by decide +kernel
theorem dX4_patchOf_39 : decode cX4_patchOf 39 = .ok (.invokevirtual 100, 3) := by decide +kernel
theorem dX4_patchOf_42 : decode cX4_patchOf 42 = .ok (.lload_n 3, 1) := by decide +kernel
theorem dX4_patchOf_43 : decode cX4_patchOf 43 = .ok (.land, 1) := by decide +kernel
theorem dX4_patchOf_44 : decode cX4_patchOf 44 = .ok (.lor, 1) := by decide +kernel
theorem dX4_patchOf_45 : decode cX4_patchOf 45 = .ok (.lstore 5, 2) := by decide +kernel
theorem dX4_patchOf_47 : decode cX4_patchOf 47 = .ok (.iinc 9 1, 3) := by decide +kernel
theorem dX4_patchOf_50 : decode cX4_patchOf 50 = .ok (.goto (-35), 3) := by decide +kernel
theorem dX4_patchOf_53 : decode cX4_patchOf 53 = .ok (.lload 5, 2) := by decide +kernel
theorem dX4_patchOf_55 : decode cX4_patchOf 55 = .ok (.lreturn, 1) := by decide +kernel
theorem dX4_patches_0 : decode cX4_patches 0 = .ok (.iconst 0, 1) := by decide +kernel
theorem dX4_patches_1 : decode cX4_patches 1 = .ok (.istore_n 1, 1) := by decide +kernel
theorem dX4_patches_2 : decode cX4_patches 2 = .ok (.lconst 0, 1) := by decide +kernel
theorem dX4_patches_3 : decode cX4_patches 3 = .ok (.lstore_n 2, 1) := by decide +kernel
theorem dX4_patches_4 : decode cX4_patches 4 = .ok (.iconst 0, 1) := by decide +kernel
theorem dX4_patches_5 : decode cX4_patches 5 = .ok (.istore 4, 2) := by decide +kernel
theorem dX4_patches_7 : decode cX4_patches 7 = .ok (.iload 4, 2) := by decide +kernel
theorem dX4_patches_9 : decode cX4_patches 9 = .ok (.aload_n 0, 1) := by decide +kernel
theorem dX4_patches_10 : decode cX4_patches 10 = .ok (.getfield 9, 3) := by decide +kernel
theorem dX4_patches_13 : decode cX4_patches 13 = .ok (.if_icmp .ge 57, 3) := by decide +kernel
theorem dX4_patches_16 : decode cX4_patches 16 = .ok (.iconst 0, 1) := by decide +kernel
theorem dX4_patches_17 : decode cX4_patches 17 = .ok (.istore 5, 2) := by decide +kernel
theorem dX4_patches_19 : decode cX4_patches 19 = .ok (.iload 5, 2) := by decide +kernel
theorem dX4_patches_21 : decode cX4_patches 21 = .ok (.aload_n 0, 1) := by decide +kernel
theorem dX4_patches_22 : decode cX4_patches 22 = .ok (.getfield 15, 3) := by decide +kernel
theorem dX4_patches_25 : decode cX4_patches 25 = .ok (.if_icmp .ge 39, 3) := by decide +kernel
theorem dX4_patches_28 : decode cX4_patches 28 = .ok (.iload 5, 2) := by decide +kernel
theorem dX4_patches_30 : decode cX4_patches 30 = .ok (.iload 4, 2) := by decide +kernel
theorem dX4_patches_32 : decode cX4_patches 32 = .ok (.invokestatic 62, 3) := by decide +kernel
theorem dX4_patches_35 : decode cX4_patches 35 = .ok (.lstore 6, 2) := by decide +kernel
theorem dX4_patches_37 : decode cX4_patches 37 = .ok (.lload_n 2, 1) := by decide +kernel
theorem dX4_patches_38 : decode cX4_patches 38 = .ok (.lload 6, 2) := by decide +kernel
theorem dX4_patches_40 : decode cX4_patches 40 = .ok (.land, 1) := by decide +kernel
theorem dX4_patches_41 : decode cX4_patches 41 = .ok (.lconst 0, 1) := by decide +kernel
theorem dX4_patches_42 : decode cX4_patches 42 = .ok (.lcmp, 1) := by decide +kernel
theorem dX4_patches_43 : decode cX4_patches 43 = .ok (.ifCond .ne 15, 3) := by decide +kernel
theorem dX4_patches_46 : decode cX4_patches 46 = .ok (.lload_n 2, 1) := by decide +kernel
theorem dX4_patches_47 : decode cX4_patches 47 = .ok (.aload_n 0, 1) := by decide +kernel
theorem dX4_patches_48 : decode cX4_patches 48 = .ok (.lload 6, 2) := by decide +kernel
theorem dX4_patches_50 : decode cX4_patches 50 = .ok (.invokevirtual 106, 3) := by decide +kernel
theorem dX4_patches_53 : decode cX4_patches 53 = .ok (.lor, 1) := by decide +kernel
theorem dX4_patches_54 : decode cX4_patches 54 = .ok (.lstore_n 2, 1) := by decide +kernel
theorem dX4_patches_55 : decode cX4_patches 55 = .ok (.iinc 1 1, 3) := by decide +kernel
theorem dX4_patches_58 : decode cX4_patches 58 = .ok (.iinc 5 1, 3) := by decide +kernel
theorem dX4_patches_61 : decode cX4_patches 61 = .ok (.goto (-42), 3) := by decide +kernel
theorem dX4_patches_64 : decode cX4_patches 64 = .ok (.iinc 4 1, 3) := by decide +kernel
theorem dX4_patches_67 : decode cX4_patches 67 = .ok (.goto (-60), 3) := by decide +kernel
theorem dX4_patches_70 : decode cX4_patches 70 = .ok (.iload_n 1, 1) := by decide +kernel
theorem dX4_patches_71 : decode cX4_patches 71 = .ok (.ireturn, 1) := by decide +kernel
theorem dX4_gainingCells_0 : decode cX4_gainingCells 0 = .ok (.iconst 0, 1) := by decide +kernel
theorem dX4_gainingCells_1 : decode cX4_gainingCells 1 = .ok (.istore_n 1, 1) := by decide +kernel
theorem dX4_gainingCells_2 : decode cX4_gainingCells 2 = .ok (.iconst 0, 1) := by decide +kernel
theorem dX4_gainingCells_3 : decode cX4_gainingCells 3 = .ok (.istore_n 2, 1) := by decide +kernel
theorem dX4_gainingCells_4 : decode cX4_gainingCells 4 = .ok (.iload_n 2, 1) := by decide +kernel
theorem dX4_gainingCells_5 : decode cX4_gainingCells 5 = .ok (.aload_n 0, 1) := by decide +kernel
theorem dX4_gainingCells_6 : decode cX4_gainingCells 6 = .ok (.getfield 9, 3) := by decide +kernel
theorem dX4_gainingCells_9 : decode cX4_gainingCells 9 = .ok (.if_icmp .ge 37, 3) := by decide +kernel
theorem dX4_gainingCells_12 : decode cX4_gainingCells 12 = .ok (.iconst 0, 1) := by decide +kernel
theorem dX4_gainingCells_13 : decode cX4_gainingCells 13 = .ok (.istore_n 3, 1) := by decide +kernel
theorem dX4_gainingCells_14 : decode cX4_gainingCells 14 = .ok (.iload_n 3, 1) := by decide +kernel
theorem dX4_gainingCells_15 : decode cX4_gainingCells 15 = .ok (.aload_n 0, 1) := by decide +kernel
theorem dX4_gainingCells_16 : decode cX4_gainingCells 16 = .ok (.getfield 15, 3) := by decide +kernel
theorem dX4_gainingCells_19 : decode cX4_gainingCells 19 = .ok (.if_icmp .ge 21, 3) := by decide +kernel
theorem dX4_gainingCells_22 : decode cX4_gainingCells 22 = .ok (.aload_n 0, 1) := by decide +kernel
theorem dX4_gainingCells_23 : decode cX4_gainingCells 23 = .ok (.iload_n 3, 1) := by decide +kernel
theorem dX4_gainingCells_24 : decode cX4_gainingCells 24 = .ok (.iload_n 2, 1) := by decide +kernel
theorem dX4_gainingCells_25 : decode cX4_gainingCells 25 = .ok (.invokevirtual 109, 3) := by decide +kernel
theorem dX4_gainingCells_28 : decode cX4_gainingCells 28 = .ok (.ifCond .le 6, 3) := by decide +kernel
theorem dX4_gainingCells_31 : decode cX4_gainingCells 31 = .ok (.iinc 1 1, 3) := by decide +kernel
theorem dX4_gainingCells_34 : decode cX4_gainingCells 34 = .ok (.iinc 3 1, 3) := by decide +kernel
theorem dX4_gainingCells_37 : decode cX4_gainingCells 37 = .ok (.goto (-23), 3) := by decide +kernel
theorem dX4_gainingCells_40 : decode cX4_gainingCells 40 = .ok (.iinc 2 1, 3) := by decide +kernel
theorem dX4_gainingCells_43 : decode cX4_gainingCells 43 = .ok (.goto (-39), 3) := by decide +kernel
theorem dX4_gainingCells_46 : decode cX4_gainingCells 46 = .ok (.iload_n 1, 1) := by decide +kernel
theorem dX4_gainingCells_47 : decode cX4_gainingCells 47 = .ok (.ireturn, 1) := by decide +kernel
theorem dX4_flipGainingCells_0 : decode cX4_flipGainingCells 0 = .ok (.aload_n 0, 1) := by decide +kernel
theorem dX4_flipGainingCells_1 : decode cX4_flipGainingCells 1 = .ok (.getfield 39, 3) := by decide +kernel
theorem dX4_flipGainingCells_4 : decode cX4_flipGainingCells 4 = .ok (.istore_n 1, 1) := by decide +kernel
theorem dX4_flipGainingCells_5 : decode cX4_flipGainingCells 5 = .ok (.iconst 0, 1) := by decide +kernel
theorem dX4_flipGainingCells_6 : decode cX4_flipGainingCells 6 = .ok (.istore_n 2, 1) := by decide +kernel
theorem dX4_flipGainingCells_7 : decode cX4_flipGainingCells 7 = .ok (.iload_n 2, 1) := by decide +kernel
theorem dX4_flipGainingCells_8 : decode cX4_flipGainingCells 8 = .ok (.aload_n 0, 1) := by decide +kernel
theorem dX4_flipGainingCells_9 : decode cX4_flipGainingCells 9 = .ok (.getfield 9, 3) := by decide +kernel
theorem dX4_flipGainingCells_12 : decode cX4_flipGainingCells 12 = .ok (.if_icmp .ge 43, 3) := by decide +kernel
theorem dX4_flipGainingCells_15 : decode cX4_flipGainingCells 15 = .ok (.iconst 0, 1) := by decide +kernel
theorem dX4_flipGainingCells_16 : decode cX4_flipGainingCells 16 = .ok (.istore_n 3, 1) := by decide +kernel
theorem dX4_flipGainingCells_17 : decode cX4_flipGainingCells 17 = .ok (.iload_n 3, 1) := by decide +kernel
theorem dX4_flipGainingCells_18 : decode cX4_flipGainingCells 18 = .ok (.aload_n 0, 1) := by decide +kernel
theorem dX4_flipGainingCells_19 : decode cX4_flipGainingCells 19 = .ok (.getfield 15, 3) := by decide +kernel
theorem dX4_flipGainingCells_22 : decode cX4_flipGainingCells 22 = .ok (.if_icmp .ge 27, 3) := by decide +kernel
theorem dX4_flipGainingCells_25 : decode cX4_flipGainingCells 25 = .ok (.aload_n 0, 1) := by decide +kernel
theorem dX4_flipGainingCells_26 : decode cX4_flipGainingCells 26 = .ok (.iload_n 3, 1) := by decide +kernel
theorem dX4_flipGainingCells_27 : decode cX4_flipGainingCells 27 = .ok (.iload_n 2, 1) := by decide +kernel
theorem dX4_flipGainingCells_28 : decode cX4_flipGainingCells 28 = .ok (.invokevirtual 109, 3) := by decide +kernel
theorem dX4_flipGainingCells_31 : decode cX4_flipGainingCells 31 = .ok (.ifCond .le 12, 3) := by decide +kernel
theorem dX4_flipGainingCells_34 : decode cX4_flipGainingCells 34 = .ok (.aload_n 0, 1) := by decide +kernel
theorem dX4_flipGainingCells_35 : decode cX4_flipGainingCells 35 = .ok (.iload_n 3, 1) := by decide +kernel
theorem dX4_flipGainingCells_36 : decode cX4_flipGainingCells 36 = .ok (.iload_n 2, 1) := by decide +kernel
theorem dX4_flipGainingCells_37 : decode cX4_flipGainingCells 37 = .ok (.invokestatic 62, 3) := by decide +kernel
theorem dX4_flipGainingCells_40 : decode cX4_flipGainingCells 40 = .ok (.invokevirtual 112, 3) := by decide +kernel
theorem dX4_flipGainingCells_43 : decode cX4_flipGainingCells 43 = .ok (.iinc 3 1, 3) := by decide +kernel
theorem dX4_flipGainingCells_46 : decode cX4_flipGainingCells 46 = .ok (.goto (-29), 3) := by decide +kernel
theorem dX4_flipGainingCells_49 : decode cX4_flipGainingCells 49 = .ok (.iinc 2 1, 3) := by decide +kernel
theorem dX4_flipGainingCells_52 : decode cX4_flipGainingCells 52 = .ok (.goto (-45), 3) := by decide +kernel
theorem dX4_flipGainingCells_55 : decode cX4_flipGainingCells 55 = .ok (.aload_n 0, 1) := by decide +kernel
theorem dX4_flipGainingCells_56 : decode cX4_flipGainingCells 56 = .ok (.getfield 39, 3) := by decide +kernel
theorem dX4_flipGainingCells_59 : decode cX4_flipGainingCells 59 = .ok (.iload_n 1, 1) := by decide +kernel
theorem dX4_flipGainingCells_60 : decode cX4_flipGainingCells 60 = .ok (.isub, 1) := by decide +kernel
theorem dX4_flipGainingCells_61 : decode cX4_flipGainingCells 61 = .ok (.ireturn, 1) := by decide +kernel
theorem dX5_init_0 : decode cX5_init 0 = .ok (.aload_n 0, 1) := by decide +kernel
theorem dX5_init_1 : decode cX5_init 1 = .ok (.invokespecial 3, 3) := by decide +kernel
theorem dX5_init_4 : decode cX5_init 4 = .ok (.aload_n 0, 1) := by decide +kernel
theorem dX5_init_5 : decode cX5_init 5 = .ok (.bipush 8, 2) := by decide +kernel
theorem dX5_init_7 : decode cX5_init 7 = .ok (.sipush 191, 3) := by decide +kernel
theorem dX5_init_10 : decode cX5_init 10 = .ok (.multianewarray 9 2, 4) := by decide +kernel
theorem dX5_init_14 : decode cX5_init 14 = .ok (.putfield 11, 3) := by decide +kernel
theorem dX5_init_17 : decode cX5_init 17 = .ok (.aload_n 0, 1) := by decide +kernel
theorem dX5_init_18 : decode cX5_init 18 = .ok (.bipush 8, 2) := by decide +kernel
theorem dX5_init_20 : decode cX5_init 20 = .ok (.sipush 191, 3) := by decide +kernel
theorem dX5_init_23 : decode cX5_init 23 = .ok (.multianewarray 9 2, 4) := by decide +kernel
theorem dX5_init_27 : decode cX5_init 27 = .ok (.putfield 16, 3) := by decide +kernel
theorem dX5_init_30 : decode cX5_init 30 = .ok (.return_, 1) := by decide +kernel
theorem dX5_fill_0 : decode cX5_fill 0 = .ok (.aload_n 1, 1) := by decide +kernel
theorem dX5_fill_1 : decode cX5_fill 1 = .ok (.iconst 0, 1) := by decide +kernel
theorem dX5_fill_2 : decode cX5_fill 2 = .ok (.invokestatic 19, 3) := by decide +kernel
theorem dX5_fill_5 : decode cX5_fill 5 = .ok (.aload_n 2, 1) := by decide +kernel
theorem dX5_fill_6 : decode cX5_fill 6 = .ok (.getfield 25, 3) := by decide +kernel
theorem dX5_fill_9 : decode cX5_fill 9 = .ok (.ifCond .ne 15, 3) := by decide +kernel
theorem dX5_fill_12 : decode cX5_fill 12 = .ok (.aload_n 0, 1) := by decide +kernel
theorem dX5_fill_13 : decode cX5_fill 13 = .ok (.aload_n 1, 1) := by decide +kernel
theorem dX5_fill_14 : decode cX5_fill 14 = .ok (.aload_n 2, 1) := by decide +kernel
theorem dX5_fill_15 : decode cX5_fill 15 = .ok (.iconst 0, 1) := by decide +kernel
theorem dX5_fill_16 : decode cX5_fill 16 = .ok (.aload_n 2, 1) := by decide +kernel
theorem dX5_fill_17 : decode cX5_fill 17 = .ok (.getfield 31, 3) := by decide +kernel
theorem dX5_fill_20 : decode cX5_fill 20 = .ok (.invokevirtual 35, 3) := by decide +kernel
theorem dX5_fill_23 : decode cX5_fill 23 = .ok (.return_, 1) := by decide +kernel
theorem dX5_fill_24 : decode cX5_fill 24 = .ok (.iconst 0, 1) := by decide +kernel
theorem dX5_fill_25 : decode cX5_fill 25 = .ok (.istore_n 3, 1) := by decide +kernel
theorem dX5_fill_26 : decode cX5_fill 26 = .ok (.iload_n 3, 1) := by decide +kernel
theorem dX5_fill_27 : decode cX5_fill 27 = .ok (.aload_n 2, 1) := by decide +kernel
theorem dX5_fill_28 : decode cX5_fill 28 = .ok (.getfield 31, 3) := by decide +kernel
theorem dX5_fill_31 : decode cX5_fill 31 = .ok (.if_icmp .ge 19, 3) := by decide +kernel
theorem dX5_fill_34 : decode cX5_fill 34 = .ok (.aload_n 0, 1) := by decide +kernel
theorem dX5_fill_35 : decode cX5_fill 35 = .ok (.aload_n 1, 1) := by decide +kernel
theorem dX5_fill_36 : decode cX5_fill 36 = .ok (.aload_n 2, 1) := by decide +kernel
theorem dX5_fill_37 : decode cX5_fill 37 = .ok (.iload_n 3, 1) := by decide +kernel
theorem dX5_fill_38 : decode cX5_fill 38 = .ok (.iload_n 3, 1) := by decide +kernel
theorem dX5_fill_39 : decode cX5_fill 39 = .ok (.iconst 1, 1) := by decide +kernel
theorem dX5_fill_40 : decode cX5_fill 40 = .ok (.iadd, 1) := by decide +kernel
theorem dX5_fill_41 : decode cX5_fill 41 = .ok (.invokevirtual 35, 3) := by decide +kernel
theorem dX5_fill_44 : decode cX5_fill 44 = .ok (.iinc 3 1, 3) := by decide +kernel
theorem dX5_fill_47 : decode cX5_fill 47 = .ok (.goto (-21), 3) := by decide +kernel
theorem dX5_fill_50 : decode cX5_fill 50 = .ok (.return_, 1) := by decide +kernel
theorem dX5_addStrips_0 : decode cX5_addStrips 0 = .ok (.aload_n 0, 1) := by decide +kernel
theorem dX5_addStrips_1 : decode cX5_addStrips 1 = .ok (.aload_n 2, 1) := by decide +kernel
theorem dX5_addStrips_2 : decode cX5_addStrips 2 = .ok (.iload_n 3, 1) := by decide +kernel
theorem dX5_addStrips_3 : decode cX5_addStrips 3 = .ok (.iload 4, 2) := by decide +kernel
theorem dX5_addStrips_5 : decode cX5_addStrips 5 = .ok (.invokevirtual 39, 3) := by decide +kernel
theorem dX5_addStrips_8 : decode cX5_addStrips 8 = .ok (.iconst 1, 1) := by decide +kernel
theorem dX5_addStrips_9 : decode cX5_addStrips 9 = .ok (.istore 5, 2) := by decide +kernel
theorem dX5_addStrips_11 : decode cX5_addStrips 11 = .ok (.iload 5, 2) := by decide +kernel
theorem dX5_addStrips_13 : decode cX5_addStrips 13 = .ok (.aload_n 2, 1) := by decide +kernel
theorem dX5_addStrips_14 : decode cX5_addStrips 14 = .ok (.getfield 43, 3) := by decide +kernel
theorem dX5_addStrips_17 : decode cX5_addStrips 17 = .ok (.if_icmp .ge 16, 3) := by decide +kernel
theorem dX5_addStrips_20 : decode cX5_addStrips 20 = .ok (.aload_n 0, 1) := by decide +kernel
theorem dX5_addStrips_21 : decode cX5_addStrips 21 = .ok (.aload_n 2, 1) := by decide +kernel
theorem dX5_addStrips_22 : decode cX5_addStrips 22 = .ok (.iload 5, 2) := by decide +kernel
theorem dX5_addStrips_24 : decode cX5_addStrips 24 = .ok (.invokevirtual 46, 3) := by decide +kernel
theorem dX5_addStrips_27 : decode cX5_addStrips 27 = .ok (.iinc 5 1, 3) := by decide +kernel
theorem dX5_addStrips_30 : decode cX5_addStrips 30 = .ok (.goto (-19), 3) := by decide +kernel
theorem dX5_addStrips_33 : decode cX5_addStrips 33 = .ok (.iconst 0, 1) := by decide +kernel
theorem dX5_addStrips_34 : decode cX5_addStrips 34 = .ok (.istore 5, 2) := by decide +kernel
theorem dX5_addStrips_36 : decode cX5_addStrips 36 = .ok (.iload 5, 2) := by decide +kernel
theorem dX5_addStrips_38 : decode cX5_addStrips 38 = .ok (.aload_n 2, 1) := by decide +kernel
theorem dX5_addStrips_39 : decode cX5_addStrips 39 = .ok (.getfield 31, 3) := by decide +kernel
theorem dX5_addStrips_42 : decode cX5_addStrips 42 = .ok (.if_icmp .ge 38, 3) := by decide +kernel
theorem dX5_addStrips_45 : decode cX5_addStrips 45 = .ok (.aload_n 0, 1) := by decide +kernel
theorem dX5_addStrips_46 : decode cX5_addStrips 46 = .ok (.getfield 11, 3) := by decide +kernel
theorem dX5_addStrips_49 : decode cX5_addStrips 49 = .ok (.iload 5, 2) := by decide +kernel
theorem dX5_addStrips_51 : decode cX5_addStrips 51 = .ok (.aaload, 1) := by decide +kernel
theorem dX5_addStrips_52 : decode cX5_addStrips 52 = .ok (.aload_n 2, 1) := by decide +kernel
theorem dX5_addStrips_53 : decode cX5_addStrips 53 = .ok (.getfield 50, 3) := by decide +kernel
theorem dX5_addStrips_56 : decode cX5_addStrips 56 = .ok (.aload_n 2, 1) := by decide +kernel
theorem dX5_addStrips_57 : decode cX5_addStrips 57 = .ok (.getfield 43, 3) := by decide +kernel
theorem dX5_addStrips_60 : decode cX5_addStrips 60 = .ok (.iconst 1, 1) := by decide +kernel
theorem dX5_addStrips_61 : decode cX5_addStrips 61 = .ok (.isub, 1) := by decide +kernel
theorem dX5_addStrips_62 : decode cX5_addStrips 62 = .ok (.iaload, 1) := by decide +kernel
theorem dX5_addStrips_63 : decode cX5_addStrips 63 = .ok (.aload_n 2, 1) := by decide +kernel
theorem dX5_addStrips_64 : decode cX5_addStrips 64 = .ok (.iload 5, 2) := by decide +kernel
theorem dX5_addStrips_66 : decode cX5_addStrips 66 = .ok (.iload_n 3, 1) := by decide +kernel
theorem dX5_addStrips_67 : decode cX5_addStrips 67 = .ok (.invokevirtual 54, 3) := by decide +kernel
theorem dX5_addStrips_70 : decode cX5_addStrips 70 = .ok (.aload_n 1, 1) := by decide +kernel
theorem dX5_addStrips_71 : decode cX5_addStrips 71 = .ok (.invokestatic 58, 3) := by decide +kernel
theorem dX5_addStrips_74 : decode cX5_addStrips 74 = .ok (.iinc 5 1, 3) := by decide +kernel
theorem dX5_addStrips_77 : decode cX5_addStrips 77 = .ok (.goto (-41), 3) := by decide +kernel
theorem dX5_addStrips_80 : decode cX5_addStrips 80 = .ok (.return_, 1) := by decide +kernel
theorem dX5_begin_0 : decode cX5_begin 0 = .ok (.iconst 0, 1) := by decide +kernel
theorem dX5_begin_1 : decode cX5_begin 1 = .ok (.istore 4, 2) := by decide +kernel
theorem dX5_begin_3 : decode cX5_begin 3 = .ok (.iload 4, 2) := by decide +kernel
theorem dX5_begin_5 : decode cX5_begin 5 = .ok (.aload_n 1, 1) := by decide +kernel
theorem dX5_begin_6 : decode cX5_begin 6 = .ok (.getfield 31, 3) := by decide +kernel
theorem dX5_begin_9 : decode cX5_begin 9 = .ok (.if_icmp .ge 67, 3) := by decide +kernel
theorem dX5_begin_12 : decode cX5_begin 12 = .ok (.aload_n 0, 1) := by decide +kernel
theorem dX5_begin_13 : decode cX5_begin 13 = .ok (.getfield 11, 3) := by decide +kernel
theorem dX5_begin_16 : decode cX5_begin 16 = .ok (.iload 4, 2) := by decide +kernel
theorem dX5_begin_18 : decode cX5_begin 18 = .ok (.aaload, 1) := by decide +kernel
theorem dX5_begin_19 : decode cX5_begin 19 = .ok (.iconst 0, 1) := by decide +kernel
theorem dX5_begin_20 : decode cX5_begin 20 = .ok (.invokestatic 19, 3) := by decide +kernel
theorem dX5_begin_23 : decode cX5_begin 23 = .ok (.aload_n 1, 1) := by decide +kernel
theorem dX5_begin_24 : decode cX5_begin 24 = .ok (.getfield 62, 3) := by decide +kernel
theorem dX5_begin_27 : decode cX5_begin 27 = .ok (.iconst 0, 1) := by decide +kernel
theorem dX5_begin_28 : decode cX5_begin 28 = .ok (.aaload, 1) := by decide +kernel
theorem dX5_begin_29 : decode cX5_begin 29 = .ok (.iload 4, 2) := by decide +kernel
theorem dX5_begin_31 : decode cX5_begin 31 = .ok (.iaload, 1) := by decide +kernel
theorem dX5_begin_32 : decode cX5_begin 32 = .ok (.istore 5, 2) := by decide +kernel
theorem dX5_begin_34 : decode cX5_begin 34 = .ok (.iload 4, 2) := by decide +kernel
theorem dX5_begin_36 : decode cX5_begin 36 = .ok (.iload_n 2, 1) := by decide +kernel
theorem dX5_begin_37 : decode cX5_begin 37 = .ok (.if_icmp .lt 33, 3) := by decide +kernel
theorem dX5_begin_40 : decode cX5_begin 40 = .ok (.iload 4, 2) := by decide +kernel
theorem dX5_begin_42 : decode cX5_begin 42 = .ok (.iload_n 3, 1) := by decide +kernel
theorem dX5_begin_43 : decode cX5_begin 43 = .ok (.if_icmp .ge 27, 3) := by decide +kernel
theorem dX5_begin_46 : decode cX5_begin 46 = .ok (.iload 5, 2) := by decide +kernel
theorem dX5_begin_48 : decode cX5_begin 48 = .ok (.aload_n 0, 1) := by decide +kernel
theorem dX5_begin_49 : decode cX5_begin 49 = .ok (.getfield 11, 3) := by decide +kernel
theorem dX5_begin_52 : decode cX5_begin 52 = .ok (.iload 4, 2) := by decide +kernel
theorem dX5_begin_54 : decode cX5_begin 54 = .ok (.aaload, 1) := by decide +kernel
theorem dX5_begin_55 : decode cX5_begin 55 = .ok (.arraylength, 1) := by decide +kernel
theorem dX5_begin_56 : decode cX5_begin 56 = .ok (.if_icmp .ge 14, 3) := by decide +kernel
theorem dX5_begin_59 : decode cX5_begin 59 = .ok (.aload_n 0, 1) := by decide +kernel
theorem dX5_begin_60 : decode cX5_begin 60 = .ok (.getfield 11, 3) := by decide +kernel
theorem dX5_begin_63 : decode cX5_begin 63 = .ok (.iload 4, 2) := by decide +kernel
theorem dX5_begin_65 : decode cX5_begin 65 = .ok (.aaload, 1) := by decide +kernel
theorem dX5_begin_66 : decode cX5_begin 66 = .ok (.iload 5, 2) := by decide +kernel
theorem dX5_begin_68 : decode cX5_begin 68 = .ok (.iconst 1, 1) := by decide +kernel
theorem dX5_begin_69 : decode cX5_begin 69 = .ok (.iastore, 1) := by decide +kernel
theorem dX5_begin_70 : decode cX5_begin 70 = .ok (.iinc 4 1, 3) := by decide +kernel
theorem dX5_begin_73 : decode cX5_begin 73 = .ok (.goto (-70), 3) := by decide +kernel
theorem dX5_begin_76 : decode cX5_begin 76 = .ok (.return_, 1) := by decide +kernel
theorem dX5_addColumn_0 : decode cX5_addColumn 0 = .ok (.iconst 0, 1) := by decide +kernel
theorem dX5_addColumn_1 : decode cX5_addColumn 1 = .ok (.istore_n 3, 1) := by decide +kernel
theorem dX5_addColumn_2 : decode cX5_addColumn 2 = .ok (.iload_n 3, 1) := by decide +kernel
theorem dX5_addColumn_3 : decode cX5_addColumn 3 = .ok (.aload_n 1, 1) := by decide +kernel
theorem dX5_addColumn_4 : decode cX5_addColumn 4 = .ok (.getfield 31, 3) := by decide +kernel
theorem dX5_addColumn_7 : decode cX5_addColumn 7 = .ok (.if_icmp .ge 83, 3) := by decide +kernel
theorem dX5_addColumn_10 : decode cX5_addColumn 10 = .ok (.aload_n 0, 1) := by decide +kernel
theorem dX5_addColumn_11 : decode cX5_addColumn 11 = .ok (.getfield 16, 3) := by decide +kernel
theorem dX5_addColumn_14 : decode cX5_addColumn 14 = .ok (.iload_n 3, 1) := by decide +kernel
theorem dX5_addColumn_15 : decode cX5_addColumn 15 = .ok (.aaload, 1) := by decide +kernel
theorem dX5_addColumn_16 : decode cX5_addColumn 16 = .ok (.iconst 0, 1) := by decide +kernel
theorem dX5_addColumn_17 : decode cX5_addColumn 17 = .ok (.invokestatic 19, 3) := by decide +kernel
theorem dX5_addColumn_20 : decode cX5_addColumn 20 = .ok (.iconst 0, 1) := by decide +kernel
theorem dX5_addColumn_21 : decode cX5_addColumn 21 = .ok (.istore 4, 2) := by decide +kernel
theorem dX5_addColumn_23 : decode cX5_addColumn 23 = .ok (.iload 4, 2) := by decide +kernel
theorem dX5_addColumn_25 : decode cX5_addColumn 25 = .ok (.aload_n 1, 1) := by decide +kernel
theorem dX5_addColumn_26 : decode cX5_addColumn 26 = .ok (.getfield 31, 3) := by decide +kernel
theorem dX5_addColumn_29 : decode cX5_addColumn 29 = .ok (.if_icmp .ge 55, 3) := by decide +kernel
theorem dX5_addColumn_32 : decode cX5_addColumn 32 = .ok (.aload_n 1, 1) := by decide +kernel
theorem dX5_addColumn_33 : decode cX5_addColumn 33 = .ok (.getfield 65, 3) := by decide +kernel
theorem dX5_addColumn_36 : decode cX5_addColumn 36 = .ok (.iload 4, 2) := by decide +kernel
theorem dX5_addColumn_38 : decode cX5_addColumn 38 = .ok (.aaload, 1) := by decide +kernel
theorem dX5_addColumn_39 : decode cX5_addColumn 39 = .ok (.iload_n 3, 1) := by decide +kernel
theorem dX5_addColumn_40 : decode cX5_addColumn 40 = .ok (.iaload, 1) := by decide +kernel
theorem dX5_addColumn_41 : decode cX5_addColumn 41 = .ok (.aload_n 1, 1) := by decide +kernel
theorem dX5_addColumn_42 : decode cX5_addColumn 42 = .ok (.getfield 62, 3) := by decide +kernel
theorem dX5_addColumn_45 : decode cX5_addColumn 45 = .ok (.iload_n 2, 1) := by decide +kernel
theorem dX5_addColumn_46 : decode cX5_addColumn 46 = .ok (.aaload, 1) := by decide +kernel
theorem dX5_addColumn_47 : decode cX5_addColumn 47 = .ok (.iload_n 3, 1) := by decide +kernel
theorem dX5_addColumn_48 : decode cX5_addColumn 48 = .ok (.iaload, 1) := by decide +kernel
theorem dX5_addColumn_49 : decode cX5_addColumn 49 = .ok (.iadd, 1) := by decide +kernel
theorem dX5_addColumn_50 : decode cX5_addColumn 50 = .ok (.istore 5, 2) := by decide +kernel
theorem dX5_addColumn_52 : decode cX5_addColumn 52 = .ok (.aload_n 0, 1) := by decide +kernel
theorem dX5_addColumn_53 : decode cX5_addColumn 53 = .ok (.getfield 11, 3) := by decide +kernel
theorem dX5_addColumn_56 : decode cX5_addColumn 56 = .ok (.iload 4, 2) := by decide +kernel
theorem dX5_addColumn_58 : decode cX5_addColumn 58 = .ok (.aaload, 1) := by decide +kernel
theorem dX5_addColumn_59 : decode cX5_addColumn 59 = .ok (.aload_n 1, 1) := by decide +kernel
theorem dX5_addColumn_60 : decode cX5_addColumn 60 = .ok (.getfield 50, 3) := by decide +kernel
theorem dX5_addColumn_63 : decode cX5_addColumn 63 = .ok (.iload_n 2, 1) := by decide +kernel
theorem dX5_addColumn_64 : decode cX5_addColumn 64 = .ok (.iconst 1, 1) := by decide +kernel
theorem dX5_addColumn_65 : decode cX5_addColumn 65 = .ok (.isub, 1) := by decide +kernel
theorem dX5_addColumn_66 : decode cX5_addColumn 66 = .ok (.iaload, 1) := by decide +kernel
theorem dX5_addColumn_67 : decode cX5_addColumn 67 = .ok (.iload 5, 2) := by decide +kernel
theorem dX5_addColumn_69 : decode cX5_addColumn 69 = .ok (.aload_n 0, 1) := by decide +kernel
theorem dX5_addColumn_70 : decode cX5_addColumn 70 = .ok (.getfield 16, 3) := by decide +kernel
theorem dX5_addColumn_73 : decode cX5_addColumn 73 = .ok (.iload_n 3, 1) := by decide +kernel
theorem dX5_addColumn_74 : decode cX5_addColumn 74 = .ok (.aaload, 1) := by decide +kernel
theorem dX5_addColumn_75 : decode cX5_addColumn 75 = .ok (.invokestatic 58, 3) := by decide +kernel
theorem dX5_addColumn_78 : decode cX5_addColumn 78 = .ok (.iinc 4 1, 3) := by decide +kernel
theorem dX5_addColumn_81 : decode cX5_addColumn 81 = .ok (.goto (-58), 3) := by decide +kernel
theorem dX5_addColumn_84 : decode cX5_addColumn 84 = .ok (.iinc 3 1, 3) := by decide +kernel
theorem dX5_addColumn_87 : decode cX5_addColumn 87 = .ok (.goto (-85), 3) := by decide +kernel
theorem dX5_addColumn_90 : decode cX5_addColumn 90 = .ok (.aload_n 0, 1) := by decide +kernel
theorem dX5_addColumn_91 : decode cX5_addColumn 91 = .ok (.getfield 11, 3) := by decide +kernel
theorem dX5_addColumn_94 : decode cX5_addColumn 94 = .ok (.astore_n 3, 1) := by decide +kernel
theorem dX5_addColumn_95 : decode cX5_addColumn 95 = .ok (.aload_n 0, 1) := by decide +kernel
theorem dX5_addColumn_96 : decode cX5_addColumn 96 = .ok (.aload_n 0, 1) := by decide +kernel
theorem dX5_addColumn_97 : decode cX5_addColumn 97 = .ok (.getfield 16, 3) := by decide +kernel
theorem dX5_addColumn_100 : decode cX5_addColumn 100 = .ok (.putfield 11, 3) := by decide +kernel
theorem dX5_addColumn_103 : decode cX5_addColumn 103 = .ok (.aload_n 0, 1) := by decide +kernel
theorem dX5_addColumn_104 : decode cX5_addColumn 104 = .ok (.aload_n 3, 1) := by decide +kernel
theorem dX5_addColumn_105 : decode cX5_addColumn 105 = .ok (.putfield 16, 3) := by decide +kernel
theorem dX5_addColumn_108 : decode cX5_addColumn 108 = .ok (.return_, 1) := by decide +kernel
theorem dX5_addShifted_0 : decode cX5_addShifted 0 = .ok (.iconst 0, 1) := by decide +kernel
theorem dX5_addShifted_1 : decode cX5_addShifted 1 = .ok (.istore 4, 2) := by decide +kernel
theorem dX5_addShifted_3 : decode cX5_addShifted 3 = .ok (.iload 4, 2) := by decide +kernel
theorem dX5_addShifted_5 : decode cX5_addShifted 5 = .ok (.iload_n 1, 1) := by decide +kernel
theorem dX5_addShifted_6 : decode cX5_addShifted 6 = .ok (.if_icmp .gt 38, 3) := by decide +kernel
theorem dX5_addShifted_9 : decode cX5_addShifted 9 = .ok (.iload 4, 2) := by decide +kernel
theorem dX5_addShifted_11 : decode cX5_addShifted 11 = .ok (.aload_n 0, 1) := by decide +kernel
theorem dX5_addShifted_12 : decode cX5_addShifted 12 = .ok (.arraylength, 1) := by decide +kernel
theorem dX5_addShifted_13 : decode cX5_addShifted 13 = .ok (.if_icmp .ge 31, 3) := by decide +kernel
theorem dX5_addShifted_16 : decode cX5_addShifted 16 = .ok (.iload 4, 2) := by decide +kernel
theorem dX5_addShifted_18 : decode cX5_addShifted 18 = .ok (.iload_n 2, 1) := by decide +kernel
theorem dX5_addShifted_19 : decode cX5_addShifted 19 = .ok (.iadd, 1) := by decide +kernel
theorem dX5_addShifted_20 : decode cX5_addShifted 20 = .ok (.aload_n 3, 1) := by decide +kernel
theorem dX5_addShifted_21 : decode cX5_addShifted 21 = .ok (.arraylength, 1) := by decide +kernel
theorem dX5_addShifted_22 : decode cX5_addShifted 22 = .ok (.if_icmp .ge 22, 3) := by decide +kernel
theorem dX5_addShifted_25 : decode cX5_addShifted 25 = .ok (.aload_n 3, 1) := by decide +kernel
theorem dX5_addShifted_26 : decode cX5_addShifted 26 = .ok (.iload 4, 2) := by decide +kernel
theorem dX5_addShifted_28 : decode cX5_addShifted 28 = .ok (.iload_n 2, 1) := by decide +kernel
theorem dX5_addShifted_29 : decode cX5_addShifted 29 = .ok (.iadd, 1) := by decide +kernel
theorem dX5_addShifted_30 : decode cX5_addShifted 30 = .ok (.dup2, 1) := by decide +kernel
theorem dX5_addShifted_31 : decode cX5_addShifted 31 = .ok (.iaload, 1) := by decide +kernel
theorem dX5_addShifted_32 : decode cX5_addShifted 32 = .ok (.aload_n 0, 1) := by decide +kernel
theorem dX5_addShifted_33 : decode cX5_addShifted 33 = .ok (.iload 4, 2) := by decide +kernel
theorem dX5_addShifted_35 : decode cX5_addShifted 35 = .ok (.iaload, 1) := by decide +kernel
theorem dX5_addShifted_36 : decode cX5_addShifted 36 = .ok (.iadd, 1) := by decide +kernel
theorem dX5_addShifted_37 : decode cX5_addShifted 37 = .ok (.iastore, 1) := by decide +kernel
theorem dX5_addShifted_38 : decode cX5_addShifted 38 = .ok (.iinc 4 1, 3) := by decide +kernel
theorem dX5_addShifted_41 : decode cX5_addShifted 41 = .ok (.goto (-38), 3) := by decide +kernel
theorem dX5_addShifted_44 : decode cX5_addShifted 44 = .ok (.return_, 1) := by decide +kernel
theorem dX6_init_0 : decode cX6_init 0 = .ok (.aload_n 0, 1) := by decide +kernel
theorem dX6_init_1 : decode cX6_init 1 = .ok (.invokespecial 3, 3) := by decide +kernel
theorem dX6_init_4 : decode cX6_init 4 = .ok (.aload_n 0, 1) := by decide +kernel
theorem dX6_init_5 : decode cX6_init 5 = .ok (.bipush 60, 2) := by decide +kernel
theorem dX6_init_7 : decode cX6_init 7 = .ok (.newarray .char, 2) := by decide +kernel
theorem dX6_init_9 : decode cX6_init 9 = .ok (.putfield 9, 3) := by decide +kernel
theorem dX6_init_12 : decode cX6_init 12 = .ok (.aload_n 0, 1) := by decide +kernel
theorem dX6_init_13 : decode cX6_init 13 = .ok (.iconst 0, 1) := by decide +kernel
theorem dX6_init_14 : decode cX6_init 14 = .ok (.putfield 15, 3) := by decide +kernel
theorem dX6_init_17 : decode cX6_init 17 = .ok (.aload_n 0, 1) := by decide +kernel
theorem dX6_init_18 : decode cX6_init 18 = .ok (.iconst 0, 1) := by decide +kernel
theorem dX6_init_19 : decode cX6_init 19 = .ok (.putfield 19, 3) := by decide +kernel
theorem dX6_init_22 : decode cX6_init 22 = .ok (.aload_n 0, 1) := by decide +kernel
theorem dX6_init_23 : decode cX6_init 23 = .ok (.iconst 0, 1) := by decide +kernel
theorem dX6_init_24 : decode cX6_init 24 = .ok (.putfield 22, 3) := by decide +kernel
theorem dX6_init_27 : decode cX6_init 27 = .ok (.aload_n 0, 1) := by decide +kernel
theorem dX6_init_28 : decode cX6_init 28 = .ok (.lconst 0, 1) := by decide +kernel
theorem dX6_init_29 : decode cX6_init 29 = .ok (.putfield 25, 3) := by decide +kernel
theorem dX6_init_32 : decode cX6_init 32 = .ok (.return_, 1) := by decide +kernel
theorem dX6_append_0 : decode cX6_append 0 = .ok (.aload_n 0, 1) := by decide +kernel
theorem dX6_append_1 : decode cX6_append 1 = .ok (.getfield 15, 3) := by decide +kernel
theorem dX6_append_4 : decode cX6_append 4 = .ok (.bipush 60, 2) := by decide +kernel
theorem dX6_append_6 : decode cX6_append 6 = .ok (.if_icmp .lt 5, 3) := by decide +kernel
theorem dX6_append_9 : decode cX6_append 9 = .ok (.iconst 0, 1) := by decide +kernel
theorem dX6_append_10 : decode cX6_append 10 = .ok (.ireturn, 1) := by decide +kernel
theorem dX6_append_11 : decode cX6_append 11 = .ok (.aload_n 0, 1) := by decide +kernel
theorem dX6_append_12 : decode cX6_append 12 = .ok (.getfield 9, 3) := by decide +kernel
theorem dX6_append_15 : decode cX6_append 15 = .ok (.aload_n 0, 1) := by decide +kernel
theorem dX6_append_16 : decode cX6_append 16 = .ok (.getfield 15, 3) := by decide +kernel
theorem dX6_append_19 : decode cX6_append 19 = .ok (.iload_n 1, 1) := by decide +kernel
theorem dX6_append_20 : decode cX6_append 20 = .ok (.castore, 1) := by decide +kernel
theorem dX6_append_21 : decode cX6_append 21 = .ok (.aload_n 0, 1) := by decide +kernel
theorem dX6_append_22 : decode cX6_append 22 = .ok (.dup, 1) := by decide +kernel
theorem dX6_append_23 : decode cX6_append 23 = .ok (.getfield 15, 3) := by decide +kernel
theorem dX6_append_26 : decode cX6_append 26 = .ok (.iconst 1, 1) := by decide +kernel
theorem dX6_append_27 : decode cX6_append 27 = .ok (.iadd, 1) := by decide +kernel
theorem dX6_append_28 : decode cX6_append 28 = .ok (.putfield 15, 3) := by decide +kernel
theorem dX6_append_31 : decode cX6_append 31 = .ok (.iconst 1, 1) := by decide +kernel
theorem dX6_append_32 : decode cX6_append 32 = .ok (.ireturn, 1) := by decide +kernel
theorem dX6_firstFault_0 : decode cX6_firstFault 0 = .ok (.aload_n 0, 1) := by decide +kernel
theorem dX6_firstFault_1 : decode cX6_firstFault 1 = .ok (.iconst 1, 1) := by decide +kernel
theorem dX6_firstFault_2 : decode cX6_firstFault 2 = .ok (.putfield 19, 3) := by decide +kernel
theorem dX6_firstFault_5 : decode cX6_firstFault 5 = .ok (.aload_n 0, 1) := by decide +kernel
theorem dX6_firstFault_6 : decode cX6_firstFault 6 = .ok (.iconst 0, 1) := by decide +kernel
theorem dX6_firstFault_7 : decode cX6_firstFault 7 = .ok (.putfield 22, 3) := by decide +kernel
theorem dX6_firstFault_10 : decode cX6_firstFault 10 = .ok (.aload_n 0, 1) := by decide +kernel
theorem dX6_firstFault_11 : decode cX6_firstFault 11 = .ok (.lconst 0, 1) := by decide +kernel
theorem dX6_firstFault_12 : decode cX6_firstFault 12 = .ok (.putfield 25, 3) := by decide +kernel
theorem dX6_firstFault_15 : decode cX6_firstFault 15 = .ok (.iconst 0, 1) := by decide +kernel
theorem dX6_firstFault_16 : decode cX6_firstFault 16 = .ok (.istore_n 1, 1) := by decide +kernel
theorem dX6_firstFault_17 : decode cX6_firstFault 17 = .ok (.iconst 0, 1) := by decide +kernel
theorem dX6_firstFault_18 : decode cX6_firstFault 18 = .ok (.istore_n 2, 1) := by decide +kernel
theorem dX6_firstFault_19 : decode cX6_firstFault 19 = .ok (.iload_n 2, 1) := by decide +kernel
theorem dX6_firstFault_20 : decode cX6_firstFault 20 = .ok (.aload_n 0, 1) := by decide +kernel
theorem dX6_firstFault_21 : decode cX6_firstFault 21 = .ok (.getfield 15, 3) := by decide +kernel
theorem dX6_firstFault_24 : decode cX6_firstFault 24 = .ok (.if_icmp .ge 112, 3) := by decide +kernel
theorem dX6_firstFault_27 : decode cX6_firstFault 27 = .ok (.aload_n 0, 1) := by decide +kernel
theorem dX6_firstFault_28 : decode cX6_firstFault 28 = .ok (.getfield 9, 3) := by decide +kernel
theorem dX6_firstFault_31 : decode cX6_firstFault 31 = .ok (.iload_n 2, 1) := by decide +kernel
theorem dX6_firstFault_32 : decode cX6_firstFault 32 = .ok (.caload, 1) := by decide +kernel
theorem dX6_firstFault_33 : decode cX6_firstFault 33 = .ok (.istore_n 3, 1) := by decide +kernel
theorem dX6_firstFault_34 : decode cX6_firstFault 34 = .ok (.iload_n 3, 1) := by decide +kernel
theorem dX6_firstFault_35 : decode cX6_firstFault 35 = .ok (.bipush 44, 2) := by decide +kernel
theorem dX6_firstFault_37 : decode cX6_firstFault 37 = .ok (.if_icmp .ne 40, 3) := by decide +kernel
theorem dX6_firstFault_40 : decode cX6_firstFault 40 = .ok (.aload_n 0, 1) := by decide +kernel
theorem dX6_firstFault_41 : decode cX6_firstFault 41 = .ok (.iload_n 1, 1) := by decide +kernel
theorem dX6_firstFault_42 : decode cX6_firstFault 42 = .ok (.invokevirtual 29, 3) := by decide +kernel
theorem dX6_firstFault_45 : decode cX6_firstFault 45 = .ok (.ifCond .eq 32, 3) := by decide +kernel
theorem dX6_firstFault_48 : decode cX6_firstFault 48 = .ok (.aload_n 0, 1) := by decide +kernel
theorem dX6_firstFault_49 : decode cX6_firstFault 49 = .ok (.getfield 19, 3) := by decide +kernel
theorem dX6_firstFault_52 : decode cX6_firstFault 52 = .ok (.bipush 10, 2) := by decide +kernel
theorem dX6_firstFault_54 : decode cX6_firstFault 54 = .ok (.if_icmp .ge 23, 3) := by decide +kernel
theorem dX6_firstFault_57 : decode cX6_firstFault 57 = .ok (.aload_n 0, 1) := by decide +kernel
theorem dX6_firstFault_58 : decode cX6_firstFault 58 = .ok (.iload_n 1, 1) := by decide +kernel
theorem dX6_firstFault_59 : decode cX6_firstFault 59 = .ok (.putfield 22, 3) := by decide +kernel
theorem dX6_firstFault_62 : decode cX6_firstFault 62 = .ok (.aload_n 0, 1) := by decide +kernel
theorem dX6_firstFault_63 : decode cX6_firstFault 63 = .ok (.dup, 1) := by decide +kernel
theorem dX6_firstFault_64 : decode cX6_firstFault 64 = .ok (.getfield 19, 3) := by decide +kernel
theorem dX6_firstFault_67 : decode cX6_firstFault 67 = .ok (.iconst 1, 1) := by decide +kernel
theorem dX6_firstFault_68 : decode cX6_firstFault 68 = .ok (.iadd, 1) := by decide +kernel
theorem dX6_firstFault_69 : decode cX6_firstFault 69 = .ok (.putfield 19, 3) := by decide +kernel
theorem dX6_firstFault_72 : decode cX6_firstFault 72 = .ok (.iconst 0, 1) := by decide +kernel
theorem dX6_firstFault_73 : decode cX6_firstFault 73 = .ok (.istore_n 1, 1) := by decide +kernel
theorem dX6_firstFault_74 : decode cX6_firstFault 74 = .ok (.goto 56, 3) := by decide +kernel
theorem dX6_firstFault_77 : decode cX6_firstFault 77 = .ok (.iload_n 3, 1) := by decide +kernel
theorem dX6_firstFault_78 : decode cX6_firstFault 78 = .ok (.bipush 43, 2) := by decide +kernel
theorem dX6_firstFault_80 : decode cX6_firstFault 80 = .ok (.if_icmp .eq 9, 3) := by decide +kernel
theorem dX6_firstFault_83 : decode cX6_firstFault 83 = .ok (.iload_n 3, 1) := by decide +kernel
theorem dX6_firstFault_84 : decode cX6_firstFault 84 = .ok (.bipush 45, 2) := by decide +kernel
theorem dX6_firstFault_86 : decode cX6_firstFault 86 = .ok (.if_icmp .ne 42, 3) := by decide +kernel
theorem dX6_firstFault_89 : decode cX6_firstFault 89 = .ok (.iload_n 1, 1) := by decide +kernel
theorem dX6_firstFault_90 : decode cX6_firstFault 90 = .ok (.aload_n 0, 1) := by decide +kernel
theorem dX6_firstFault_91 : decode cX6_firstFault 91 = .ok (.invokevirtual 33, 3) := by decide +kernel
theorem dX6_firstFault_94 : decode cX6_firstFault 94 = .ok (.if_icmp .ge 34, 3) := by decide +kernel
theorem dX6_firstFault_97 : decode cX6_firstFault 97 = .ok (.iload_n 3, 1) := by decide +kernel
theorem dX6_firstFault_98 : decode cX6_firstFault 98 = .ok (.bipush 43, 2) := by decide +kernel
theorem dX6_firstFault_100 : decode cX6_firstFault 100 = .ok (.if_icmp .ne 22, 3) := by decide +kernel
theorem dX6_firstFault_103 : decode cX6_firstFault 103 = .ok (.aload_n 0, 1) := by decide +kernel
theorem dX6_firstFault_104 : decode cX6_firstFault 104 = .ok (.dup, 1) := by decide +kernel
theorem dX6_firstFault_105 : decode cX6_firstFault 105 = .ok (.getfield 25, 3) := by decide +kernel
theorem dX6_firstFault_108 : decode cX6_firstFault 108 = .ok (.iload_n 1, 1) := by decide +kernel
theorem dX6_firstFault_109 : decode cX6_firstFault 109 = .ok (.aload_n 0, 1) := by decide +kernel
theorem dX6_firstFault_110 : decode cX6_firstFault 110 = .ok (.getfield 19, 3) := by decide +kernel
theorem dX6_firstFault_113 : decode cX6_firstFault 113 = .ok (.iconst 1, 1) := by decide +kernel
theorem dX6_firstFault_114 : decode cX6_firstFault 114 = .ok (.isub, 1) := by decide +kernel
theorem dX6_firstFault_115 : decode cX6_firstFault 115 = .ok (.invokestatic 37, 3) := by decide +kernel
theorem dX6_firstFault_118 : decode cX6_firstFault 118 = .ok (.lor, 1) := by decide +kernel
theorem dX6_firstFault_119 : decode cX6_firstFault 119 = .ok (.putfield 25, 3) := by decide +kernel
theorem dX6_firstFault_122 : decode cX6_firstFault 122 = .ok (.iinc 1 1, 3) := by decide +kernel
theorem dX6_firstFault_125 : decode cX6_firstFault 125 = .ok (.goto 5, 3) := by decide +kernel
theorem dX6_firstFault_128 : decode cX6_firstFault 128 = .ok (.iload_n 2, 1) := by decide +kernel
theorem dX6_firstFault_129 : decode cX6_firstFault 129 = .ok (.ireturn, 1) := by decide +kernel
theorem dX6_firstFault_130 : decode cX6_firstFault 130 = .ok (.iinc 2 1, 3) := by decide +kernel
theorem dX6_firstFault_133 : decode cX6_firstFault 133 = .ok (.goto (-114), 3) := by decide +kernel
theorem dX6_firstFault_136 : decode cX6_firstFault 136 = .ok (.aload_n 0, 1) := by decide +kernel
theorem dX6_firstFault_137 : decode cX6_firstFault 137 = .ok (.iload_n 1, 1) := by decide +kernel
theorem dX6_firstFault_138 : decode cX6_firstFault 138 = .ok (.invokevirtual 29, 3) := by decide +kernel
theorem dX6_firstFault_141 : decode cX6_firstFault 141 = .ok (.ifCond .ne 8, 3) := by decide +kernel
theorem dX6_firstFault_144 : decode cX6_firstFault 144 = .ok (.aload_n 0, 1) := by decide +kernel
theorem dX6_firstFault_145 : decode cX6_firstFault 145 = .ok (.getfield 15, 3) := by decide +kernel
theorem dX6_firstFault_148 : decode cX6_firstFault 148 = .ok (.ireturn, 1) := by decide +kernel
theorem dX6_firstFault_149 : decode cX6_firstFault 149 = .ok (.aload_n 0, 1) := by decide +kernel
theorem dX6_firstFault_150 : decode cX6_firstFault 150 = .ok (.iload_n 1, 1) := by decide +kernel
theorem dX6_firstFault_151 : decode cX6_firstFault 151 = .ok (.putfield 22, 3) := by decide +kernel
theorem dX6_firstFault_154 : decode cX6_firstFault 154 = .ok (.iconst (-1), 1) := by decide +kernel
theorem dX6_firstFault_155 : decode cX6_firstFault 155 = .ok (.ireturn, 1) := by decide +kernel
theorem dX6_isWhole_0 : decode cX6_isWhole 0 = .ok (.aload_n 0, 1) := by decide +kernel
theorem dX6_isWhole_1 : decode cX6_isWhole 1 = .ok (.getfield 19, 3) := by decide +kernel
theorem dX6_isWhole_4 : decode cX6_isWhole 4 = .ok (.iconst 1, 1) := by decide +kernel
theorem dX6_isWhole_5 : decode cX6_isWhole 5 = .ok (.if_icmp .ne 15, 3) := by decide +kernel
theorem dX6_isWhole_8 : decode cX6_isWhole 8 = .ok (.iload_n 1, 1) := by decide +kernel
theorem dX6_isWhole_9 : decode cX6_isWhole 9 = .ok (.ifCond .le 7, 3) := by decide +kernel
theorem dX6_isWhole_12 : decode cX6_isWhole 12 = .ok (.iconst 1, 1) := by decide +kernel
theorem dX6_isWhole_13 : decode cX6_isWhole 13 = .ok (.goto 20, 3) := by decide +kernel
theorem dX6_isWhole_16 : decode cX6_isWhole 16 = .ok (.iconst 0, 1) := by decide +kernel
theorem dX6_isWhole_17 : decode cX6_isWhole 17 = .ok (.goto 16, 3) := by decide +kernel
theorem dX6_isWhole_20 : decode cX6_isWhole 20 = .ok (.iload_n 1, 1) := by decide +kernel
theorem dX6_isWhole_21 : decode cX6_isWhole 21 = .ok (.aload_n 0, 1) := by decide +kernel
theorem dX6_isWhole_22 : decode cX6_isWhole 22 = .ok (.getfield 22, 3) := by decide +kernel
theorem dX6_isWhole_25 : decode cX6_isWhole 25 = .ok (.if_icmp .ne 7, 3) := by decide +kernel
theorem dX6_isWhole_28 : decode cX6_isWhole 28 = .ok (.iconst 1, 1) := by decide +kernel
theorem dX6_isWhole_29 : decode cX6_isWhole 29 = .ok (.goto 4, 3) := by decide +kernel
theorem dX6_isWhole_32 : decode cX6_isWhole 32 = .ok (.iconst 0, 1) := by decide +kernel
theorem dX6_isWhole_33 : decode cX6_isWhole 33 = .ok (.ireturn, 1) := by decide +kernel
theorem dX6_rowsAllowed_0 : decode cX6_rowsAllowed 0 = .ok (.aload_n 0, 1) := by decide +kernel
theorem dX6_rowsAllowed_1 : decode cX6_rowsAllowed 1 = .ok (.getfield 19, 3) := by decide +kernel
theorem dX6_rowsAllowed_4 : decode cX6_rowsAllowed 4 = .ok (.iconst 1, 1) := by decide +kernel
theorem dX6_rowsAllowed_5 : decode cX6_rowsAllowed 5 = .ok (.if_icmp .ne 7, 3) := by decide +kernel
theorem dX6_rowsAllowed_8 : decode cX6_rowsAllowed 8 = .ok (.iconst 3, 1) := by decide +kernel
theorem dX6_rowsAllowed_9 : decode cX6_rowsAllowed 9 = .ok (.goto 7, 3) := by decide +kernel
theorem dX6_rowsAllowed_12 : decode cX6_rowsAllowed 12 = .ok (.aload_n 0, 1) := by decide +kernel
theorem dX6_rowsAllowed_13 : decode cX6_rowsAllowed 13 = .ok (.getfield 22, 3) := by decide +kernel
theorem dX6_rowsAllowed_16 : decode cX6_rowsAllowed 16 = .ok (.ireturn, 1) := by decide +kernel
theorem dX7_init_0 : decode cX7_init 0 = .ok (.aload_n 0, 1) := by decide +kernel
theorem dX7_init_1 : decode cX7_init 1 = .ok (.invokespecial 3, 3) := by decide +kernel
theorem dX7_init_4 : decode cX7_init 4 = .ok (.aload_n 0, 1) := by decide +kernel
theorem dX7_init_5 : decode cX7_init 5 = .ok (.new 9, 3) := by decide +kernel
theorem dX7_init_8 : decode cX7_init 8 = .ok (.dup, 1) := by decide +kernel
theorem dX7_init_9 : decode cX7_init 9 = .ok (.invokespecial 11, 3) := by decide +kernel
theorem dX7_init_12 : decode cX7_init 12 = .ok (.putfield 12, 3) := by decide +kernel
theorem dX7_init_15 : decode cX7_init 15 = .ok (.aload_n 0, 1) := by decide +kernel
theorem dX7_init_16 : decode cX7_init 16 = .ok (.new 16, 3) := by decide +kernel
theorem dX7_init_19 : decode cX7_init 19 = .ok (.dup, 1) := by decide +kernel
theorem dX7_init_20 : decode cX7_init 20 = .ok (.invokespecial 18, 3) := by decide +kernel
theorem dX7_init_23 : decode cX7_init 23 = .ok (.putfield 19, 3) := by decide +kernel
theorem dX7_init_26 : decode cX7_init 26 = .ok (.aload_n 0, 1) := by decide +kernel
theorem dX7_init_27 : decode cX7_init 27 = .ok (.new 23, 3) := by decide +kernel
theorem dX7_init_30 : decode cX7_init 30 = .ok (.dup, 1) := by decide +kernel
theorem dX7_init_31 : decode cX7_init 31 = .ok (.invokespecial 25, 3) := by decide +kernel
theorem dX7_init_34 : decode cX7_init 34 = .ok (.putfield 26, 3) := by decide +kernel
theorem dX7_init_37 : decode cX7_init 37 = .ok (.aload_n 0, 1) := by decide +kernel
theorem dX7_init_38 : decode cX7_init 38 = .ok (.new 9, 3) := by decide +kernel
theorem dX7_init_41 : decode cX7_init 41 = .ok (.dup, 1) := by decide +kernel
theorem dX7_init_42 : decode cX7_init 42 = .ok (.invokespecial 11, 3) := by decide +kernel
theorem dX7_init_45 : decode cX7_init 45 = .ok (.putfield 30, 3) := by decide +kernel
theorem dX7_init_48 : decode cX7_init 48 = .ok (.aload_n 0, 1) := by decide +kernel
theorem dX7_init_49 : decode cX7_init 49 = .ok (.iconst 0, 1) := by decide +kernel
theorem dX7_init_50 : decode cX7_init 50 = .ok (.putfield 33, 3) := by decide +kernel
theorem dX7_init_53 : decode cX7_init 53 = .ok (.aload_n 0, 1) := by decide +kernel
theorem dX7_init_54 : decode cX7_init 54 = .ok (.new 37, 3) := by decide +kernel
theorem dX7_init_57 : decode cX7_init 57 = .ok (.dup, 1) := by decide +kernel
theorem dX7_init_58 : decode cX7_init 58 = .ok (.invokespecial 39, 3) := by decide +kernel
theorem dX7_init_61 : decode cX7_init 61 = .ok (.putfield 40, 3) := by decide +kernel
theorem dX7_init_64 : decode cX7_init 64 = .ok (.return_, 1) := by decide +kernel
theorem dX7_lay_0 : decode cX7_lay 0 = .ok (.iload_n 1, 1) := by decide +kernel
theorem dX7_lay_1 : decode cX7_lay 1 = .ok (.iconst 1, 1) := by decide +kernel
theorem dX7_lay_2 : decode cX7_lay 2 = .ok (.if_icmp .lt 19, 3) := by decide +kernel
theorem dX7_lay_5 : decode cX7_lay 5 = .ok (.iload_n 1, 1) := by decide +kernel
theorem dX7_lay_6 : decode cX7_lay 6 = .ok (.bipush 10, 2) := by decide +kernel
theorem dX7_lay_8 : decode cX7_lay 8 = .ok (.if_icmp .gt 13, 3) := by decide +kernel
theorem dX7_lay_11 : decode cX7_lay 11 = .ok (.iload_n 2, 1) := by decide +kernel
theorem dX7_lay_12 : decode cX7_lay 12 = .ok (.iconst 1, 1) := by decide +kernel
theorem dX7_lay_13 : decode cX7_lay 13 = .ok (.if_icmp .lt 8, 3) := by decide +kernel
theorem dX7_lay_16 : decode cX7_lay 16 = .ok (.iload_n 2, 1) := by decide +kernel
theorem dX7_lay_17 : decode cX7_lay 17 = .ok (.iconst 3, 1) := by decide +kernel
theorem dX7_lay_18 : decode cX7_lay 18 = .ok (.if_icmp .le 7, 3) := by decide +kernel
theorem dX7_lay_21 : decode cX7_lay 21 = .ok (.sipush (-1002), 3) := by decide +kernel
theorem dX7_lay_24 : decode cX7_lay 24 = .ok (.ireturn, 1) := by decide +kernel
theorem dX7_lay_25 : decode cX7_lay 25 = .ok (.aload_n 0, 1) := by decide +kernel
theorem dX7_lay_26 : decode cX7_lay 26 = .ok (.getfield 26, 3) := by decide +kernel
theorem dX7_lay_29 : decode cX7_lay 29 = .ok (.aload_n 0, 1) := by decide +kernel
theorem dX7_lay_30 : decode cX7_lay 30 = .ok (.getfield 12, 3) := by decide +kernel
theorem dX7_lay_33 : decode cX7_lay 33 = .ok (.invokevirtual 44, 3) := by decide +kernel
theorem dX7_lay_36 : decode cX7_lay 36 = .ok (.aload_n 0, 1) := by decide +kernel
theorem dX7_lay_37 : decode cX7_lay 37 = .ok (.getfield 12, 3) := by decide +kernel
theorem dX7_lay_40 : decode cX7_lay 40 = .ok (.iload_n 1, 1) := by decide +kernel
theorem dX7_lay_41 : decode cX7_lay 41 = .ok (.iload_n 2, 1) := by decide +kernel
theorem dX7_lay_42 : decode cX7_lay 42 = .ok (.iload_n 3, 1) := by decide +kernel
theorem dX7_lay_43 : decode cX7_lay 43 = .ok (.invokevirtual 48, 3) := by decide +kernel
theorem dX7_lay_46 : decode cX7_lay 46 = .ok (.aload_n 0, 1) := by decide +kernel
theorem dX7_lay_47 : decode cX7_lay 47 = .ok (.getfield 19, 3) := by decide +kernel
theorem dX7_lay_50 : decode cX7_lay 50 = .ok (.invokevirtual 52, 3) := by decide +kernel
theorem dX7_lay_53 : decode cX7_lay 53 = .ok (.iload_n 1, 1) := by decide +kernel
theorem dX7_lay_54 : decode cX7_lay 54 = .ok (.iload_n 2, 1) := by decide +kernel
theorem dX7_lay_55 : decode cX7_lay 55 = .ok (.imul, 1) := by decide +kernel
theorem dX7_lay_56 : decode cX7_lay 56 = .ok (.ireturn, 1) := by decide +kernel
theorem dX7_read_0 : decode cX7_read 0 = .ok (.aload_n 0, 1) := by decide +kernel
theorem dX7_read_1 : decode cX7_read 1 = .ok (.getfield 40, 3) := by decide +kernel
theorem dX7_read_4 : decode cX7_read 4 = .ok (.invokevirtual 55, 3) := by decide +kernel
theorem dX7_read_7 : decode cX7_read 7 = .ok (.istore_n 1, 1) := by decide +kernel
theorem dX7_read_8 : decode cX7_read 8 = .ok (.iload_n 1, 1) := by decide +kernel
theorem dX7_read_9 : decode cX7_read 9 = .ok (.iconst (-1), 1) := by decide +kernel
theorem dX7_read_10 : decode cX7_read 10 = .ok (.if_icmp .eq 9, 3) := by decide +kernel
theorem dX7_read_13 : decode cX7_read 13 = .ok (.sipush (-1100), 3) := by decide +kernel
theorem dX7_read_16 : decode cX7_read 16 = .ok (.iload_n 1, 1) := by decide +kernel
theorem dX7_read_17 : decode cX7_read 17 = .ok (.isub, 1) := by decide +kernel
theorem dX7_read_18 : decode cX7_read 18 = .ok (.ireturn, 1) := by decide +kernel
theorem dX7_read_19 : decode cX7_read 19 = .ok (.aload_n 0, 1) := by decide +kernel
theorem dX7_read_20 : decode cX7_read 20 = .ok (.getfield 26, 3) := by decide +kernel
theorem dX7_read_23 : decode cX7_read 23 = .ok (.aload_n 0, 1) := by decide +kernel
theorem dX7_read_24 : decode cX7_read 24 = .ok (.getfield 12, 3) := by decide +kernel
theorem dX7_read_27 : decode cX7_read 27 = .ok (.invokevirtual 44, 3) := by decide +kernel
theorem dX7_read_30 : decode cX7_read 30 = .ok (.aload_n 0, 1) := by decide +kernel
theorem dX7_read_31 : decode cX7_read 31 = .ok (.getfield 12, 3) := by decide +kernel
theorem dX7_read_34 : decode cX7_read 34 = .ok (.aload_n 0, 1) := by decide +kernel
theorem dX7_read_35 : decode cX7_read 35 = .ok (.getfield 40, 3) := by decide +kernel
theorem dX7_read_38 : decode cX7_read 38 = .ok (.getfield 59, 3) := by decide +kernel
theorem dX7_read_41 : decode cX7_read 41 = .ok (.aload_n 0, 1) := by decide +kernel
theorem dX7_read_42 : decode cX7_read 42 = .ok (.getfield 40, 3) := by decide +kernel
theorem dX7_read_45 : decode cX7_read 45 = .ok (.getfield 63, 3) := by decide +kernel
theorem dX7_read_48 : decode cX7_read 48 = .ok (.aload_n 0, 1) := by decide +kernel
theorem dX7_read_49 : decode cX7_read 49 = .ok (.getfield 12, 3) := by decide +kernel
theorem dX7_read_52 : decode cX7_read 52 = .ok (.getfield 66, 3) := by decide +kernel
theorem dX7_read_55 : decode cX7_read 55 = .ok (.invokevirtual 48, 3) := by decide +kernel
theorem dX7_read_58 : decode cX7_read 58 = .ok (.aload_n 0, 1) := by decide +kernel
theorem dX7_read_59 : decode cX7_read 59 = .ok (.getfield 12, 3) := by decide +kernel
theorem dX7_read_62 : decode cX7_read 62 = .ok (.aload_n 0, 1) := by decide +kernel
theorem dX7_read_63 : decode cX7_read 63 = .ok (.getfield 40, 3) := by decide +kernel
theorem dX7_read_66 : decode cX7_read 66 = .ok (.getfield 69, 3) := by decide +kernel
theorem dX7_read_69 : decode cX7_read 69 = .ok (.putfield 73, 3) := by decide +kernel
theorem dX7_read_72 : decode cX7_read 72 = .ok (.aload_n 0, 1) := by decide +kernel
theorem dX7_read_73 : decode cX7_read 73 = .ok (.getfield 19, 3) := by decide +kernel
theorem dX7_read_76 : decode cX7_read 76 = .ok (.invokevirtual 52, 3) := by decide +kernel
theorem dX7_read_79 : decode cX7_read 79 = .ok (.aload_n 0, 1) := by decide +kernel
theorem dX7_read_80 : decode cX7_read 80 = .ok (.getfield 40, 3) := by decide +kernel
theorem dX7_read_83 : decode cX7_read 83 = .ok (.getfield 59, 3) := by decide +kernel
theorem dX7_read_86 : decode cX7_read 86 = .ok (.aload_n 0, 1) := by decide +kernel
theorem dX7_read_87 : decode cX7_read 87 = .ok (.getfield 40, 3) := by decide +kernel
theorem dX7_read_90 : decode cX7_read 90 = .ok (.getfield 63, 3) := by decide +kernel
theorem dX7_read_93 : decode cX7_read 93 = .ok (.imul, 1) := by decide +kernel
theorem dX7_read_94 : decode cX7_read 94 = .ok (.ireturn, 1) := by decide +kernel
theorem dX7_close_0 : decode cX7_close 0 = .ok (.iload_n 1, 1) := by decide +kernel
theorem dX7_close_1 : decode cX7_close 1 = .ok (.aload_n 0, 1) := by decide +kernel
theorem dX7_close_2 : decode cX7_close 2 = .ok (.getfield 12, 3) := by decide +kernel
theorem dX7_close_5 : decode cX7_close 5 = .ok (.getfield 66, 3) := by decide +kernel
theorem dX7_close_8 : decode cX7_close 8 = .ok (.if_icmp .ne 7, 3) := by decide +kernel
theorem dX7_close_11 : decode cX7_close 11 = .ok (.sipush (-1005), 3) := by decide +kernel
theorem dX7_close_14 : decode cX7_close 14 = .ok (.ireturn, 1) := by decide +kernel
theorem dX7_close_15 : decode cX7_close 15 = .ok (.aload_n 0, 1) := by decide +kernel
theorem dX7_close_16 : decode cX7_close 16 = .ok (.getfield 26, 3) := by decide +kernel
theorem dX7_close_19 : decode cX7_close 19 = .ok (.aload_n 0, 1) := by decide +kernel
theorem dX7_close_20 : decode cX7_close 20 = .ok (.getfield 12, 3) := by decide +kernel
theorem dX7_close_23 : decode cX7_close 23 = .ok (.invokevirtual 44, 3) := by decide +kernel
theorem dX7_close_26 : decode cX7_close 26 = .ok (.aload_n 0, 1) := by decide +kernel
theorem dX7_close_27 : decode cX7_close 27 = .ok (.getfield 12, 3) := by decide +kernel
theorem dX7_close_30 : decode cX7_close 30 = .ok (.iload_n 1, 1) := by decide +kernel
theorem dX7_close_31 : decode cX7_close 31 = .ok (.putfield 66, 3) := by decide +kernel
theorem dX7_close_34 : decode cX7_close 34 = .ok (.aload_n 0, 1) := by decide +kernel
theorem dX7_close_35 : decode cX7_close 35 = .ok (.getfield 19, 3) := by decide +kernel
theorem dX7_close_38 : decode cX7_close 38 = .ok (.invokevirtual 52, 3) := by decide +kernel
theorem dX7_close_41 : decode cX7_close 41 = .ok (.aload_n 0, 1) := by decide +kernel
theorem dX7_close_42 : decode cX7_close 42 = .ok (.getfield 12, 3) := by decide +kernel
theorem dX7_close_45 : decode cX7_close 45 = .ok (.invokevirtual 74, 3) := by decide +kernel
theorem dX7_close_48 : decode cX7_close 48 = .ok (.ireturn, 1) := by decide +kernel
theorem dX7_setPull_0 : decode cX7_setPull 0 = .ok (.iload_n 2, 1) := by decide +kernel
theorem dX7_setPull_1 : decode cX7_setPull 1 = .ok (.bipush (-2), 2) := by decide +kernel
theorem dX7_setPull_3 : decode cX7_setPull 3 = .ok (.if_icmp .lt 8, 3) := by decide +kernel
theorem dX7_setPull_6 : decode cX7_setPull 6 = .ok (.iload_n 2, 1) := by decide +kernel
theorem dX7_setPull_7 : decode cX7_setPull 7 = .ok (.iconst 2, 1) := by decide +kernel
theorem dX7_setPull_8 : decode cX7_setPull 8 = .ok (.if_icmp .le 7, 3) := by decide +kernel
theorem dX7_setPull_11 : decode cX7_setPull 11 = .ok (.sipush (-1002), 3) := by decide +kernel
theorem dX7_setPull_14 : decode cX7_setPull 14 = .ok (.ireturn, 1) := by decide +kernel
theorem dX7_setPull_15 : decode cX7_setPull 15 = .ok (.iload_n 1, 1) := by decide +kernel
theorem dX7_setPull_16 : decode cX7_setPull 16 = .ok (.ifCond .eq 13, 3) := by decide +kernel
theorem dX7_setPull_19 : decode cX7_setPull 19 = .ok (.aload_n 0, 1) := by decide +kernel
theorem dX7_setPull_20 : decode cX7_setPull 20 = .ok (.getfield 12, 3) := by decide +kernel
theorem dX7_setPull_23 : decode cX7_setPull 23 = .ok (.getfield 77, 3) := by decide +kernel
theorem dX7_setPull_26 : decode cX7_setPull 26 = .ok (.goto 10, 3) := by decide +kernel
theorem dX7_setPull_29 : decode cX7_setPull 29 = .ok (.aload_n 0, 1) := by decide +kernel
theorem dX7_setPull_30 : decode cX7_setPull 30 = .ok (.getfield 12, 3) := by decide +kernel
theorem dX7_setPull_33 : decode cX7_setPull 33 = .ok (.getfield 80, 3) := by decide +kernel
theorem dX7_setPull_36 : decode cX7_setPull 36 = .ok (.istore_n 3, 1) := by decide +kernel
theorem dX7_setPull_37 : decode cX7_setPull 37 = .ok (.iload_n 2, 1) := by decide +kernel
theorem dX7_setPull_38 : decode cX7_setPull 38 = .ok (.iload_n 3, 1) := by decide +kernel
theorem dX7_setPull_39 : decode cX7_setPull 39 = .ok (.if_icmp .ne 7, 3) := by decide +kernel
theorem dX7_setPull_42 : decode cX7_setPull 42 = .ok (.sipush (-1005), 3) := by decide +kernel
theorem dX7_setPull_45 : decode cX7_setPull 45 = .ok (.ireturn, 1) := by decide +kernel
theorem dX7_setPull_46 : decode cX7_setPull 46 = .ok (.aload_n 0, 1) := by decide +kernel
theorem dX7_setPull_47 : decode cX7_setPull 47 = .ok (.getfield 26, 3) := by decide +kernel
theorem dX7_setPull_50 : decode cX7_setPull 50 = .ok (.aload_n 0, 1) := by decide +kernel
theorem dX7_setPull_51 : decode cX7_setPull 51 = .ok (.getfield 12, 3) := by decide +kernel
theorem dX7_setPull_54 : decode cX7_setPull 54 = .ok (.invokevirtual 44, 3) := by decide +kernel
theorem dX7_setPull_57 : decode cX7_setPull 57 = .ok (.iload_n 1, 1) := by decide +kernel
theorem dX7_setPull_58 : decode cX7_setPull 58 = .ok (.ifCond .eq 14, 3) := by decide +kernel
theorem dX7_setPull_61 : decode cX7_setPull 61 = .ok (.aload_n 0, 1) := by decide +kernel
theorem dX7_setPull_62 : decode cX7_setPull 62 = .ok (.getfield 12, 3) := by decide +kernel
theorem dX7_setPull_65 : decode cX7_setPull 65 = .ok (.iload_n 2, 1) := by decide +kernel
theorem dX7_setPull_66 : decode cX7_setPull 66 = .ok (.putfield 77, 3) := by decide +kernel
theorem dX7_setPull_69 : decode cX7_setPull 69 = .ok (.goto 11, 3) := by decide +kernel
theorem dX7_setPull_72 : decode cX7_setPull 72 = .ok (.aload_n 0, 1) := by decide +kernel
theorem dX7_setPull_73 : decode cX7_setPull 73 = .ok (.getfield 12, 3) := by decide +kernel
theorem dX7_setPull_76 : decode cX7_setPull 76 = .ok (.iload_n 2, 1) := by decide +kernel
theorem dX7_setPull_77 : decode cX7_setPull 77 = .ok (.putfield 80, 3) := by decide +kernel
theorem dX7_setPull_80 : decode cX7_setPull 80 = .ok (.aload_n 0, 1) := by decide +kernel
theorem dX7_setPull_81 : decode cX7_setPull 81 = .ok (.getfield 19, 3) := by decide +kernel
theorem dX7_setPull_84 : decode cX7_setPull 84 = .ok (.invokevirtual 52, 3) := by decide +kernel
theorem dX7_setPull_87 : decode cX7_setPull 87 = .ok (.iload_n 3, 1) := by decide +kernel
theorem dX7_setPull_88 : decode cX7_setPull 88 = .ok (.ireturn, 1) := by decide +kernel
theorem dX7_setField_0 : decode cX7_setField 0 = .ok (.aload_n 0, 1) := by decide +kernel
theorem dX7_setField_1 : decode cX7_setField 1 = .ok (.getfield 12, 3) := by decide +kernel
theorem dX7_setField_4 : decode cX7_setField 4 = .ok (.iload_n 1, 1) := by decide +kernel
theorem dX7_setField_5 : decode cX7_setField 5 = .ok (.iload_n 2, 1) := by decide +kernel
theorem dX7_setField_6 : decode cX7_setField 6 = .ok (.invokevirtual 83, 3) := by decide +kernel
theorem dX7_setField_9 : decode cX7_setField 9 = .ok (.ifCond .ne 7, 3) := by decide +kernel
theorem dX7_setField_12 : decode cX7_setField 12 = .ok (.sipush (-1001), 3) := by decide +kernel
theorem dX7_setField_15 : decode cX7_setField 15 = .ok (.ireturn, 1) := by decide +kernel
theorem dX7_setField_16 : decode cX7_setField 16 = .ok (.iload_n 3, 1) := by decide +kernel
theorem dX7_setField_17 : decode cX7_setField 17 = .ok (.bipush (-3), 2) := by decide +kernel
theorem dX7_setField_19 : decode cX7_setField 19 = .ok (.if_icmp .lt 8, 3) := by decide +kernel
theorem dX7_setField_22 : decode cX7_setField 22 = .ok (.iload_n 3, 1) := by decide +kernel
theorem dX7_setField_23 : decode cX7_setField 23 = .ok (.iconst 3, 1) := by decide +kernel
theorem dX7_setField_24 : decode cX7_setField 24 = .ok (.if_icmp .le 7, 3) := by decide +kernel
theorem dX7_setField_27 : decode cX7_setField 27 = .ok (.sipush (-1002), 3) := by decide +kernel
theorem dX7_setField_30 : decode cX7_setField 30 = .ok (.ireturn, 1) := by decide +kernel
theorem dX7_setField_31 : decode cX7_setField 31 = .ok (.aload_n 0, 1) := by decide +kernel
theorem dX7_setField_32 : decode cX7_setField 32 = .ok (.getfield 12, 3) := by decide +kernel
theorem dX7_setField_35 : decode cX7_setField 35 = .ok (.iload_n 1, 1) := by decide +kernel
theorem dX7_setField_36 : decode cX7_setField 36 = .ok (.iload_n 2, 1) := by decide +kernel
theorem dX7_setField_37 : decode cX7_setField 37 = .ok (.invokevirtual 87, 3) := by decide +kernel
theorem dX7_setField_40 : decode cX7_setField 40 = .ok (.istore 4, 2) := by decide +kernel
theorem dX7_setField_42 : decode cX7_setField 42 = .ok (.iload_n 3, 1) := by decide +kernel
theorem dX7_setField_43 : decode cX7_setField 43 = .ok (.iload 4, 2) := by decide +kernel
theorem dX7_setField_45 : decode cX7_setField 45 = .ok (.if_icmp .ne 7, 3) := by decide +kernel
theorem dX7_setField_48 : decode cX7_setField 48 = .ok (.sipush (-1005), 3) := by decide +kernel
theorem dX7_setField_51 : decode cX7_setField 51 = .ok (.ireturn, 1) := by decide +kernel
theorem dX7_setField_52 : decode cX7_setField 52 = .ok (.aload_n 0, 1) := by decide +kernel
theorem dX7_setField_53 : decode cX7_setField 53 = .ok (.getfield 26, 3) := by decide +kernel
theorem dX7_setField_56 : decode cX7_setField 56 = .ok (.aload_n 0, 1) := by decide +kernel
theorem dX7_setField_57 : decode cX7_setField 57 = .ok (.getfield 12, 3) := by decide +kernel
theorem dX7_setField_60 : decode cX7_setField 60 = .ok (.invokevirtual 44, 3) := by decide +kernel
theorem dX7_setField_63 : decode cX7_setField 63 = .ok (.aload_n 0, 1) := by decide +kernel
theorem dX7_setField_64 : decode cX7_setField 64 = .ok (.getfield 12, 3) := by decide +kernel
theorem dX7_setField_67 : decode cX7_setField 67 = .ok (.iload_n 1, 1) := by decide +kernel
theorem dX7_setField_68 : decode cX7_setField 68 = .ok (.iload_n 2, 1) := by decide +kernel
theorem dX7_setField_69 : decode cX7_setField 69 = .ok (.iload_n 3, 1) := by decide +kernel
theorem dX7_setField_70 : decode cX7_setField 70 = .ok (.invokevirtual 91, 3) := by decide +kernel
theorem dX7_setField_73 : decode cX7_setField 73 = .ok (.aload_n 0, 1) := by decide +kernel
theorem dX7_setField_74 : decode cX7_setField 74 = .ok (.getfield 19, 3) := by decide +kernel
theorem dX7_setField_77 : decode cX7_setField 77 = .ok (.invokevirtual 52, 3) := by decide +kernel
theorem dX7_setField_80 : decode cX7_setField 80 = .ok (.iload 4, 2) := by decide +kernel
theorem dX7_setField_82 : decode cX7_setField 82 = .ok (.ireturn, 1) := by decide +kernel
theorem dX7_turn_0 : decode cX7_turn 0 = .ok (.aload_n 0, 1) := by decide +kernel
theorem dX7_turn_1 : decode cX7_turn 1 = .ok (.getfield 12, 3) := by decide +kernel
theorem dX7_turn_4 : decode cX7_turn 4 = .ok (.iload_n 1, 1) := by decide +kernel
theorem dX7_turn_5 : decode cX7_turn 5 = .ok (.iload_n 2, 1) := by decide +kernel
theorem dX7_turn_6 : decode cX7_turn 6 = .ok (.invokevirtual 83, 3) := by decide +kernel
theorem dX7_turn_9 : decode cX7_turn 9 = .ok (.ifCond .ne 7, 3) := by decide +kernel
theorem dX7_turn_12 : decode cX7_turn 12 = .ok (.sipush (-1001), 3) := by decide +kernel
theorem dX7_turn_15 : decode cX7_turn 15 = .ok (.ireturn, 1) := by decide +kernel
theorem dX7_turn_16 : decode cX7_turn 16 = .ok (.aload_n 0, 1) := by decide +kernel
theorem dX7_turn_17 : decode cX7_turn 17 = .ok (.getfield 26, 3) := by decide +kernel
theorem dX7_turn_20 : decode cX7_turn 20 = .ok (.aload_n 0, 1) := by decide +kernel
theorem dX7_turn_21 : decode cX7_turn 21 = .ok (.getfield 12, 3) := by decide +kernel
theorem dX7_turn_24 : decode cX7_turn 24 = .ok (.invokevirtual 44, 3) := by decide +kernel
theorem dX7_turn_27 : decode cX7_turn 27 = .ok (.aload_n 0, 1) := by decide +kernel
theorem dX7_turn_28 : decode cX7_turn 28 = .ok (.getfield 12, 3) := by decide +kernel
theorem dX7_turn_31 : decode cX7_turn 31 = .ok (.iload_n 1, 1) := by decide +kernel
theorem dX7_turn_32 : decode cX7_turn 32 = .ok (.iload_n 2, 1) := by decide +kernel
theorem dX7_turn_33 : decode cX7_turn 33 = .ok (.invokestatic 95, 3) := by decide +kernel
theorem dX7_turn_36 : decode cX7_turn 36 = .ok (.invokevirtual 99, 3) := by decide +kernel
theorem dX7_turn_39 : decode cX7_turn 39 = .ok (.aload_n 0, 1) := by decide +kernel
theorem dX7_turn_40 : decode cX7_turn 40 = .ok (.getfield 12, 3) := by decide +kernel
theorem dX7_turn_43 : decode cX7_turn 43 = .ok (.invokevirtual 74, 3) := by decide +kernel
theorem dX7_turn_46 : decode cX7_turn 46 = .ok (.ireturn, 1) := by decide +kernel
theorem dX7_turnPatch_0 : decode cX7_turnPatch 0 = .ok (.aload_n 0, 1) := by decide +kernel
theorem dX7_turnPatch_1 : decode cX7_turnPatch 1 = .ok (.getfield 12, 3) := by decide +kernel
theorem dX7_turnPatch_4 : decode cX7_turnPatch 4 = .ok (.iload_n 1, 1) := by decide +kernel
theorem dX7_turnPatch_5 : decode cX7_turnPatch 5 = .ok (.iload_n 2, 1) := by decide +kernel
theorem dX7_turnPatch_6 : decode cX7_turnPatch 6 = .ok (.invokevirtual 83, 3) := by decide +kernel
theorem dX7_turnPatch_9 : decode cX7_turnPatch 9 = .ok (.ifCond .ne 7, 3) := by decide +kernel
theorem dX7_turnPatch_12 : decode cX7_turnPatch 12 = .ok (.sipush (-1001), 3) := by decide +kernel
theorem dX7_turnPatch_15 : decode cX7_turnPatch 15 = .ok (.ireturn, 1) := by decide +kernel
theorem dX7_turnPatch_16 : decode cX7_turnPatch 16 = .ok (.aload_n 0, 1) := by decide +kernel
theorem dX7_turnPatch_17 : decode cX7_turnPatch 17 = .ok (.getfield 26, 3) := by decide +kernel
theorem dX7_turnPatch_20 : decode cX7_turnPatch 20 = .ok (.aload_n 0, 1) := by decide +kernel
theorem dX7_turnPatch_21 : decode cX7_turnPatch 21 = .ok (.getfield 12, 3) := by decide +kernel
theorem dX7_turnPatch_24 : decode cX7_turnPatch 24 = .ok (.invokevirtual 44, 3) := by decide +kernel
theorem dX7_turnPatch_27 : decode cX7_turnPatch 27 = .ok (.aload_n 0, 1) := by decide +kernel
theorem dX7_turnPatch_28 : decode cX7_turnPatch 28 = .ok (.getfield 12, 3) := by decide +kernel
theorem dX7_turnPatch_31 : decode cX7_turnPatch 31 = .ok (.iload_n 1, 1) := by decide +kernel
theorem dX7_turnPatch_32 : decode cX7_turnPatch 32 = .ok (.iload_n 2, 1) := by decide +kernel
theorem dX7_turnPatch_33 : decode cX7_turnPatch 33 = .ok (.invokestatic 95, 3) := by decide +kernel
theorem dX7_turnPatch_36 : decode cX7_turnPatch 36 = .ok (.invokevirtual 103, 3) := by decide +kernel
theorem dX7_turnPatch_39 : decode cX7_turnPatch 39 = .ok (.lstore_n 3, 1) := by decide +kernel
theorem dX7_turnPatch_40 : decode cX7_turnPatch 40 = .ok (.aload_n 0, 1) := by decide +kernel
theorem dX7_turnPatch_41 : decode cX7_turnPatch 41 = .ok (.getfield 12, 3) := by decide +kernel
theorem dX7_turnPatch_44 : decode cX7_turnPatch 44 = .ok (.lload_n 3, 1) := by decide +kernel
theorem dX7_turnPatch_45 : decode cX7_turnPatch 45 = .ok (.invokevirtual 99, 3) := by decide +kernel
theorem dX7_turnPatch_48 : decode cX7_turnPatch 48 = .ok (.lload_n 3, 1) := by decide +kernel
theorem dX7_turnPatch_49 : decode cX7_turnPatch 49 = .ok (.invokestatic 107, 3) := by decide +kernel
theorem dX7_turnPatch_52 : decode cX7_turnPatch 52 = .ok (.ireturn, 1) := by decide +kernel
theorem dX7_sweep_0 : decode cX7_sweep 0 = .ok (.iload_n 1, 1) := by decide +kernel
theorem dX7_sweep_1 : decode cX7_sweep 1 = .ok (.iconst 1, 1) := by decide +kernel
theorem dX7_sweep_2 : decode cX7_sweep 2 = .ok (.if_icmp .lt 9, 3) := by decide +kernel
theorem dX7_sweep_5 : decode cX7_sweep 5 = .ok (.iload_n 1, 1) := by decide +kernel
theorem dX7_sweep_6 : decode cX7_sweep 6 = .ok (.bipush 50, 2) := by decide +kernel
theorem dX7_sweep_8 : decode cX7_sweep 8 = .ok (.if_icmp .le 7, 3) := by decide +kernel
theorem dX7_sweep_11 : decode cX7_sweep 11 = .ok (.sipush (-1002), 3) := by decide +kernel
theorem dX7_sweep_14 : decode cX7_sweep 14 = .ok (.ireturn, 1) := by decide +kernel
theorem dX7_sweep_15 : decode cX7_sweep 15 = .ok (.aload_n 0, 1) := by decide +kernel
theorem dX7_sweep_16 : decode cX7_sweep 16 = .ok (.getfield 12, 3) := by decide +kernel
theorem dX7_sweep_19 : decode cX7_sweep 19 = .ok (.invokevirtual 113, 3) := by decide +kernel
theorem dX7_sweep_22 : decode cX7_sweep 22 = .ok (.ifCond .ne 7, 3) := by decide +kernel
theorem dX7_sweep_25 : decode cX7_sweep 25 = .ok (.sipush (-1005), 3) := by decide +kernel
theorem dX7_sweep_28 : decode cX7_sweep 28 = .ok (.ireturn, 1) := by decide +kernel
theorem dX7_sweep_29 : decode cX7_sweep 29 = .ok (.aload_n 0, 1) := by decide +kernel
theorem dX7_sweep_30 : decode cX7_sweep 30 = .ok (.getfield 26, 3) := by decide +kernel
theorem dX7_sweep_33 : decode cX7_sweep 33 = .ok (.aload_n 0, 1) := by decide +kernel
theorem dX7_sweep_34 : decode cX7_sweep 34 = .ok (.getfield 12, 3) := by decide +kernel
theorem dX7_sweep_37 : decode cX7_sweep 37 = .ok (.invokevirtual 44, 3) := by decide +kernel
theorem dX7_sweep_40 : decode cX7_sweep 40 = .ok (.iconst 0, 1) := by decide +kernel
theorem dX7_sweep_41 : decode cX7_sweep 41 = .ok (.istore_n 2, 1) := by decide +kernel
theorem dX7_sweep_42 : decode cX7_sweep 42 = .ok (.iconst 1, 1) := by decide +kernel
theorem dX7_sweep_43 : decode cX7_sweep 43 = .ok (.istore_n 3, 1) := by decide +kernel
theorem dX7_sweep_44 : decode cX7_sweep 44 = .ok (.iconst 0, 1) := by decide +kernel
theorem dX7_sweep_45 : decode cX7_sweep 45 = .ok (.istore 4, 2) := by decide +kernel
theorem dX7_sweep_47 : decode cX7_sweep 47 = .ok (.iload 4, 2) := by decide +kernel
theorem dX7_sweep_49 : decode cX7_sweep 49 = .ok (.iload_n 1, 1) := by decide +kernel
theorem dX7_sweep_50 : decode cX7_sweep 50 = .ok (.if_icmp .ge 25, 3) := by decide +kernel
theorem dX7_sweep_53 : decode cX7_sweep 53 = .ok (.iload_n 3, 1) := by decide +kernel
theorem dX7_sweep_54 : decode cX7_sweep 54 = .ok (.ifCond .le 21, 3) := by decide +kernel
theorem dX7_sweep_57 : decode cX7_sweep 57 = .ok (.aload_n 0, 1) := by decide +kernel
theorem dX7_sweep_58 : decode cX7_sweep 58 = .ok (.getfield 12, 3) := by decide +kernel
theorem dX7_sweep_61 : decode cX7_sweep 61 = .ok (.invokevirtual 116, 3) := by decide +kernel
theorem dX7_sweep_64 : decode cX7_sweep 64 = .ok (.istore_n 3, 1) := by decide +kernel
theorem dX7_sweep_65 : decode cX7_sweep 65 = .ok (.iload_n 2, 1) := by decide +kernel
theorem dX7_sweep_66 : decode cX7_sweep 66 = .ok (.iload_n 3, 1) := by decide +kernel
theorem dX7_sweep_67 : decode cX7_sweep 67 = .ok (.iadd, 1) := by decide +kernel
theorem dX7_sweep_68 : decode cX7_sweep 68 = .ok (.istore_n 2, 1) := by decide +kernel
theorem dX7_sweep_69 : decode cX7_sweep 69 = .ok (.iinc 4 1, 3) := by decide +kernel
theorem dX7_sweep_72 : decode cX7_sweep 72 = .ok (.goto (-25), 3) := by decide +kernel
theorem dX7_sweep_75 : decode cX7_sweep 75 = .ok (.iload_n 2, 1) := by decide +kernel
theorem dX7_sweep_76 : decode cX7_sweep 76 = .ok (.ireturn, 1) := by decide +kernel
theorem dX7_type_0 : decode cX7_type 0 = .ok (.aload_n 0, 1) := by decide +kernel
theorem dX7_type_1 : decode cX7_type 1 = .ok (.getfield 40, 3) := by decide +kernel
theorem dX7_type_4 : decode cX7_type 4 = .ok (.iload_n 1, 1) := by decide +kernel
theorem dX7_type_5 : decode cX7_type 5 = .ok (.invokevirtual 123, 3) := by decide +kernel
theorem dX7_type_8 : decode cX7_type 8 = .ok (.ifCond .eq 13, 3) := by decide +kernel
theorem dX7_type_11 : decode cX7_type 11 = .ok (.aload_n 0, 1) := by decide +kernel
theorem dX7_type_12 : decode cX7_type 12 = .ok (.getfield 40, 3) := by decide +kernel
theorem dX7_type_15 : decode cX7_type 15 = .ok (.getfield 127, 3) := by decide +kernel
theorem dX7_type_18 : decode cX7_type 18 = .ok (.goto 6, 3) := by decide +kernel
theorem dX7_type_21 : decode cX7_type 21 = .ok (.sipush (-1003), 3) := by decide +kernel
theorem dX7_type_24 : decode cX7_type 24 = .ok (.ireturn, 1) := by decide +kernel
theorem dX7_clearText_0 : decode cX7_clearText 0 = .ok (.aload_n 0, 1) := by decide +kernel
theorem dX7_clearText_1 : decode cX7_clearText 1 = .ok (.getfield 40, 3) := by decide +kernel
theorem dX7_clearText_4 : decode cX7_clearText 4 = .ok (.getfield 127, 3) := by decide +kernel
theorem dX7_clearText_7 : decode cX7_clearText 7 = .ok (.istore_n 1, 1) := by decide +kernel
theorem dX7_clearText_8 : decode cX7_clearText 8 = .ok (.aload_n 0, 1) := by decide +kernel
theorem dX7_clearText_9 : decode cX7_clearText 9 = .ok (.getfield 40, 3) := by decide +kernel
theorem dX7_clearText_12 : decode cX7_clearText 12 = .ok (.iconst 0, 1) := by decide +kernel
theorem dX7_clearText_13 : decode cX7_clearText 13 = .ok (.putfield 127, 3) := by decide +kernel
theorem dX7_clearText_16 : decode cX7_clearText 16 = .ok (.iload_n 1, 1) := by decide +kernel
theorem dX7_clearText_17 : decode cX7_clearText 17 = .ok (.ireturn, 1) := by decide +kernel
theorem dX7_keep_0 : decode cX7_keep 0 = .ok (.aload_n 0, 1) := by decide +kernel
theorem dX7_keep_1 : decode cX7_keep 1 = .ok (.getfield 30, 3) := by decide +kernel
theorem dX7_keep_4 : decode cX7_keep 4 = .ok (.aload_n 0, 1) := by decide +kernel
theorem dX7_keep_5 : decode cX7_keep 5 = .ok (.getfield 12, 3) := by decide +kernel
theorem dX7_keep_8 : decode cX7_keep 8 = .ok (.invokevirtual 137, 3) := by decide +kernel
theorem dX7_keep_11 : decode cX7_keep 11 = .ok (.aload_n 0, 1) := by decide +kernel
theorem dX7_keep_12 : decode cX7_keep 12 = .ok (.iconst 1, 1) := by decide +kernel
theorem dX7_keep_13 : decode cX7_keep 13 = .ok (.putfield 33, 3) := by decide +kernel
theorem dX7_keep_16 : decode cX7_keep 16 = .ok (.aload_n 0, 1) := by decide +kernel
theorem dX7_keep_17 : decode cX7_keep 17 = .ok (.getfield 12, 3) := by decide +kernel
theorem dX7_keep_20 : decode cX7_keep 20 = .ok (.invokevirtual 74, 3) := by decide +kernel
theorem dX7_keep_23 : decode cX7_keep 23 = .ok (.ireturn, 1) := by decide +kernel
theorem dX7_restore_0 : decode cX7_restore 0 = .ok (.aload_n 0, 1) := by decide +kernel
theorem dX7_restore_1 : decode cX7_restore 1 = .ok (.getfield 33, 3) := by decide +kernel
theorem dX7_restore_4 : decode cX7_restore 4 = .ok (.ifCond .ne 7, 3) := by decide +kernel
theorem dX7_restore_7 : decode cX7_restore 7 = .ok (.sipush (-1005), 3) := by decide +kernel
theorem dX7_restore_10 : decode cX7_restore 10 = .ok (.ireturn, 1) := by decide +kernel
theorem dX7_restore_11 : decode cX7_restore 11 = .ok (.aload_n 0, 1) := by decide +kernel
theorem dX7_restore_12 : decode cX7_restore 12 = .ok (.getfield 26, 3) := by decide +kernel
theorem dX7_restore_15 : decode cX7_restore 15 = .ok (.aload_n 0, 1) := by decide +kernel
theorem dX7_restore_16 : decode cX7_restore 16 = .ok (.getfield 12, 3) := by decide +kernel
theorem dX7_restore_19 : decode cX7_restore 19 = .ok (.invokevirtual 44, 3) := by decide +kernel
theorem dX7_restore_22 : decode cX7_restore 22 = .ok (.aload_n 0, 1) := by decide +kernel
theorem dX7_restore_23 : decode cX7_restore 23 = .ok (.getfield 12, 3) := by decide +kernel
theorem dX7_restore_26 : decode cX7_restore 26 = .ok (.aload_n 0, 1) := by decide +kernel
theorem dX7_restore_27 : decode cX7_restore 27 = .ok (.getfield 30, 3) := by decide +kernel
theorem dX7_restore_30 : decode cX7_restore 30 = .ok (.invokevirtual 137, 3) := by decide +kernel
theorem dX7_restore_33 : decode cX7_restore 33 = .ok (.aload_n 0, 1) := by decide +kernel
theorem dX7_restore_34 : decode cX7_restore 34 = .ok (.getfield 19, 3) := by decide +kernel
theorem dX7_restore_37 : decode cX7_restore 37 = .ok (.invokevirtual 52, 3) := by decide +kernel
theorem dX7_restore_40 : decode cX7_restore 40 = .ok (.aload_n 0, 1) := by decide +kernel
theorem dX7_restore_41 : decode cX7_restore 41 = .ok (.getfield 12, 3) := by decide +kernel
theorem dX7_restore_44 : decode cX7_restore 44 = .ok (.invokevirtual 74, 3) := by decide +kernel
theorem dX7_restore_47 : decode cX7_restore 47 = .ok (.ireturn, 1) := by decide +kernel
theorem dX7_cell_0 : decode cX7_cell 0 = .ok (.aload_n 0, 1) := by decide +kernel
theorem dX7_cell_1 : decode cX7_cell 1 = .ok (.getfield 12, 3) := by decide +kernel
theorem dX7_cell_4 : decode cX7_cell 4 = .ok (.iload_n 1, 1) := by decide +kernel
theorem dX7_cell_5 : decode cX7_cell 5 = .ok (.iload_n 2, 1) := by decide +kernel
theorem dX7_cell_6 : decode cX7_cell 6 = .ok (.invokevirtual 83, 3) := by decide +kernel
theorem dX7_cell_9 : decode cX7_cell 9 = .ok (.ifCond .ne 7, 3) := by decide +kernel
theorem dX7_cell_12 : decode cX7_cell 12 = .ok (.sipush (-1001), 3) := by decide +kernel
theorem dX7_cell_15 : decode cX7_cell 15 = .ok (.ireturn, 1) := by decide +kernel
theorem dX7_cell_16 : decode cX7_cell 16 = .ok (.iload_n 1, 1) := by decide +kernel
theorem dX7_cell_17 : decode cX7_cell 17 = .ok (.iload_n 2, 1) := by decide +kernel
theorem dX7_cell_18 : decode cX7_cell 18 = .ok (.invokestatic 95, 3) := by decide +kernel
theorem dX7_cell_21 : decode cX7_cell 21 = .ok (.lstore 4, 2) := by decide +kernel
theorem dX7_cell_23 : decode cX7_cell 23 = .ok (.iload_n 3, 1) := by decide +kernel
theorem dX7_cell_24 : decode cX7_cell 24 = .ok (.tableswitch 136 0 6 #[44, 54, 64, 74, 87, 100, 123], 44) := by decide +kernel
theorem dX7_cell_68 : decode cX7_cell 68 = .ok (.aload_n 0, 1) := by decide +kernel
theorem dX7_cell_69 : decode cX7_cell 69 = .ok (.getfield 12, 3) := by decide +kernel
theorem dX7_cell_72 : decode cX7_cell 72 = .ok (.iload_n 1, 1) := by decide +kernel
theorem dX7_cell_73 : decode cX7_cell 73 = .ok (.iload_n 2, 1) := by decide +kernel
theorem dX7_cell_74 : decode cX7_cell 74 = .ok (.invokevirtual 140, 3) := by decide +kernel
theorem dX7_cell_77 : decode cX7_cell 77 = .ok (.ireturn, 1) := by decide +kernel
theorem dX7_cell_78 : decode cX7_cell 78 = .ok (.aload_n 0, 1) := by decide +kernel
theorem dX7_cell_79 : decode cX7_cell 79 = .ok (.getfield 12, 3) := by decide +kernel
theorem dX7_cell_82 : decode cX7_cell 82 = .ok (.iload_n 1, 1) := by decide +kernel
theorem dX7_cell_83 : decode cX7_cell 83 = .ok (.iload_n 2, 1) := by decide +kernel
theorem dX7_cell_84 : decode cX7_cell 84 = .ok (.invokevirtual 87, 3) := by decide +kernel
theorem dX7_cell_87 : decode cX7_cell 87 = .ok (.ireturn, 1) := by decide +kernel
theorem dX7_cell_88 : decode cX7_cell 88 = .ok (.aload_n 0, 1) := by decide +kernel
theorem dX7_cell_89 : decode cX7_cell 89 = .ok (.getfield 12, 3) := by decide +kernel
theorem dX7_cell_92 : decode cX7_cell 92 = .ok (.iload_n 1, 1) := by decide +kernel
theorem dX7_cell_93 : decode cX7_cell 93 = .ok (.iload_n 2, 1) := by decide +kernel
theorem dX7_cell_94 : decode cX7_cell 94 = .ok (.invokevirtual 143, 3) := by decide +kernel
theorem dX7_cell_97 : decode cX7_cell 97 = .ok (.ireturn, 1) := by decide +kernel
theorem dX7_cell_98 : decode cX7_cell 98 = .ok (.aload_n 0, 1) := by decide +kernel
theorem dX7_cell_99 : decode cX7_cell 99 = .ok (.getfield 12, 3) := by decide +kernel
theorem dX7_cell_102 : decode cX7_cell 102 = .ok (.iload_n 1, 1) := by decide +kernel
theorem dX7_cell_103 : decode cX7_cell 103 = .ok (.iload_n 2, 1) := by decide +kernel
theorem dX7_cell_104 : decode cX7_cell 104 = .ok (.invokevirtual 143, 3) := by decide +kernel
theorem dX7_cell_107 : decode cX7_cell 107 = .ok (.invokestatic 146, 3) := by decide +kernel
theorem dX7_cell_110 : decode cX7_cell 110 = .ok (.ireturn, 1) := by decide +kernel
theorem dX7_cell_111 : decode cX7_cell 111 = .ok (.aload_n 0, 1) := by decide +kernel
theorem dX7_cell_112 : decode cX7_cell 112 = .ok (.getfield 12, 3) := by decide +kernel
theorem dX7_cell_115 : decode cX7_cell 115 = .ok (.lload 4, 2) := by decide +kernel
theorem dX7_cell_117 : decode cX7_cell 117 = .ok (.invokevirtual 150, 3) := by decide +kernel
theorem dX7_cell_120 : decode cX7_cell 120 = .ok (.invokestatic 107, 3) := by decide +kernel
theorem dX7_cell_123 : decode cX7_cell 123 = .ok (.ireturn, 1) := by decide +kernel
theorem dX7_cell_124 : decode cX7_cell 124 = .ok (.aload_n 0, 1) := by decide +kernel
theorem dX7_cell_125 : decode cX7_cell 125 = .ok (.getfield 12, 3) := by decide +kernel
theorem dX7_cell_128 : decode cX7_cell 128 = .ok (.lload 4, 2) := by decide +kernel
theorem dX7_cell_130 : decode cX7_cell 130 = .ok (.invokevirtual 150, 3) := by decide +kernel
theorem dX7_cell_133 : decode cX7_cell 133 = .ok (.aload_n 0, 1) := by decide +kernel
theorem dX7_cell_134 : decode cX7_cell 134 = .ok (.getfield 12, 3) := by decide +kernel
theorem dX7_cell_137 : decode cX7_cell 137 = .ok (.lload 4, 2) := by decide +kernel
theorem dX7_cell_139 : decode cX7_cell 139 = .ok (.invokevirtual 153, 3) := by decide +kernel
theorem dX7_cell_142 : decode cX7_cell 142 = .ok (.land, 1) := by decide +kernel
theorem dX7_cell_143 : decode cX7_cell 143 = .ok (.invokestatic 107, 3) := by decide +kernel
theorem dX7_cell_146 : decode cX7_cell 146 = .ok (.ireturn, 1) := by decide +kernel
theorem dX7_cell_147 : decode cX7_cell 147 = .ok (.aload_n 0, 1) := by decide +kernel
theorem dX7_cell_148 : decode cX7_cell 148 = .ok (.getfield 12, 3) := by decide +kernel
theorem dX7_cell_151 : decode cX7_cell 151 = .ok (.lload 4, 2) := by decide +kernel
theorem dX7_cell_153 : decode cX7_cell 153 = .ok (.invokevirtual 103, 3) := by decide +kernel
theorem dX7_cell_156 : decode cX7_cell 156 = .ok (.invokestatic 107, 3) := by decide +kernel
theorem dX7_cell_159 : decode cX7_cell 159 = .ok (.ireturn, 1) := by decide +kernel
theorem dX7_cell_160 : decode cX7_cell 160 = .ok (.sipush (-1002), 3) := by decide +kernel
theorem dX7_cell_163 : decode cX7_cell 163 = .ok (.ireturn, 1) := by decide +kernel
theorem dX7_column_0 : decode cX7_column 0 = .ok (.aload_n 0, 1) := by decide +kernel
theorem dX7_column_1 : decode cX7_column 1 = .ok (.getfield 12, 3) := by decide +kernel
theorem dX7_column_4 : decode cX7_column 4 = .ok (.iconst 0, 1) := by decide +kernel
theorem dX7_column_5 : decode cX7_column 5 = .ok (.iload_n 1, 1) := by decide +kernel
theorem dX7_column_6 : decode cX7_column 6 = .ok (.invokevirtual 83, 3) := by decide +kernel
theorem dX7_column_9 : decode cX7_column 9 = .ok (.ifCond .eq 14, 3) := by decide +kernel
theorem dX7_column_12 : decode cX7_column 12 = .ok (.aload_n 0, 1) := by decide +kernel
theorem dX7_column_13 : decode cX7_column 13 = .ok (.getfield 12, 3) := by decide +kernel
theorem dX7_column_16 : decode cX7_column 16 = .ok (.iload_n 1, 1) := by decide +kernel
theorem dX7_column_17 : decode cX7_column 17 = .ok (.invokevirtual 156, 3) := by decide +kernel
theorem dX7_column_20 : decode cX7_column 20 = .ok (.goto 6, 3) := by decide +kernel
theorem dX7_column_23 : decode cX7_column 23 = .ok (.sipush (-1001), 3) := by decide +kernel
theorem dX7_column_26 : decode cX7_column 26 = .ok (.ireturn, 1) := by decide +kernel
theorem dX7_withEnergy_0 : decode cX7_withEnergy 0 = .ok (.aload_n 0, 1) := by decide +kernel
theorem dX7_withEnergy_1 : decode cX7_withEnergy 1 = .ok (.getfield 19, 3) := by decide +kernel
theorem dX7_withEnergy_4 : decode cX7_withEnergy 4 = .ok (.aload_n 0, 1) := by decide +kernel
theorem dX7_withEnergy_5 : decode cX7_withEnergy 5 = .ok (.getfield 12, 3) := by decide +kernel
theorem dX7_withEnergy_8 : decode cX7_withEnergy 8 = .ok (.iload_n 1, 1) := by decide +kernel
theorem dX7_withEnergy_9 : decode cX7_withEnergy 9 = .ok (.invokevirtual 159, 3) := by decide +kernel
theorem dX7_withEnergy_12 : decode cX7_withEnergy 12 = .ok (.ireturn, 1) := by decide +kernel
theorem dX7_withWalls_0 : decode cX7_withWalls 0 = .ok (.aload_n 0, 1) := by decide +kernel
theorem dX7_withWalls_1 : decode cX7_withWalls 1 = .ok (.getfield 19, 3) := by decide +kernel
theorem dX7_withWalls_4 : decode cX7_withWalls 4 = .ok (.aload_n 0, 1) := by decide +kernel
theorem dX7_withWalls_5 : decode cX7_withWalls 5 = .ok (.getfield 12, 3) := by decide +kernel
theorem dX7_withWalls_8 : decode cX7_withWalls 8 = .ok (.iload_n 1, 1) := by decide +kernel
theorem dX7_withWalls_9 : decode cX7_withWalls 9 = .ok (.invokevirtual 163, 3) := by decide +kernel
theorem dX7_withWalls_12 : decode cX7_withWalls 12 = .ok (.ireturn, 1) := by decide +kernel
theorem dX7_withUps_0 : decode cX7_withUps 0 = .ok (.iload_n 2, 1) := by decide +kernel
theorem dX7_withUps_1 : decode cX7_withUps 1 = .ok (.ifCond .eq 18, 3) := by decide +kernel
theorem dX7_withUps_4 : decode cX7_withUps 4 = .ok (.aload_n 0, 1) := by decide +kernel
theorem dX7_withUps_5 : decode cX7_withUps 5 = .ok (.getfield 19, 3) := by decide +kernel
theorem dX7_withUps_8 : decode cX7_withUps 8 = .ok (.aload_n 0, 1) := by decide +kernel
theorem dX7_withUps_9 : decode cX7_withUps 9 = .ok (.getfield 12, 3) := by decide +kernel
theorem dX7_withUps_12 : decode cX7_withUps 12 = .ok (.iload_n 1, 1) := by decide +kernel
theorem dX7_withUps_13 : decode cX7_withUps 13 = .ok (.invokevirtual 166, 3) := by decide +kernel
theorem dX7_withUps_16 : decode cX7_withUps 16 = .ok (.goto 11, 3) := by decide +kernel
theorem dX7_withUps_19 : decode cX7_withUps 19 = .ok (.aload_n 0, 1) := by decide +kernel
theorem dX7_withUps_20 : decode cX7_withUps 20 = .ok (.getfield 12, 3) := by decide +kernel
theorem dX7_withUps_23 : decode cX7_withUps 23 = .ok (.iload_n 1, 1) := by decide +kernel
theorem dX7_withUps_24 : decode cX7_withUps 24 = .ok (.invokestatic 169, 3) := by decide +kernel
theorem dX7_withUps_27 : decode cX7_withUps 27 = .ok (.ireturn, 1) := by decide +kernel
theorem dX7_heat_0 : decode cX7_heat 0 = .ok (.iload_n 1, 1) := by decide +kernel
theorem dX7_heat_1 : decode cX7_heat 1 = .ok (.bipush 50, 2) := by decide +kernel
theorem dX7_heat_3 : decode cX7_heat 3 = .ok (.if_icmp .lt 9, 3) := by decide +kernel
theorem dX7_heat_6 : decode cX7_heat 6 = .ok (.iload_n 1, 1) := by decide +kernel
theorem dX7_heat_7 : decode cX7_heat 7 = .ok (.bipush 100, 2) := by decide +kernel
theorem dX7_heat_9 : decode cX7_heat 9 = .ok (.if_icmp .le 5, 3) := by decide +kernel
theorem dX7_heat_12 : decode cX7_heat 12 = .ok (.iconst 0, 1) := by decide +kernel
theorem dX7_heat_13 : decode cX7_heat 13 = .ok (.ireturn, 1) := by decide +kernel
theorem dX7_heat_14 : decode cX7_heat 14 = .ok (.iload_n 1, 1) := by decide +kernel
theorem dX7_heat_15 : decode cX7_heat 15 = .ok (.i2f, 1) := by decide +kernel
theorem dX7_heat_16 : decode cX7_heat 16 = .ok (.ldc 172, 2) := by decide +kernel
theorem dX7_heat_18 : decode cX7_heat 18 = .ok (.fdiv, 1) := by decide +kernel
theorem dX7_heat_19 : decode cX7_heat 19 = .ok (.fstore_n 3, 1) := by decide +kernel
theorem dX7_heat_20 : decode cX7_heat 20 = .ok (.aload_n 0, 1) := by decide +kernel
theorem dX7_heat_21 : decode cX7_heat 21 = .ok (.getfield 19, 3) := by decide +kernel
theorem dX7_heat_24 : decode cX7_heat 24 = .ok (.aload_n 0, 1) := by decide +kernel
theorem dX7_heat_25 : decode cX7_heat 25 = .ok (.getfield 12, 3) := by decide +kernel
theorem dX7_heat_28 : decode cX7_heat 28 = .ok (.fload_n 3, 1) := by decide +kernel
theorem dX7_heat_29 : decode cX7_heat 29 = .ok (.iconst 0, 1) := by decide +kernel
theorem dX7_heat_30 : decode cX7_heat 30 = .ok (.invokevirtual 173, 3) := by decide +kernel
theorem dX7_heat_33 : decode cX7_heat 33 = .ok (.fstore 4, 2) := by decide +kernel
theorem dX7_heat_35 : decode cX7_heat 35 = .ok (.iload_n 2, 1) := by decide +kernel
theorem dX7_heat_36 : decode cX7_heat 36 = .ok (.ifCond .ne 9, 3) := by decide +kernel
theorem dX7_heat_39 : decode cX7_heat 39 = .ok (.fload 4, 2) := by decide +kernel
theorem dX7_heat_41 : decode cX7_heat 41 = .ok (.invokestatic 177, 3) := by decide +kernel
theorem dX7_heat_44 : decode cX7_heat 44 = .ok (.ireturn, 1) := by decide +kernel
theorem dX7_heat_45 : decode cX7_heat 45 = .ok (.fload 4, 2) := by decide +kernel
theorem dX7_heat_47 : decode cX7_heat 47 = .ok (.fconst 0, 1) := by decide +kernel
theorem dX7_heat_48 : decode cX7_heat 48 = .ok (.fcmp .l, 1) := by decide +kernel
theorem dX7_heat_49 : decode cX7_heat 49 = .ok (.ifCond .le 25, 3) := by decide +kernel
theorem dX7_heat_52 : decode cX7_heat 52 = .ok (.aload_n 0, 1) := by decide +kernel
theorem dX7_heat_53 : decode cX7_heat 53 = .ok (.getfield 19, 3) := by decide +kernel
theorem dX7_heat_56 : decode cX7_heat 56 = .ok (.aload_n 0, 1) := by decide +kernel
theorem dX7_heat_57 : decode cX7_heat 57 = .ok (.getfield 12, 3) := by decide +kernel
theorem dX7_heat_60 : decode cX7_heat 60 = .ok (.fload_n 3, 1) := by decide +kernel
theorem dX7_heat_61 : decode cX7_heat 61 = .ok (.iconst 1, 1) := by decide +kernel
theorem dX7_heat_62 : decode cX7_heat 62 = .ok (.invokevirtual 173, 3) := by decide +kernel
theorem dX7_heat_65 : decode cX7_heat 65 = .ok (.fload 4, 2) := by decide +kernel
theorem dX7_heat_67 : decode cX7_heat 67 = .ok (.fdiv, 1) := by decide +kernel
theorem dX7_heat_68 : decode cX7_heat 68 = .ok (.invokestatic 177, 3) := by decide +kernel
theorem dX7_heat_71 : decode cX7_heat 71 = .ok (.goto 4, 3) := by decide +kernel
theorem dX7_heat_74 : decode cX7_heat 74 = .ok (.iconst 0, 1) := by decide +kernel
theorem dX7_heat_75 : decode cX7_heat 75 = .ok (.ireturn, 1) := by decide +kernel
theorem dX7_count_0 : decode cX7_count 0 = .ok (.iload_n 1, 1) := by decide +kernel
theorem dX7_count_1 : decode cX7_count 1 = .ok (.tableswitch 253 0 16 #[83, 91, 99, 115, 123, 131, 142, 150, 158, 170, 182, 205, 213, 221, 229, 237, 245], 83) := by decide +kernel
theorem dX7_count_84 : decode cX7_count 84 = .ok (.aload_n 0, 1) := by decide +kernel
theorem dX7_count_85 : decode cX7_count 85 = .ok (.getfield 12, 3) := by decide +kernel
theorem dX7_count_88 : decode cX7_count 88 = .ok (.getfield 181, 3) := by decide +kernel
theorem dX7_count_91 : decode cX7_count 91 = .ok (.ireturn, 1) := by decide +kernel
theorem dX7_count_92 : decode cX7_count 92 = .ok (.aload_n 0, 1) := by decide +kernel
theorem dX7_count_93 : decode cX7_count 93 = .ok (.getfield 12, 3) := by decide +kernel
theorem dX7_count_96 : decode cX7_count 96 = .ok (.getfield 182, 3) := by decide +kernel
theorem dX7_count_99 : decode cX7_count 99 = .ok (.ireturn, 1) := by decide +kernel
theorem dX7_count_100 : decode cX7_count 100 = .ok (.aload_n 0, 1) := by decide +kernel
theorem dX7_count_101 : decode cX7_count 101 = .ok (.getfield 12, 3) := by decide +kernel
theorem dX7_count_104 : decode cX7_count 104 = .ok (.getfield 66, 3) := by decide +kernel
theorem dX7_count_107 : decode cX7_count 107 = .ok (.ifCond .eq 7, 3) := by decide +kernel
theorem dX7_count_110 : decode cX7_count 110 = .ok (.iconst 1, 1) := by decide +kernel
theorem dX7_count_111 : decode cX7_count 111 = .ok (.goto 4, 3) := by decide +kernel
theorem dX7_count_114 : decode cX7_count 114 = .ok (.iconst 0, 1) := by decide +kernel
theorem dX7_count_115 : decode cX7_count 115 = .ok (.ireturn, 1) := by decide +kernel
theorem dX7_count_116 : decode cX7_count 116 = .ok (.aload_n 0, 1) := by decide +kernel
theorem dX7_count_117 : decode cX7_count 117 = .ok (.getfield 12, 3) := by decide +kernel
theorem dX7_count_120 : decode cX7_count 120 = .ok (.invokevirtual 74, 3) := by decide +kernel
theorem dX7_count_123 : decode cX7_count 123 = .ok (.ireturn, 1) := by decide +kernel
theorem dX7_count_124 : decode cX7_count 124 = .ok (.aload_n 0, 1) := by decide +kernel
theorem dX7_count_125 : decode cX7_count 125 = .ok (.getfield 12, 3) := by decide +kernel
theorem dX7_count_128 : decode cX7_count 128 = .ok (.invokevirtual 183, 3) := by decide +kernel
theorem dX7_count_131 : decode cX7_count 131 = .ok (.ireturn, 1) := by decide +kernel
theorem dX7_count_132 : decode cX7_count 132 = .ok (.aload_n 0, 1) := by decide +kernel
theorem dX7_count_133 : decode cX7_count 133 = .ok (.getfield 12, 3) := by decide +kernel
theorem dX7_count_136 : decode cX7_count 136 = .ok (.getfield 73, 3) := by decide +kernel
theorem dX7_count_139 : decode cX7_count 139 = .ok (.invokestatic 107, 3) := by decide +kernel
theorem dX7_count_142 : decode cX7_count 142 = .ok (.ireturn, 1) := by decide +kernel
theorem dX7_count_143 : decode cX7_count 143 = .ok (.aload_n 0, 1) := by decide +kernel
theorem dX7_count_144 : decode cX7_count 144 = .ok (.getfield 12, 3) := by decide +kernel
theorem dX7_count_147 : decode cX7_count 147 = .ok (.getfield 80, 3) := by decide +kernel
theorem dX7_count_150 : decode cX7_count 150 = .ok (.ireturn, 1) := by decide +kernel
theorem dX7_count_151 : decode cX7_count 151 = .ok (.aload_n 0, 1) := by decide +kernel
theorem dX7_count_152 : decode cX7_count 152 = .ok (.getfield 12, 3) := by decide +kernel
theorem dX7_count_155 : decode cX7_count 155 = .ok (.getfield 77, 3) := by decide +kernel
theorem dX7_count_158 : decode cX7_count 158 = .ok (.ireturn, 1) := by decide +kernel
theorem dX7_count_159 : decode cX7_count 159 = .ok (.aload_n 0, 1) := by decide +kernel
theorem dX7_count_160 : decode cX7_count 160 = .ok (.getfield 19, 3) := by decide +kernel
theorem dX7_count_163 : decode cX7_count 163 = .ok (.aload_n 0, 1) := by decide +kernel
theorem dX7_count_164 : decode cX7_count 164 = .ok (.getfield 12, 3) := by decide +kernel
theorem dX7_count_167 : decode cX7_count 167 = .ok (.invokevirtual 186, 3) := by decide +kernel
theorem dX7_count_170 : decode cX7_count 170 = .ok (.ireturn, 1) := by decide +kernel
theorem dX7_count_171 : decode cX7_count 171 = .ok (.aload_n 0, 1) := by decide +kernel
theorem dX7_count_172 : decode cX7_count 172 = .ok (.getfield 19, 3) := by decide +kernel
theorem dX7_count_175 : decode cX7_count 175 = .ok (.aload_n 0, 1) := by decide +kernel
theorem dX7_count_176 : decode cX7_count 176 = .ok (.getfield 12, 3) := by decide +kernel
theorem dX7_count_179 : decode cX7_count 179 = .ok (.invokevirtual 190, 3) := by decide +kernel
theorem dX7_count_182 : decode cX7_count 182 = .ok (.ireturn, 1) := by decide +kernel
theorem dX7_count_183 : decode cX7_count 183 = .ok (.aload_n 0, 1) := by decide +kernel
theorem dX7_count_184 : decode cX7_count 184 = .ok (.getfield 19, 3) := by decide +kernel
theorem dX7_count_187 : decode cX7_count 187 = .ok (.aload_n 0, 1) := by decide +kernel
theorem dX7_count_188 : decode cX7_count 188 = .ok (.getfield 12, 3) := by decide +kernel
theorem dX7_count_191 : decode cX7_count 191 = .ok (.aload_n 0, 1) := by decide +kernel
theorem dX7_count_192 : decode cX7_count 192 = .ok (.getfield 19, 3) := by decide +kernel
theorem dX7_count_195 : decode cX7_count 195 = .ok (.aload_n 0, 1) := by decide +kernel
theorem dX7_count_196 : decode cX7_count 196 = .ok (.getfield 12, 3) := by decide +kernel
theorem dX7_count_199 : decode cX7_count 199 = .ok (.invokevirtual 186, 3) := by decide +kernel
theorem dX7_count_202 : decode cX7_count 202 = .ok (.invokevirtual 159, 3) := by decide +kernel
theorem dX7_count_205 : decode cX7_count 205 = .ok (.ireturn, 1) := by decide +kernel
theorem dX7_count_206 : decode cX7_count 206 = .ok (.aload_n 0, 1) := by decide +kernel
theorem dX7_count_207 : decode cX7_count 207 = .ok (.getfield 12, 3) := by decide +kernel
theorem dX7_count_210 : decode cX7_count 210 = .ok (.invokevirtual 193, 3) := by decide +kernel
theorem dX7_count_213 : decode cX7_count 213 = .ok (.ireturn, 1) := by decide +kernel
theorem dX7_count_214 : decode cX7_count 214 = .ok (.aload_n 0, 1) := by decide +kernel
theorem dX7_count_215 : decode cX7_count 215 = .ok (.getfield 12, 3) := by decide +kernel
theorem dX7_count_218 : decode cX7_count 218 = .ok (.invokevirtual 113, 3) := by decide +kernel
theorem dX7_count_221 : decode cX7_count 221 = .ok (.ireturn, 1) := by decide +kernel
theorem dX7_count_222 : decode cX7_count 222 = .ok (.aload_n 0, 1) := by decide +kernel
theorem dX7_count_223 : decode cX7_count 223 = .ok (.getfield 12, 3) := by decide +kernel
theorem dX7_count_226 : decode cX7_count 226 = .ok (.getfield 196, 3) := by decide +kernel
theorem dX7_count_229 : decode cX7_count 229 = .ok (.ireturn, 1) := by decide +kernel
theorem dX7_count_230 : decode cX7_count 230 = .ok (.aload_n 0, 1) := by decide +kernel
theorem dX7_count_231 : decode cX7_count 231 = .ok (.getfield 12, 3) := by decide +kernel
theorem dX7_count_234 : decode cX7_count 234 = .ok (.invokevirtual 199, 3) := by decide +kernel
theorem dX7_count_237 : decode cX7_count 237 = .ok (.ireturn, 1) := by decide +kernel
theorem dX7_count_238 : decode cX7_count 238 = .ok (.aload_n 0, 1) := by decide +kernel
theorem dX7_count_239 : decode cX7_count 239 = .ok (.getfield 26, 3) := by decide +kernel
theorem dX7_count_242 : decode cX7_count 242 = .ok (.getfield 134, 3) := by decide +kernel
theorem dX7_count_245 : decode cX7_count 245 = .ok (.ireturn, 1) := by decide +kernel
theorem dX7_count_246 : decode cX7_count 246 = .ok (.aload_n 0, 1) := by decide +kernel
theorem dX7_count_247 : decode cX7_count 247 = .ok (.getfield 40, 3) := by decide +kernel
theorem dX7_count_250 : decode cX7_count 250 = .ok (.getfield 127, 3) := by decide +kernel
theorem dX7_count_253 : decode cX7_count 253 = .ok (.ireturn, 1) := by decide +kernel
theorem dX7_count_254 : decode cX7_count 254 = .ok (.sipush (-1002), 3) := by decide +kernel
theorem dX7_count_257 : decode cX7_count 257 = .ok (.ireturn, 1) := by decide +kernel
theorem dX7_reason_0 : decode cX7_reason 0 = .ok (.iload_n 0, 1) := by decide +kernel
theorem dX7_reason_1 : decode cX7_reason 1 = .ok (.ifCond .ne 5, 3) := by decide +kernel
theorem dX7_reason_4 : decode cX7_reason 4 = .ok (.iconst 1, 1) := by decide +kernel
theorem dX7_reason_5 : decode cX7_reason 5 = .ok (.ireturn, 1) := by decide +kernel
theorem dX7_reason_6 : decode cX7_reason 6 = .ok (.iload_n 0, 1) := by decide +kernel
theorem dX7_reason_7 : decode cX7_reason 7 = .ok (.ifCond .ge 7, 3) := by decide +kernel
theorem dX7_reason_10 : decode cX7_reason 10 = .ok (.iconst 2, 1) := by decide +kernel
theorem dX7_reason_11 : decode cX7_reason 11 = .ok (.goto 4, 3) := by decide +kernel
theorem dX7_reason_14 : decode cX7_reason 14 = .ok (.iconst 0, 1) := by decide +kernel
theorem dX7_reason_15 : decode cX7_reason 15 = .ok (.ireturn, 1) := by decide +kernel
theorem dX7_bitsOf_0 : decode cX7_bitsOf 0 = .ok (.fload_n 0, 1) := by decide +kernel
theorem dX7_bitsOf_1 : decode cX7_bitsOf 1 = .ok (.fconst 0, 1) := by decide +kernel
theorem dX7_bitsOf_2 : decode cX7_bitsOf 2 = .ok (.fcmp .l, 1) := by decide +kernel
theorem dX7_bitsOf_3 : decode cX7_bitsOf 3 = .ok (.ifCond .ne 5, 3) := by decide +kernel
theorem dX7_bitsOf_6 : decode cX7_bitsOf 6 = .ok (.iconst 0, 1) := by decide +kernel
theorem dX7_bitsOf_7 : decode cX7_bitsOf 7 = .ok (.ireturn, 1) := by decide +kernel
theorem dX7_bitsOf_8 : decode cX7_bitsOf 8 = .ok (.fload_n 0, 1) := by decide +kernel
theorem dX7_bitsOf_9 : decode cX7_bitsOf 9 = .ok (.fconst 0, 1) := by decide +kernel
theorem dX7_bitsOf_10 : decode cX7_bitsOf 10 = .ok (.fcmp .g, 1) := by decide +kernel
theorem dX7_bitsOf_11 : decode cX7_bitsOf 11 = .ok (.ifCond .ge 8, 3) := by decide +kernel
theorem dX7_bitsOf_14 : decode cX7_bitsOf 14 = .ok (.fload_n 0, 1) := by decide +kernel
theorem dX7_bitsOf_15 : decode cX7_bitsOf 15 = .ok (.fneg, 1) := by decide +kernel
theorem dX7_bitsOf_16 : decode cX7_bitsOf 16 = .ok (.goto 4, 3) := by decide +kernel
theorem dX7_bitsOf_19 : decode cX7_bitsOf 19 = .ok (.fload_n 0, 1) := by decide +kernel
theorem dX7_bitsOf_20 : decode cX7_bitsOf 20 = .ok (.fstore_n 1, 1) := by decide +kernel
theorem dX7_bitsOf_21 : decode cX7_bitsOf 21 = .ok (.bipush 127, 2) := by decide +kernel
theorem dX7_bitsOf_23 : decode cX7_bitsOf 23 = .ok (.istore_n 2, 1) := by decide +kernel
theorem dX7_bitsOf_24 : decode cX7_bitsOf 24 = .ok (.fload_n 1, 1) := by decide +kernel
theorem dX7_bitsOf_25 : decode cX7_bitsOf 25 = .ok (.fconst 2, 1) := by decide +kernel
theorem dX7_bitsOf_26 : decode cX7_bitsOf 26 = .ok (.fcmp .l, 1) := by decide +kernel
theorem dX7_bitsOf_27 : decode cX7_bitsOf 27 = .ok (.ifCond .lt 20, 3) := by decide +kernel
theorem dX7_bitsOf_30 : decode cX7_bitsOf 30 = .ok (.iload_n 2, 1) := by decide +kernel
theorem dX7_bitsOf_31 : decode cX7_bitsOf 31 = .ok (.sipush 254, 3) := by decide +kernel
theorem dX7_bitsOf_34 : decode cX7_bitsOf 34 = .ok (.if_icmp .ge 13, 3) := by decide +kernel
theorem dX7_bitsOf_37 : decode cX7_bitsOf 37 = .ok (.fload_n 1, 1) := by decide +kernel
theorem dX7_bitsOf_38 : decode cX7_bitsOf 38 = .ok (.fconst 2, 1) := by decide +kernel
theorem dX7_bitsOf_39 : decode cX7_bitsOf 39 = .ok (.fdiv, 1) := by decide +kernel
theorem dX7_bitsOf_40 : decode cX7_bitsOf 40 = .ok (.fstore_n 1, 1) := by decide +kernel
theorem dX7_bitsOf_41 : decode cX7_bitsOf 41 = .ok (.iinc 2 1, 3) := by decide +kernel
theorem dX7_bitsOf_44 : decode cX7_bitsOf 44 = .ok (.goto (-20), 3) := by decide +kernel
theorem dX7_bitsOf_47 : decode cX7_bitsOf 47 = .ok (.fload_n 1, 1) := by decide +kernel
theorem dX7_bitsOf_48 : decode cX7_bitsOf 48 = .ok (.fconst 1, 1) := by decide +kernel
theorem dX7_bitsOf_49 : decode cX7_bitsOf 49 = .ok (.fcmp .g, 1) := by decide +kernel
theorem dX7_bitsOf_50 : decode cX7_bitsOf 50 = .ok (.ifCond .ge 18, 3) := by decide +kernel
theorem dX7_bitsOf_53 : decode cX7_bitsOf 53 = .ok (.iload_n 2, 1) := by decide +kernel
theorem dX7_bitsOf_54 : decode cX7_bitsOf 54 = .ok (.iconst 1, 1) := by decide +kernel
theorem dX7_bitsOf_55 : decode cX7_bitsOf 55 = .ok (.if_icmp .le 13, 3) := by decide +kernel
theorem dX7_bitsOf_58 : decode cX7_bitsOf 58 = .ok (.fload_n 1, 1) := by decide +kernel
theorem dX7_bitsOf_59 : decode cX7_bitsOf 59 = .ok (.fconst 2, 1) := by decide +kernel
theorem dX7_bitsOf_60 : decode cX7_bitsOf 60 = .ok (.fmul, 1) := by decide +kernel
theorem dX7_bitsOf_61 : decode cX7_bitsOf 61 = .ok (.fstore_n 1, 1) := by decide +kernel
theorem dX7_bitsOf_62 : decode cX7_bitsOf 62 = .ok (.iinc 2 (-1), 3) := by decide +kernel
theorem dX7_bitsOf_65 : decode cX7_bitsOf 65 = .ok (.goto (-18), 3) := by decide +kernel
theorem dX7_bitsOf_68 : decode cX7_bitsOf 68 = .ok (.fload_n 1, 1) := by decide +kernel
theorem dX7_bitsOf_69 : decode cX7_bitsOf 69 = .ok (.fconst 1, 1) := by decide +kernel
theorem dX7_bitsOf_70 : decode cX7_bitsOf 70 = .ok (.fcmp .g, 1) := by decide +kernel
theorem dX7_bitsOf_71 : decode cX7_bitsOf 71 = .ok (.ifCond .ge 11, 3) := by decide +kernel
theorem dX7_bitsOf_74 : decode cX7_bitsOf 74 = .ok (.fload_n 1, 1) := by decide +kernel
theorem dX7_bitsOf_75 : decode cX7_bitsOf 75 = .ok (.ldc 202, 2) := by decide +kernel
theorem dX7_bitsOf_77 : decode cX7_bitsOf 77 = .ok (.fmul, 1) := by decide +kernel
theorem dX7_bitsOf_78 : decode cX7_bitsOf 78 = .ok (.f2i, 1) := by decide +kernel
theorem dX7_bitsOf_79 : decode cX7_bitsOf 79 = .ok (.goto 15, 3) := by decide +kernel
theorem dX7_bitsOf_82 : decode cX7_bitsOf 82 = .ok (.iload_n 2, 1) := by decide +kernel
theorem dX7_bitsOf_83 : decode cX7_bitsOf 83 = .ok (.ldc 203, 2) := by decide +kernel
theorem dX7_bitsOf_85 : decode cX7_bitsOf 85 = .ok (.imul, 1) := by decide +kernel
theorem dX7_bitsOf_86 : decode cX7_bitsOf 86 = .ok (.fload_n 1, 1) := by decide +kernel
theorem dX7_bitsOf_87 : decode cX7_bitsOf 87 = .ok (.fconst 1, 1) := by decide +kernel
theorem dX7_bitsOf_88 : decode cX7_bitsOf 88 = .ok (.fsub, 1) := by decide +kernel
theorem dX7_bitsOf_89 : decode cX7_bitsOf 89 = .ok (.ldc 202, 2) := by decide +kernel
theorem dX7_bitsOf_91 : decode cX7_bitsOf 91 = .ok (.fmul, 1) := by decide +kernel
theorem dX7_bitsOf_92 : decode cX7_bitsOf 92 = .ok (.f2i, 1) := by decide +kernel
theorem dX7_bitsOf_93 : decode cX7_bitsOf 93 = .ok (.iadd, 1) := by decide +kernel
theorem dX7_bitsOf_94 : decode cX7_bitsOf 94 = .ok (.istore_n 3, 1) := by decide +kernel
theorem dX7_bitsOf_95 : decode cX7_bitsOf 95 = .ok (.fload_n 0, 1) := by decide +kernel
theorem dX7_bitsOf_96 : decode cX7_bitsOf 96 = .ok (.fconst 0, 1) := by decide +kernel
theorem dX7_bitsOf_97 : decode cX7_bitsOf 97 = .ok (.fcmp .g, 1) := by decide +kernel
theorem dX7_bitsOf_98 : decode cX7_bitsOf 98 = .ok (.ifCond .ge 10, 3) := by decide +kernel
theorem dX7_bitsOf_101 : decode cX7_bitsOf 101 = .ok (.iload_n 3, 1) := by decide +kernel
theorem dX7_bitsOf_102 : decode cX7_bitsOf 102 = .ok (.ldc 204, 2) := by decide +kernel
theorem dX7_bitsOf_104 : decode cX7_bitsOf 104 = .ok (.ior, 1) := by decide +kernel
theorem dX7_bitsOf_105 : decode cX7_bitsOf 105 = .ok (.goto 4, 3) := by decide +kernel
theorem dX7_bitsOf_108 : decode cX7_bitsOf 108 = .ok (.iload_n 3, 1) := by decide +kernel
theorem dX7_bitsOf_109 : decode cX7_bitsOf 109 = .ok (.ireturn, 1) := by decide +kernel
theorem dJ6_bitCount_0f7a4_0 : decode cJ6_bitCount_0f7a4 0 = .ok (.iload_n 0, 1) := by decide +kernel
theorem dJ6_bitCount_0f7a4_1 : decode cJ6_bitCount_0f7a4 1 = .ok (.iload_n 0, 1) := by decide +kernel
theorem dJ6_bitCount_0f7a4_2 : decode cJ6_bitCount_0f7a4 2 = .ok (.iconst 1, 1) := by decide +kernel
theorem dJ6_bitCount_0f7a4_3 : decode cJ6_bitCount_0f7a4 3 = .ok (.iushr, 1) := by decide +kernel
theorem dJ6_bitCount_0f7a4_4 : decode cJ6_bitCount_0f7a4 4 = .ok (.ldc_w 265, 3) := by decide +kernel
theorem dJ6_bitCount_0f7a4_7 : decode cJ6_bitCount_0f7a4 7 = .ok (.iand, 1) := by decide +kernel
theorem dJ6_bitCount_0f7a4_8 : decode cJ6_bitCount_0f7a4 8 = .ok (.isub, 1) := by decide +kernel
theorem dJ6_bitCount_0f7a4_9 : decode cJ6_bitCount_0f7a4 9 = .ok (.istore_n 0, 1) := by decide +kernel
theorem dJ6_bitCount_0f7a4_10 : decode cJ6_bitCount_0f7a4 10 = .ok (.iload_n 0, 1) := by decide +kernel
theorem dJ6_bitCount_0f7a4_11 : decode cJ6_bitCount_0f7a4 11 = .ok (.ldc_w 266, 3) := by decide +kernel
theorem dJ6_bitCount_0f7a4_14 : decode cJ6_bitCount_0f7a4 14 = .ok (.iand, 1) := by decide +kernel
theorem dJ6_bitCount_0f7a4_15 : decode cJ6_bitCount_0f7a4 15 = .ok (.iload_n 0, 1) := by decide +kernel
theorem dJ6_bitCount_0f7a4_16 : decode cJ6_bitCount_0f7a4 16 = .ok (.iconst 2, 1) := by decide +kernel
theorem dJ6_bitCount_0f7a4_17 : decode cJ6_bitCount_0f7a4 17 = .ok (.iushr, 1) := by decide +kernel
theorem dJ6_bitCount_0f7a4_18 : decode cJ6_bitCount_0f7a4 18 = .ok (.ldc_w 266, 3) := by decide +kernel
theorem dJ6_bitCount_0f7a4_21 : decode cJ6_bitCount_0f7a4 21 = .ok (.iand, 1) := by decide +kernel
theorem dJ6_bitCount_0f7a4_22 : decode cJ6_bitCount_0f7a4 22 = .ok (.iadd, 1) := by decide +kernel
theorem dJ6_bitCount_0f7a4_23 : decode cJ6_bitCount_0f7a4 23 = .ok (.istore_n 0, 1) := by decide +kernel
theorem dJ6_bitCount_0f7a4_24 : decode cJ6_bitCount_0f7a4 24 = .ok (.iload_n 0, 1) := by decide +kernel
theorem dJ6_bitCount_0f7a4_25 : decode cJ6_bitCount_0f7a4 25 = .ok (.iload_n 0, 1) := by decide +kernel
theorem dJ6_bitCount_0f7a4_26 : decode cJ6_bitCount_0f7a4 26 = .ok (.iconst 4, 1) := by decide +kernel
theorem dJ6_bitCount_0f7a4_27 : decode cJ6_bitCount_0f7a4 27 = .ok (.iushr, 1) := by decide +kernel
theorem dJ6_bitCount_0f7a4_28 : decode cJ6_bitCount_0f7a4 28 = .ok (.iadd, 1) := by decide +kernel
theorem dJ6_bitCount_0f7a4_29 : decode cJ6_bitCount_0f7a4 29 = .ok (.ldc_w 267, 3) := by decide +kernel
theorem dJ6_bitCount_0f7a4_32 : decode cJ6_bitCount_0f7a4 32 = .ok (.iand, 1) := by decide +kernel
theorem dJ6_bitCount_0f7a4_33 : decode cJ6_bitCount_0f7a4 33 = .ok (.istore_n 0, 1) := by decide +kernel
theorem dJ6_bitCount_0f7a4_34 : decode cJ6_bitCount_0f7a4 34 = .ok (.iload_n 0, 1) := by decide +kernel
theorem dJ6_bitCount_0f7a4_35 : decode cJ6_bitCount_0f7a4 35 = .ok (.iload_n 0, 1) := by decide +kernel
theorem dJ6_bitCount_0f7a4_36 : decode cJ6_bitCount_0f7a4 36 = .ok (.bipush 8, 2) := by decide +kernel
theorem dJ6_bitCount_0f7a4_38 : decode cJ6_bitCount_0f7a4 38 = .ok (.iushr, 1) := by decide +kernel
theorem dJ6_bitCount_0f7a4_39 : decode cJ6_bitCount_0f7a4 39 = .ok (.iadd, 1) := by decide +kernel
theorem dJ6_bitCount_0f7a4_40 : decode cJ6_bitCount_0f7a4 40 = .ok (.istore_n 0, 1) := by decide +kernel
theorem dJ6_bitCount_0f7a4_41 : decode cJ6_bitCount_0f7a4 41 = .ok (.iload_n 0, 1) := by decide +kernel
theorem dJ6_bitCount_0f7a4_42 : decode cJ6_bitCount_0f7a4 42 = .ok (.iload_n 0, 1) := by decide +kernel
theorem dJ6_bitCount_0f7a4_43 : decode cJ6_bitCount_0f7a4 43 = .ok (.bipush 16, 2) := by decide +kernel
theorem dJ6_bitCount_0f7a4_45 : decode cJ6_bitCount_0f7a4 45 = .ok (.iushr, 1) := by decide +kernel
theorem dJ6_bitCount_0f7a4_46 : decode cJ6_bitCount_0f7a4 46 = .ok (.iadd, 1) := by decide +kernel
theorem dJ6_bitCount_0f7a4_47 : decode cJ6_bitCount_0f7a4 47 = .ok (.istore_n 0, 1) := by decide +kernel
theorem dJ6_bitCount_0f7a4_48 : decode cJ6_bitCount_0f7a4 48 = .ok (.iload_n 0, 1) := by decide +kernel
theorem dJ6_bitCount_0f7a4_49 : decode cJ6_bitCount_0f7a4 49 = .ok (.bipush 63, 2) := by decide +kernel
theorem dJ6_bitCount_0f7a4_51 : decode cJ6_bitCount_0f7a4 51 = .ok (.iand, 1) := by decide +kernel
theorem dJ6_bitCount_0f7a4_52 : decode cJ6_bitCount_0f7a4 52 = .ok (.ireturn, 1) := by decide +kernel
theorem dJ13_bitCount_95d88_0 : decode cJ13_bitCount_95d88 0 = .ok (.lload_n 0, 1) := by decide +kernel
theorem dJ13_bitCount_95d88_1 : decode cJ13_bitCount_95d88 1 = .ok (.lload_n 0, 1) := by decide +kernel
theorem dJ13_bitCount_95d88_2 : decode cJ13_bitCount_95d88 2 = .ok (.iconst 1, 1) := by decide +kernel
theorem dJ13_bitCount_95d88_3 : decode cJ13_bitCount_95d88 3 = .ok (.lushr, 1) := by decide +kernel
theorem dJ13_bitCount_95d88_4 : decode cJ13_bitCount_95d88 4 = .ok (.ldc2_w 314, 3) := by decide +kernel
theorem dJ13_bitCount_95d88_7 : decode cJ13_bitCount_95d88 7 = .ok (.land, 1) := by decide +kernel
theorem dJ13_bitCount_95d88_8 : decode cJ13_bitCount_95d88 8 = .ok (.lsub, 1) := by decide +kernel
theorem dJ13_bitCount_95d88_9 : decode cJ13_bitCount_95d88 9 = .ok (.lstore_n 0, 1) := by decide +kernel
theorem dJ13_bitCount_95d88_10 : decode cJ13_bitCount_95d88 10 = .ok (.lload_n 0, 1) := by decide +kernel
theorem dJ13_bitCount_95d88_11 : decode cJ13_bitCount_95d88 11 = .ok (.ldc2_w 316, 3) := by decide +kernel
theorem dJ13_bitCount_95d88_14 : decode cJ13_bitCount_95d88 14 = .ok (.land, 1) := by decide +kernel
theorem dJ13_bitCount_95d88_15 : decode cJ13_bitCount_95d88 15 = .ok (.lload_n 0, 1) := by decide +kernel
theorem dJ13_bitCount_95d88_16 : decode cJ13_bitCount_95d88 16 = .ok (.iconst 2, 1) := by decide +kernel
theorem dJ13_bitCount_95d88_17 : decode cJ13_bitCount_95d88 17 = .ok (.lushr, 1) := by decide +kernel
theorem dJ13_bitCount_95d88_18 : decode cJ13_bitCount_95d88 18 = .ok (.ldc2_w 316, 3) := by decide +kernel
theorem dJ13_bitCount_95d88_21 : decode cJ13_bitCount_95d88 21 = .ok (.land, 1) := by decide +kernel
theorem dJ13_bitCount_95d88_22 : decode cJ13_bitCount_95d88 22 = .ok (.ladd, 1) := by decide +kernel
theorem dJ13_bitCount_95d88_23 : decode cJ13_bitCount_95d88 23 = .ok (.lstore_n 0, 1) := by decide +kernel
theorem dJ13_bitCount_95d88_24 : decode cJ13_bitCount_95d88 24 = .ok (.lload_n 0, 1) := by decide +kernel
theorem dJ13_bitCount_95d88_25 : decode cJ13_bitCount_95d88 25 = .ok (.lload_n 0, 1) := by decide +kernel
theorem dJ13_bitCount_95d88_26 : decode cJ13_bitCount_95d88 26 = .ok (.iconst 4, 1) := by decide +kernel
theorem dJ13_bitCount_95d88_27 : decode cJ13_bitCount_95d88 27 = .ok (.lushr, 1) := by decide +kernel
theorem dJ13_bitCount_95d88_28 : decode cJ13_bitCount_95d88 28 = .ok (.ladd, 1) := by decide +kernel
theorem dJ13_bitCount_95d88_29 : decode cJ13_bitCount_95d88 29 = .ok (.ldc2_w 318, 3) := by decide +kernel
theorem dJ13_bitCount_95d88_32 : decode cJ13_bitCount_95d88 32 = .ok (.land, 1) := by decide +kernel
theorem dJ13_bitCount_95d88_33 : decode cJ13_bitCount_95d88 33 = .ok (.lstore_n 0, 1) := by decide +kernel
theorem dJ13_bitCount_95d88_34 : decode cJ13_bitCount_95d88 34 = .ok (.lload_n 0, 1) := by decide +kernel
theorem dJ13_bitCount_95d88_35 : decode cJ13_bitCount_95d88 35 = .ok (.lload_n 0, 1) := by decide +kernel
theorem dJ13_bitCount_95d88_36 : decode cJ13_bitCount_95d88 36 = .ok (.bipush 8, 2) := by decide +kernel
theorem dJ13_bitCount_95d88_38 : decode cJ13_bitCount_95d88 38 = .ok (.lushr, 1) := by decide +kernel
theorem dJ13_bitCount_95d88_39 : decode cJ13_bitCount_95d88 39 = .ok (.ladd, 1) := by decide +kernel
theorem dJ13_bitCount_95d88_40 : decode cJ13_bitCount_95d88 40 = .ok (.lstore_n 0, 1) := by decide +kernel
theorem dJ13_bitCount_95d88_41 : decode cJ13_bitCount_95d88 41 = .ok (.lload_n 0, 1) := by decide +kernel
theorem dJ13_bitCount_95d88_42 : decode cJ13_bitCount_95d88 42 = .ok (.lload_n 0, 1) := by decide +kernel
theorem dJ13_bitCount_95d88_43 : decode cJ13_bitCount_95d88 43 = .ok (.bipush 16, 2) := by decide +kernel
theorem dJ13_bitCount_95d88_45 : decode cJ13_bitCount_95d88 45 = .ok (.lushr, 1) := by decide +kernel
theorem dJ13_bitCount_95d88_46 : decode cJ13_bitCount_95d88 46 = .ok (.ladd, 1) := by decide +kernel
theorem dJ13_bitCount_95d88_47 : decode cJ13_bitCount_95d88 47 = .ok (.lstore_n 0, 1) := by decide +kernel
theorem dJ13_bitCount_95d88_48 : decode cJ13_bitCount_95d88 48 = .ok (.lload_n 0, 1) := by decide +kernel
theorem dJ13_bitCount_95d88_49 : decode cJ13_bitCount_95d88 49 = .ok (.lload_n 0, 1) := by decide +kernel
theorem dJ13_bitCount_95d88_50 : decode cJ13_bitCount_95d88 50 = .ok (.bipush 32, 2) := by decide +kernel
theorem dJ13_bitCount_95d88_52 : decode cJ13_bitCount_95d88 52 = .ok (.lushr, 1) := by decide +kernel
theorem dJ13_bitCount_95d88_53 : decode cJ13_bitCount_95d88 53 = .ok (.ladd, 1) := by decide +kernel
theorem dJ13_bitCount_95d88_54 : decode cJ13_bitCount_95d88 54 = .ok (.lstore_n 0, 1) := by decide +kernel
theorem dJ13_bitCount_95d88_55 : decode cJ13_bitCount_95d88 55 = .ok (.lload_n 0, 1) := by decide +kernel
theorem dJ13_bitCount_95d88_56 : decode cJ13_bitCount_95d88 56 = .ok (.l2i, 1) := by decide +kernel
theorem dJ13_bitCount_95d88_57 : decode cJ13_bitCount_95d88 57 = .ok (.bipush 127, 2) := by decide +kernel
theorem dJ13_bitCount_95d88_59 : decode cJ13_bitCount_95d88 59 = .ok (.iand, 1) := by decide +kernel
theorem dJ13_bitCount_95d88_60 : decode cJ13_bitCount_95d88 60 = .ok (.ireturn, 1) := by decide +kernel
theorem dJ9_abs_0f7a4_0 : decode cJ9_abs_0f7a4 0 = .ok (.iload_n 0, 1) := by decide +kernel
theorem dJ9_abs_0f7a4_1 : decode cJ9_abs_0f7a4 1 = .ok (.ifCond .ge 8, 3) := by decide +kernel
theorem dJ9_abs_0f7a4_4 : decode cJ9_abs_0f7a4 4 = .ok (.iload_n 0, 1) := by decide +kernel
theorem dJ9_abs_0f7a4_5 : decode cJ9_abs_0f7a4 5 = .ok (.ineg, 1) := by decide +kernel
theorem dJ9_abs_0f7a4_6 : decode cJ9_abs_0f7a4 6 = .ok (.goto 4, 3) := by decide +kernel
theorem dJ9_abs_0f7a4_9 : decode cJ9_abs_0f7a4 9 = .ok (.iload_n 0, 1) := by decide +kernel
theorem dJ9_abs_0f7a4_10 : decode cJ9_abs_0f7a4 10 = .ok (.ireturn, 1) := by decide +kernel
theorem dJ9_min_7cf53_0 : decode cJ9_min_7cf53 0 = .ok (.iload_n 0, 1) := by decide +kernel
theorem dJ9_min_7cf53_1 : decode cJ9_min_7cf53 1 = .ok (.iload_n 1, 1) := by decide +kernel
theorem dJ9_min_7cf53_2 : decode cJ9_min_7cf53 2 = .ok (.if_icmp .gt 7, 3) := by decide +kernel
theorem dJ9_min_7cf53_5 : decode cJ9_min_7cf53 5 = .ok (.iload_n 0, 1) := by decide +kernel
theorem dJ9_min_7cf53_6 : decode cJ9_min_7cf53 6 = .ok (.goto 4, 3) := by decide +kernel
theorem dJ9_min_7cf53_9 : decode cJ9_min_7cf53 9 = .ok (.iload_n 1, 1) := by decide +kernel
theorem dJ9_min_7cf53_10 : decode cJ9_min_7cf53 10 = .ok (.ireturn, 1) := by decide +kernel
theorem dJ7_fill_53178_0 : decode cJ7_fill_53178 0 = .ok (.iconst 0, 1) := by decide +kernel
theorem dJ7_fill_53178_1 : decode cJ7_fill_53178 1 = .ok (.istore_n 2, 1) := by decide +kernel
theorem dJ7_fill_53178_2 : decode cJ7_fill_53178 2 = .ok (.aload_n 0, 1) := by decide +kernel
theorem dJ7_fill_53178_3 : decode cJ7_fill_53178 3 = .ok (.arraylength, 1) := by decide +kernel
theorem dJ7_fill_53178_4 : decode cJ7_fill_53178 4 = .ok (.istore_n 3, 1) := by decide +kernel
theorem dJ7_fill_53178_5 : decode cJ7_fill_53178 5 = .ok (.iload_n 2, 1) := by decide +kernel
theorem dJ7_fill_53178_6 : decode cJ7_fill_53178 6 = .ok (.iload_n 3, 1) := by decide +kernel
theorem dJ7_fill_53178_7 : decode cJ7_fill_53178 7 = .ok (.if_icmp .ge 13, 3) := by decide +kernel
theorem dJ7_fill_53178_10 : decode cJ7_fill_53178 10 = .ok (.aload_n 0, 1) := by decide +kernel
theorem dJ7_fill_53178_11 : decode cJ7_fill_53178 11 = .ok (.iload_n 2, 1) := by decide +kernel
theorem dJ7_fill_53178_12 : decode cJ7_fill_53178 12 = .ok (.iload_n 1, 1) := by decide +kernel
theorem dJ7_fill_53178_13 : decode cJ7_fill_53178 13 = .ok (.iastore, 1) := by decide +kernel
theorem dJ7_fill_53178_14 : decode cJ7_fill_53178 14 = .ok (.iinc 2 1, 3) := by decide +kernel
theorem dJ7_fill_53178_17 : decode cJ7_fill_53178 17 = .ok (.goto (-12), 3) := by decide +kernel
theorem dJ7_fill_53178_20 : decode cJ7_fill_53178 20 = .ok (.return_, 1) := by decide +kernel
