theorem dX0_init_0 : decode cX0_init 0 = .ok (.aload_n 0, 1) := by decide +kernel
theorem dX0_init_1 : decode cX0_init 1 = .ok (.invokespecial 1, 3) := by decide +kernel
theorem dX0_init_4 : decode cX0_init 4 = .ok (.aload_n 0, 1) := by decide +kernel
theorem dX0_init_5 : decode cX0_init 5 = .ok (.bipush 6, 2) := by decide +kernel
theorem dX0_init_7 : decode cX0_init 7 = .ok (.newarray .int, 2) := by decide +kernel
theorem dX0_init_9 : decode cX0_init 9 = .ok (.putfield 9, 3) := by decide +kernel
theorem dX0_init_12 : decode cX0_init 12 = .ok (.getstatic 15, 3) := by decide +kernel
theorem dX0_init_15 : decode cX0_init 15 = .ok (.iconst 0, 1) := by decide +kernel
theorem dX0_init_16 : decode cX0_init 16 = .ok (.aload_n 0, 1) := by decide +kernel
theorem dX0_init_17 : decode cX0_init 17 = .ok (.getfield 9, 3) := by decide +kernel
theorem dX0_init_20 : decode cX0_init 20 = .ok (.iconst 0, 1) := by decide +kernel
theorem dX0_init_21 : decode cX0_init 21 = .ok (.bipush 6, 2) := by decide +kernel
theorem dX0_init_23 : decode cX0_init 23 = .ok (.invokestatic 18, 3) := by decide +kernel
theorem dX0_init_26 : decode cX0_init 26 = .ok (.return_, 1) := by decide +kernel
theorem dX0_copyFrom_0 : decode cX0_copyFrom 0 = .ok (.aload_n 1, 1) := by decide +kernel
theorem dX0_copyFrom_1 : decode cX0_copyFrom 1 = .ok (.getfield 9, 3) := by decide +kernel
theorem dX0_copyFrom_4 : decode cX0_copyFrom 4 = .ok (.iconst 0, 1) := by decide +kernel
theorem dX0_copyFrom_5 : decode cX0_copyFrom 5 = .ok (.aload_n 0, 1) := by decide +kernel
theorem dX0_copyFrom_6 : decode cX0_copyFrom 6 = .ok (.getfield 9, 3) := by decide +kernel
theorem dX0_copyFrom_9 : decode cX0_copyFrom 9 = .ok (.iconst 0, 1) := by decide +kernel
theorem dX0_copyFrom_10 : decode cX0_copyFrom 10 = .ok (.bipush 6, 2) := by decide +kernel
theorem dX0_copyFrom_12 : decode cX0_copyFrom 12 = .ok (.invokestatic 18, 3) := by decide +kernel
theorem dX0_copyFrom_15 : decode cX0_copyFrom 15 = .ok (.aload_n 0, 1) := by decide +kernel
theorem dX0_copyFrom_16 : decode cX0_copyFrom 16 = .ok (.aload_n 1, 1) := by decide +kernel
theorem dX0_copyFrom_17 : decode cX0_copyFrom 17 = .ok (.getfield 24, 3) := by decide +kernel
theorem dX0_copyFrom_20 : decode cX0_copyFrom 20 = .ok (.putfield 24, 3) := by decide +kernel
theorem dX0_copyFrom_23 : decode cX0_copyFrom 23 = .ok (.aload_n 0, 1) := by decide +kernel
theorem dX0_copyFrom_24 : decode cX0_copyFrom 24 = .ok (.aload_n 1, 1) := by decide +kernel
theorem dX0_copyFrom_25 : decode cX0_copyFrom 25 = .ok (.getfield 28, 3) := by decide +kernel
theorem dX0_copyFrom_28 : decode cX0_copyFrom 28 = .ok (.putfield 28, 3) := by decide +kernel
theorem dX0_copyFrom_31 : decode cX0_copyFrom 31 = .ok (.aload_n 0, 1) := by decide +kernel
theorem dX0_copyFrom_32 : decode cX0_copyFrom 32 = .ok (.aload_n 1, 1) := by decide +kernel
theorem dX0_copyFrom_33 : decode cX0_copyFrom 33 = .ok (.getfield 32, 3) := by decide +kernel
theorem dX0_copyFrom_36 : decode cX0_copyFrom 36 = .ok (.putfield 32, 3) := by decide +kernel
theorem dX0_copyFrom_39 : decode cX0_copyFrom 39 = .ok (.return_, 1) := by decide +kernel
theorem dX0_become_0 : decode cX0_become 0 = .ok (.aload_n 1, 1) := by decide +kernel
theorem dX0_become_1 : decode cX0_become 1 = .ok (.iconst 0, 1) := by decide +kernel
theorem dX0_become_2 : decode cX0_become 2 = .ok (.aload_n 0, 1) := by decide +kernel
theorem dX0_become_3 : decode cX0_become 3 = .ok (.getfield 9, 3) := by decide +kernel
theorem dX0_become_6 : decode cX0_become 6 = .ok (.iconst 0, 1) := by decide +kernel
theorem dX0_become_7 : decode cX0_become 7 = .ok (.bipush 6, 2) := by decide +kernel
theorem dX0_become_9 : decode cX0_become 9 = .ok (.invokestatic 18, 3) := by decide +kernel
theorem dX0_become_12 : decode cX0_become 12 = .ok (.aload_n 0, 1) := by decide +kernel
theorem dX0_become_13 : decode cX0_become 13 = .ok (.iconst 0, 1) := by decide +kernel
theorem dX0_become_14 : decode cX0_become 14 = .ok (.putfield 28, 3) := by decide +kernel
theorem dX0_become_17 : decode cX0_become 17 = .ok (.return_, 1) := by decide +kernel
theorem dX0_steerFor_0 : decode cX0_steerFor 0 = .ok (.aload_n 0, 1) := by decide +kernel
theorem dX0_steerFor_1 : decode cX0_steerFor 1 = .ok (.iload_n 1, 1) := by decide +kernel
theorem dX0_steerFor_2 : decode cX0_steerFor 2 = .ok (.putfield 24, 3) := by decide +kernel
theorem dX0_steerFor_5 : decode cX0_steerFor 5 = .ok (.aload_n 0, 1) := by decide +kernel
theorem dX0_steerFor_6 : decode cX0_steerFor 6 = .ok (.iconst 0, 1) := by decide +kernel
theorem dX0_steerFor_7 : decode cX0_steerFor 7 = .ok (.putfield 28, 3) := by decide +kernel
theorem dX0_steerFor_10 : decode cX0_steerFor 10 = .ok (.return_, 1) := by decide +kernel
theorem dX0_steerShip_0 : decode cX0_steerShip 0 = .ok (.aload_n 0, 1) := by decide +kernel
theorem dX0_steerShip_1 : decode cX0_steerShip 1 = .ok (.getfield 9, 3) := by decide +kernel
theorem dX0_steerShip_4 : decode cX0_steerShip 4 = .ok (.iconst 4, 1) := by decide +kernel
theorem dX0_steerShip_5 : decode cX0_steerShip 5 = .ok (.iaload, 1) := by decide +kernel
theorem dX0_steerShip_6 : decode cX0_steerShip 6 = .ok (.istore_n 2, 1) := by decide +kernel
theorem dX0_steerShip_7 : decode cX0_steerShip 7 = .ok (.aload_n 1, 1) := by decide +kernel
theorem dX0_steerShip_8 : decode cX0_steerShip 8 = .ok (.aload_n 0, 1) := by decide +kernel
theorem dX0_steerShip_9 : decode cX0_steerShip 9 = .ok (.getfield 9, 3) := by decide +kernel
theorem dX0_steerShip_12 : decode cX0_steerShip 12 = .ok (.iconst 5, 1) := by decide +kernel
theorem dX0_steerShip_13 : decode cX0_steerShip 13 = .ok (.iaload, 1) := by decide +kernel
theorem dX0_steerShip_14 : decode cX0_steerShip 14 = .ok (.invokevirtual 35, 3) := by decide +kernel
theorem dX0_steerShip_17 : decode cX0_steerShip 17 = .ok (.astore_n 3, 1) := by decide +kernel
theorem dX0_steerShip_18 : decode cX0_steerShip 18 = .ok (.iload_n 2, 1) := by decide +kernel
theorem dX0_steerShip_19 : decode cX0_steerShip 19 = .ok (.iconst 1, 1) := by decide +kernel
theorem dX0_steerShip_20 : decode cX0_steerShip 20 = .ok (.if_icmp .lt 16, 3) := by decide +kernel
theorem dX0_steerShip_23 : decode cX0_steerShip 23 = .ok (.aload_n 1, 1) := by decide +kernel
theorem dX0_steerShip_24 : decode cX0_steerShip 24 = .ok (.getfield 41, 3) := by decide +kernel
theorem dX0_steerShip_27 : decode cX0_steerShip 27 = .ok (.iload_n 2, 1) := by decide +kernel
theorem dX0_steerShip_28 : decode cX0_steerShip 28 = .ok (.irem, 1) := by decide +kernel
theorem dX0_steerShip_29 : decode cX0_steerShip 29 = .ok (.ifCond .ne 7, 3) := by decide +kernel
theorem dX0_steerShip_32 : decode cX0_steerShip 32 = .ok (.aload_n 3, 1) := by decide +kernel
theorem dX0_steerShip_33 : decode cX0_steerShip 33 = .ok (.ifnonnull 4, 3) := by decide +kernel
theorem dX0_steerShip_36 : decode cX0_steerShip 36 = .ok (.return_, 1) := by decide +kernel
theorem dX0_steerShip_37 : decode cX0_steerShip 37 = .ok (.aload_n 3, 1) := by decide +kernel
theorem dX0_steerShip_38 : decode cX0_steerShip 38 = .ok (.aload_n 1, 1) := by decide +kernel
theorem dX0_steerShip_39 : decode cX0_steerShip 39 = .ok (.getfield 44, 3) := by decide +kernel
theorem dX0_steerShip_42 : decode cX0_steerShip 42 = .ok (.aload_n 1, 1) := by decide +kernel
theorem dX0_steerShip_43 : decode cX0_steerShip 43 = .ok (.getfield 47, 3) := by decide +kernel
theorem dX0_steerShip_46 : decode cX0_steerShip 46 = .ok (.invokevirtual 51, 3) := by decide +kernel
theorem dX0_steerShip_49 : decode cX0_steerShip 49 = .ok (.istore 4, 2) := by decide +kernel
theorem dX0_steerShip_51 : decode cX0_steerShip 51 = .ok (.aload_n 0, 1) := by decide +kernel
theorem dX0_steerShip_52 : decode cX0_steerShip 52 = .ok (.getfield 24, 3) := by decide +kernel
theorem dX0_steerShip_55 : decode cX0_steerShip 55 = .ok (.iload 4, 2) := by decide +kernel
theorem dX0_steerShip_57 : decode cX0_steerShip 57 = .ok (.isub, 1) := by decide +kernel
theorem dX0_steerShip_58 : decode cX0_steerShip 58 = .ok (.invokestatic 57, 3) := by decide +kernel
theorem dX0_steerShip_61 : decode cX0_steerShip 61 = .ok (.istore 5, 2) := by decide +kernel
theorem dX0_steerShip_63 : decode cX0_steerShip 63 = .ok (.aload_n 0, 1) := by decide +kernel
theorem dX0_steerShip_64 : decode cX0_steerShip 64 = .ok (.getfield 28, 3) := by decide +kernel
theorem dX0_steerShip_67 : decode cX0_steerShip 67 = .ok (.ifCond .eq 16, 3) := by decide +kernel
theorem dX0_steerShip_70 : decode cX0_steerShip 70 = .ok (.iload 4, 2) := by decide +kernel
theorem dX0_steerShip_72 : decode cX0_steerShip 72 = .ok (.aload_n 0, 1) := by decide +kernel
theorem dX0_steerShip_73 : decode cX0_steerShip 73 = .ok (.getfield 32, 3) := by decide +kernel
theorem dX0_steerShip_76 : decode cX0_steerShip 76 = .ok (.isub, 1) := by decide +kernel
theorem dX0_steerShip_77 : decode cX0_steerShip 77 = .ok (.invokestatic 57, 3) := by decide +kernel
theorem dX0_steerShip_80 : decode cX0_steerShip 80 = .ok (.goto 4, 3) := by decide +kernel
theorem dX0_steerShip_83 : decode cX0_steerShip 83 = .ok (.iconst 0, 1) := by decide +kernel
theorem dX0_steerShip_84 : decode cX0_steerShip 84 = .ok (.istore 6, 2) := by decide +kernel
theorem dX0_steerShip_86 : decode cX0_steerShip 86 = .ok (.aload_n 0, 1) := by decide +kernel
theorem dX0_steerShip_87 : decode cX0_steerShip 87 = .ok (.iconst 1, 1) := by decide +kernel
theorem dX0_steerShip_88 : decode cX0_steerShip 88 = .ok (.putfield 28, 3) := by decide +kernel
theorem dX0_steerShip_91 : decode cX0_steerShip 91 = .ok (.aload_n 0, 1) := by decide +kernel
theorem dX0_steerShip_92 : decode cX0_steerShip 92 = .ok (.iload 4, 2) := by decide +kernel
theorem dX0_steerShip_94 : decode cX0_steerShip 94 = .ok (.putfield 32, 3) := by decide +kernel
theorem dX0_steerShip_97 : decode cX0_steerShip 97 = .ok (.aload_n 1, 1) := by decide +kernel
theorem dX0_steerShip_98 : decode cX0_steerShip 98 = .ok (.iload 5, 2) := by decide +kernel
theorem dX0_steerShip_100 : decode cX0_steerShip 100 = .ok (.invokestatic 63, 3) := by decide +kernel
theorem dX0_steerShip_103 : decode cX0_steerShip 103 = .ok (.bipush 10, 2) := by decide +kernel
theorem dX0_steerShip_105 : decode cX0_steerShip 105 = .ok (.aload_n 0, 1) := by decide +kernel
theorem dX0_steerShip_106 : decode cX0_steerShip 106 = .ok (.getfield 9, 3) := by decide +kernel
theorem dX0_steerShip_109 : decode cX0_steerShip 109 = .ok (.iconst 0, 1) := by decide +kernel
theorem dX0_steerShip_110 : decode cX0_steerShip 110 = .ok (.iaload, 1) := by decide +kernel
theorem dX0_steerShip_111 : decode cX0_steerShip 111 = .ok (.imul, 1) := by decide +kernel
theorem dX0_steerShip_112 : decode cX0_steerShip 112 = .ok (.if_icmp .gt 7, 3) := by decide +kernel
theorem dX0_steerShip_115 : decode cX0_steerShip 115 = .ok (.iconst 0, 1) := by decide +kernel
theorem dX0_steerShip_116 : decode cX0_steerShip 116 = .ok (.goto 11, 3) := by decide +kernel
theorem dX0_steerShip_119 : decode cX0_steerShip 119 = .ok (.aload_n 0, 1) := by decide +kernel
theorem dX0_steerShip_120 : decode cX0_steerShip 120 = .ok (.iload 5, 2) := by decide +kernel
theorem dX0_steerShip_122 : decode cX0_steerShip 122 = .ok (.iload 6, 2) := by decide +kernel
theorem dX0_steerShip_124 : decode cX0_steerShip 124 = .ok (.invokevirtual 68, 3) := by decide +kernel
theorem dX0_steerShip_127 : decode cX0_steerShip 127 = .ok (.putfield 72, 3) := by decide +kernel
theorem dX0_steerShip_130 : decode cX0_steerShip 130 = .ok (.return_, 1) := by decide +kernel
theorem dX0_answerTo_0 : decode cX0_answerTo 0 = .ok (.iload_n 1, 1) := by decide +kernel
theorem dX0_answerTo_1 : decode cX0_answerTo 1 = .ok (.aload_n 0, 1) := by decide +kernel
theorem dX0_answerTo_2 : decode cX0_answerTo 2 = .ok (.getfield 9, 3) := by decide +kernel
theorem dX0_answerTo_5 : decode cX0_answerTo 5 = .ok (.iconst 1, 1) := by decide +kernel
theorem dX0_answerTo_6 : decode cX0_answerTo 6 = .ok (.iaload, 1) := by decide +kernel
theorem dX0_answerTo_7 : decode cX0_answerTo 7 = .ok (.imul, 1) := by decide +kernel
theorem dX0_answerTo_8 : decode cX0_answerTo 8 = .ok (.sipush 10000, 3) := by decide +kernel
theorem dX0_answerTo_11 : decode cX0_answerTo 11 = .ok (.idiv, 1) := by decide +kernel
theorem dX0_answerTo_12 : decode cX0_answerTo 12 = .ok (.iload_n 2, 1) := by decide +kernel
theorem dX0_answerTo_13 : decode cX0_answerTo 13 = .ok (.aload_n 0, 1) := by decide +kernel
theorem dX0_answerTo_14 : decode cX0_answerTo 14 = .ok (.getfield 9, 3) := by decide +kernel
theorem dX0_answerTo_17 : decode cX0_answerTo 17 = .ok (.iconst 2, 1) := by decide +kernel
theorem dX0_answerTo_18 : decode cX0_answerTo 18 = .ok (.iaload, 1) := by decide +kernel
theorem dX0_answerTo_19 : decode cX0_answerTo 19 = .ok (.imul, 1) := by decide +kernel
theorem dX0_answerTo_20 : decode cX0_answerTo 20 = .ok (.sipush 10000, 3) := by decide +kernel
theorem dX0_answerTo_23 : decode cX0_answerTo 23 = .ok (.idiv, 1) := by decide +kernel
theorem dX0_answerTo_24 : decode cX0_answerTo 24 = .ok (.isub, 1) := by decide +kernel
theorem dX0_answerTo_25 : decode cX0_answerTo 25 = .ok (.aload_n 0, 1) := by decide +kernel
theorem dX0_answerTo_26 : decode cX0_answerTo 26 = .ok (.getfield 9, 3) := by decide +kernel
theorem dX0_answerTo_29 : decode cX0_answerTo 29 = .ok (.iconst 3, 1) := by decide +kernel
theorem dX0_answerTo_30 : decode cX0_answerTo 30 = .ok (.iaload, 1) := by decide +kernel
theorem dX0_answerTo_31 : decode cX0_answerTo 31 = .ok (.invokestatic 75, 3) := by decide +kernel
theorem dX0_answerTo_34 : decode cX0_answerTo 34 = .ok (.ireturn, 1) := by decide +kernel
theorem dX1_init_0 : decode cX1_init 0 = .ok (.aload_n 0, 1) := by decide +kernel
theorem dX1_init_1 : decode cX1_init 1 = .ok (.invokespecial 1, 3) := by decide +kernel
theorem dX1_init_4 : decode cX1_init 4 = .ok (.aload_n 0, 1) := by decide +kernel
theorem dX1_init_5 : decode cX1_init 5 = .ok (.aload_n 1, 1) := by decide +kernel
theorem dX1_init_6 : decode cX1_init 6 = .ok (.putfield 7, 3) := by decide +kernel
theorem dX1_init_9 : decode cX1_init 9 = .ok (.aload_n 0, 1) := by decide +kernel
theorem dX1_init_10 : decode cX1_init 10 = .ok (.aload_n 2, 1) := by decide +kernel
theorem dX1_init_11 : decode cX1_init 11 = .ok (.putfield 13, 3) := by decide +kernel
theorem dX1_init_14 : decode cX1_init 14 = .ok (.return_, 1) := by decide +kernel
theorem dX1_keep_0 : decode cX1_keep 0 = .ok (.aload_n 0, 1) := by decide +kernel
theorem dX1_keep_1 : decode cX1_keep 1 = .ok (.getfield 7, 3) := by decide +kernel
theorem dX1_keep_4 : decode cX1_keep 4 = .ok (.aload_n 1, 1) := by decide +kernel
theorem dX1_keep_5 : decode cX1_keep 5 = .ok (.invokevirtual 17, 3) := by decide +kernel
theorem dX1_keep_8 : decode cX1_keep 8 = .ok (.aload_n 0, 1) := by decide +kernel
theorem dX1_keep_9 : decode cX1_keep 9 = .ok (.getfield 13, 3) := by decide +kernel
theorem dX1_keep_12 : decode cX1_keep 12 = .ok (.aload_n 2, 1) := by decide +kernel
theorem dX1_keep_13 : decode cX1_keep 13 = .ok (.invokevirtual 23, 3) := by decide +kernel
theorem dX1_keep_16 : decode cX1_keep 16 = .ok (.aload_n 0, 1) := by decide +kernel
theorem dX1_keep_17 : decode cX1_keep 17 = .ok (.getfield 7, 3) := by decide +kernel
theorem dX1_keep_20 : decode cX1_keep 20 = .ok (.aload_n 0, 1) := by decide +kernel
theorem dX1_keep_21 : decode cX1_keep 21 = .ok (.getfield 13, 3) := by decide +kernel
theorem dX1_keep_24 : decode cX1_keep 24 = .ok (.getfield 28, 3) := by decide +kernel
theorem dX1_keep_27 : decode cX1_keep 27 = .ok (.iconst 5, 1) := by decide +kernel
theorem dX1_keep_28 : decode cX1_keep 28 = .ok (.iaload, 1) := by decide +kernel
theorem dX1_keep_29 : decode cX1_keep 29 = .ok (.invokevirtual 32, 3) := by decide +kernel
theorem dX1_keep_32 : decode cX1_keep 32 = .ok (.aload_n 0, 1) := by decide +kernel
theorem dX1_keep_33 : decode cX1_keep 33 = .ok (.getfield 13, 3) := by decide +kernel
theorem dX1_keep_36 : decode cX1_keep 36 = .ok (.getfield 28, 3) := by decide +kernel
theorem dX1_keep_39 : decode cX1_keep 39 = .ok (.iconst 0, 1) := by decide +kernel
theorem dX1_keep_40 : decode cX1_keep 40 = .ok (.iload 4, 2) := by decide +kernel
theorem dX1_keep_42 : decode cX1_keep 42 = .ok (.iastore, 1) := by decide +kernel
theorem dX1_keep_43 : decode cX1_keep 43 = .ok (.aload_n 0, 1) := by decide +kernel
theorem dX1_keep_44 : decode cX1_keep 44 = .ok (.iconst 0, 1) := by decide +kernel
theorem dX1_keep_45 : decode cX1_keep 45 = .ok (.putfield 36, 3) := by decide +kernel
theorem dX1_keep_48 : decode cX1_keep 48 = .ok (.aload_n 0, 1) := by decide +kernel
theorem dX1_keep_49 : decode cX1_keep 49 = .ok (.iconst 0, 1) := by decide +kernel
theorem dX1_keep_50 : decode cX1_keep 50 = .ok (.putfield 40, 3) := by decide +kernel
theorem dX1_keep_53 : decode cX1_keep 53 = .ok (.iconst 1, 1) := by decide +kernel
theorem dX1_keep_54 : decode cX1_keep 54 = .ok (.istore 5, 2) := by decide +kernel
theorem dX1_keep_56 : decode cX1_keep 56 = .ok (.iload 5, 2) := by decide +kernel
theorem dX1_keep_58 : decode cX1_keep 58 = .ok (.iload_n 3, 1) := by decide +kernel
theorem dX1_keep_59 : decode cX1_keep 59 = .ok (.if_icmp .gt 82, 3) := by decide +kernel
theorem dX1_keep_62 : decode cX1_keep 62 = .ok (.aload_n 0, 1) := by decide +kernel
theorem dX1_keep_63 : decode cX1_keep 63 = .ok (.getfield 13, 3) := by decide +kernel
theorem dX1_keep_66 : decode cX1_keep 66 = .ok (.aload_n 0, 1) := by decide +kernel
theorem dX1_keep_67 : decode cX1_keep 67 = .ok (.getfield 7, 3) := by decide +kernel
theorem dX1_keep_70 : decode cX1_keep 70 = .ok (.invokevirtual 43, 3) := by decide +kernel
theorem dX1_keep_73 : decode cX1_keep 73 = .ok (.aload_n 0, 1) := by decide +kernel
theorem dX1_keep_74 : decode cX1_keep 74 = .ok (.getfield 7, 3) := by decide +kernel
theorem dX1_keep_77 : decode cX1_keep 77 = .ok (.invokevirtual 46, 3) := by decide +kernel
theorem dX1_keep_80 : decode cX1_keep 80 = .ok (.aload_n 0, 1) := by decide +kernel
theorem dX1_keep_81 : decode cX1_keep 81 = .ok (.dup, 1) := by decide +kernel
theorem dX1_keep_82 : decode cX1_keep 82 = .ok (.getfield 40, 3) := by decide +kernel
theorem dX1_keep_85 : decode cX1_keep 85 = .ok (.aload_n 0, 1) := by decide +kernel
theorem dX1_keep_86 : decode cX1_keep 86 = .ok (.getfield 7, 3) := by decide +kernel
theorem dX1_keep_89 : decode cX1_keep 89 = .ok (.getfield 49, 3) := by decide +kernel
theorem dX1_keep_92 : decode cX1_keep 92 = .ok (.invokestatic 52, 3) := by decide +kernel
theorem dX1_keep_95 : decode cX1_keep 95 = .ok (.iadd, 1) := by decide +kernel
theorem dX1_keep_96 : decode cX1_keep 96 = .ok (.putfield 40, 3) := by decide +kernel
theorem dX1_keep_99 : decode cX1_keep 99 = .ok (.iload 5, 2) := by decide +kernel
theorem dX1_keep_101 : decode cX1_keep 101 = .ok (.iload_n 3, 1) := by decide +kernel
theorem dX1_keep_102 : decode cX1_keep 102 = .ok (.iconst 2, 1) := by decide +kernel
theorem dX1_keep_103 : decode cX1_keep 103 = .ok (.idiv, 1) := by decide +kernel
theorem dX1_keep_104 : decode cX1_keep 104 = .ok (.if_icmp .le 31, 3) := by decide +kernel
theorem dX1_keep_107 : decode cX1_keep 107 = .ok (.aload_n 0, 1) := by decide +kernel
theorem dX1_keep_108 : decode cX1_keep 108 = .ok (.aload_n 0, 1) := by decide +kernel
theorem dX1_keep_109 : decode cX1_keep 109 = .ok (.getfield 36, 3) := by decide +kernel
theorem dX1_keep_112 : decode cX1_keep 112 = .ok (.aload_n 0, 1) := by decide +kernel
theorem dX1_keep_113 : decode cX1_keep 113 = .ok (.getfield 13, 3) := by decide +kernel
theorem dX1_keep_116 : decode cX1_keep 116 = .ok (.getfield 58, 3) := by decide +kernel
theorem dX1_keep_119 : decode cX1_keep 119 = .ok (.aload_n 0, 1) := by decide +kernel
theorem dX1_keep_120 : decode cX1_keep 120 = .ok (.getfield 7, 3) := by decide +kernel
theorem dX1_keep_123 : decode cX1_keep 123 = .ok (.getfield 61, 3) := by decide +kernel
theorem dX1_keep_126 : decode cX1_keep 126 = .ok (.invokestatic 64, 3) := by decide +kernel
theorem dX1_keep_129 : decode cX1_keep 129 = .ok (.invokestatic 70, 3) := by decide +kernel
theorem dX1_keep_132 : decode cX1_keep 132 = .ok (.putfield 36, 3) := by decide +kernel
theorem dX1_keep_135 : decode cX1_keep 135 = .ok (.iinc 5 1, 3) := by decide +kernel
theorem dX1_keep_138 : decode cX1_keep 138 = .ok (.goto (-82), 3) := by decide +kernel
theorem dX1_keep_141 : decode cX1_keep 141 = .ok (.return_, 1) := by decide +kernel
theorem dX2_init_0 : decode cX2_init 0 = .ok (.aload_n 0, 1) := by decide +kernel
theorem dX2_init_1 : decode cX2_init 1 = .ok (.invokespecial 3, 3) := by decide +kernel
theorem dX2_init_4 : decode cX2_init 4 = .ok (.aload_n 0, 1) := by decide +kernel
theorem dX2_init_5 : decode cX2_init 5 = .ok (.bipush 48, 2) := by decide +kernel
theorem dX2_init_7 : decode cX2_init 7 = .ok (.newarray .int, 2) := by decide +kernel
theorem dX2_init_9 : decode cX2_init 9 = .ok (.putfield 11, 3) := by decide +kernel
theorem dX2_init_12 : decode cX2_init 12 = .ok (.return_, 1) := by decide +kernel
theorem dX2_add_0 : decode cX2_add 0 = .ok (.aload_n 0, 1) := by decide +kernel
theorem dX2_add_1 : decode cX2_add 1 = .ok (.getfield 15, 3) := by decide +kernel
theorem dX2_add_4 : decode cX2_add 4 = .ok (.bipush 16, 2) := by decide +kernel
theorem dX2_add_6 : decode cX2_add 6 = .ok (.if_icmp .lt 6, 3) := by decide +kernel
theorem dX2_add_9 : decode cX2_add 9 = .ok (.bipush (-5), 2) := by decide +kernel
theorem dX2_add_11 : decode cX2_add 11 = .ok (.ireturn, 1) := by decide +kernel
theorem dX2_add_12 : decode cX2_add 12 = .ok (.aload_n 0, 1) := by decide +kernel
theorem dX2_add_13 : decode cX2_add 13 = .ok (.getfield 15, 3) := by decide +kernel
theorem dX2_add_16 : decode cX2_add 16 = .ok (.iconst 3, 1) := by decide +kernel
theorem dX2_add_17 : decode cX2_add 17 = .ok (.imul, 1) := by decide +kernel
theorem dX2_add_18 : decode cX2_add 18 = .ok (.istore 4, 2) := by decide +kernel
theorem dX2_add_20 : decode cX2_add 20 = .ok (.aload_n 0, 1) := by decide +kernel
theorem dX2_add_21 : decode cX2_add 21 = .ok (.getfield 11, 3) := by decide +kernel
theorem dX2_add_24 : decode cX2_add 24 = .ok (.iload 4, 2) := by decide +kernel
theorem dX2_add_26 : decode cX2_add 26 = .ok (.iload_n 1, 1) := by decide +kernel
theorem dX2_add_27 : decode cX2_add 27 = .ok (.iastore, 1) := by decide +kernel
theorem dX2_add_28 : decode cX2_add 28 = .ok (.aload_n 0, 1) := by decide +kernel
theorem dX2_add_29 : decode cX2_add 29 = .ok (.getfield 11, 3) := by decide +kernel
theorem dX2_add_32 : decode cX2_add 32 = .ok (.iload 4, 2) := by decide +kernel
theorem dX2_add_34 : decode cX2_add 34 = .ok (.iconst 1, 1) := by decide +kernel
theorem dX2_add_35 : decode cX2_add 35 = .ok (.iadd, 1) := by decide +kernel
theorem dX2_add_36 : decode cX2_add 36 = .ok (.iload_n 2, 1) := by decide +kernel
theorem dX2_add_37 : decode cX2_add 37 = .ok (.iastore, 1) := by decide +kernel
theorem dX2_add_38 : decode cX2_add 38 = .ok (.aload_n 0, 1) := by decide +kernel
theorem dX2_add_39 : decode cX2_add 39 = .ok (.getfield 11, 3) := by decide +kernel
theorem dX2_add_42 : decode cX2_add 42 = .ok (.iload 4, 2) := by decide +kernel
theorem dX2_add_44 : decode cX2_add 44 = .ok (.iconst 2, 1) := by decide +kernel
theorem dX2_add_45 : decode cX2_add 45 = .ok (.iadd, 1) := by decide +kernel
theorem dX2_add_46 : decode cX2_add 46 = .ok (.iload_n 3, 1) := by decide +kernel
theorem dX2_add_47 : decode cX2_add 47 = .ok (.iastore, 1) := by decide +kernel
theorem dX2_add_48 : decode cX2_add 48 = .ok (.aload_n 0, 1) := by decide +kernel
theorem dX2_add_49 : decode cX2_add 49 = .ok (.dup, 1) := by decide +kernel
theorem dX2_add_50 : decode cX2_add 50 = .ok (.getfield 15, 3) := by decide +kernel
theorem dX2_add_53 : decode cX2_add 53 = .ok (.iconst 1, 1) := by decide +kernel
theorem dX2_add_54 : decode cX2_add 54 = .ok (.iadd, 1) := by decide +kernel
theorem dX2_add_55 : decode cX2_add 55 = .ok (.putfield 15, 3) := by decide +kernel
theorem dX2_add_58 : decode cX2_add 58 = .ok (.aload_n 0, 1) := by decide +kernel
theorem dX2_add_59 : decode cX2_add 59 = .ok (.getfield 15, 3) := by decide +kernel
theorem dX2_add_62 : decode cX2_add 62 = .ok (.ireturn, 1) := by decide +kernel
theorem dX2_wrongInEach_0 : decode cX2_wrongInEach 0 = .ok (.aload_n 0, 1) := by decide +kernel
theorem dX2_wrongInEach_1 : decode cX2_wrongInEach 1 = .ok (.getfield 15, 3) := by decide +kernel
theorem dX2_wrongInEach_4 : decode cX2_wrongInEach 4 = .ok (.ifCond .ne 7, 3) := by decide +kernel
theorem dX2_wrongInEach_7 : decode cX2_wrongInEach 7 = .ok (.iconst 0, 1) := by decide +kernel
theorem dX2_wrongInEach_8 : decode cX2_wrongInEach 8 = .ok (.goto 5, 3) := by decide +kernel
theorem dX2_wrongInEach_11 : decode cX2_wrongInEach 11 = .ok (.bipush 7, 2) := by decide +kernel
theorem dX2_wrongInEach_13 : decode cX2_wrongInEach 13 = .ok (.istore_n 2, 1) := by decide +kernel
theorem dX2_wrongInEach_14 : decode cX2_wrongInEach 14 = .ok (.iconst 0, 1) := by decide +kernel
theorem dX2_wrongInEach_15 : decode cX2_wrongInEach 15 = .ok (.istore_n 3, 1) := by decide +kernel
theorem dX2_wrongInEach_16 : decode cX2_wrongInEach 16 = .ok (.iload_n 3, 1) := by decide +kernel
theorem dX2_wrongInEach_17 : decode cX2_wrongInEach 17 = .ok (.aload_n 0, 1) := by decide +kernel
theorem dX2_wrongInEach_18 : decode cX2_wrongInEach 18 = .ok (.getfield 15, 3) := by decide +kernel
theorem dX2_wrongInEach_21 : decode cX2_wrongInEach 21 = .ok (.if_icmp .ge 18, 3) := by decide +kernel
theorem dX2_wrongInEach_24 : decode cX2_wrongInEach 24 = .ok (.iload_n 2, 1) := by decide +kernel
theorem dX2_wrongInEach_25 : decode cX2_wrongInEach 25 = .ok (.aload_n 0, 1) := by decide +kernel
theorem dX2_wrongInEach_26 : decode cX2_wrongInEach 26 = .ok (.iload_n 3, 1) := by decide +kernel
theorem dX2_wrongInEach_27 : decode cX2_wrongInEach 27 = .ok (.iload_n 1, 1) := by decide +kernel
theorem dX2_wrongInEach_28 : decode cX2_wrongInEach 28 = .ok (.invokevirtual 19, 3) := by decide +kernel
theorem dX2_wrongInEach_31 : decode cX2_wrongInEach 31 = .ok (.iand, 1) := by decide +kernel
theorem dX2_wrongInEach_32 : decode cX2_wrongInEach 32 = .ok (.istore_n 2, 1) := by decide +kernel
theorem dX2_wrongInEach_33 : decode cX2_wrongInEach 33 = .ok (.iinc 3 1, 3) := by decide +kernel
theorem dX2_wrongInEach_36 : decode cX2_wrongInEach 36 = .ok (.goto (-20), 3) := by decide +kernel
theorem dX2_wrongInEach_39 : decode cX2_wrongInEach 39 = .ok (.iload_n 2, 1) := by decide +kernel
theorem dX2_wrongInEach_40 : decode cX2_wrongInEach 40 = .ok (.ireturn, 1) := by decide +kernel
theorem dX2_wrongInSome_0 : decode cX2_wrongInSome 0 = .ok (.iconst 0, 1) := by decide +kernel
theorem dX2_wrongInSome_1 : decode cX2_wrongInSome 1 = .ok (.istore_n 2, 1) := by decide +kernel
theorem dX2_wrongInSome_2 : decode cX2_wrongInSome 2 = .ok (.iconst 0, 1) := by decide +kernel
theorem dX2_wrongInSome_3 : decode cX2_wrongInSome 3 = .ok (.istore_n 3, 1) := by decide +kernel
theorem dX2_wrongInSome_4 : decode cX2_wrongInSome 4 = .ok (.iload_n 3, 1) := by decide +kernel
theorem dX2_wrongInSome_5 : decode cX2_wrongInSome 5 = .ok (.aload_n 0, 1) := by decide +kernel
theorem dX2_wrongInSome_6 : decode cX2_wrongInSome 6 = .ok (.getfield 15, 3) := by decide +kernel
theorem dX2_wrongInSome_9 : decode cX2_wrongInSome 9 = .ok (.if_icmp .ge 18, 3) := by decide +kernel
theorem dX2_wrongInSome_12 : decode cX2_wrongInSome 12 = .ok (.iload_n 2, 1) := by decide +kernel
theorem dX2_wrongInSome_13 : decode cX2_wrongInSome 13 = .ok (.aload_n 0, 1) := by decide +kernel
theorem dX2_wrongInSome_14 : decode cX2_wrongInSome 14 = .ok (.iload_n 3, 1) := by decide +kernel
theorem dX2_wrongInSome_15 : decode cX2_wrongInSome 15 = .ok (.iload_n 1, 1) := by decide +kernel
theorem dX2_wrongInSome_16 : decode cX2_wrongInSome 16 = .ok (.invokevirtual 19, 3) := by decide +kernel
theorem dX2_wrongInSome_19 : decode cX2_wrongInSome 19 = .ok (.ior, 1) := by decide +kernel
theorem dX2_wrongInSome_20 : decode cX2_wrongInSome 20 = .ok (.istore_n 2, 1) := by decide +kernel
theorem dX2_wrongInSome_21 : decode cX2_wrongInSome 21 = .ok (.iinc 3 1, 3) := by decide +kernel
theorem dX2_wrongInSome_24 : decode cX2_wrongInSome 24 = .ok (.goto (-20), 3) := by decide +kernel
theorem dX2_wrongInSome_27 : decode cX2_wrongInSome 27 = .ok (.iload_n 2, 1) := by decide +kernel
theorem dX2_wrongInSome_28 : decode cX2_wrongInSome 28 = .ok (.ireturn, 1) := by decide +kernel
theorem dX2_wrongIn_0 : decode cX2_wrongIn 0 = .ok (.iload_n 1, 1) := by decide +kernel
theorem dX2_wrongIn_1 : decode cX2_wrongIn 1 = .ok (.iconst 3, 1) := by decide +kernel
theorem dX2_wrongIn_2 : decode cX2_wrongIn 2 = .ok (.imul, 1) := by decide +kernel
theorem dX2_wrongIn_3 : decode cX2_wrongIn 3 = .ok (.istore_n 3, 1) := by decide +kernel
theorem dX2_wrongIn_4 : decode cX2_wrongIn 4 = .ok (.aload_n 0, 1) := by decide +kernel
theorem dX2_wrongIn_5 : decode cX2_wrongIn 5 = .ok (.getfield 11, 3) := by decide +kernel
theorem dX2_wrongIn_8 : decode cX2_wrongIn 8 = .ok (.iload_n 3, 1) := by decide +kernel
theorem dX2_wrongIn_9 : decode cX2_wrongIn 9 = .ok (.iaload, 1) := by decide +kernel
theorem dX2_wrongIn_10 : decode cX2_wrongIn 10 = .ok (.aload_n 0, 1) := by decide +kernel
theorem dX2_wrongIn_11 : decode cX2_wrongIn 11 = .ok (.getfield 11, 3) := by decide +kernel
theorem dX2_wrongIn_14 : decode cX2_wrongIn 14 = .ok (.iload_n 3, 1) := by decide +kernel
theorem dX2_wrongIn_15 : decode cX2_wrongIn 15 = .ok (.iconst 1, 1) := by decide +kernel
theorem dX2_wrongIn_16 : decode cX2_wrongIn 16 = .ok (.iadd, 1) := by decide +kernel
theorem dX2_wrongIn_17 : decode cX2_wrongIn 17 = .ok (.iaload, 1) := by decide +kernel
theorem dX2_wrongIn_18 : decode cX2_wrongIn 18 = .ok (.invokestatic 23, 3) := by decide +kernel
theorem dX2_wrongIn_21 : decode cX2_wrongIn 21 = .ok (.iload_n 2, 1) := by decide +kernel
theorem dX2_wrongIn_22 : decode cX2_wrongIn 22 = .ok (.if_icmp .le 7, 3) := by decide +kernel
theorem dX2_wrongIn_25 : decode cX2_wrongIn 25 = .ok (.iconst 1, 1) := by decide +kernel
theorem dX2_wrongIn_26 : decode cX2_wrongIn 26 = .ok (.goto 4, 3) := by decide +kernel
theorem dX2_wrongIn_29 : decode cX2_wrongIn 29 = .ok (.iconst 0, 1) := by decide +kernel
theorem dX2_wrongIn_30 : decode cX2_wrongIn 30 = .ok (.istore 4, 2) := by decide +kernel
theorem dX2_wrongIn_32 : decode cX2_wrongIn 32 = .ok (.aload_n 0, 1) := by decide +kernel
theorem dX2_wrongIn_33 : decode cX2_wrongIn 33 = .ok (.getfield 11, 3) := by decide +kernel
theorem dX2_wrongIn_36 : decode cX2_wrongIn 36 = .ok (.iload_n 3, 1) := by decide +kernel
theorem dX2_wrongIn_37 : decode cX2_wrongIn 37 = .ok (.iconst 1, 1) := by decide +kernel
theorem dX2_wrongIn_38 : decode cX2_wrongIn 38 = .ok (.iadd, 1) := by decide +kernel
theorem dX2_wrongIn_39 : decode cX2_wrongIn 39 = .ok (.iaload, 1) := by decide +kernel
theorem dX2_wrongIn_40 : decode cX2_wrongIn 40 = .ok (.aload_n 0, 1) := by decide +kernel
theorem dX2_wrongIn_41 : decode cX2_wrongIn 41 = .ok (.getfield 11, 3) := by decide +kernel
theorem dX2_wrongIn_44 : decode cX2_wrongIn 44 = .ok (.iload_n 3, 1) := by decide +kernel
theorem dX2_wrongIn_45 : decode cX2_wrongIn 45 = .ok (.iconst 2, 1) := by decide +kernel
theorem dX2_wrongIn_46 : decode cX2_wrongIn 46 = .ok (.iadd, 1) := by decide +kernel
theorem dX2_wrongIn_47 : decode cX2_wrongIn 47 = .ok (.iaload, 1) := by decide +kernel
theorem dX2_wrongIn_48 : decode cX2_wrongIn 48 = .ok (.invokestatic 23, 3) := by decide +kernel
theorem dX2_wrongIn_51 : decode cX2_wrongIn 51 = .ok (.iload_n 2, 1) := by decide +kernel
theorem dX2_wrongIn_52 : decode cX2_wrongIn 52 = .ok (.if_icmp .le 7, 3) := by decide +kernel
theorem dX2_wrongIn_55 : decode cX2_wrongIn 55 = .ok (.iconst 1, 1) := by decide +kernel
theorem dX2_wrongIn_56 : decode cX2_wrongIn 56 = .ok (.goto 4, 3) := by decide +kernel
theorem dX2_wrongIn_59 : decode cX2_wrongIn 59 = .ok (.iconst 0, 1) := by decide +kernel
theorem dX2_wrongIn_60 : decode cX2_wrongIn 60 = .ok (.istore 5, 2) := by decide +kernel
theorem dX2_wrongIn_62 : decode cX2_wrongIn 62 = .ok (.aload_n 0, 1) := by decide +kernel
theorem dX2_wrongIn_63 : decode cX2_wrongIn 63 = .ok (.getfield 11, 3) := by decide +kernel
theorem dX2_wrongIn_66 : decode cX2_wrongIn 66 = .ok (.iload_n 3, 1) := by decide +kernel
theorem dX2_wrongIn_67 : decode cX2_wrongIn 67 = .ok (.iconst 2, 1) := by decide +kernel
theorem dX2_wrongIn_68 : decode cX2_wrongIn 68 = .ok (.iadd, 1) := by decide +kernel
theorem dX2_wrongIn_69 : decode cX2_wrongIn 69 = .ok (.iaload, 1) := by decide +kernel
theorem dX2_wrongIn_70 : decode cX2_wrongIn 70 = .ok (.aload_n 0, 1) := by decide +kernel
theorem dX2_wrongIn_71 : decode cX2_wrongIn 71 = .ok (.getfield 11, 3) := by decide +kernel
theorem dX2_wrongIn_74 : decode cX2_wrongIn 74 = .ok (.iload_n 3, 1) := by decide +kernel
theorem dX2_wrongIn_75 : decode cX2_wrongIn 75 = .ok (.iaload, 1) := by decide +kernel
theorem dX2_wrongIn_76 : decode cX2_wrongIn 76 = .ok (.invokestatic 23, 3) := by decide +kernel
theorem dX2_wrongIn_79 : decode cX2_wrongIn 79 = .ok (.iload_n 2, 1) := by decide +kernel
theorem dX2_wrongIn_80 : decode cX2_wrongIn 80 = .ok (.if_icmp .le 7, 3) := by decide +kernel
theorem dX2_wrongIn_83 : decode cX2_wrongIn 83 = .ok (.iconst 1, 1) := by decide +kernel
theorem dX2_wrongIn_84 : decode cX2_wrongIn 84 = .ok (.goto 4, 3) := by decide +kernel
theorem dX2_wrongIn_87 : decode cX2_wrongIn 87 = .ok (.iconst 0, 1) := by decide +kernel
theorem dX2_wrongIn_88 : decode cX2_wrongIn 88 = .ok (.istore 6, 2) := by decide +kernel
theorem dX2_wrongIn_90 : decode cX2_wrongIn 90 = .ok (.iload 4, 2) := by decide +kernel
theorem dX2_wrongIn_92 : decode cX2_wrongIn 92 = .ok (.ifCond .eq 15, 3) := by decide +kernel
theorem dX2_wrongIn_95 : decode cX2_wrongIn 95 = .ok (.iload 6, 2) := by decide +kernel
theorem dX2_wrongIn_97 : decode cX2_wrongIn 97 = .ok (.ifCond .eq 10, 3) := by decide +kernel
theorem dX2_wrongIn_100 : decode cX2_wrongIn 100 = .ok (.iload 5, 2) := by decide +kernel
theorem dX2_wrongIn_102 : decode cX2_wrongIn 102 = .ok (.ifCond .ne 5, 3) := by decide +kernel
theorem dX2_wrongIn_105 : decode cX2_wrongIn 105 = .ok (.iconst 1, 1) := by decide +kernel
theorem dX2_wrongIn_106 : decode cX2_wrongIn 106 = .ok (.ireturn, 1) := by decide +kernel
theorem dX2_wrongIn_107 : decode cX2_wrongIn 107 = .ok (.iload 4, 2) := by decide +kernel
theorem dX2_wrongIn_109 : decode cX2_wrongIn 109 = .ok (.ifCond .eq 15, 3) := by decide +kernel
theorem dX2_wrongIn_112 : decode cX2_wrongIn 112 = .ok (.iload 5, 2) := by decide +kernel
theorem dX2_wrongIn_114 : decode cX2_wrongIn 114 = .ok (.ifCond .eq 10, 3) := by decide +kernel
theorem dX2_wrongIn_117 : decode cX2_wrongIn 117 = .ok (.iload 6, 2) := by decide +kernel
theorem dX2_wrongIn_119 : decode cX2_wrongIn 119 = .ok (.ifCond .ne 5, 3) := by decide +kernel
theorem dX2_wrongIn_122 : decode cX2_wrongIn 122 = .ok (.iconst 2, 1) := by decide +kernel
theorem dX2_wrongIn_123 : decode cX2_wrongIn 123 = .ok (.ireturn, 1) := by decide +kernel
theorem dX2_wrongIn_124 : decode cX2_wrongIn 124 = .ok (.iload 5, 2) := by decide +kernel
theorem dX2_wrongIn_126 : decode cX2_wrongIn 126 = .ok (.ifCond .eq 17, 3) := by decide +kernel
theorem dX2_wrongIn_129 : decode cX2_wrongIn 129 = .ok (.iload 6, 2) := by decide +kernel
theorem dX2_wrongIn_131 : decode cX2_wrongIn 131 = .ok (.ifCond .eq 12, 3) := by decide +kernel
theorem dX2_wrongIn_134 : decode cX2_wrongIn 134 = .ok (.iload 4, 2) := by decide +kernel
theorem dX2_wrongIn_136 : decode cX2_wrongIn 136 = .ok (.ifCond .ne 7, 3) := by decide +kernel
theorem dX2_wrongIn_139 : decode cX2_wrongIn 139 = .ok (.iconst 4, 1) := by decide +kernel
theorem dX2_wrongIn_140 : decode cX2_wrongIn 140 = .ok (.goto 4, 3) := by decide +kernel
theorem dX2_wrongIn_143 : decode cX2_wrongIn 143 = .ok (.iconst 0, 1) := by decide +kernel
theorem dX2_wrongIn_144 : decode cX2_wrongIn 144 = .ok (.ireturn, 1) := by decide +kernel
theorem dX3_init_0 : decode cX3_init 0 = .ok (.aload_n 0, 1) := by decide +kernel
theorem dX3_init_1 : decode cX3_init 1 = .ok (.invokespecial 3, 3) := by decide +kernel
theorem dX3_init_4 : decode cX3_init 4 = .ok (.aload_n 0, 1) := by decide +kernel
theorem dX3_init_5 : decode cX3_init 5 = .ok (.bipush 8, 2) := by decide +kernel
theorem dX3_init_7 : decode cX3_init 7 = .ok (.newarray .int, 2) := by decide +kernel
theorem dX3_init_9 : decode cX3_init 9 = .ok (.putfield 9, 3) := by decide +kernel
theorem dX3_init_12 : decode cX3_init 12 = .ok (.return_, 1) := by decide +kernel
theorem dX3_deviationAt_0 : decode cX3_deviationAt 0 = .ok (.iload_n 1, 1) := by decide +kernel
theorem dX3_deviationAt_1 : decode cX3_deviationAt 1 = .ok (.sipush 4500, 3) := by decide +kernel
theorem dX3_deviationAt_4 : decode cX3_deviationAt 4 = .ok (.idiv, 1) := by decide +kernel
theorem dX3_deviationAt_5 : decode cX3_deviationAt 5 = .ok (.bipush 8, 2) := by decide +kernel
theorem dX3_deviationAt_7 : decode cX3_deviationAt 7 = .ok (.invokestatic 15, 3) := by decide +kernel
theorem dX3_deviationAt_10 : decode cX3_deviationAt 10 = .ok (.istore_n 2, 1) := by decide +kernel
theorem dX3_deviationAt_11 : decode cX3_deviationAt 11 = .ok (.aload_n 0, 1) := by decide +kernel
theorem dX3_deviationAt_12 : decode cX3_deviationAt 12 = .ok (.getfield 9, 3) := by decide +kernel
theorem dX3_deviationAt_15 : decode cX3_deviationAt 15 = .ok (.iload_n 2, 1) := by decide +kernel
theorem dX3_deviationAt_16 : decode cX3_deviationAt 16 = .ok (.iaload, 1) := by decide +kernel
theorem dX3_deviationAt_17 : decode cX3_deviationAt 17 = .ok (.istore_n 3, 1) := by decide +kernel
theorem dX3_deviationAt_18 : decode cX3_deviationAt 18 = .ok (.aload_n 0, 1) := by decide +kernel
theorem dX3_deviationAt_19 : decode cX3_deviationAt 19 = .ok (.getfield 9, 3) := by decide +kernel
theorem dX3_deviationAt_22 : decode cX3_deviationAt 22 = .ok (.iload_n 2, 1) := by decide +kernel
theorem dX3_deviationAt_23 : decode cX3_deviationAt 23 = .ok (.iconst 1, 1) := by decide +kernel
theorem dX3_deviationAt_24 : decode cX3_deviationAt 24 = .ok (.iadd, 1) := by decide +kernel
theorem dX3_deviationAt_25 : decode cX3_deviationAt 25 = .ok (.bipush 8, 2) := by decide +kernel
theorem dX3_deviationAt_27 : decode cX3_deviationAt 27 = .ok (.irem, 1) := by decide +kernel
theorem dX3_deviationAt_28 : decode cX3_deviationAt 28 = .ok (.iaload, 1) := by decide +kernel
theorem dX3_deviationAt_29 : decode cX3_deviationAt 29 = .ok (.istore 4, 2) := by decide +kernel
theorem dX3_deviationAt_31 : decode cX3_deviationAt 31 = .ok (.iload_n 3, 1) := by decide +kernel
theorem dX3_deviationAt_32 : decode cX3_deviationAt 32 = .ok (.iload 4, 2) := by decide +kernel
theorem dX3_deviationAt_34 : decode cX3_deviationAt 34 = .ok (.iload_n 3, 1) := by decide +kernel
theorem dX3_deviationAt_35 : decode cX3_deviationAt 35 = .ok (.isub, 1) := by decide +kernel
theorem dX3_deviationAt_36 : decode cX3_deviationAt 36 = .ok (.iload_n 1, 1) := by decide +kernel
theorem dX3_deviationAt_37 : decode cX3_deviationAt 37 = .ok (.sipush 4500, 3) := by decide +kernel
theorem dX3_deviationAt_40 : decode cX3_deviationAt 40 = .ok (.irem, 1) := by decide +kernel
theorem dX3_deviationAt_41 : decode cX3_deviationAt 41 = .ok (.imul, 1) := by decide +kernel
theorem dX3_deviationAt_42 : decode cX3_deviationAt 42 = .ok (.sipush 4500, 3) := by decide +kernel
theorem dX3_deviationAt_45 : decode cX3_deviationAt 45 = .ok (.idiv, 1) := by decide +kernel
theorem dX3_deviationAt_46 : decode cX3_deviationAt 46 = .ok (.iadd, 1) := by decide +kernel
theorem dX3_deviationAt_47 : decode cX3_deviationAt 47 = .ok (.ireturn, 1) := by decide +kernel
theorem dX4_init_0 : decode cX4_init 0 = .ok (.aload_n 0, 1) := by decide +kernel
theorem dX4_init_1 : decode cX4_init 1 = .ok (.invokespecial 3, 3) := by decide +kernel
theorem dX4_init_4 : decode cX4_init 4 = .ok (.aload_n 0, 1) := by decide +kernel
theorem dX4_init_5 : decode cX4_init 5 = .ok (.iconst 0, 1) := by decide +kernel
theorem dX4_init_6 : decode cX4_init 6 = .ok (.putfield 9, 3) := by decide +kernel
theorem dX4_init_9 : decode cX4_init 9 = .ok (.aload_n 0, 1) := by decide +kernel
theorem dX4_init_10 : decode cX4_init 10 = .ok (.bipush 10, 2) := by decide +kernel
theorem dX4_init_12 : decode cX4_init 12 = .ok (.putfield 15, 3) := by decide +kernel
theorem dX4_init_15 : decode cX4_init 15 = .ok (.aload_n 0, 1) := by decide +kernel
theorem dX4_init_16 : decode cX4_init 16 = .ok (.bipush 20, 2) := by decide +kernel
theorem dX4_init_18 : decode cX4_init 18 = .ok (.putfield 18, 3) := by decide +kernel
theorem dX4_init_21 : decode cX4_init 21 = .ok (.return_, 1) := by decide +kernel
theorem dX4_copyFrom_0 : decode cX4_copyFrom 0 = .ok (.aload_n 0, 1) := by decide +kernel
theorem dX4_copyFrom_1 : decode cX4_copyFrom 1 = .ok (.aload_n 1, 1) := by decide +kernel
theorem dX4_copyFrom_2 : decode cX4_copyFrom 2 = .ok (.getfield 9, 3) := by decide +kernel
theorem dX4_copyFrom_5 : decode cX4_copyFrom 5 = .ok (.putfield 9, 3) := by decide +kernel
theorem dX4_copyFrom_8 : decode cX4_copyFrom 8 = .ok (.aload_n 0, 1) := by decide +kernel
theorem dX4_copyFrom_9 : decode cX4_copyFrom 9 = .ok (.aload_n 1, 1) := by decide +kernel
theorem dX4_copyFrom_10 : decode cX4_copyFrom 10 = .ok (.getfield 15, 3) := by decide +kernel
theorem dX4_copyFrom_13 : decode cX4_copyFrom 13 = .ok (.putfield 15, 3) := by decide +kernel
theorem dX4_copyFrom_16 : decode cX4_copyFrom 16 = .ok (.aload_n 0, 1) := by decide +kernel
theorem dX4_copyFrom_17 : decode cX4_copyFrom 17 = .ok (.aload_n 1, 1) := by decide +kernel
theorem dX4_copyFrom_18 : decode cX4_copyFrom 18 = .ok (.getfield 18, 3) := by decide +kernel
theorem dX4_copyFrom_21 : decode cX4_copyFrom 21 = .ok (.putfield 18, 3) := by decide +kernel
theorem dX4_copyFrom_24 : decode cX4_copyFrom 24 = .ok (.aload_n 0, 1) := by decide +kernel
theorem dX4_copyFrom_25 : decode cX4_copyFrom 25 = .ok (.aload_n 1, 1) := by decide +kernel
theorem dX4_copyFrom_26 : decode cX4_copyFrom 26 = .ok (.getfield 21, 3) := by decide +kernel
theorem dX4_copyFrom_29 : decode cX4_copyFrom 29 = .ok (.putfield 21, 3) := by decide +kernel
theorem dX4_copyFrom_32 : decode cX4_copyFrom 32 = .ok (.aload_n 0, 1) := by decide +kernel
theorem dX4_copyFrom_33 : decode cX4_copyFrom 33 = .ok (.aload_n 1, 1) := by decide +kernel
theorem dX4_copyFrom_34 : decode cX4_copyFrom 34 = .ok (.getfield 24, 3) := by decide +kernel
theorem dX4_copyFrom_37 : decode cX4_copyFrom 37 = .ok (.putfield 24, 3) := by decide +kernel
theorem dX4_copyFrom_40 : decode cX4_copyFrom 40 = .ok (.aload_n 0, 1) := by decide +kernel
theorem dX4_copyFrom_41 : decode cX4_copyFrom 41 = .ok (.aload_n 1, 1) := by decide +kernel
theorem dX4_copyFrom_42 : decode cX4_copyFrom 42 = .ok (.getfield 27, 3) := by decide +kernel
theorem dX4_copyFrom_45 : decode cX4_copyFrom 45 = .ok (.putfield 27, 3) := by decide +kernel
theorem dX4_copyFrom_48 : decode cX4_copyFrom 48 = .ok (.aload_n 0, 1) := by decide +kernel
theorem dX4_copyFrom_49 : decode cX4_copyFrom 49 = .ok (.aload_n 1, 1) := by decide +kernel
theorem dX4_copyFrom_50 : decode cX4_copyFrom 50 = .ok (.getfield 30, 3) := by decide +kernel
theorem dX4_copyFrom_53 : decode cX4_copyFrom 53 = .ok (.putfield 30, 3) := by decide +kernel
theorem dX4_copyFrom_56 : decode cX4_copyFrom 56 = .ok (.aload_n 0, 1) := by decide +kernel
theorem dX4_copyFrom_57 : decode cX4_copyFrom 57 = .ok (.aload_n 1, 1) := by decide +kernel
theorem dX4_copyFrom_58 : decode cX4_copyFrom 58 = .ok (.getfield 33, 3) := by decide +kernel
theorem dX4_copyFrom_61 : decode cX4_copyFrom 61 = .ok (.putfield 33, 3) := by decide +kernel
theorem dX4_copyFrom_64 : decode cX4_copyFrom 64 = .ok (.return_, 1) := by decide +kernel
theorem dX4_retune_0 : decode cX4_retune 0 = .ok (.iload_n 1, 1) := by decide +kernel
theorem dX4_retune_1 : decode cX4_retune 1 = .ok (.ifCond .ne 16, 3) := by decide +kernel
theorem dX4_retune_4 : decode cX4_retune 4 = .ok (.aload_n 0, 1) := by decide +kernel
theorem dX4_retune_5 : decode cX4_retune 5 = .ok (.getfield 15, 3) := by decide +kernel
theorem dX4_retune_8 : decode cX4_retune 8 = .ok (.istore_n 3, 1) := by decide +kernel
theorem dX4_retune_9 : decode cX4_retune 9 = .ok (.aload_n 0, 1) := by decide +kernel
theorem dX4_retune_10 : decode cX4_retune 10 = .ok (.iload_n 2, 1) := by decide +kernel
theorem dX4_retune_11 : decode cX4_retune 11 = .ok (.putfield 15, 3) := by decide +kernel
theorem dX4_retune_14 : decode cX4_retune 14 = .ok (.goto 31, 3) := by decide +kernel
theorem dX4_retune_17 : decode cX4_retune 17 = .ok (.iload_n 1, 1) := by decide +kernel
theorem dX4_retune_18 : decode cX4_retune 18 = .ok (.iconst 1, 1) := by decide +kernel
theorem dX4_retune_19 : decode cX4_retune 19 = .ok (.if_icmp .ne 16, 3) := by decide +kernel
theorem dX4_retune_22 : decode cX4_retune 22 = .ok (.aload_n 0, 1) := by decide +kernel
theorem dX4_retune_23 : decode cX4_retune 23 = .ok (.getfield 18, 3) := by decide +kernel
theorem dX4_retune_26 : decode cX4_retune 26 = .ok (.istore_n 3, 1) := by decide +kernel
theorem dX4_retune_27 : decode cX4_retune 27 = .ok (.aload_n 0, 1) := by decide +kernel
theorem dX4_retune_28 : decode cX4_retune 28 = .ok (.iload_n 2, 1) := by decide +kernel
theorem dX4_retune_29 : decode cX4_retune 29 = .ok (.putfield 18, 3) := by decide +kernel
theorem dX4_retune_32 : decode cX4_retune 32 = .ok (.goto 13, 3) := by decide +kernel
theorem dX4_retune_35 : decode cX4_retune 35 = .ok (.aload_n 0, 1) := by decide +kernel
theorem dX4_retune_36 : decode cX4_retune 36 = .ok (.getfield 21, 3) := by decide +kernel
theorem dX4_retune_39 : decode cX4_retune 39 = .ok (.istore_n 3, 1) := by decide +kernel
theorem dX4_retune_40 : decode cX4_retune 40 = .ok (.aload_n 0, 1) := by decide +kernel
theorem dX4_retune_41 : decode cX4_retune 41 = .ok (.iload_n 2, 1) := by decide +kernel
theorem dX4_retune_42 : decode cX4_retune 42 = .ok (.putfield 21, 3) := by decide +kernel
theorem dX4_retune_45 : decode cX4_retune 45 = .ok (.iload_n 3, 1) := by decide +kernel
theorem dX4_retune_46 : decode cX4_retune 46 = .ok (.ireturn, 1) := by decide +kernel
theorem dX4_layAt_0 : decode cX4_layAt 0 = .ok (.aload_n 0, 1) := by decide +kernel
theorem dX4_layAt_1 : decode cX4_layAt 1 = .ok (.iload_n 1, 1) := by decide +kernel
theorem dX4_layAt_2 : decode cX4_layAt 2 = .ok (.putfield 24, 3) := by decide +kernel
theorem dX4_layAt_5 : decode cX4_layAt 5 = .ok (.aload_n 0, 1) := by decide +kernel
theorem dX4_layAt_6 : decode cX4_layAt 6 = .ok (.iconst 0, 1) := by decide +kernel
theorem dX4_layAt_7 : decode cX4_layAt 7 = .ok (.putfield 27, 3) := by decide +kernel
theorem dX4_layAt_10 : decode cX4_layAt 10 = .ok (.return_, 1) := by decide +kernel
theorem dX4_shownAt_0 : decode cX4_shownAt 0 = .ok (.aload_n 0, 1) := by decide +kernel
theorem dX4_shownAt_1 : decode cX4_shownAt 1 = .ok (.getfield 9, 3) := by decide +kernel
theorem dX4_shownAt_4 : decode cX4_shownAt 4 = .ok (.ifCond .ne 5, 3) := by decide +kernel
theorem dX4_shownAt_7 : decode cX4_shownAt 7 = .ok (.iconst 0, 1) := by decide +kernel
theorem dX4_shownAt_8 : decode cX4_shownAt 8 = .ok (.ireturn, 1) := by decide +kernel
theorem dX4_shownAt_9 : decode cX4_shownAt 9 = .ok (.aload_n 0, 1) := by decide +kernel
theorem dX4_shownAt_10 : decode cX4_shownAt 10 = .ok (.getfield 9, 3) := by decide +kernel
theorem dX4_shownAt_13 : decode cX4_shownAt 13 = .ok (.iconst 5, 1) := by decide +kernel
theorem dX4_shownAt_14 : decode cX4_shownAt 14 = .ok (.if_icmp .ne 14, 3) := by decide +kernel
theorem dX4_shownAt_17 : decode cX4_shownAt 17 = .ok (.iload_n 1, 1) := by decide +kernel
theorem dX4_shownAt_18 : decode cX4_shownAt 18 = .ok (.aload_n 2, 1) := by decide +kernel
theorem dX4_shownAt_19 : decode cX4_shownAt 19 = .ok (.iload_n 1, 1) := by decide +kernel
theorem dX4_shownAt_20 : decode cX4_shownAt 20 = .ok (.invokevirtual 36, 3) := by decide +kernel
theorem dX4_shownAt_23 : decode cX4_shownAt 23 = .ok (.isub, 1) := by decide +kernel
theorem dX4_shownAt_24 : decode cX4_shownAt 24 = .ok (.invokestatic 42, 3) := by decide +kernel
theorem dX4_shownAt_27 : decode cX4_shownAt 27 = .ok (.ireturn, 1) := by decide +kernel
theorem dX4_shownAt_28 : decode cX4_shownAt 28 = .ok (.iload_n 1, 1) := by decide +kernel
theorem dX4_shownAt_29 : decode cX4_shownAt 29 = .ok (.aload_n 0, 1) := by decide +kernel
theorem dX4_shownAt_30 : decode cX4_shownAt 30 = .ok (.getfield 24, 3) := by decide +kernel
theorem dX4_shownAt_33 : decode cX4_shownAt 33 = .ok (.isub, 1) := by decide +kernel
theorem dX4_shownAt_34 : decode cX4_shownAt 34 = .ok (.invokestatic 42, 3) := by decide +kernel
theorem dX4_shownAt_37 : decode cX4_shownAt 37 = .ok (.istore_n 3, 1) := by decide +kernel
theorem dX4_shownAt_38 : decode cX4_shownAt 38 = .ok (.aload_n 0, 1) := by decide +kernel
theorem dX4_shownAt_39 : decode cX4_shownAt 39 = .ok (.getfield 9, 3) := by decide +kernel
theorem dX4_shownAt_42 : decode cX4_shownAt 42 = .ok (.iconst 4, 1) := by decide +kernel
theorem dX4_shownAt_43 : decode cX4_shownAt 43 = .ok (.if_icmp .ne 23, 3) := by decide +kernel
theorem dX4_shownAt_46 : decode cX4_shownAt 46 = .ok (.iload_n 3, 1) := by decide +kernel
theorem dX4_shownAt_47 : decode cX4_shownAt 47 = .ok (.aload_n 0, 1) := by decide +kernel
theorem dX4_shownAt_48 : decode cX4_shownAt 48 = .ok (.getfield 30, 3) := by decide +kernel
theorem dX4_shownAt_51 : decode cX4_shownAt 51 = .ok (.aload_n 0, 1) := by decide +kernel
theorem dX4_shownAt_52 : decode cX4_shownAt 52 = .ok (.getfield 33, 3) := by decide +kernel
theorem dX4_shownAt_55 : decode cX4_shownAt 55 = .ok (.iload_n 3, 1) := by decide +kernel
theorem dX4_shownAt_56 : decode cX4_shownAt 56 = .ok (.invokestatic 45, 3) := by decide +kernel
theorem dX4_shownAt_59 : decode cX4_shownAt 59 = .ok (.iadd, 1) := by decide +kernel
theorem dX4_shownAt_60 : decode cX4_shownAt 60 = .ok (.invokestatic 42, 3) := by decide +kernel
theorem dX4_shownAt_63 : decode cX4_shownAt 63 = .ok (.goto 4, 3) := by decide +kernel
theorem dX4_shownAt_66 : decode cX4_shownAt 66 = .ok (.iload_n 3, 1) := by decide +kernel
theorem dX4_shownAt_67 : decode cX4_shownAt 67 = .ok (.ireturn, 1) := by decide +kernel
theorem dX4_tickIn_0 : decode cX4_tickIn 0 = .ok (.aload_n 0, 1) := by decide +kernel
theorem dX4_tickIn_1 : decode cX4_tickIn 1 = .ok (.getfield 9, 3) := by decide +kernel
theorem dX4_tickIn_4 : decode cX4_tickIn 4 = .ok (.iconst 1, 1) := by decide +kernel
theorem dX4_tickIn_5 : decode cX4_tickIn 5 = .ok (.if_icmp .ne 28, 3) := by decide +kernel
theorem dX4_tickIn_8 : decode cX4_tickIn 8 = .ok (.aload_n 0, 1) := by decide +kernel
theorem dX4_tickIn_9 : decode cX4_tickIn 9 = .ok (.aload_n 0, 1) := by decide +kernel
theorem dX4_tickIn_10 : decode cX4_tickIn 10 = .ok (.getfield 24, 3) := by decide +kernel
theorem dX4_tickIn_13 : decode cX4_tickIn 13 = .ok (.bipush 25, 2) := by decide +kernel
theorem dX4_tickIn_15 : decode cX4_tickIn 15 = .ok (.aload_n 1, 1) := by decide +kernel
theorem dX4_tickIn_16 : decode cX4_tickIn 16 = .ok (.getfield 49, 3) := by decide +kernel
theorem dX4_tickIn_19 : decode cX4_tickIn 19 = .ok (.imul, 1) := by decide +kernel
theorem dX4_tickIn_20 : decode cX4_tickIn 20 = .ok (.bipush 90, 2) := by decide +kernel
theorem dX4_tickIn_22 : decode cX4_tickIn 22 = .ok (.idiv, 1) := by decide +kernel
theorem dX4_tickIn_23 : decode cX4_tickIn 23 = .ok (.isub, 1) := by decide +kernel
theorem dX4_tickIn_24 : decode cX4_tickIn 24 = .ok (.invokestatic 54, 3) := by decide +kernel
theorem dX4_tickIn_27 : decode cX4_tickIn 27 = .ok (.putfield 24, 3) := by decide +kernel
theorem dX4_tickIn_30 : decode cX4_tickIn 30 = .ok (.goto 85, 3) := by decide +kernel
theorem dX4_tickIn_33 : decode cX4_tickIn 33 = .ok (.aload_n 0, 1) := by decide +kernel
theorem dX4_tickIn_34 : decode cX4_tickIn 34 = .ok (.getfield 9, 3) := by decide +kernel
theorem dX4_tickIn_37 : decode cX4_tickIn 37 = .ok (.iconst 2, 1) := by decide +kernel
theorem dX4_tickIn_38 : decode cX4_tickIn 38 = .ok (.if_icmp .ne 23, 3) := by decide +kernel
theorem dX4_tickIn_41 : decode cX4_tickIn 41 = .ok (.aload_n 0, 1) := by decide +kernel
theorem dX4_tickIn_42 : decode cX4_tickIn 42 = .ok (.aload_n 1, 1) := by decide +kernel
theorem dX4_tickIn_43 : decode cX4_tickIn 43 = .ok (.getfield 49, 3) := by decide +kernel
theorem dX4_tickIn_46 : decode cX4_tickIn 46 = .ok (.invokestatic 57, 3) := by decide +kernel
theorem dX4_tickIn_49 : decode cX4_tickIn 49 = .ok (.aload_n 0, 1) := by decide +kernel
theorem dX4_tickIn_50 : decode cX4_tickIn 50 = .ok (.getfield 24, 3) := by decide +kernel
theorem dX4_tickIn_53 : decode cX4_tickIn 53 = .ok (.iload_n 2, 1) := by decide +kernel
theorem dX4_tickIn_54 : decode cX4_tickIn 54 = .ok (.iconst 0, 1) := by decide +kernel
theorem dX4_tickIn_55 : decode cX4_tickIn 55 = .ok (.invokevirtual 60, 3) := by decide +kernel
theorem dX4_tickIn_58 : decode cX4_tickIn 58 = .ok (.goto 57, 3) := by decide +kernel
theorem dX4_tickIn_61 : decode cX4_tickIn 61 = .ok (.aload_n 0, 1) := by decide +kernel
theorem dX4_tickIn_62 : decode cX4_tickIn 62 = .ok (.getfield 9, 3) := by decide +kernel
theorem dX4_tickIn_65 : decode cX4_tickIn 65 = .ok (.iconst 3, 1) := by decide +kernel
theorem dX4_tickIn_66 : decode cX4_tickIn 66 = .ok (.if_icmp .eq 11, 3) := by decide +kernel
theorem dX4_tickIn_69 : decode cX4_tickIn 69 = .ok (.aload_n 0, 1) := by decide +kernel
theorem dX4_tickIn_70 : decode cX4_tickIn 70 = .ok (.getfield 9, 3) := by decide +kernel
theorem dX4_tickIn_73 : decode cX4_tickIn 73 = .ok (.iconst 4, 1) := by decide +kernel
theorem dX4_tickIn_74 : decode cX4_tickIn 74 = .ok (.if_icmp .ne 41, 3) := by decide +kernel
theorem dX4_tickIn_77 : decode cX4_tickIn 77 = .ok (.aload_n 1, 1) := by decide +kernel
theorem dX4_tickIn_78 : decode cX4_tickIn 78 = .ok (.getfield 64, 3) := by decide +kernel
theorem dX4_tickIn_81 : decode cX4_tickIn 81 = .ok (.aload_n 1, 1) := by decide +kernel
theorem dX4_tickIn_82 : decode cX4_tickIn 82 = .ok (.getfield 49, 3) := by decide +kernel
theorem dX4_tickIn_85 : decode cX4_tickIn 85 = .ok (.aload_n 1, 1) := by decide +kernel
theorem dX4_tickIn_86 : decode cX4_tickIn 86 = .ok (.getfield 67, 3) := by decide +kernel
theorem dX4_tickIn_89 : decode cX4_tickIn 89 = .ok (.invokestatic 45, 3) := by decide +kernel
theorem dX4_tickIn_92 : decode cX4_tickIn 92 = .ok (.istore_n 3, 1) := by decide +kernel
theorem dX4_tickIn_93 : decode cX4_tickIn 93 = .ok (.aload_n 0, 1) := by decide +kernel
theorem dX4_tickIn_94 : decode cX4_tickIn 94 = .ok (.aload_n 1, 1) := by decide +kernel
theorem dX4_tickIn_95 : decode cX4_tickIn 95 = .ok (.getfield 49, 3) := by decide +kernel
theorem dX4_tickIn_98 : decode cX4_tickIn 98 = .ok (.invokestatic 57, 3) := by decide +kernel
theorem dX4_tickIn_101 : decode cX4_tickIn 101 = .ok (.aload_n 0, 1) := by decide +kernel
theorem dX4_tickIn_102 : decode cX4_tickIn 102 = .ok (.getfield 24, 3) := by decide +kernel
theorem dX4_tickIn_105 : decode cX4_tickIn 105 = .ok (.iload_n 3, 1) := by decide +kernel
theorem dX4_tickIn_106 : decode cX4_tickIn 106 = .ok (.isub, 1) := by decide +kernel
theorem dX4_tickIn_107 : decode cX4_tickIn 107 = .ok (.invokestatic 54, 3) := by decide +kernel
theorem dX4_tickIn_110 : decode cX4_tickIn 110 = .ok (.iload_n 2, 1) := by decide +kernel
theorem dX4_tickIn_111 : decode cX4_tickIn 111 = .ok (.iconst 1, 1) := by decide +kernel
theorem dX4_tickIn_112 : decode cX4_tickIn 112 = .ok (.invokevirtual 60, 3) := by decide +kernel
theorem dX4_tickIn_115 : decode cX4_tickIn 115 = .ok (.return_, 1) := by decide +kernel
theorem dX4_sway_0 : decode cX4_sway 0 = .ok (.aload_n 0, 1) := by decide +kernel
theorem dX4_sway_1 : decode cX4_sway 1 = .ok (.dup, 1) := by decide +kernel
theorem dX4_sway_2 : decode cX4_sway 2 = .ok (.getfield 27, 3) := by decide +kernel
theorem dX4_sway_5 : decode cX4_sway 5 = .ok (.aload_n 0, 1) := by decide +kernel
theorem dX4_sway_6 : decode cX4_sway 6 = .ok (.getfield 15, 3) := by decide +kernel
theorem dX4_sway_9 : decode cX4_sway 9 = .ok (.iload_n 1, 1) := by decide +kernel
theorem dX4_sway_10 : decode cX4_sway 10 = .ok (.imul, 1) := by decide +kernel
theorem dX4_sway_11 : decode cX4_sway 11 = .ok (.iload_n 2, 1) := by decide +kernel
theorem dX4_sway_12 : decode cX4_sway 12 = .ok (.imul, 1) := by decide +kernel
theorem dX4_sway_13 : decode cX4_sway 13 = .ok (.sipush 9000, 3) := by decide +kernel
theorem dX4_sway_16 : decode cX4_sway 16 = .ok (.idiv, 1) := by decide +kernel
theorem dX4_sway_17 : decode cX4_sway 17 = .ok (.isub, 1) := by decide +kernel
theorem dX4_sway_18 : decode cX4_sway 18 = .ok (.putfield 27, 3) := by decide +kernel
theorem dX4_sway_21 : decode cX4_sway 21 = .ok (.iload 4, 2) := by decide +kernel
theorem dX4_sway_23 : decode cX4_sway 23 = .ok (.ifCond .eq 42, 3) := by decide +kernel
theorem dX4_sway_26 : decode cX4_sway 26 = .ok (.aload_n 0, 1) := by decide +kernel
theorem dX4_sway_27 : decode cX4_sway 27 = .ok (.dup, 1) := by decide +kernel
theorem dX4_sway_28 : decode cX4_sway 28 = .ok (.getfield 27, 3) := by decide +kernel
theorem dX4_sway_31 : decode cX4_sway 31 = .ok (.aload_n 0, 1) := by decide +kernel
theorem dX4_sway_32 : decode cX4_sway 32 = .ok (.getfield 27, 3) := by decide +kernel
theorem dX4_sway_35 : decode cX4_sway 35 = .ok (.aload_n 0, 1) := by decide +kernel
theorem dX4_sway_36 : decode cX4_sway 36 = .ok (.getfield 18, 3) := by decide +kernel
theorem dX4_sway_39 : decode cX4_sway 39 = .ok (.imul, 1) := by decide +kernel
theorem dX4_sway_40 : decode cX4_sway 40 = .ok (.bipush 100, 2) := by decide +kernel
theorem dX4_sway_42 : decode cX4_sway 42 = .ok (.idiv, 1) := by decide +kernel
theorem dX4_sway_43 : decode cX4_sway 43 = .ok (.isub, 1) := by decide +kernel
theorem dX4_sway_44 : decode cX4_sway 44 = .ok (.putfield 27, 3) := by decide +kernel
theorem dX4_sway_47 : decode cX4_sway 47 = .ok (.aload_n 0, 1) := by decide +kernel
theorem dX4_sway_48 : decode cX4_sway 48 = .ok (.dup, 1) := by decide +kernel
theorem dX4_sway_49 : decode cX4_sway 49 = .ok (.getfield 27, 3) := by decide +kernel
theorem dX4_sway_52 : decode cX4_sway 52 = .ok (.iload_n 3, 1) := by decide +kernel
theorem dX4_sway_53 : decode cX4_sway 53 = .ok (.aload_n 0, 1) := by decide +kernel
theorem dX4_sway_54 : decode cX4_sway 54 = .ok (.getfield 21, 3) := by decide +kernel
theorem dX4_sway_57 : decode cX4_sway 57 = .ok (.imul, 1) := by decide +kernel
theorem dX4_sway_58 : decode cX4_sway 58 = .ok (.bipush 100, 2) := by decide +kernel
theorem dX4_sway_60 : decode cX4_sway 60 = .ok (.idiv, 1) := by decide +kernel
theorem dX4_sway_61 : decode cX4_sway 61 = .ok (.iadd, 1) := by decide +kernel
theorem dX4_sway_62 : decode cX4_sway 62 = .ok (.putfield 27, 3) := by decide +kernel
theorem dX4_sway_65 : decode cX4_sway 65 = .ok (.aload_n 0, 1) := by decide +kernel
theorem dX4_sway_66 : decode cX4_sway 66 = .ok (.aload_n 0, 1) := by decide +kernel
theorem dX4_sway_67 : decode cX4_sway 67 = .ok (.getfield 27, 3) := by decide +kernel
theorem dX4_sway_70 : decode cX4_sway 70 = .ok (.sipush 9999, 3) := by decide +kernel
theorem dX4_sway_73 : decode cX4_sway 73 = .ok (.invokestatic 70, 3) := by decide +kernel
theorem dX4_sway_76 : decode cX4_sway 76 = .ok (.putfield 27, 3) := by decide +kernel
theorem dX4_sway_79 : decode cX4_sway 79 = .ok (.aload_n 0, 1) := by decide +kernel
theorem dX4_sway_80 : decode cX4_sway 80 = .ok (.aload_n 0, 1) := by decide +kernel
theorem dX4_sway_81 : decode cX4_sway 81 = .ok (.getfield 24, 3) := by decide +kernel
theorem dX4_sway_84 : decode cX4_sway 84 = .ok (.aload_n 0, 1) := by decide +kernel
theorem dX4_sway_85 : decode cX4_sway 85 = .ok (.getfield 27, 3) := by decide +kernel
theorem dX4_sway_88 : decode cX4_sway 88 = .ok (.iadd, 1) := by decide +kernel
theorem dX4_sway_89 : decode cX4_sway 89 = .ok (.invokestatic 54, 3) := by decide +kernel
theorem dX4_sway_92 : decode cX4_sway 92 = .ok (.putfield 24, 3) := by decide +kernel
theorem dX4_sway_95 : decode cX4_sway 95 = .ok (.return_, 1) := by decide +kernel
theorem dX5_init_0 : decode cX5_init 0 = .ok (.aload_n 0, 1) := by decide +kernel
theorem dX5_init_1 : decode cX5_init 1 = .ok (.invokespecial 3, 3) := by decide +kernel
theorem dX5_init_4 : decode cX5_init 4 = .ok (.aload_n 0, 1) := by decide +kernel
theorem dX5_init_5 : decode cX5_init 5 = .ok (.sipush 160, 3) := by decide +kernel
theorem dX5_init_8 : decode cX5_init 8 = .ok (.newarray .int, 2) := by decide +kernel
theorem dX5_init_10 : decode cX5_init 10 = .ok (.putfield 11, 3) := by decide +kernel
theorem dX5_init_13 : decode cX5_init 13 = .ok (.aload_n 0, 1) := by decide +kernel
theorem dX5_init_14 : decode cX5_init 14 = .ok (.bipush 6, 2) := by decide +kernel
theorem dX5_init_16 : decode cX5_init 16 = .ok (.newarray .int, 2) := by decide +kernel
theorem dX5_init_18 : decode cX5_init 18 = .ok (.putfield 15, 3) := by decide +kernel
theorem dX5_init_21 : decode cX5_init 21 = .ok (.return_, 1) := by decide +kernel
theorem dX5_append_0 : decode cX5_append 0 = .ok (.aload_n 0, 1) := by decide +kernel
theorem dX5_append_1 : decode cX5_append 1 = .ok (.getfield 18, 3) := by decide +kernel
theorem dX5_append_4 : decode cX5_append 4 = .ok (.iload_n 3, 1) := by decide +kernel
theorem dX5_append_5 : decode cX5_append 5 = .ok (.iadd, 1) := by decide +kernel
theorem dX5_append_6 : decode cX5_append 6 = .ok (.sipush 160, 3) := by decide +kernel
theorem dX5_append_9 : decode cX5_append 9 = .ok (.if_icmp .le 6, 3) := by decide +kernel
theorem dX5_append_12 : decode cX5_append 12 = .ok (.bipush (-5), 2) := by decide +kernel
theorem dX5_append_14 : decode cX5_append 14 = .ok (.ireturn, 1) := by decide +kernel
theorem dX5_append_15 : decode cX5_append 15 = .ok (.iconst 0, 1) := by decide +kernel
theorem dX5_append_16 : decode cX5_append 16 = .ok (.istore 4, 2) := by decide +kernel
theorem dX5_append_18 : decode cX5_append 18 = .ok (.iload 4, 2) := by decide +kernel
theorem dX5_append_20 : decode cX5_append 20 = .ok (.iload_n 3, 1) := by decide +kernel
theorem dX5_append_21 : decode cX5_append 21 = .ok (.if_icmp .ge 33, 3) := by decide +kernel
theorem dX5_append_24 : decode cX5_append 24 = .ok (.aload_n 0, 1) := by decide +kernel
theorem dX5_append_25 : decode cX5_append 25 = .ok (.getfield 11, 3) := by decide +kernel
theorem dX5_append_28 : decode cX5_append 28 = .ok (.aload_n 0, 1) := by decide +kernel
theorem dX5_append_29 : decode cX5_append 29 = .ok (.getfield 18, 3) := by decide +kernel
theorem dX5_append_32 : decode cX5_append 32 = .ok (.iload 4, 2) := by decide +kernel
theorem dX5_append_34 : decode cX5_append 34 = .ok (.iadd, 1) := by decide +kernel
theorem dX5_append_35 : decode cX5_append 35 = .ok (.lload_n 1, 1) := by decide +kernel
theorem dX5_append_36 : decode cX5_append 36 = .ok (.bipush 8, 2) := by decide +kernel
theorem dX5_append_38 : decode cX5_append 38 = .ok (.iload 4, 2) := by decide +kernel
theorem dX5_append_40 : decode cX5_append 40 = .ok (.imul, 1) := by decide +kernel
theorem dX5_append_41 : decode cX5_append 41 = .ok (.lshr, 1) := by decide +kernel
theorem dX5_append_42 : decode cX5_append 42 = .ok (.ldc2_w 22, 3) := by decide +kernel
theorem dX5_append_45 : decode cX5_append 45 = .ok (.land, 1) := by decide +kernel
theorem dX5_append_46 : decode cX5_append 46 = .ok (.l2i, 1) := by decide +kernel
theorem dX5_append_47 : decode cX5_append 47 = .ok (.iastore, 1) := by decide +kernel
theorem dX5_append_48 : decode cX5_append 48 = .ok (.iinc 4 1, 3) := by decide +kernel
theorem dX5_append_51 : decode cX5_append 51 = .ok (.goto (-33), 3) := by decide +kernel
theorem dX5_append_54 : decode cX5_append 54 = .ok (.aload_n 0, 1) := by decide +kernel
theorem dX5_append_55 : decode cX5_append 55 = .ok (.dup, 1) := by decide +kernel
theorem dX5_append_56 : decode cX5_append 56 = .ok (.getfield 18, 3) := by decide +kernel
theorem dX5_append_59 : decode cX5_append 59 = .ok (.iload_n 3, 1) := by decide +kernel
theorem dX5_append_60 : decode cX5_append 60 = .ok (.iadd, 1) := by decide +kernel
theorem dX5_append_61 : decode cX5_append 61 = .ok (.putfield 18, 3) := by decide +kernel
theorem dX5_append_64 : decode cX5_append 64 = .ok (.aload_n 0, 1) := by decide +kernel
theorem dX5_append_65 : decode cX5_append 65 = .ok (.getfield 18, 3) := by decide +kernel
theorem dX5_append_68 : decode cX5_append 68 = .ok (.ireturn, 1) := by decide +kernel
theorem dX5_read_0 : decode cX5_read 0 = .ok (.getstatic 24, 3) := by decide +kernel
theorem dX5_read_3 : decode cX5_read 3 = .ok (.iconst 0, 1) := by decide +kernel
theorem dX5_read_4 : decode cX5_read 4 = .ok (.aload_n 0, 1) := by decide +kernel
theorem dX5_read_5 : decode cX5_read 5 = .ok (.getfield 15, 3) := by decide +kernel
theorem dX5_read_8 : decode cX5_read 8 = .ok (.iconst 0, 1) := by decide +kernel
theorem dX5_read_9 : decode cX5_read 9 = .ok (.bipush 6, 2) := by decide +kernel
theorem dX5_read_11 : decode cX5_read 11 = .ok (.invokestatic 27, 3) := by decide +kernel
theorem dX5_read_14 : decode cX5_read 14 = .ok (.iconst 0, 1) := by decide +kernel
theorem dX5_read_15 : decode cX5_read 15 = .ok (.istore_n 1, 1) := by decide +kernel
theorem dX5_read_16 : decode cX5_read 16 = .ok (.iconst 1, 1) := by decide +kernel
theorem dX5_read_17 : decode cX5_read 17 = .ok (.istore_n 2, 1) := by decide +kernel
theorem dX5_read_18 : decode cX5_read 18 = .ok (.iload_n 2, 1) := by decide +kernel
theorem dX5_read_19 : decode cX5_read 19 = .ok (.bipush 8, 2) := by decide +kernel
theorem dX5_read_21 : decode cX5_read 21 = .ok (.if_icmp .gt 129, 3) := by decide +kernel
theorem dX5_read_24 : decode cX5_read 24 = .ok (.aload_n 0, 1) := by decide +kernel
theorem dX5_read_25 : decode cX5_read 25 = .ok (.iload_n 1, 1) := by decide +kernel
theorem dX5_read_26 : decode cX5_read 26 = .ok (.invokevirtual 33, 3) := by decide +kernel
theorem dX5_read_29 : decode cX5_read 29 = .ok (.istore_n 3, 1) := by decide +kernel
theorem dX5_read_30 : decode cX5_read 30 = .ok (.aload_n 0, 1) := by decide +kernel
theorem dX5_read_31 : decode cX5_read 31 = .ok (.iload_n 3, 1) := by decide +kernel
theorem dX5_read_32 : decode cX5_read 32 = .ok (.invokevirtual 37, 3) := by decide +kernel
theorem dX5_read_35 : decode cX5_read 35 = .ok (.istore 4, 2) := by decide +kernel
theorem dX5_read_37 : decode cX5_read 37 = .ok (.iload 4, 2) := by decide +kernel
theorem dX5_read_39 : decode cX5_read 39 = .ok (.iconst (-1), 1) := by decide +kernel
theorem dX5_read_40 : decode cX5_read 40 = .ok (.if_icmp .ne 5, 3) := by decide +kernel
theorem dX5_read_43 : decode cX5_read 43 = .ok (.iload_n 3, 1) := by decide +kernel
theorem dX5_read_44 : decode cX5_read 44 = .ok (.ireturn, 1) := by decide +kernel
theorem dX5_read_45 : decode cX5_read 45 = .ok (.aload_n 0, 1) := by decide +kernel
theorem dX5_read_46 : decode cX5_read 46 = .ok (.aload_n 0, 1) := by decide +kernel
theorem dX5_read_47 : decode cX5_read 47 = .ok (.iload_n 3, 1) := by decide +kernel
theorem dX5_read_48 : decode cX5_read 48 = .ok (.invokevirtual 40, 3) := by decide +kernel
theorem dX5_read_51 : decode cX5_read 51 = .ok (.invokevirtual 33, 3) := by decide +kernel
theorem dX5_read_54 : decode cX5_read 54 = .ok (.istore 5, 2) := by decide +kernel
theorem dX5_read_56 : decode cX5_read 56 = .ok (.aload_n 0, 1) := by decide +kernel
theorem dX5_read_57 : decode cX5_read 57 = .ok (.iload 5, 2) := by decide +kernel
theorem dX5_read_59 : decode cX5_read 59 = .ok (.invokevirtual 43, 3) := by decide +kernel
theorem dX5_read_62 : decode cX5_read 62 = .ok (.istore 6, 2) := by decide +kernel
theorem dX5_read_64 : decode cX5_read 64 = .ok (.iload 6, 2) := by decide +kernel
theorem dX5_read_66 : decode cX5_read 66 = .ok (.getstatic 46, 3) := by decide +kernel
theorem dX5_read_69 : decode cX5_read 69 = .ok (.iload 4, 2) := by decide +kernel
theorem dX5_read_71 : decode cX5_read 71 = .ok (.iaload, 1) := by decide +kernel
theorem dX5_read_72 : decode cX5_read 72 = .ok (.getstatic 49, 3) := by decide +kernel
theorem dX5_read_75 : decode cX5_read 75 = .ok (.iload 4, 2) := by decide +kernel
theorem dX5_read_77 : decode cX5_read 77 = .ok (.iaload, 1) := by decide +kernel
theorem dX5_read_78 : decode cX5_read 78 = .ok (.invokestatic 52, 3) := by decide +kernel
theorem dX5_read_81 : decode cX5_read 81 = .ok (.ifCond .ne 6, 3) := by decide +kernel
theorem dX5_read_84 : decode cX5_read 84 = .ok (.iload 5, 2) := by decide +kernel
theorem dX5_read_86 : decode cX5_read 86 = .ok (.ireturn, 1) := by decide +kernel
theorem dX5_read_87 : decode cX5_read 87 = .ok (.aload_n 0, 1) := by decide +kernel
theorem dX5_read_88 : decode cX5_read 88 = .ok (.getfield 15, 3) := by decide +kernel
theorem dX5_read_91 : decode cX5_read 91 = .ok (.iload 4, 2) := by decide +kernel
theorem dX5_read_93 : decode cX5_read 93 = .ok (.iload 6, 2) := by decide +kernel
theorem dX5_read_95 : decode cX5_read 95 = .ok (.iastore, 1) := by decide +kernel
theorem dX5_read_96 : decode cX5_read 96 = .ok (.aload_n 0, 1) := by decide +kernel
theorem dX5_read_97 : decode cX5_read 97 = .ok (.iload_n 2, 1) := by decide +kernel
theorem dX5_read_98 : decode cX5_read 98 = .ok (.putfield 56, 3) := by decide +kernel
theorem dX5_read_101 : decode cX5_read 101 = .ok (.aload_n 0, 1) := by decide +kernel
theorem dX5_read_102 : decode cX5_read 102 = .ok (.aload_n 0, 1) := by decide +kernel
theorem dX5_read_103 : decode cX5_read 103 = .ok (.iload 5, 2) := by decide +kernel
theorem dX5_read_105 : decode cX5_read 105 = .ok (.invokevirtual 40, 3) := by decide +kernel
theorem dX5_read_108 : decode cX5_read 108 = .ok (.invokevirtual 33, 3) := by decide +kernel
theorem dX5_read_111 : decode cX5_read 111 = .ok (.istore_n 1, 1) := by decide +kernel
theorem dX5_read_112 : decode cX5_read 112 = .ok (.iload_n 1, 1) := by decide +kernel
theorem dX5_read_113 : decode cX5_read 113 = .ok (.aload_n 0, 1) := by decide +kernel
theorem dX5_read_114 : decode cX5_read 114 = .ok (.getfield 18, 3) := by decide +kernel
theorem dX5_read_117 : decode cX5_read 117 = .ok (.if_icmp .lt 5, 3) := by decide +kernel
theorem dX5_read_120 : decode cX5_read 120 = .ok (.iconst (-1), 1) := by decide +kernel
theorem dX5_read_121 : decode cX5_read 121 = .ok (.ireturn, 1) := by decide +kernel
theorem dX5_read_122 : decode cX5_read 122 = .ok (.aload_n 0, 1) := by decide +kernel
theorem dX5_read_123 : decode cX5_read 123 = .ok (.getfield 11, 3) := by decide +kernel
theorem dX5_read_126 : decode cX5_read 126 = .ok (.iload_n 1, 1) := by decide +kernel
theorem dX5_read_127 : decode cX5_read 127 = .ok (.iaload, 1) := by decide +kernel
theorem dX5_read_128 : decode cX5_read 128 = .ok (.bipush 59, 2) := by decide +kernel
theorem dX5_read_130 : decode cX5_read 130 = .ok (.if_icmp .ne 9, 3) := by decide +kernel
theorem dX5_read_133 : decode cX5_read 133 = .ok (.iload_n 2, 1) := by decide +kernel
theorem dX5_read_134 : decode cX5_read 134 = .ok (.bipush 8, 2) := by decide +kernel
theorem dX5_read_136 : decode cX5_read 136 = .ok (.if_icmp .ne 5, 3) := by decide +kernel
theorem dX5_read_139 : decode cX5_read 139 = .ok (.iload_n 1, 1) := by decide +kernel
theorem dX5_read_140 : decode cX5_read 140 = .ok (.ireturn, 1) := by decide +kernel
theorem dX5_read_141 : decode cX5_read 141 = .ok (.iinc 1 1, 3) := by decide +kernel
theorem dX5_read_144 : decode cX5_read 144 = .ok (.iinc 2 1, 3) := by decide +kernel
theorem dX5_read_147 : decode cX5_read 147 = .ok (.goto (-129), 3) := by decide +kernel
theorem dX5_read_150 : decode cX5_read 150 = .ok (.iload_n 1, 1) := by decide +kernel
theorem dX5_read_151 : decode cX5_read 151 = .ok (.ireturn, 1) := by decide +kernel
theorem dX5_behindBlanks_0 : decode cX5_behindBlanks 0 = .ok (.iload_n 1, 1) := by decide +kernel
theorem dX5_behindBlanks_1 : decode cX5_behindBlanks 1 = .ok (.istore_n 2, 1) := by decide +kernel
theorem dX5_behindBlanks_2 : decode cX5_behindBlanks 2 = .ok (.iload_n 2, 1) := by decide +kernel
theorem dX5_behindBlanks_3 : decode cX5_behindBlanks 3 = .ok (.aload_n 0, 1) := by decide +kernel
theorem dX5_behindBlanks_4 : decode cX5_behindBlanks 4 = .ok (.getfield 18, 3) := by decide +kernel
theorem dX5_behindBlanks_7 : decode cX5_behindBlanks 7 = .ok (.if_icmp .ge 20, 3) := by decide +kernel
theorem dX5_behindBlanks_10 : decode cX5_behindBlanks 10 = .ok (.aload_n 0, 1) := by decide +kernel
theorem dX5_behindBlanks_11 : decode cX5_behindBlanks 11 = .ok (.getfield 11, 3) := by decide +kernel
theorem dX5_behindBlanks_14 : decode cX5_behindBlanks 14 = .ok (.iload_n 2, 1) := by decide +kernel
theorem dX5_behindBlanks_15 : decode cX5_behindBlanks 15 = .ok (.iaload, 1) := by decide +kernel
theorem dX5_behindBlanks_16 : decode cX5_behindBlanks 16 = .ok (.bipush 32, 2) := by decide +kernel
theorem dX5_behindBlanks_18 : decode cX5_behindBlanks 18 = .ok (.if_icmp .ne 9, 3) := by decide +kernel
theorem dX5_behindBlanks_21 : decode cX5_behindBlanks 21 = .ok (.iinc 2 1, 3) := by decide +kernel
theorem dX5_behindBlanks_24 : decode cX5_behindBlanks 24 = .ok (.goto (-22), 3) := by decide +kernel
theorem dX5_behindBlanks_27 : decode cX5_behindBlanks 27 = .ok (.iload_n 2, 1) := by decide +kernel
theorem dX5_behindBlanks_28 : decode cX5_behindBlanks 28 = .ok (.ireturn, 1) := by decide +kernel
theorem dX5_tokenEnd_0 : decode cX5_tokenEnd 0 = .ok (.iload_n 1, 1) := by decide +kernel
theorem dX5_tokenEnd_1 : decode cX5_tokenEnd 1 = .ok (.aload_n 0, 1) := by decide +kernel
theorem dX5_tokenEnd_2 : decode cX5_tokenEnd 2 = .ok (.getfield 18, 3) := by decide +kernel
theorem dX5_tokenEnd_5 : decode cX5_tokenEnd 5 = .ok (.if_icmp .lt 8, 3) := by decide +kernel
theorem dX5_tokenEnd_8 : decode cX5_tokenEnd 8 = .ok (.aload_n 0, 1) := by decide +kernel
theorem dX5_tokenEnd_9 : decode cX5_tokenEnd 9 = .ok (.getfield 18, 3) := by decide +kernel
theorem dX5_tokenEnd_12 : decode cX5_tokenEnd 12 = .ok (.ireturn, 1) := by decide +kernel
theorem dX5_tokenEnd_13 : decode cX5_tokenEnd 13 = .ok (.aload_n 0, 1) := by decide +kernel
theorem dX5_tokenEnd_14 : decode cX5_tokenEnd 14 = .ok (.getfield 11, 3) := by decide +kernel
theorem dX5_tokenEnd_17 : decode cX5_tokenEnd 17 = .ok (.iload_n 1, 1) := by decide +kernel
theorem dX5_tokenEnd_18 : decode cX5_tokenEnd 18 = .ok (.iaload, 1) := by decide +kernel
theorem dX5_tokenEnd_19 : decode cX5_tokenEnd 19 = .ok (.invokestatic 59, 3) := by decide +kernel
theorem dX5_tokenEnd_22 : decode cX5_tokenEnd 22 = .ok (.istore_n 2, 1) := by decide +kernel
theorem dX5_tokenEnd_23 : decode cX5_tokenEnd 23 = .ok (.aload_n 0, 1) := by decide +kernel
theorem dX5_tokenEnd_24 : decode cX5_tokenEnd 24 = .ok (.getfield 11, 3) := by decide +kernel
theorem dX5_tokenEnd_27 : decode cX5_tokenEnd 27 = .ok (.iload_n 1, 1) := by decide +kernel
theorem dX5_tokenEnd_28 : decode cX5_tokenEnd 28 = .ok (.iaload, 1) := by decide +kernel
theorem dX5_tokenEnd_29 : decode cX5_tokenEnd 29 = .ok (.invokestatic 63, 3) := by decide +kernel
theorem dX5_tokenEnd_32 : decode cX5_tokenEnd 32 = .ok (.istore_n 3, 1) := by decide +kernel
theorem dX5_tokenEnd_33 : decode cX5_tokenEnd 33 = .ok (.iload_n 1, 1) := by decide +kernel
theorem dX5_tokenEnd_34 : decode cX5_tokenEnd 34 = .ok (.iconst 1, 1) := by decide +kernel
theorem dX5_tokenEnd_35 : decode cX5_tokenEnd 35 = .ok (.iadd, 1) := by decide +kernel
theorem dX5_tokenEnd_36 : decode cX5_tokenEnd 36 = .ok (.istore 4, 2) := by decide +kernel
theorem dX5_tokenEnd_38 : decode cX5_tokenEnd 38 = .ok (.iload 4, 2) := by decide +kernel
theorem dX5_tokenEnd_40 : decode cX5_tokenEnd 40 = .ok (.aload_n 0, 1) := by decide +kernel
theorem dX5_tokenEnd_41 : decode cX5_tokenEnd 41 = .ok (.getfield 18, 3) := by decide +kernel
theorem dX5_tokenEnd_44 : decode cX5_tokenEnd 44 = .ok (.if_icmp .ge 43, 3) := by decide +kernel
theorem dX5_tokenEnd_47 : decode cX5_tokenEnd 47 = .ok (.iload_n 2, 1) := by decide +kernel
theorem dX5_tokenEnd_48 : decode cX5_tokenEnd 48 = .ok (.ifCond .eq 16, 3) := by decide +kernel
theorem dX5_tokenEnd_51 : decode cX5_tokenEnd 51 = .ok (.aload_n 0, 1) := by decide +kernel
theorem dX5_tokenEnd_52 : decode cX5_tokenEnd 52 = .ok (.getfield 11, 3) := by decide +kernel
theorem dX5_tokenEnd_55 : decode cX5_tokenEnd 55 = .ok (.iload 4, 2) := by decide +kernel
theorem dX5_tokenEnd_57 : decode cX5_tokenEnd 57 = .ok (.iaload, 1) := by decide +kernel
theorem dX5_tokenEnd_58 : decode cX5_tokenEnd 58 = .ok (.invokestatic 59, 3) := by decide +kernel
theorem dX5_tokenEnd_61 : decode cX5_tokenEnd 61 = .ok (.ifCond .ne 20, 3) := by decide +kernel
theorem dX5_tokenEnd_64 : decode cX5_tokenEnd 64 = .ok (.iload_n 3, 1) := by decide +kernel
theorem dX5_tokenEnd_65 : decode cX5_tokenEnd 65 = .ok (.ifCond .eq 22, 3) := by decide +kernel
theorem dX5_tokenEnd_68 : decode cX5_tokenEnd 68 = .ok (.aload_n 0, 1) := by decide +kernel
theorem dX5_tokenEnd_69 : decode cX5_tokenEnd 69 = .ok (.getfield 11, 3) := by decide +kernel
theorem dX5_tokenEnd_72 : decode cX5_tokenEnd 72 = .ok (.iload 4, 2) := by decide +kernel
theorem dX5_tokenEnd_74 : decode cX5_tokenEnd 74 = .ok (.iaload, 1) := by decide +kernel
theorem dX5_tokenEnd_75 : decode cX5_tokenEnd 75 = .ok (.invokestatic 63, 3) := by decide +kernel
theorem dX5_tokenEnd_78 : decode cX5_tokenEnd 78 = .ok (.ifCond .eq 9, 3) := by decide +kernel
theorem dX5_tokenEnd_81 : decode cX5_tokenEnd 81 = .ok (.iinc 4 1, 3) := by decide +kernel
theorem dX5_tokenEnd_84 : decode cX5_tokenEnd 84 = .ok (.goto (-46), 3) := by decide +kernel
theorem dX5_tokenEnd_87 : decode cX5_tokenEnd 87 = .ok (.iload 4, 2) := by decide +kernel
theorem dX5_tokenEnd_89 : decode cX5_tokenEnd 89 = .ok (.ireturn, 1) := by decide +kernel
theorem dX5_wordAt_0 : decode cX5_wordAt 0 = .ok (.aload_n 0, 1) := by decide +kernel
theorem dX5_wordAt_1 : decode cX5_wordAt 1 = .ok (.iload_n 1, 1) := by decide +kernel
theorem dX5_wordAt_2 : decode cX5_wordAt 2 = .ok (.invokevirtual 40, 3) := by decide +kernel
theorem dX5_wordAt_5 : decode cX5_wordAt 5 = .ok (.istore_n 2, 1) := by decide +kernel
theorem dX5_wordAt_6 : decode cX5_wordAt 6 = .ok (.iconst 0, 1) := by decide +kernel
theorem dX5_wordAt_7 : decode cX5_wordAt 7 = .ok (.istore_n 3, 1) := by decide +kernel
theorem dX5_wordAt_8 : decode cX5_wordAt 8 = .ok (.iload_n 3, 1) := by decide +kernel
theorem dX5_wordAt_9 : decode cX5_wordAt 9 = .ok (.bipush 6, 2) := by decide +kernel
theorem dX5_wordAt_11 : decode cX5_wordAt 11 = .ok (.if_icmp .ge 24, 3) := by decide +kernel
theorem dX5_wordAt_14 : decode cX5_wordAt 14 = .ok (.aload_n 0, 1) := by decide +kernel
theorem dX5_wordAt_15 : decode cX5_wordAt 15 = .ok (.iload_n 1, 1) := by decide +kernel
theorem dX5_wordAt_16 : decode cX5_wordAt 16 = .ok (.iload_n 2, 1) := by decide +kernel
theorem dX5_wordAt_17 : decode cX5_wordAt 17 = .ok (.iload_n 3, 1) := by decide +kernel
theorem dX5_wordAt_18 : decode cX5_wordAt 18 = .ok (.invokestatic 66, 3) := by decide +kernel
theorem dX5_wordAt_21 : decode cX5_wordAt 21 = .ok (.invokevirtual 70, 3) := by decide +kernel
theorem dX5_wordAt_24 : decode cX5_wordAt 24 = .ok (.ifCond .eq 5, 3) := by decide +kernel
theorem dX5_wordAt_27 : decode cX5_wordAt 27 = .ok (.iload_n 3, 1) := by decide +kernel
theorem dX5_wordAt_28 : decode cX5_wordAt 28 = .ok (.ireturn, 1) := by decide +kernel
theorem dX5_wordAt_29 : decode cX5_wordAt 29 = .ok (.iinc 3 1, 3) := by decide +kernel
theorem dX5_wordAt_32 : decode cX5_wordAt 32 = .ok (.goto (-24), 3) := by decide +kernel
theorem dX5_wordAt_35 : decode cX5_wordAt 35 = .ok (.iconst (-1), 1) := by decide +kernel
theorem dX5_wordAt_36 : decode cX5_wordAt 36 = .ok (.ireturn, 1) := by decide +kernel
theorem dX5_isSpelt_0 : decode cX5_isSpelt 0 = .ok (.iload_n 2, 1) := by decide +kernel
theorem dX5_isSpelt_1 : decode cX5_isSpelt 1 = .ok (.iload_n 1, 1) := by decide +kernel
theorem dX5_isSpelt_2 : decode cX5_isSpelt 2 = .ok (.isub, 1) := by decide +kernel
theorem dX5_isSpelt_3 : decode cX5_isSpelt 3 = .ok (.aload_n 3, 1) := by decide +kernel
theorem dX5_isSpelt_4 : decode cX5_isSpelt 4 = .ok (.invokevirtual 74, 3) := by decide +kernel
theorem dX5_isSpelt_7 : decode cX5_isSpelt 7 = .ok (.if_icmp .eq 5, 3) := by decide +kernel
theorem dX5_isSpelt_10 : decode cX5_isSpelt 10 = .ok (.iconst 0, 1) := by decide +kernel
theorem dX5_isSpelt_11 : decode cX5_isSpelt 11 = .ok (.ireturn, 1) := by decide +kernel
theorem dX5_isSpelt_12 : decode cX5_isSpelt 12 = .ok (.iconst 0, 1) := by decide +kernel
theorem dX5_isSpelt_13 : decode cX5_isSpelt 13 = .ok (.istore 4, 2) := by decide +kernel
theorem dX5_isSpelt_15 : decode cX5_isSpelt 15 = .ok (.iload 4, 2) := by decide +kernel
theorem dX5_isSpelt_17 : decode cX5_isSpelt 17 = .ok (.aload_n 3, 1) := by decide +kernel
theorem dX5_isSpelt_18 : decode cX5_isSpelt 18 = .ok (.invokevirtual 74, 3) := by decide +kernel
theorem dX5_isSpelt_21 : decode cX5_isSpelt 21 = .ok (.if_icmp .ge 29, 3) := by decide +kernel
theorem dX5_isSpelt_24 : decode cX5_isSpelt 24 = .ok (.aload_n 0, 1) := by decide +kernel
theorem dX5_isSpelt_25 : decode cX5_isSpelt 25 = .ok (.getfield 11, 3) := by decide +kernel
theorem dX5_isSpelt_28 : decode cX5_isSpelt 28 = .ok (.iload_n 1, 1) := by decide +kernel
theorem dX5_isSpelt_29 : decode cX5_isSpelt 29 = .ok (.iload 4, 2) := by decide +kernel
theorem dX5_isSpelt_31 : decode cX5_isSpelt 31 = .ok (.iadd, 1) := by decide +kernel
theorem dX5_isSpelt_32 : decode cX5_isSpelt 32 = .ok (.iaload, 1) := by decide +kernel
theorem dX5_isSpelt_33 : decode cX5_isSpelt 33 = .ok (.aload_n 3, 1) := by decide +kernel
theorem dX5_isSpelt_34 : decode cX5_isSpelt 34 = .ok (.iload 4, 2) := by decide +kernel
theorem dX5_isSpelt_36 : decode cX5_isSpelt 36 = .ok (.invokevirtual 79, 3) := by decide +kernel
theorem dX5_isSpelt_39 : decode cX5_isSpelt 39 = .ok (.if_icmp .eq 5, 3) := by decide +kernel
theorem dX5_isSpelt_42 : decode cX5_isSpelt 42 = .ok (.iconst 0, 1) := by decide +kernel
theorem dX5_isSpelt_43 : decode cX5_isSpelt 43 = .ok (.ireturn, 1) := by decide +kernel
theorem dX5_isSpelt_44 : decode cX5_isSpelt 44 = .ok (.iinc 4 1, 3) := by decide +kernel
theorem dX5_isSpelt_47 : decode cX5_isSpelt 47 = .ok (.goto (-32), 3) := by decide +kernel
theorem dX5_isSpelt_50 : decode cX5_isSpelt 50 = .ok (.iconst 1, 1) := by decide +kernel
theorem dX5_isSpelt_51 : decode cX5_isSpelt 51 = .ok (.ireturn, 1) := by decide +kernel
theorem dX5_numberAt_0 : decode cX5_numberAt 0 = .ok (.aload_n 0, 1) := by decide +kernel
theorem dX5_numberAt_1 : decode cX5_numberAt 1 = .ok (.iload_n 1, 1) := by decide +kernel
theorem dX5_numberAt_2 : decode cX5_numberAt 2 = .ok (.invokevirtual 40, 3) := by decide +kernel
theorem dX5_numberAt_5 : decode cX5_numberAt 5 = .ok (.istore_n 2, 1) := by decide +kernel
theorem dX5_numberAt_6 : decode cX5_numberAt 6 = .ok (.iload_n 1, 1) := by decide +kernel
theorem dX5_numberAt_7 : decode cX5_numberAt 7 = .ok (.aload_n 0, 1) := by decide +kernel
theorem dX5_numberAt_8 : decode cX5_numberAt 8 = .ok (.getfield 18, 3) := by decide +kernel
theorem dX5_numberAt_11 : decode cX5_numberAt 11 = .ok (.if_icmp .ge 22, 3) := by decide +kernel
theorem dX5_numberAt_14 : decode cX5_numberAt 14 = .ok (.aload_n 0, 1) := by decide +kernel
theorem dX5_numberAt_15 : decode cX5_numberAt 15 = .ok (.getfield 11, 3) := by decide +kernel
theorem dX5_numberAt_18 : decode cX5_numberAt 18 = .ok (.iload_n 1, 1) := by decide +kernel
theorem dX5_numberAt_19 : decode cX5_numberAt 19 = .ok (.iaload, 1) := by decide +kernel
theorem dX5_numberAt_20 : decode cX5_numberAt 20 = .ok (.invokestatic 63, 3) := by decide +kernel
theorem dX5_numberAt_23 : decode cX5_numberAt 23 = .ok (.ifCond .eq 10, 3) := by decide +kernel
theorem dX5_numberAt_26 : decode cX5_numberAt 26 = .ok (.iload_n 2, 1) := by decide +kernel
theorem dX5_numberAt_27 : decode cX5_numberAt 27 = .ok (.iload_n 1, 1) := by decide +kernel
theorem dX5_numberAt_28 : decode cX5_numberAt 28 = .ok (.isub, 1) := by decide +kernel
theorem dX5_numberAt_29 : decode cX5_numberAt 29 = .ok (.iconst 3, 1) := by decide +kernel
theorem dX5_numberAt_30 : decode cX5_numberAt 30 = .ok (.if_icmp .le 5, 3) := by decide +kernel
theorem dX5_numberAt_33 : decode cX5_numberAt 33 = .ok (.iconst (-1), 1) := by decide +kernel
theorem dX5_numberAt_34 : decode cX5_numberAt 34 = .ok (.ireturn, 1) := by decide +kernel
theorem dX5_numberAt_35 : decode cX5_numberAt 35 = .ok (.iconst 0, 1) := by decide +kernel
theorem dX5_numberAt_36 : decode cX5_numberAt 36 = .ok (.istore_n 3, 1) := by decide +kernel
theorem dX5_numberAt_37 : decode cX5_numberAt 37 = .ok (.iload_n 1, 1) := by decide +kernel
theorem dX5_numberAt_38 : decode cX5_numberAt 38 = .ok (.istore 4, 2) := by decide +kernel
theorem dX5_numberAt_40 : decode cX5_numberAt 40 = .ok (.iload 4, 2) := by decide +kernel
theorem dX5_numberAt_42 : decode cX5_numberAt 42 = .ok (.iload_n 2, 1) := by decide +kernel
theorem dX5_numberAt_43 : decode cX5_numberAt 43 = .ok (.if_icmp .ge 25, 3) := by decide +kernel
theorem dX5_numberAt_46 : decode cX5_numberAt 46 = .ok (.iload_n 3, 1) := by decide +kernel
theorem dX5_numberAt_47 : decode cX5_numberAt 47 = .ok (.bipush 10, 2) := by decide +kernel
theorem dX5_numberAt_49 : decode cX5_numberAt 49 = .ok (.imul, 1) := by decide +kernel
theorem dX5_numberAt_50 : decode cX5_numberAt 50 = .ok (.aload_n 0, 1) := by decide +kernel
theorem dX5_numberAt_51 : decode cX5_numberAt 51 = .ok (.getfield 11, 3) := by decide +kernel
theorem dX5_numberAt_54 : decode cX5_numberAt 54 = .ok (.iload 4, 2) := by decide +kernel
theorem dX5_numberAt_56 : decode cX5_numberAt 56 = .ok (.iaload, 1) := by decide +kernel
theorem dX5_numberAt_57 : decode cX5_numberAt 57 = .ok (.iadd, 1) := by decide +kernel
theorem dX5_numberAt_58 : decode cX5_numberAt 58 = .ok (.bipush 48, 2) := by decide +kernel
theorem dX5_numberAt_60 : decode cX5_numberAt 60 = .ok (.isub, 1) := by decide +kernel
theorem dX5_numberAt_61 : decode cX5_numberAt 61 = .ok (.istore_n 3, 1) := by decide +kernel
theorem dX5_numberAt_62 : decode cX5_numberAt 62 = .ok (.iinc 4 1, 3) := by decide +kernel
theorem dX5_numberAt_65 : decode cX5_numberAt 65 = .ok (.goto (-25), 3) := by decide +kernel
theorem dX5_numberAt_68 : decode cX5_numberAt 68 = .ok (.iload_n 3, 1) := by decide +kernel
theorem dX5_numberAt_69 : decode cX5_numberAt 69 = .ok (.ireturn, 1) := by decide +kernel
theorem dX5_nameOf_0 : decode cX5_nameOf 0 = .ok (.iload_n 0, 1) := by decide +kernel
theorem dX5_nameOf_1 : decode cX5_nameOf 1 = .ok (.tableswitch 50 0 4 #[35, 38, 41, 44, 47], 35) := by decide +kernel
theorem dX5_nameOf_36 : decode cX5_nameOf 36 = .ok (.ldc 83, 2) := by decide +kernel
theorem dX5_nameOf_38 : decode cX5_nameOf 38 = .ok (.areturn, 1) := by decide +kernel
theorem dX5_nameOf_39 : decode cX5_nameOf 39 = .ok (.ldc 85, 2) := by decide +kernel
theorem dX5_nameOf_41 : decode cX5_nameOf 41 = .ok (.areturn, 1) := by decide +kernel
theorem dX5_nameOf_42 : decode cX5_nameOf 42 = .ok (.ldc 87, 2) := by decide +kernel
theorem dX5_nameOf_44 : decode cX5_nameOf 44 = .ok (.areturn, 1) := by decide +kernel
theorem dX5_nameOf_45 : decode cX5_nameOf 45 = .ok (.ldc 89, 2) := by decide +kernel
theorem dX5_nameOf_47 : decode cX5_nameOf 47 = .ok (.areturn, 1) := by decide +kernel
theorem dX5_nameOf_48 : decode cX5_nameOf 48 = .ok (.ldc 91, 2) := by decide +kernel
theorem dX5_nameOf_50 : decode cX5_nameOf 50 = .ok (.areturn, 1) := by decide +kernel
theorem dX5_nameOf_51 : decode cX5_nameOf 51 = .ok (.ldc 93, 2) := by decide +kernel
theorem dX5_nameOf_53 : decode cX5_nameOf 53 = .ok (.areturn, 1) := by decide +kernel
theorem dX5_isLetter_0 : decode cX5_isLetter 0 = .ok (.iload_n 0, 1) := by decide +kernel
theorem dX5_isLetter_1 : decode cX5_isLetter 1 = .ok (.bipush 97, 2) := by decide +kernel
theorem dX5_isLetter_3 : decode cX5_isLetter 3 = .ok (.if_icmp .lt 13, 3) := by decide +kernel
theorem dX5_isLetter_6 : decode cX5_isLetter 6 = .ok (.iload_n 0, 1) := by decide +kernel
theorem dX5_isLetter_7 : decode cX5_isLetter 7 = .ok (.bipush 122, 2) := by decide +kernel
theorem dX5_isLetter_9 : decode cX5_isLetter 9 = .ok (.if_icmp .gt 7, 3) := by decide +kernel
theorem dX5_isLetter_12 : decode cX5_isLetter 12 = .ok (.iconst 1, 1) := by decide +kernel
theorem dX5_isLetter_13 : decode cX5_isLetter 13 = .ok (.goto 4, 3) := by decide +kernel
theorem dX5_isLetter_16 : decode cX5_isLetter 16 = .ok (.iconst 0, 1) := by decide +kernel
theorem dX5_isLetter_17 : decode cX5_isLetter 17 = .ok (.ireturn, 1) := by decide +kernel
theorem dX5_isDigit_0 : decode cX5_isDigit 0 = .ok (.iload_n 0, 1) := by decide +kernel
theorem dX5_isDigit_1 : decode cX5_isDigit 1 = .ok (.bipush 48, 2) := by decide +kernel
theorem dX5_isDigit_3 : decode cX5_isDigit 3 = .ok (.if_icmp .lt 13, 3) := by decide +kernel
theorem dX5_isDigit_6 : decode cX5_isDigit 6 = .ok (.iload_n 0, 1) := by decide +kernel
theorem dX5_isDigit_7 : decode cX5_isDigit 7 = .ok (.bipush 57, 2) := by decide +kernel
theorem dX5_isDigit_9 : decode cX5_isDigit 9 = .ok (.if_icmp .gt 7, 3) := by decide +kernel
theorem dX5_isDigit_12 : decode cX5_isDigit 12 = .ok (.iconst 1, 1) := by decide +kernel
theorem dX5_isDigit_13 : decode cX5_isDigit 13 = .ok (.goto 4, 3) := by decide +kernel
theorem dX5_isDigit_16 : decode cX5_isDigit 16 = .ok (.iconst 0, 1) := by decide +kernel
theorem dX5_isDigit_17 : decode cX5_isDigit 17 = .ok (.ireturn, 1) := by decide +kernel
theorem dX6_init_0 : decode cX6_init 0 = .ok (.aload_n 0, 1) := by decide +kernel
theorem dX6_init_1 : decode cX6_init 1 = .ok (.invokespecial 3, 3) := by decide +kernel
theorem dX6_init_4 : decode cX6_init 4 = .ok (.aload_n 0, 1) := by decide +kernel
theorem dX6_init_5 : decode cX6_init 5 = .ok (.bipush 24, 2) := by decide +kernel
theorem dX6_init_7 : decode cX6_init 7 = .ok (.newarray .int, 2) := by decide +kernel
theorem dX6_init_9 : decode cX6_init 9 = .ok (.putfield 11, 3) := by decide +kernel
theorem dX6_init_12 : decode cX6_init 12 = .ok (.return_, 1) := by decide +kernel
theorem dX6_add_0 : decode cX6_add 0 = .ok (.aload_n 0, 1) := by decide +kernel
theorem dX6_add_1 : decode cX6_add 1 = .ok (.getfield 15, 3) := by decide +kernel
theorem dX6_add_4 : decode cX6_add 4 = .ok (.bipush 24, 2) := by decide +kernel
theorem dX6_add_6 : decode cX6_add 6 = .ok (.if_icmp .lt 6, 3) := by decide +kernel
theorem dX6_add_9 : decode cX6_add 9 = .ok (.bipush (-5), 2) := by decide +kernel
theorem dX6_add_11 : decode cX6_add 11 = .ok (.ireturn, 1) := by decide +kernel
theorem dX6_add_12 : decode cX6_add 12 = .ok (.aload_n 0, 1) := by decide +kernel
theorem dX6_add_13 : decode cX6_add 13 = .ok (.getfield 11, 3) := by decide +kernel
theorem dX6_add_16 : decode cX6_add 16 = .ok (.aload_n 0, 1) := by decide +kernel
theorem dX6_add_17 : decode cX6_add 17 = .ok (.getfield 15, 3) := by decide +kernel
theorem dX6_add_20 : decode cX6_add 20 = .ok (.iload_n 1, 1) := by decide +kernel
theorem dX6_add_21 : decode cX6_add 21 = .ok (.iastore, 1) := by decide +kernel
theorem dX6_add_22 : decode cX6_add 22 = .ok (.aload_n 0, 1) := by decide +kernel
theorem dX6_add_23 : decode cX6_add 23 = .ok (.dup, 1) := by decide +kernel
theorem dX6_add_24 : decode cX6_add 24 = .ok (.getfield 15, 3) := by decide +kernel
theorem dX6_add_27 : decode cX6_add 27 = .ok (.iconst 1, 1) := by decide +kernel
theorem dX6_add_28 : decode cX6_add 28 = .ok (.iadd, 1) := by decide +kernel
theorem dX6_add_29 : decode cX6_add 29 = .ok (.putfield 15, 3) := by decide +kernel
theorem dX6_add_32 : decode cX6_add 32 = .ok (.aload_n 0, 1) := by decide +kernel
theorem dX6_add_33 : decode cX6_add 33 = .ok (.getfield 15, 3) := by decide +kernel
theorem dX6_add_36 : decode cX6_add 36 = .ok (.ireturn, 1) := by decide +kernel
theorem dX6_yawOf_0 : decode cX6_yawOf 0 = .ok (.aload_n 0, 1) := by decide +kernel
theorem dX6_yawOf_1 : decode cX6_yawOf 1 = .ok (.getfield 15, 3) := by decide +kernel
theorem dX6_yawOf_4 : decode cX6_yawOf 4 = .ok (.iconst 1, 1) := by decide +kernel
theorem dX6_yawOf_5 : decode cX6_yawOf 5 = .ok (.if_icmp .ge 7, 3) := by decide +kernel
theorem dX6_yawOf_8 : decode cX6_yawOf 8 = .ok (.iconst 0, 1) := by decide +kernel
theorem dX6_yawOf_9 : decode cX6_yawOf 9 = .ok (.goto 16, 3) := by decide +kernel
theorem dX6_yawOf_12 : decode cX6_yawOf 12 = .ok (.aload_n 0, 1) := by decide +kernel
theorem dX6_yawOf_13 : decode cX6_yawOf 13 = .ok (.getfield 11, 3) := by decide +kernel
theorem dX6_yawOf_16 : decode cX6_yawOf 16 = .ok (.iload_n 1, 1) := by decide +kernel
theorem dX6_yawOf_17 : decode cX6_yawOf 17 = .ok (.aload_n 0, 1) := by decide +kernel
theorem dX6_yawOf_18 : decode cX6_yawOf 18 = .ok (.getfield 15, 3) := by decide +kernel
theorem dX6_yawOf_21 : decode cX6_yawOf 21 = .ok (.invokestatic 19, 3) := by decide +kernel
theorem dX6_yawOf_24 : decode cX6_yawOf 24 = .ok (.iaload, 1) := by decide +kernel
theorem dX6_yawOf_25 : decode cX6_yawOf 25 = .ok (.ireturn, 1) := by decide +kernel
theorem dX7_init_0 : decode cX7_init 0 = .ok (.aload_n 0, 1) := by decide +kernel
theorem dX7_init_1 : decode cX7_init 1 = .ok (.invokespecial 3, 3) := by decide +kernel
theorem dX7_init_4 : decode cX7_init 4 = .ok (.aload_n 0, 1) := by decide +kernel
theorem dX7_init_5 : decode cX7_init 5 = .ok (.bipush 20, 2) := by decide +kernel
theorem dX7_init_7 : decode cX7_init 7 = .ok (.putfield 9, 3) := by decide +kernel
theorem dX7_init_10 : decode cX7_init 10 = .ok (.aload_n 0, 1) := by decide +kernel
theorem dX7_init_11 : decode cX7_init 11 = .ok (.aload_n 1, 1) := by decide +kernel
theorem dX7_init_12 : decode cX7_init 12 = .ok (.putfield 15, 3) := by decide +kernel
theorem dX7_init_15 : decode cX7_init 15 = .ok (.aload_n 0, 1) := by decide +kernel
theorem dX7_init_16 : decode cX7_init 16 = .ok (.aload_n 2, 1) := by decide +kernel
theorem dX7_init_17 : decode cX7_init 17 = .ok (.putfield 19, 3) := by decide +kernel
theorem dX7_init_20 : decode cX7_init 20 = .ok (.aload_n 0, 1) := by decide +kernel
theorem dX7_init_21 : decode cX7_init 21 = .ok (.iconst 3, 1) := by decide +kernel
theorem dX7_init_22 : decode cX7_init 22 = .ok (.anewarray 23, 3) := by decide +kernel
theorem dX7_init_25 : decode cX7_init 25 = .ok (.putfield 25, 3) := by decide +kernel
theorem dX7_init_28 : decode cX7_init 28 = .ok (.iconst 0, 1) := by decide +kernel
theorem dX7_init_29 : decode cX7_init 29 = .ok (.istore_n 3, 1) := by decide +kernel
theorem dX7_init_30 : decode cX7_init 30 = .ok (.iload_n 3, 1) := by decide +kernel
theorem dX7_init_31 : decode cX7_init 31 = .ok (.iconst 3, 1) := by decide +kernel
theorem dX7_init_32 : decode cX7_init 32 = .ok (.if_icmp .ge 22, 3) := by decide +kernel
theorem dX7_init_35 : decode cX7_init 35 = .ok (.aload_n 0, 1) := by decide +kernel
theorem dX7_init_36 : decode cX7_init 36 = .ok (.getfield 25, 3) := by decide +kernel
theorem dX7_init_39 : decode cX7_init 39 = .ok (.iload_n 3, 1) := by decide +kernel
theorem dX7_init_40 : decode cX7_init 40 = .ok (.new 23, 3) := by decide +kernel
theorem dX7_init_43 : decode cX7_init 43 = .ok (.dup, 1) := by decide +kernel
theorem dX7_init_44 : decode cX7_init 44 = .ok (.invokespecial 29, 3) := by decide +kernel
theorem dX7_init_47 : decode cX7_init 47 = .ok (.aastore, 1) := by decide +kernel
theorem dX7_init_48 : decode cX7_init 48 = .ok (.iinc 3 1, 3) := by decide +kernel
theorem dX7_init_51 : decode cX7_init 51 = .ok (.goto (-21), 3) := by decide +kernel
theorem dX7_init_54 : decode cX7_init 54 = .ok (.return_, 1) := by decide +kernel
theorem dX7_copyFrom_0 : decode cX7_copyFrom 0 = .ok (.aload_n 0, 1) := by decide +kernel
theorem dX7_copyFrom_1 : decode cX7_copyFrom 1 = .ok (.aload_n 1, 1) := by decide +kernel
theorem dX7_copyFrom_2 : decode cX7_copyFrom 2 = .ok (.getfield 30, 3) := by decide +kernel
theorem dX7_copyFrom_5 : decode cX7_copyFrom 5 = .ok (.putfield 30, 3) := by decide +kernel
theorem dX7_copyFrom_8 : decode cX7_copyFrom 8 = .ok (.aload_n 0, 1) := by decide +kernel
theorem dX7_copyFrom_9 : decode cX7_copyFrom 9 = .ok (.aload_n 1, 1) := by decide +kernel
theorem dX7_copyFrom_10 : decode cX7_copyFrom 10 = .ok (.getfield 33, 3) := by decide +kernel
theorem dX7_copyFrom_13 : decode cX7_copyFrom 13 = .ok (.putfield 33, 3) := by decide +kernel
theorem dX7_copyFrom_16 : decode cX7_copyFrom 16 = .ok (.aload_n 0, 1) := by decide +kernel
theorem dX7_copyFrom_17 : decode cX7_copyFrom 17 = .ok (.aload_n 1, 1) := by decide +kernel
theorem dX7_copyFrom_18 : decode cX7_copyFrom 18 = .ok (.getfield 36, 3) := by decide +kernel
theorem dX7_copyFrom_21 : decode cX7_copyFrom 21 = .ok (.putfield 36, 3) := by decide +kernel
theorem dX7_copyFrom_24 : decode cX7_copyFrom 24 = .ok (.aload_n 0, 1) := by decide +kernel
theorem dX7_copyFrom_25 : decode cX7_copyFrom 25 = .ok (.aload_n 1, 1) := by decide +kernel
theorem dX7_copyFrom_26 : decode cX7_copyFrom 26 = .ok (.getfield 39, 3) := by decide +kernel
theorem dX7_copyFrom_29 : decode cX7_copyFrom 29 = .ok (.putfield 39, 3) := by decide +kernel
theorem dX7_copyFrom_32 : decode cX7_copyFrom 32 = .ok (.aload_n 0, 1) := by decide +kernel
theorem dX7_copyFrom_33 : decode cX7_copyFrom 33 = .ok (.aload_n 1, 1) := by decide +kernel
theorem dX7_copyFrom_34 : decode cX7_copyFrom 34 = .ok (.getfield 9, 3) := by decide +kernel
theorem dX7_copyFrom_37 : decode cX7_copyFrom 37 = .ok (.putfield 9, 3) := by decide +kernel
theorem dX7_copyFrom_40 : decode cX7_copyFrom 40 = .ok (.aload_n 0, 1) := by decide +kernel
theorem dX7_copyFrom_41 : decode cX7_copyFrom 41 = .ok (.aload_n 1, 1) := by decide +kernel
theorem dX7_copyFrom_42 : decode cX7_copyFrom 42 = .ok (.getfield 42, 3) := by decide +kernel
theorem dX7_copyFrom_45 : decode cX7_copyFrom 45 = .ok (.putfield 42, 3) := by decide +kernel
theorem dX7_copyFrom_48 : decode cX7_copyFrom 48 = .ok (.iconst 0, 1) := by decide +kernel
theorem dX7_copyFrom_49 : decode cX7_copyFrom 49 = .ok (.istore_n 2, 1) := by decide +kernel
theorem dX7_copyFrom_50 : decode cX7_copyFrom 50 = .ok (.iload_n 2, 1) := by decide +kernel
theorem dX7_copyFrom_51 : decode cX7_copyFrom 51 = .ok (.iconst 3, 1) := by decide +kernel
theorem dX7_copyFrom_52 : decode cX7_copyFrom 52 = .ok (.if_icmp .ge 24, 3) := by decide +kernel
theorem dX7_copyFrom_55 : decode cX7_copyFrom 55 = .ok (.aload_n 0, 1) := by decide +kernel
theorem dX7_copyFrom_56 : decode cX7_copyFrom 56 = .ok (.getfield 25, 3) := by decide +kernel
theorem dX7_copyFrom_59 : decode cX7_copyFrom 59 = .ok (.iload_n 2, 1) := by decide +kernel
theorem dX7_copyFrom_60 : decode cX7_copyFrom 60 = .ok (.aaload, 1) := by decide +kernel
theorem dX7_copyFrom_61 : decode cX7_copyFrom 61 = .ok (.aload_n 1, 1) := by decide +kernel
theorem dX7_copyFrom_62 : decode cX7_copyFrom 62 = .ok (.getfield 25, 3) := by decide +kernel
theorem dX7_copyFrom_65 : decode cX7_copyFrom 65 = .ok (.iload_n 2, 1) := by decide +kernel
theorem dX7_copyFrom_66 : decode cX7_copyFrom 66 = .ok (.aaload, 1) := by decide +kernel
theorem dX7_copyFrom_67 : decode cX7_copyFrom 67 = .ok (.invokevirtual 45, 3) := by decide +kernel
theorem dX7_copyFrom_70 : decode cX7_copyFrom 70 = .ok (.iinc 2 1, 3) := by decide +kernel
theorem dX7_copyFrom_73 : decode cX7_copyFrom 73 = .ok (.goto (-23), 3) := by decide +kernel
theorem dX7_copyFrom_76 : decode cX7_copyFrom 76 = .ok (.return_, 1) := by decide +kernel
theorem dX7_stopAllBut_0 : decode cX7_stopAllBut 0 = .ok (.iconst 0, 1) := by decide +kernel
theorem dX7_stopAllBut_1 : decode cX7_stopAllBut 1 = .ok (.istore_n 2, 1) := by decide +kernel
theorem dX7_stopAllBut_2 : decode cX7_stopAllBut 2 = .ok (.iload_n 2, 1) := by decide +kernel
theorem dX7_stopAllBut_3 : decode cX7_stopAllBut 3 = .ok (.iconst 3, 1) := by decide +kernel
theorem dX7_stopAllBut_4 : decode cX7_stopAllBut 4 = .ok (.if_icmp .ge 24, 3) := by decide +kernel
theorem dX7_stopAllBut_7 : decode cX7_stopAllBut 7 = .ok (.iload_n 2, 1) := by decide +kernel
theorem dX7_stopAllBut_8 : decode cX7_stopAllBut 8 = .ok (.iload_n 1, 1) := by decide +kernel
theorem dX7_stopAllBut_9 : decode cX7_stopAllBut 9 = .ok (.if_icmp .eq 13, 3) := by decide +kernel
theorem dX7_stopAllBut_12 : decode cX7_stopAllBut 12 = .ok (.aload_n 0, 1) := by decide +kernel
theorem dX7_stopAllBut_13 : decode cX7_stopAllBut 13 = .ok (.getfield 25, 3) := by decide +kernel
theorem dX7_stopAllBut_16 : decode cX7_stopAllBut 16 = .ok (.iload_n 2, 1) := by decide +kernel
theorem dX7_stopAllBut_17 : decode cX7_stopAllBut 17 = .ok (.aaload, 1) := by decide +kernel
theorem dX7_stopAllBut_18 : decode cX7_stopAllBut 18 = .ok (.iconst 0, 1) := by decide +kernel
theorem dX7_stopAllBut_19 : decode cX7_stopAllBut 19 = .ok (.putfield 49, 3) := by decide +kernel
theorem dX7_stopAllBut_22 : decode cX7_stopAllBut 22 = .ok (.iinc 2 1, 3) := by decide +kernel
theorem dX7_stopAllBut_25 : decode cX7_stopAllBut 25 = .ok (.goto (-23), 3) := by decide +kernel
theorem dX7_stopAllBut_28 : decode cX7_stopAllBut 28 = .ok (.return_, 1) := by decide +kernel
theorem dX7_pointerAt_0 : decode cX7_pointerAt 0 = .ok (.iload_n 1, 1) := by decide +kernel
theorem dX7_pointerAt_1 : decode cX7_pointerAt 1 = .ok (.iconst 0, 1) := by decide +kernel
theorem dX7_pointerAt_2 : decode cX7_pointerAt 2 = .ok (.iconst 2, 1) := by decide +kernel
theorem dX7_pointerAt_3 : decode cX7_pointerAt 3 = .ok (.invokestatic 52, 3) := by decide +kernel
theorem dX7_pointerAt_6 : decode cX7_pointerAt 6 = .ok (.ifCond .eq 12, 3) := by decide +kernel
theorem dX7_pointerAt_9 : decode cX7_pointerAt 9 = .ok (.aload_n 0, 1) := by decide +kernel
theorem dX7_pointerAt_10 : decode cX7_pointerAt 10 = .ok (.getfield 25, 3) := by decide +kernel
theorem dX7_pointerAt_13 : decode cX7_pointerAt 13 = .ok (.iload_n 1, 1) := by decide +kernel
theorem dX7_pointerAt_14 : decode cX7_pointerAt 14 = .ok (.aaload, 1) := by decide +kernel
theorem dX7_pointerAt_15 : decode cX7_pointerAt 15 = .ok (.goto 4, 3) := by decide +kernel
theorem dX7_pointerAt_18 : decode cX7_pointerAt 18 = .ok (.aconst_null, 1) := by decide +kernel
theorem dX7_pointerAt_19 : decode cX7_pointerAt 19 = .ok (.areturn, 1) := by decide +kernel
theorem dX7_tick_0 : decode cX7_tick 0 = .ok (.aload_n 0, 1) := by decide +kernel
theorem dX7_tick_1 : decode cX7_tick 1 = .ok (.getfield 39, 3) := by decide +kernel
theorem dX7_tick_4 : decode cX7_tick 4 = .ok (.aload_n 0, 1) := by decide +kernel
theorem dX7_tick_5 : decode cX7_tick 5 = .ok (.getfield 9, 3) := by decide +kernel
theorem dX7_tick_8 : decode cX7_tick 8 = .ok (.imul, 1) := by decide +kernel
theorem dX7_tick_9 : decode cX7_tick 9 = .ok (.aload_n 0, 1) := by decide +kernel
theorem dX7_tick_10 : decode cX7_tick 10 = .ok (.getfield 15, 3) := by decide +kernel
theorem dX7_tick_13 : decode cX7_tick 13 = .ok (.aload_n 0, 1) := by decide +kernel
theorem dX7_tick_14 : decode cX7_tick 14 = .ok (.getfield 42, 3) := by decide +kernel
theorem dX7_tick_17 : decode cX7_tick 17 = .ok (.invokevirtual 56, 3) := by decide +kernel
theorem dX7_tick_20 : decode cX7_tick 20 = .ok (.iadd, 1) := by decide +kernel
theorem dX7_tick_21 : decode cX7_tick 21 = .ok (.istore_n 1, 1) := by decide +kernel
theorem dX7_tick_22 : decode cX7_tick 22 = .ok (.aload_n 0, 1) := by decide +kernel
theorem dX7_tick_23 : decode cX7_tick 23 = .ok (.aload_n 0, 1) := by decide +kernel
theorem dX7_tick_24 : decode cX7_tick 24 = .ok (.getfield 33, 3) := by decide +kernel
theorem dX7_tick_27 : decode cX7_tick 27 = .ok (.iload_n 1, 1) := by decide +kernel
theorem dX7_tick_28 : decode cX7_tick 28 = .ok (.iadd, 1) := by decide +kernel
theorem dX7_tick_29 : decode cX7_tick 29 = .ok (.invokestatic 62, 3) := by decide +kernel
theorem dX7_tick_32 : decode cX7_tick 32 = .ok (.putfield 33, 3) := by decide +kernel
theorem dX7_tick_35 : decode cX7_tick 35 = .ok (.iconst 0, 1) := by decide +kernel
theorem dX7_tick_36 : decode cX7_tick 36 = .ok (.istore_n 2, 1) := by decide +kernel
theorem dX7_tick_37 : decode cX7_tick 37 = .ok (.iload_n 2, 1) := by decide +kernel
theorem dX7_tick_38 : decode cX7_tick 38 = .ok (.iconst 3, 1) := by decide +kernel
theorem dX7_tick_39 : decode cX7_tick 39 = .ok (.if_icmp .ge 20, 3) := by decide +kernel
theorem dX7_tick_42 : decode cX7_tick 42 = .ok (.aload_n 0, 1) := by decide +kernel
theorem dX7_tick_43 : decode cX7_tick 43 = .ok (.getfield 25, 3) := by decide +kernel
theorem dX7_tick_46 : decode cX7_tick 46 = .ok (.iload_n 2, 1) := by decide +kernel
theorem dX7_tick_47 : decode cX7_tick 47 = .ok (.aaload, 1) := by decide +kernel
theorem dX7_tick_48 : decode cX7_tick 48 = .ok (.aload_n 0, 1) := by decide +kernel
theorem dX7_tick_49 : decode cX7_tick 49 = .ok (.iload_n 1, 1) := by decide +kernel
theorem dX7_tick_50 : decode cX7_tick 50 = .ok (.invokevirtual 65, 3) := by decide +kernel
theorem dX7_tick_53 : decode cX7_tick 53 = .ok (.iinc 2 1, 3) := by decide +kernel
theorem dX7_tick_56 : decode cX7_tick 56 = .ok (.goto (-19), 3) := by decide +kernel
theorem dX7_tick_59 : decode cX7_tick 59 = .ok (.aload_n 0, 1) := by decide +kernel
theorem dX7_tick_60 : decode cX7_tick 60 = .ok (.dup, 1) := by decide +kernel
theorem dX7_tick_61 : decode cX7_tick 61 = .ok (.getfield 42, 3) := by decide +kernel
theorem dX7_tick_64 : decode cX7_tick 64 = .ok (.iconst 1, 1) := by decide +kernel
theorem dX7_tick_65 : decode cX7_tick 65 = .ok (.iadd, 1) := by decide +kernel
theorem dX7_tick_66 : decode cX7_tick 66 = .ok (.putfield 42, 3) := by decide +kernel
theorem dX7_tick_69 : decode cX7_tick 69 = .ok (.return_, 1) := by decide +kernel
theorem dX8_init_0 : decode cX8_init 0 = .ok (.aload_n 0, 1) := by decide +kernel
theorem dX8_init_1 : decode cX8_init 1 = .ok (.invokespecial 3, 3) := by decide +kernel
theorem dX8_init_4 : decode cX8_init 4 = .ok (.aload_n 0, 1) := by decide +kernel
theorem dX8_init_5 : decode cX8_init 5 = .ok (.new 9, 3) := by decide +kernel
theorem dX8_init_8 : decode cX8_init 8 = .ok (.dup, 1) := by decide +kernel
theorem dX8_init_9 : decode cX8_init 9 = .ok (.invokespecial 11, 3) := by decide +kernel
theorem dX8_init_12 : decode cX8_init 12 = .ok (.putfield 12, 3) := by decide +kernel
theorem dX8_init_15 : decode cX8_init 15 = .ok (.return_, 1) := by decide +kernel
theorem dX8_letSwing_0 : decode cX8_letSwing 0 = .ok (.aload_n 0, 1) := by decide +kernel
theorem dX8_letSwing_1 : decode cX8_letSwing 1 = .ok (.getfield 12, 3) := by decide +kernel
theorem dX8_letSwing_4 : decode cX8_letSwing 4 = .ok (.aload_n 1, 1) := by decide +kernel
theorem dX8_letSwing_5 : decode cX8_letSwing 5 = .ok (.invokevirtual 18, 3) := by decide +kernel
theorem dX8_letSwing_8 : decode cX8_letSwing 8 = .ok (.aload_n 0, 1) := by decide +kernel
theorem dX8_letSwing_9 : decode cX8_letSwing 9 = .ok (.getfield 12, 3) := by decide +kernel
theorem dX8_letSwing_12 : decode cX8_letSwing 12 = .ok (.iload_n 3, 1) := by decide +kernel
theorem dX8_letSwing_13 : decode cX8_letSwing 13 = .ok (.invokevirtual 22, 3) := by decide +kernel
theorem dX8_letSwing_16 : decode cX8_letSwing 16 = .ok (.aload_n 0, 1) := by decide +kernel
theorem dX8_letSwing_17 : decode cX8_letSwing 17 = .ok (.iconst (-1), 1) := by decide +kernel
theorem dX8_letSwing_18 : decode cX8_letSwing 18 = .ok (.putfield 26, 3) := by decide +kernel
theorem dX8_letSwing_21 : decode cX8_letSwing 21 = .ok (.aload_n 0, 1) := by decide +kernel
theorem dX8_letSwing_22 : decode cX8_letSwing 22 = .ok (.iconst 0, 1) := by decide +kernel
theorem dX8_letSwing_23 : decode cX8_letSwing 23 = .ok (.putfield 30, 3) := by decide +kernel
theorem dX8_letSwing_26 : decode cX8_letSwing 26 = .ok (.aload_n 0, 1) := by decide +kernel
theorem dX8_letSwing_27 : decode cX8_letSwing 27 = .ok (.iconst (-1), 1) := by decide +kernel
theorem dX8_letSwing_28 : decode cX8_letSwing 28 = .ok (.putfield 33, 3) := by decide +kernel
theorem dX8_letSwing_31 : decode cX8_letSwing 31 = .ok (.aload_n 0, 1) := by decide +kernel
theorem dX8_letSwing_32 : decode cX8_letSwing 32 = .ok (.iconst 0, 1) := by decide +kernel
theorem dX8_letSwing_33 : decode cX8_letSwing 33 = .ok (.invokevirtual 36, 3) := by decide +kernel
theorem dX8_letSwing_36 : decode cX8_letSwing 36 = .ok (.iconst 1, 1) := by decide +kernel
theorem dX8_letSwing_37 : decode cX8_letSwing 37 = .ok (.istore 5, 2) := by decide +kernel
theorem dX8_letSwing_39 : decode cX8_letSwing 39 = .ok (.iload 5, 2) := by decide +kernel
theorem dX8_letSwing_41 : decode cX8_letSwing 41 = .ok (.sipush 600, 3) := by decide +kernel
theorem dX8_letSwing_44 : decode cX8_letSwing 44 = .ok (.if_icmp .gt 40, 3) := by decide +kernel
theorem dX8_letSwing_47 : decode cX8_letSwing 47 = .ok (.aload_n 0, 1) := by decide +kernel
theorem dX8_letSwing_48 : decode cX8_letSwing 48 = .ok (.getfield 12, 3) := by decide +kernel
theorem dX8_letSwing_51 : decode cX8_letSwing 51 = .ok (.iload_n 2, 1) := by decide +kernel
theorem dX8_letSwing_52 : decode cX8_letSwing 52 = .ok (.aload_n 0, 1) := by decide +kernel
theorem dX8_letSwing_53 : decode cX8_letSwing 53 = .ok (.getfield 12, 3) := by decide +kernel
theorem dX8_letSwing_56 : decode cX8_letSwing 56 = .ok (.getfield 39, 3) := by decide +kernel
theorem dX8_letSwing_59 : decode cX8_letSwing 59 = .ok (.iconst 0, 1) := by decide +kernel
theorem dX8_letSwing_60 : decode cX8_letSwing 60 = .ok (.iload 4, 2) := by decide +kernel
theorem dX8_letSwing_62 : decode cX8_letSwing 62 = .ok (.invokevirtual 42, 3) := by decide +kernel
theorem dX8_letSwing_65 : decode cX8_letSwing 65 = .ok (.aload_n 0, 1) := by decide +kernel
theorem dX8_letSwing_66 : decode cX8_letSwing 66 = .ok (.iload 5, 2) := by decide +kernel
theorem dX8_letSwing_68 : decode cX8_letSwing 68 = .ok (.invokevirtual 36, 3) := by decide +kernel
theorem dX8_letSwing_71 : decode cX8_letSwing 71 = .ok (.aload_n 0, 1) := by decide +kernel
theorem dX8_letSwing_72 : decode cX8_letSwing 72 = .ok (.iload 5, 2) := by decide +kernel
theorem dX8_letSwing_74 : decode cX8_letSwing 74 = .ok (.iload_n 3, 1) := by decide +kernel
theorem dX8_letSwing_75 : decode cX8_letSwing 75 = .ok (.invokevirtual 46, 3) := by decide +kernel
theorem dX8_letSwing_78 : decode cX8_letSwing 78 = .ok (.iinc 5 1, 3) := by decide +kernel
theorem dX8_letSwing_81 : decode cX8_letSwing 81 = .ok (.goto (-42), 3) := by decide +kernel
theorem dX8_letSwing_84 : decode cX8_letSwing 84 = .ok (.return_, 1) := by decide +kernel
theorem dX8_noteRest_0 : decode cX8_noteRest 0 = .ok (.aload_n 0, 1) := by decide +kernel
theorem dX8_noteRest_1 : decode cX8_noteRest 1 = .ok (.getfield 12, 3) := by decide +kernel
theorem dX8_noteRest_4 : decode cX8_noteRest 4 = .ok (.getfield 39, 3) := by decide +kernel
theorem dX8_noteRest_7 : decode cX8_noteRest 7 = .ok (.invokestatic 50, 3) := by decide +kernel
theorem dX8_noteRest_10 : decode cX8_noteRest 10 = .ok (.bipush 100, 2) := by decide +kernel
theorem dX8_noteRest_12 : decode cX8_noteRest 12 = .ok (.if_icmp .le 11, 3) := by decide +kernel
theorem dX8_noteRest_15 : decode cX8_noteRest 15 = .ok (.aload_n 0, 1) := by decide +kernel
theorem dX8_noteRest_16 : decode cX8_noteRest 16 = .ok (.iconst (-1), 1) := by decide +kernel
theorem dX8_noteRest_17 : decode cX8_noteRest 17 = .ok (.putfield 33, 3) := by decide +kernel
theorem dX8_noteRest_20 : decode cX8_noteRest 20 = .ok (.goto 16, 3) := by decide +kernel
theorem dX8_noteRest_23 : decode cX8_noteRest 23 = .ok (.aload_n 0, 1) := by decide +kernel
theorem dX8_noteRest_24 : decode cX8_noteRest 24 = .ok (.getfield 33, 3) := by decide +kernel
theorem dX8_noteRest_27 : decode cX8_noteRest 27 = .ok (.iconst (-1), 1) := by decide +kernel
theorem dX8_noteRest_28 : decode cX8_noteRest 28 = .ok (.if_icmp .ne 8, 3) := by decide +kernel
theorem dX8_noteRest_31 : decode cX8_noteRest 31 = .ok (.aload_n 0, 1) := by decide +kernel
theorem dX8_noteRest_32 : decode cX8_noteRest 32 = .ok (.iload_n 1, 1) := by decide +kernel
theorem dX8_noteRest_33 : decode cX8_noteRest 33 = .ok (.putfield 33, 3) := by decide +kernel
theorem dX8_noteRest_36 : decode cX8_noteRest 36 = .ok (.return_, 1) := by decide +kernel
theorem dX8_noteCrossing_0 : decode cX8_noteCrossing 0 = .ok (.aload_n 0, 1) := by decide +kernel
theorem dX8_noteCrossing_1 : decode cX8_noteCrossing 1 = .ok (.getfield 26, 3) := by decide +kernel
theorem dX8_noteCrossing_4 : decode cX8_noteCrossing 4 = .ok (.iconst (-1), 1) := by decide +kernel
theorem dX8_noteCrossing_5 : decode cX8_noteCrossing 5 = .ok (.if_icmp .ne 46, 3) := by decide +kernel
theorem dX8_noteCrossing_8 : decode cX8_noteCrossing 8 = .ok (.iload_n 2, 1) := by decide +kernel
theorem dX8_noteCrossing_9 : decode cX8_noteCrossing 9 = .ok (.ifCond .le 16, 3) := by decide +kernel
theorem dX8_noteCrossing_12 : decode cX8_noteCrossing 12 = .ok (.aload_n 0, 1) := by decide +kernel
theorem dX8_noteCrossing_13 : decode cX8_noteCrossing 13 = .ok (.getfield 12, 3) := by decide +kernel
theorem dX8_noteCrossing_16 : decode cX8_noteCrossing 16 = .ok (.getfield 39, 3) := by decide +kernel
theorem dX8_noteCrossing_19 : decode cX8_noteCrossing 19 = .ok (.ifCond .gt 32, 3) := by decide +kernel
theorem dX8_noteCrossing_22 : decode cX8_noteCrossing 22 = .ok (.goto 13, 3) := by decide +kernel
theorem dX8_noteCrossing_25 : decode cX8_noteCrossing 25 = .ok (.aload_n 0, 1) := by decide +kernel
theorem dX8_noteCrossing_26 : decode cX8_noteCrossing 26 = .ok (.getfield 12, 3) := by decide +kernel
theorem dX8_noteCrossing_29 : decode cX8_noteCrossing 29 = .ok (.getfield 39, 3) := by decide +kernel
theorem dX8_noteCrossing_32 : decode cX8_noteCrossing 32 = .ok (.ifCond .lt 19, 3) := by decide +kernel
theorem dX8_noteCrossing_35 : decode cX8_noteCrossing 35 = .ok (.aload_n 0, 1) := by decide +kernel
theorem dX8_noteCrossing_36 : decode cX8_noteCrossing 36 = .ok (.iload_n 1, 1) := by decide +kernel
theorem dX8_noteCrossing_37 : decode cX8_noteCrossing 37 = .ok (.putfield 26, 3) := by decide +kernel
theorem dX8_noteCrossing_40 : decode cX8_noteCrossing 40 = .ok (.aload_n 0, 1) := by decide +kernel
theorem dX8_noteCrossing_41 : decode cX8_noteCrossing 41 = .ok (.aload_n 0, 1) := by decide +kernel
theorem dX8_noteCrossing_42 : decode cX8_noteCrossing 42 = .ok (.getfield 12, 3) := by decide +kernel
theorem dX8_noteCrossing_45 : decode cX8_noteCrossing 45 = .ok (.getfield 39, 3) := by decide +kernel
theorem dX8_noteCrossing_48 : decode cX8_noteCrossing 48 = .ok (.putfield 30, 3) := by decide +kernel
theorem dX8_noteCrossing_51 : decode cX8_noteCrossing 51 = .ok (.aload_n 0, 1) := by decide +kernel
theorem dX8_noteCrossing_52 : decode cX8_noteCrossing 52 = .ok (.getfield 26, 3) := by decide +kernel
theorem dX8_noteCrossing_55 : decode cX8_noteCrossing 55 = .ok (.iconst (-1), 1) := by decide +kernel
theorem dX8_noteCrossing_56 : decode cX8_noteCrossing 56 = .ok (.if_icmp .eq 34, 3) := by decide +kernel
theorem dX8_noteCrossing_59 : decode cX8_noteCrossing 59 = .ok (.aload_n 0, 1) := by decide +kernel
theorem dX8_noteCrossing_60 : decode cX8_noteCrossing 60 = .ok (.getfield 12, 3) := by decide +kernel
theorem dX8_noteCrossing_63 : decode cX8_noteCrossing 63 = .ok (.getfield 39, 3) := by decide +kernel
theorem dX8_noteCrossing_66 : decode cX8_noteCrossing 66 = .ok (.invokestatic 50, 3) := by decide +kernel
theorem dX8_noteCrossing_69 : decode cX8_noteCrossing 69 = .ok (.aload_n 0, 1) := by decide +kernel
theorem dX8_noteCrossing_70 : decode cX8_noteCrossing 70 = .ok (.getfield 30, 3) := by decide +kernel
theorem dX8_noteCrossing_73 : decode cX8_noteCrossing 73 = .ok (.invokestatic 50, 3) := by decide +kernel
theorem dX8_noteCrossing_76 : decode cX8_noteCrossing 76 = .ok (.if_icmp .le 14, 3) := by decide +kernel
theorem dX8_noteCrossing_79 : decode cX8_noteCrossing 79 = .ok (.aload_n 0, 1) := by decide +kernel
theorem dX8_noteCrossing_80 : decode cX8_noteCrossing 80 = .ok (.aload_n 0, 1) := by decide +kernel
theorem dX8_noteCrossing_81 : decode cX8_noteCrossing 81 = .ok (.getfield 12, 3) := by decide +kernel
theorem dX8_noteCrossing_84 : decode cX8_noteCrossing 84 = .ok (.getfield 39, 3) := by decide +kernel
theorem dX8_noteCrossing_87 : decode cX8_noteCrossing 87 = .ok (.putfield 30, 3) := by decide +kernel
theorem dX8_noteCrossing_90 : decode cX8_noteCrossing 90 = .ok (.return_, 1) := by decide +kernel
theorem dX8_firstPlaceWithoutRest_0 : decode cX8_firstPlaceWithoutRest 0 = .ok (.iconst 0, 1) := by decide +kernel
theorem dX8_firstPlaceWithoutRest_1 : decode cX8_firstPlaceWithoutRest 1 = .ok (.istore_n 2, 1) := by decide +kernel
theorem dX8_firstPlaceWithoutRest_2 : decode cX8_firstPlaceWithoutRest 2 = .ok (.iload_n 2, 1) := by decide +kernel
theorem dX8_firstPlaceWithoutRest_3 : decode cX8_firstPlaceWithoutRest 3 = .ok (.bipush 89, 2) := by decide +kernel
theorem dX8_firstPlaceWithoutRest_5 : decode cX8_firstPlaceWithoutRest 5 = .ok (.if_icmp .gt 32, 3) := by decide +kernel
theorem dX8_firstPlaceWithoutRest_8 : decode cX8_firstPlaceWithoutRest 8 = .ok (.aload_n 0, 1) := by decide +kernel
theorem dX8_firstPlaceWithoutRest_9 : decode cX8_firstPlaceWithoutRest 9 = .ok (.aload_n 1, 1) := by decide +kernel
theorem dX8_firstPlaceWithoutRest_10 : decode cX8_firstPlaceWithoutRest 10 = .ok (.iload_n 2, 1) := by decide +kernel
theorem dX8_firstPlaceWithoutRest_11 : decode cX8_firstPlaceWithoutRest 11 = .ok (.invokestatic 56, 3) := by decide +kernel
theorem dX8_firstPlaceWithoutRest_14 : decode cX8_firstPlaceWithoutRest 14 = .ok (.sipush 3000, 3) := by decide +kernel
theorem dX8_firstPlaceWithoutRest_17 : decode cX8_firstPlaceWithoutRest 17 = .ok (.iconst 1, 1) := by decide +kernel
theorem dX8_firstPlaceWithoutRest_18 : decode cX8_firstPlaceWithoutRest 18 = .ok (.invokevirtual 59, 3) := by decide +kernel
theorem dX8_firstPlaceWithoutRest_21 : decode cX8_firstPlaceWithoutRest 21 = .ok (.aload_n 0, 1) := by decide +kernel
theorem dX8_firstPlaceWithoutRest_22 : decode cX8_firstPlaceWithoutRest 22 = .ok (.getfield 33, 3) := by decide +kernel
theorem dX8_firstPlaceWithoutRest_25 : decode cX8_firstPlaceWithoutRest 25 = .ok (.iconst (-1), 1) := by decide +kernel
theorem dX8_firstPlaceWithoutRest_26 : decode cX8_firstPlaceWithoutRest 26 = .ok (.if_icmp .ne 5, 3) := by decide +kernel
theorem dX8_firstPlaceWithoutRest_29 : decode cX8_firstPlaceWithoutRest 29 = .ok (.iload_n 2, 1) := by decide +kernel
theorem dX8_firstPlaceWithoutRest_30 : decode cX8_firstPlaceWithoutRest 30 = .ok (.ireturn, 1) := by decide +kernel
theorem dX8_firstPlaceWithoutRest_31 : decode cX8_firstPlaceWithoutRest 31 = .ok (.iinc 2 1, 3) := by decide +kernel
theorem dX8_firstPlaceWithoutRest_34 : decode cX8_firstPlaceWithoutRest 34 = .ok (.goto (-32), 3) := by decide +kernel
theorem dX8_firstPlaceWithoutRest_37 : decode cX8_firstPlaceWithoutRest 37 = .ok (.iconst (-1), 1) := by decide +kernel
theorem dX8_firstPlaceWithoutRest_38 : decode cX8_firstPlaceWithoutRest 38 = .ok (.ireturn, 1) := by decide +kernel
theorem dX8_disturbed_0 : decode cX8_disturbed 0 = .ok (.aload_n 0, 1) := by decide +kernel
theorem dX8_disturbed_1 : decode cX8_disturbed 1 = .ok (.getfield 12, 3) := by decide +kernel
theorem dX8_disturbed_4 : decode cX8_disturbed 4 = .ok (.aload_n 1, 1) := by decide +kernel
theorem dX8_disturbed_5 : decode cX8_disturbed 5 = .ok (.invokevirtual 18, 3) := by decide +kernel
theorem dX8_disturbed_8 : decode cX8_disturbed 8 = .ok (.aload_n 0, 1) := by decide +kernel
theorem dX8_disturbed_9 : decode cX8_disturbed 9 = .ok (.getfield 12, 3) := by decide +kernel
theorem dX8_disturbed_12 : decode cX8_disturbed 12 = .ok (.iload_n 2, 1) := by decide +kernel
theorem dX8_disturbed_13 : decode cX8_disturbed 13 = .ok (.putfield 63, 3) := by decide +kernel
theorem dX8_disturbed_16 : decode cX8_disturbed 16 = .ok (.aload_n 0, 1) := by decide +kernel
theorem dX8_disturbed_17 : decode cX8_disturbed 17 = .ok (.getfield 12, 3) := by decide +kernel
theorem dX8_disturbed_20 : decode cX8_disturbed 20 = .ok (.iconst 0, 1) := by decide +kernel
theorem dX8_disturbed_21 : decode cX8_disturbed 21 = .ok (.invokevirtual 22, 3) := by decide +kernel
theorem dX8_disturbed_24 : decode cX8_disturbed 24 = .ok (.iconst 0, 1) := by decide +kernel
theorem dX8_disturbed_25 : decode cX8_disturbed 25 = .ok (.istore 7, 2) := by decide +kernel
theorem dX8_disturbed_27 : decode cX8_disturbed 27 = .ok (.iconst 0, 1) := by decide +kernel
theorem dX8_disturbed_28 : decode cX8_disturbed 28 = .ok (.istore 8, 2) := by decide +kernel
theorem dX8_disturbed_30 : decode cX8_disturbed 30 = .ok (.iload 8, 2) := by decide +kernel
theorem dX8_disturbed_32 : decode cX8_disturbed 32 = .ok (.iload 4, 2) := by decide +kernel
theorem dX8_disturbed_34 : decode cX8_disturbed 34 = .ok (.if_icmp .ge 55, 3) := by decide +kernel
theorem dX8_disturbed_37 : decode cX8_disturbed 37 = .ok (.aload_n 0, 1) := by decide +kernel
theorem dX8_disturbed_38 : decode cX8_disturbed 38 = .ok (.getfield 12, 3) := by decide +kernel
theorem dX8_disturbed_41 : decode cX8_disturbed 41 = .ok (.iload_n 3, 1) := by decide +kernel
theorem dX8_disturbed_42 : decode cX8_disturbed 42 = .ok (.aload_n 0, 1) := by decide +kernel
theorem dX8_disturbed_43 : decode cX8_disturbed 43 = .ok (.getfield 12, 3) := by decide +kernel
theorem dX8_disturbed_46 : decode cX8_disturbed 46 = .ok (.getfield 39, 3) := by decide +kernel
theorem dX8_disturbed_49 : decode cX8_disturbed 49 = .ok (.iload 8, 2) := by decide +kernel
theorem dX8_disturbed_51 : decode cX8_disturbed 51 = .ok (.iload 5, 2) := by decide +kernel
theorem dX8_disturbed_53 : decode cX8_disturbed 53 = .ok (.if_icmp .ge 8, 3) := by decide +kernel
theorem dX8_disturbed_56 : decode cX8_disturbed 56 = .ok (.iload 6, 2) := by decide +kernel
theorem dX8_disturbed_58 : decode cX8_disturbed 58 = .ok (.goto 4, 3) := by decide +kernel
theorem dX8_disturbed_61 : decode cX8_disturbed 61 = .ok (.iconst 0, 1) := by decide +kernel
theorem dX8_disturbed_62 : decode cX8_disturbed 62 = .ok (.iconst 1, 1) := by decide +kernel
theorem dX8_disturbed_63 : decode cX8_disturbed 63 = .ok (.invokevirtual 42, 3) := by decide +kernel
theorem dX8_disturbed_66 : decode cX8_disturbed 66 = .ok (.iload 7, 2) := by decide +kernel
theorem dX8_disturbed_68 : decode cX8_disturbed 68 = .ok (.aload_n 0, 1) := by decide +kernel
theorem dX8_disturbed_69 : decode cX8_disturbed 69 = .ok (.getfield 12, 3) := by decide +kernel
theorem dX8_disturbed_72 : decode cX8_disturbed 72 = .ok (.getfield 39, 3) := by decide +kernel
theorem dX8_disturbed_75 : decode cX8_disturbed 75 = .ok (.invokestatic 50, 3) := by decide +kernel
theorem dX8_disturbed_78 : decode cX8_disturbed 78 = .ok (.invokestatic 66, 3) := by decide +kernel
theorem dX8_disturbed_81 : decode cX8_disturbed 81 = .ok (.istore 7, 2) := by decide +kernel
theorem dX8_disturbed_83 : decode cX8_disturbed 83 = .ok (.iinc 8 1, 3) := by decide +kernel
theorem dX8_disturbed_86 : decode cX8_disturbed 86 = .ok (.goto (-56), 3) := by decide +kernel
theorem dX8_disturbed_89 : decode cX8_disturbed 89 = .ok (.iload 7, 2) := by decide +kernel
theorem dX8_disturbed_91 : decode cX8_disturbed 91 = .ok (.ireturn, 1) := by decide +kernel
theorem dX8_calmestPull_0 : decode cX8_calmestPull 0 = .ok (.iconst 1, 1) := by decide +kernel
theorem dX8_calmestPull_1 : decode cX8_calmestPull 1 = .ok (.istore 6, 2) := by decide +kernel
theorem dX8_calmestPull_3 : decode cX8_calmestPull 3 = .ok (.aload_n 0, 1) := by decide +kernel
theorem dX8_calmestPull_4 : decode cX8_calmestPull 4 = .ok (.aload_n 1, 1) := by decide +kernel
theorem dX8_calmestPull_5 : decode cX8_calmestPull 5 = .ok (.iload 6, 2) := by decide +kernel
theorem dX8_calmestPull_7 : decode cX8_calmestPull 7 = .ok (.iload_n 2, 1) := by decide +kernel
theorem dX8_calmestPull_8 : decode cX8_calmestPull 8 = .ok (.iload_n 3, 1) := by decide +kernel
theorem dX8_calmestPull_9 : decode cX8_calmestPull 9 = .ok (.iload 4, 2) := by decide +kernel
theorem dX8_calmestPull_11 : decode cX8_calmestPull 11 = .ok (.iload 5, 2) := by decide +kernel
theorem dX8_calmestPull_13 : decode cX8_calmestPull 13 = .ok (.invokevirtual 70, 3) := by decide +kernel
theorem dX8_calmestPull_16 : decode cX8_calmestPull 16 = .ok (.istore 7, 2) := by decide +kernel
theorem dX8_calmestPull_18 : decode cX8_calmestPull 18 = .ok (.iconst 2, 1) := by decide +kernel
theorem dX8_calmestPull_19 : decode cX8_calmestPull 19 = .ok (.istore 8, 2) := by decide +kernel
theorem dX8_calmestPull_21 : decode cX8_calmestPull 21 = .ok (.iload 8, 2) := by decide +kernel
theorem dX8_calmestPull_23 : decode cX8_calmestPull 23 = .ok (.bipush 99, 2) := by decide +kernel
theorem dX8_calmestPull_25 : decode cX8_calmestPull 25 = .ok (.if_icmp .gt 39, 3) := by decide +kernel
theorem dX8_calmestPull_28 : decode cX8_calmestPull 28 = .ok (.aload_n 0, 1) := by decide +kernel
theorem dX8_calmestPull_29 : decode cX8_calmestPull 29 = .ok (.aload_n 1, 1) := by decide +kernel
theorem dX8_calmestPull_30 : decode cX8_calmestPull 30 = .ok (.iload 8, 2) := by decide +kernel
theorem dX8_calmestPull_32 : decode cX8_calmestPull 32 = .ok (.iload_n 2, 1) := by decide +kernel
theorem dX8_calmestPull_33 : decode cX8_calmestPull 33 = .ok (.iload_n 3, 1) := by decide +kernel
theorem dX8_calmestPull_34 : decode cX8_calmestPull 34 = .ok (.iload 4, 2) := by decide +kernel
theorem dX8_calmestPull_36 : decode cX8_calmestPull 36 = .ok (.iload 5, 2) := by decide +kernel
theorem dX8_calmestPull_38 : decode cX8_calmestPull 38 = .ok (.invokevirtual 70, 3) := by decide +kernel
theorem dX8_calmestPull_41 : decode cX8_calmestPull 41 = .ok (.istore 9, 2) := by decide +kernel
theorem dX8_calmestPull_43 : decode cX8_calmestPull 43 = .ok (.iload 9, 2) := by decide +kernel
theorem dX8_calmestPull_45 : decode cX8_calmestPull 45 = .ok (.iload 7, 2) := by decide +kernel
theorem dX8_calmestPull_47 : decode cX8_calmestPull 47 = .ok (.if_icmp .ge 11, 3) := by decide +kernel
theorem dX8_calmestPull_50 : decode cX8_calmestPull 50 = .ok (.iload 9, 2) := by decide +kernel
theorem dX8_calmestPull_52 : decode cX8_calmestPull 52 = .ok (.istore 7, 2) := by decide +kernel
theorem dX8_calmestPull_54 : decode cX8_calmestPull 54 = .ok (.iload 8, 2) := by decide +kernel
theorem dX8_calmestPull_56 : decode cX8_calmestPull 56 = .ok (.istore 6, 2) := by decide +kernel
theorem dX8_calmestPull_58 : decode cX8_calmestPull 58 = .ok (.iinc 8 1, 3) := by decide +kernel
theorem dX8_calmestPull_61 : decode cX8_calmestPull 61 = .ok (.goto (-40), 3) := by decide +kernel
theorem dX8_calmestPull_64 : decode cX8_calmestPull 64 = .ok (.iload 6, 2) := by decide +kernel
theorem dX8_calmestPull_66 : decode cX8_calmestPull 66 = .ok (.ireturn, 1) := by decide +kernel
theorem dX9_init_0 : decode cX9_init 0 = .ok (.aload_n 0, 1) := by decide +kernel
theorem dX9_init_1 : decode cX9_init 1 = .ok (.invokespecial 3, 3) := by decide +kernel
theorem dX9_init_4 : decode cX9_init 4 = .ok (.aload_n 0, 1) := by decide +kernel
theorem dX9_init_5 : decode cX9_init 5 = .ok (.bipush 8, 2) := by decide +kernel
theorem dX9_init_7 : decode cX9_init 7 = .ok (.newarray .int, 2) := by decide +kernel
theorem dX9_init_9 : decode cX9_init 9 = .ok (.putfield 9, 3) := by decide +kernel
theorem dX9_init_12 : decode cX9_init 12 = .ok (.aload_n 0, 1) := by decide +kernel
theorem dX9_init_13 : decode cX9_init 13 = .ok (.bipush 8, 2) := by decide +kernel
theorem dX9_init_15 : decode cX9_init 15 = .ok (.newarray .int, 2) := by decide +kernel
theorem dX9_init_17 : decode cX9_init 17 = .ok (.putfield 15, 3) := by decide +kernel
theorem dX9_init_20 : decode cX9_init 20 = .ok (.aload_n 0, 1) := by decide +kernel
theorem dX9_init_21 : decode cX9_init 21 = .ok (.bipush 8, 2) := by decide +kernel
theorem dX9_init_23 : decode cX9_init 23 = .ok (.newarray .int, 2) := by decide +kernel
theorem dX9_init_25 : decode cX9_init 25 = .ok (.putfield 18, 3) := by decide +kernel
theorem dX9_init_28 : decode cX9_init 28 = .ok (.return_, 1) := by decide +kernel
theorem dX9_add_0 : decode cX9_add 0 = .ok (.aload_n 0, 1) := by decide +kernel
theorem dX9_add_1 : decode cX9_add 1 = .ok (.getfield 21, 3) := by decide +kernel
theorem dX9_add_4 : decode cX9_add 4 = .ok (.bipush 24, 2) := by decide +kernel
theorem dX9_add_6 : decode cX9_add 6 = .ok (.if_icmp .lt 6, 3) := by decide +kernel
theorem dX9_add_9 : decode cX9_add 9 = .ok (.bipush (-5), 2) := by decide +kernel
theorem dX9_add_11 : decode cX9_add 11 = .ok (.ireturn, 1) := by decide +kernel
theorem dX9_add_12 : decode cX9_add 12 = .ok (.iload_n 1, 1) := by decide +kernel
theorem dX9_add_13 : decode cX9_add 13 = .ok (.sipush 2250, 3) := by decide +kernel
theorem dX9_add_16 : decode cX9_add 16 = .ok (.iadd, 1) := by decide +kernel
theorem dX9_add_17 : decode cX9_add 17 = .ok (.invokestatic 25, 3) := by decide +kernel
theorem dX9_add_20 : decode cX9_add 20 = .ok (.sipush 4500, 3) := by decide +kernel
theorem dX9_add_23 : decode cX9_add 23 = .ok (.idiv, 1) := by decide +kernel
theorem dX9_add_24 : decode cX9_add 24 = .ok (.istore_n 3, 1) := by decide +kernel
theorem dX9_add_25 : decode cX9_add 25 = .ok (.iload_n 1, 1) := by decide +kernel
theorem dX9_add_26 : decode cX9_add 26 = .ok (.iload_n 2, 1) := by decide +kernel
theorem dX9_add_27 : decode cX9_add 27 = .ok (.isub, 1) := by decide +kernel
theorem dX9_add_28 : decode cX9_add 28 = .ok (.invokestatic 29, 3) := by decide +kernel
theorem dX9_add_31 : decode cX9_add 31 = .ok (.istore 4, 2) := by decide +kernel
theorem dX9_add_33 : decode cX9_add 33 = .ok (.aload_n 0, 1) := by decide +kernel
theorem dX9_add_34 : decode cX9_add 34 = .ok (.getfield 15, 3) := by decide +kernel
theorem dX9_add_37 : decode cX9_add 37 = .ok (.iload_n 3, 1) := by decide +kernel
theorem dX9_add_38 : decode cX9_add 38 = .ok (.aload_n 0, 1) := by decide +kernel
theorem dX9_add_39 : decode cX9_add 39 = .ok (.getfield 9, 3) := by decide +kernel
theorem dX9_add_42 : decode cX9_add 42 = .ok (.iload_n 3, 1) := by decide +kernel
theorem dX9_add_43 : decode cX9_add 43 = .ok (.iaload, 1) := by decide +kernel
theorem dX9_add_44 : decode cX9_add 44 = .ok (.ifCond .ne 8, 3) := by decide +kernel
theorem dX9_add_47 : decode cX9_add 47 = .ok (.iload 4, 2) := by decide +kernel
theorem dX9_add_49 : decode cX9_add 49 = .ok (.goto 14, 3) := by decide +kernel
theorem dX9_add_52 : decode cX9_add 52 = .ok (.aload_n 0, 1) := by decide +kernel
theorem dX9_add_53 : decode cX9_add 53 = .ok (.getfield 15, 3) := by decide +kernel
theorem dX9_add_56 : decode cX9_add 56 = .ok (.iload_n 3, 1) := by decide +kernel
theorem dX9_add_57 : decode cX9_add 57 = .ok (.iaload, 1) := by decide +kernel
theorem dX9_add_58 : decode cX9_add 58 = .ok (.iload 4, 2) := by decide +kernel
theorem dX9_add_60 : decode cX9_add 60 = .ok (.invokestatic 32, 3) := by decide +kernel
theorem dX9_add_63 : decode cX9_add 63 = .ok (.iastore, 1) := by decide +kernel
theorem dX9_add_64 : decode cX9_add 64 = .ok (.aload_n 0, 1) := by decide +kernel
theorem dX9_add_65 : decode cX9_add 65 = .ok (.getfield 18, 3) := by decide +kernel
theorem dX9_add_68 : decode cX9_add 68 = .ok (.iload_n 3, 1) := by decide +kernel
theorem dX9_add_69 : decode cX9_add 69 = .ok (.aload_n 0, 1) := by decide +kernel
theorem dX9_add_70 : decode cX9_add 70 = .ok (.getfield 9, 3) := by decide +kernel
theorem dX9_add_73 : decode cX9_add 73 = .ok (.iload_n 3, 1) := by decide +kernel
theorem dX9_add_74 : decode cX9_add 74 = .ok (.iaload, 1) := by decide +kernel
theorem dX9_add_75 : decode cX9_add 75 = .ok (.ifCond .ne 8, 3) := by decide +kernel
theorem dX9_add_78 : decode cX9_add 78 = .ok (.iload 4, 2) := by decide +kernel
theorem dX9_add_80 : decode cX9_add 80 = .ok (.goto 14, 3) := by decide +kernel
theorem dX9_add_83 : decode cX9_add 83 = .ok (.aload_n 0, 1) := by decide +kernel
theorem dX9_add_84 : decode cX9_add 84 = .ok (.getfield 18, 3) := by decide +kernel
theorem dX9_add_87 : decode cX9_add 87 = .ok (.iload_n 3, 1) := by decide +kernel
theorem dX9_add_88 : decode cX9_add 88 = .ok (.iaload, 1) := by decide +kernel
theorem dX9_add_89 : decode cX9_add 89 = .ok (.iload 4, 2) := by decide +kernel
theorem dX9_add_91 : decode cX9_add 91 = .ok (.invokestatic 38, 3) := by decide +kernel
theorem dX9_add_94 : decode cX9_add 94 = .ok (.iastore, 1) := by decide +kernel
theorem dX9_add_95 : decode cX9_add 95 = .ok (.aload_n 0, 1) := by decide +kernel
theorem dX9_add_96 : decode cX9_add 96 = .ok (.getfield 9, 3) := by decide +kernel
theorem dX9_add_99 : decode cX9_add 99 = .ok (.iload_n 3, 1) := by decide +kernel
theorem dX9_add_100 : decode cX9_add 100 = .ok (.dup2, 1) := by decide +kernel
theorem dX9_add_101 : decode cX9_add 101 = .ok (.iaload, 1) := by decide +kernel
theorem dX9_add_102 : decode cX9_add 102 = .ok (.iconst 1, 1) := by decide +kernel
theorem dX9_add_103 : decode cX9_add 103 = .ok (.iadd, 1) := by decide +kernel
theorem dX9_add_104 : decode cX9_add 104 = .ok (.iastore, 1) := by decide +kernel
theorem dX9_add_105 : decode cX9_add 105 = .ok (.aload_n 0, 1) := by decide +kernel
theorem dX9_add_106 : decode cX9_add 106 = .ok (.dup, 1) := by decide +kernel
theorem dX9_add_107 : decode cX9_add 107 = .ok (.getfield 21, 3) := by decide +kernel
theorem dX9_add_110 : decode cX9_add 110 = .ok (.iconst 1, 1) := by decide +kernel
theorem dX9_add_111 : decode cX9_add 111 = .ok (.iadd, 1) := by decide +kernel
theorem dX9_add_112 : decode cX9_add 112 = .ok (.putfield 21, 3) := by decide +kernel
theorem dX9_add_115 : decode cX9_add 115 = .ok (.aload_n 0, 1) := by decide +kernel
theorem dX9_add_116 : decode cX9_add 116 = .ok (.getfield 21, 3) := by decide +kernel
theorem dX9_add_119 : decode cX9_add 119 = .ok (.ireturn, 1) := by decide +kernel
theorem dX10_init_0 : decode cX10_init 0 = .ok (.aload_n 0, 1) := by decide +kernel
theorem dX10_init_1 : decode cX10_init 1 = .ok (.invokespecial 3, 3) := by decide +kernel
theorem dX10_init_4 : decode cX10_init 4 = .ok (.aload_n 0, 1) := by decide +kernel
theorem dX10_init_5 : decode cX10_init 5 = .ok (.bipush 10, 2) := by decide +kernel
theorem dX10_init_7 : decode cX10_init 7 = .ok (.newarray .int, 2) := by decide +kernel
theorem dX10_init_9 : decode cX10_init 9 = .ok (.putfield 11, 3) := by decide +kernel
theorem dX10_init_12 : decode cX10_init 12 = .ok (.aload_n 0, 1) := by decide +kernel
theorem dX10_init_13 : decode cX10_init 13 = .ok (.bipush 10, 2) := by decide +kernel
theorem dX10_init_15 : decode cX10_init 15 = .ok (.newarray .int, 2) := by decide +kernel
theorem dX10_init_17 : decode cX10_init 17 = .ok (.putfield 15, 3) := by decide +kernel
theorem dX10_init_20 : decode cX10_init 20 = .ok (.aload_n 0, 1) := by decide +kernel
theorem dX10_init_21 : decode cX10_init 21 = .ok (.new 18, 3) := by decide +kernel
theorem dX10_init_24 : decode cX10_init 24 = .ok (.dup, 1) := by decide +kernel
theorem dX10_init_25 : decode cX10_init 25 = .ok (.invokespecial 20, 3) := by decide +kernel
theorem dX10_init_28 : decode cX10_init 28 = .ok (.putfield 21, 3) := by decide +kernel
theorem dX10_init_31 : decode cX10_init 31 = .ok (.aload_n 0, 1) := by decide +kernel
theorem dX10_init_32 : decode cX10_init 32 = .ok (.bipush 61, 2) := by decide +kernel
theorem dX10_init_34 : decode cX10_init 34 = .ok (.newarray .int, 2) := by decide +kernel
theorem dX10_init_36 : decode cX10_init 36 = .ok (.putfield 25, 3) := by decide +kernel
theorem dX10_init_39 : decode cX10_init 39 = .ok (.aload_n 0, 1) := by decide +kernel
theorem dX10_init_40 : decode cX10_init 40 = .ok (.bipush 61, 2) := by decide +kernel
theorem dX10_init_42 : decode cX10_init 42 = .ok (.newarray .int, 2) := by decide +kernel
theorem dX10_init_44 : decode cX10_init 44 = .ok (.putfield 28, 3) := by decide +kernel
theorem dX10_init_47 : decode cX10_init 47 = .ok (.aload_n 0, 1) := by decide +kernel
theorem dX10_init_48 : decode cX10_init 48 = .ok (.bipush 61, 2) := by decide +kernel
theorem dX10_init_50 : decode cX10_init 50 = .ok (.newarray .int, 2) := by decide +kernel
theorem dX10_init_52 : decode cX10_init 52 = .ok (.putfield 31, 3) := by decide +kernel
theorem dX10_init_55 : decode cX10_init 55 = .ok (.return_, 1) := by decide +kernel
theorem dX10_add_0 : decode cX10_add 0 = .ok (.aload_n 0, 1) := by decide +kernel
theorem dX10_add_1 : decode cX10_add 1 = .ok (.getfield 34, 3) := by decide +kernel
theorem dX10_add_4 : decode cX10_add 4 = .ok (.bipush 10, 2) := by decide +kernel
theorem dX10_add_6 : decode cX10_add 6 = .ok (.if_icmp .lt 6, 3) := by decide +kernel
theorem dX10_add_9 : decode cX10_add 9 = .ok (.bipush (-5), 2) := by decide +kernel
theorem dX10_add_11 : decode cX10_add 11 = .ok (.ireturn, 1) := by decide +kernel
theorem dX10_add_12 : decode cX10_add 12 = .ok (.aload_n 0, 1) := by decide +kernel
theorem dX10_add_13 : decode cX10_add 13 = .ok (.getfield 11, 3) := by decide +kernel
theorem dX10_add_16 : decode cX10_add 16 = .ok (.aload_n 0, 1) := by decide +kernel
theorem dX10_add_17 : decode cX10_add 17 = .ok (.getfield 34, 3) := by decide +kernel
theorem dX10_add_20 : decode cX10_add 20 = .ok (.iload_n 1, 1) := by decide +kernel
theorem dX10_add_21 : decode cX10_add 21 = .ok (.iastore, 1) := by decide +kernel
theorem dX10_add_22 : decode cX10_add 22 = .ok (.aload_n 0, 1) := by decide +kernel
theorem dX10_add_23 : decode cX10_add 23 = .ok (.getfield 15, 3) := by decide +kernel
theorem dX10_add_26 : decode cX10_add 26 = .ok (.aload_n 0, 1) := by decide +kernel
theorem dX10_add_27 : decode cX10_add 27 = .ok (.getfield 34, 3) := by decide +kernel
theorem dX10_add_30 : decode cX10_add 30 = .ok (.iload_n 2, 1) := by decide +kernel
theorem dX10_add_31 : decode cX10_add 31 = .ok (.iastore, 1) := by decide +kernel
theorem dX10_add_32 : decode cX10_add 32 = .ok (.aload_n 0, 1) := by decide +kernel
theorem dX10_add_33 : decode cX10_add 33 = .ok (.dup, 1) := by decide +kernel
theorem dX10_add_34 : decode cX10_add 34 = .ok (.getfield 34, 3) := by decide +kernel
theorem dX10_add_37 : decode cX10_add 37 = .ok (.iconst 1, 1) := by decide +kernel
theorem dX10_add_38 : decode cX10_add 38 = .ok (.iadd, 1) := by decide +kernel
theorem dX10_add_39 : decode cX10_add 39 = .ok (.putfield 34, 3) := by decide +kernel
theorem dX10_add_42 : decode cX10_add 42 = .ok (.aload_n 0, 1) := by decide +kernel
theorem dX10_add_43 : decode cX10_add 43 = .ok (.getfield 34, 3) := by decide +kernel
theorem dX10_add_46 : decode cX10_add 46 = .ok (.ireturn, 1) := by decide +kernel
theorem dX10_findThoseThatFit_0 : decode cX10_findThoseThatFit 0 = .ok (.aload_n 0, 1) := by decide +kernel
theorem dX10_findThoseThatFit_1 : decode cX10_findThoseThatFit 1 = .ok (.iconst 0, 1) := by decide +kernel
theorem dX10_findThoseThatFit_2 : decode cX10_findThoseThatFit 2 = .ok (.putfield 38, 3) := by decide +kernel
theorem dX10_findThoseThatFit_5 : decode cX10_findThoseThatFit 5 = .ok (.aload_n 0, 1) := by decide +kernel
theorem dX10_findThoseThatFit_6 : decode cX10_findThoseThatFit 6 = .ok (.iconst (-1), 1) := by decide +kernel
theorem dX10_findThoseThatFit_7 : decode cX10_findThoseThatFit 7 = .ok (.putfield 41, 3) := by decide +kernel
theorem dX10_findThoseThatFit_10 : decode cX10_findThoseThatFit 10 = .ok (.iconst 0, 1) := by decide +kernel
theorem dX10_findThoseThatFit_11 : decode cX10_findThoseThatFit 11 = .ok (.istore_n 2, 1) := by decide +kernel
theorem dX10_findThoseThatFit_12 : decode cX10_findThoseThatFit 12 = .ok (.iload_n 2, 1) := by decide +kernel
theorem dX10_findThoseThatFit_13 : decode cX10_findThoseThatFit 13 = .ok (.bipush 20, 2) := by decide +kernel
theorem dX10_findThoseThatFit_15 : decode cX10_findThoseThatFit 15 = .ok (.if_icmp .gt 75, 3) := by decide +kernel
theorem dX10_findThoseThatFit_18 : decode cX10_findThoseThatFit 18 = .ok (.iconst 0, 1) := by decide +kernel
theorem dX10_findThoseThatFit_19 : decode cX10_findThoseThatFit 19 = .ok (.istore_n 3, 1) := by decide +kernel
theorem dX10_findThoseThatFit_20 : decode cX10_findThoseThatFit 20 = .ok (.iload_n 3, 1) := by decide +kernel
theorem dX10_findThoseThatFit_21 : decode cX10_findThoseThatFit 21 = .ok (.bipush 20, 2) := by decide +kernel
theorem dX10_findThoseThatFit_23 : decode cX10_findThoseThatFit 23 = .ok (.if_icmp .gt 61, 3) := by decide +kernel
theorem dX10_findThoseThatFit_26 : decode cX10_findThoseThatFit 26 = .ok (.aload_n 0, 1) := by decide +kernel
theorem dX10_findThoseThatFit_27 : decode cX10_findThoseThatFit 27 = .ok (.iload_n 2, 1) := by decide +kernel
theorem dX10_findThoseThatFit_28 : decode cX10_findThoseThatFit 28 = .ok (.iload_n 3, 1) := by decide +kernel
theorem dX10_findThoseThatFit_29 : decode cX10_findThoseThatFit 29 = .ok (.invokevirtual 44, 3) := by decide +kernel
theorem dX10_findThoseThatFit_32 : decode cX10_findThoseThatFit 32 = .ok (.aload_n 0, 1) := by decide +kernel
theorem dX10_findThoseThatFit_33 : decode cX10_findThoseThatFit 33 = .ok (.iload_n 1, 1) := by decide +kernel
theorem dX10_findThoseThatFit_34 : decode cX10_findThoseThatFit 34 = .ok (.invokevirtual 48, 3) := by decide +kernel
theorem dX10_findThoseThatFit_37 : decode cX10_findThoseThatFit 37 = .ok (.ifCond .eq 41, 3) := by decide +kernel
theorem dX10_findThoseThatFit_40 : decode cX10_findThoseThatFit 40 = .ok (.aload_n 0, 1) := by decide +kernel
theorem dX10_findThoseThatFit_41 : decode cX10_findThoseThatFit 41 = .ok (.invokevirtual 52, 3) := by decide +kernel
theorem dX10_findThoseThatFit_44 : decode cX10_findThoseThatFit 44 = .ok (.aload_n 0, 1) := by decide +kernel
theorem dX10_findThoseThatFit_45 : decode cX10_findThoseThatFit 45 = .ok (.aload_n 0, 1) := by decide +kernel
theorem dX10_findThoseThatFit_46 : decode cX10_findThoseThatFit 46 = .ok (.getfield 38, 3) := by decide +kernel
theorem dX10_findThoseThatFit_49 : decode cX10_findThoseThatFit 49 = .ok (.ifCond .ne 12, 3) := by decide +kernel
theorem dX10_findThoseThatFit_52 : decode cX10_findThoseThatFit 52 = .ok (.bipush 100, 2) := by decide +kernel
theorem dX10_findThoseThatFit_54 : decode cX10_findThoseThatFit 54 = .ok (.iload_n 2, 1) := by decide +kernel
theorem dX10_findThoseThatFit_55 : decode cX10_findThoseThatFit 55 = .ok (.imul, 1) := by decide +kernel
theorem dX10_findThoseThatFit_56 : decode cX10_findThoseThatFit 56 = .ok (.iload_n 3, 1) := by decide +kernel
theorem dX10_findThoseThatFit_57 : decode cX10_findThoseThatFit 57 = .ok (.iadd, 1) := by decide +kernel
theorem dX10_findThoseThatFit_58 : decode cX10_findThoseThatFit 58 = .ok (.goto 7, 3) := by decide +kernel
theorem dX10_findThoseThatFit_61 : decode cX10_findThoseThatFit 61 = .ok (.aload_n 0, 1) := by decide +kernel
theorem dX10_findThoseThatFit_62 : decode cX10_findThoseThatFit 62 = .ok (.getfield 41, 3) := by decide +kernel
theorem dX10_findThoseThatFit_65 : decode cX10_findThoseThatFit 65 = .ok (.putfield 41, 3) := by decide +kernel
theorem dX10_findThoseThatFit_68 : decode cX10_findThoseThatFit 68 = .ok (.aload_n 0, 1) := by decide +kernel
theorem dX10_findThoseThatFit_69 : decode cX10_findThoseThatFit 69 = .ok (.dup, 1) := by decide +kernel
theorem dX10_findThoseThatFit_70 : decode cX10_findThoseThatFit 70 = .ok (.getfield 38, 3) := by decide +kernel
theorem dX10_findThoseThatFit_73 : decode cX10_findThoseThatFit 73 = .ok (.iconst 1, 1) := by decide +kernel
theorem dX10_findThoseThatFit_74 : decode cX10_findThoseThatFit 74 = .ok (.iadd, 1) := by decide +kernel
theorem dX10_findThoseThatFit_75 : decode cX10_findThoseThatFit 75 = .ok (.putfield 38, 3) := by decide +kernel
theorem dX10_findThoseThatFit_78 : decode cX10_findThoseThatFit 78 = .ok (.iinc 3 1, 3) := by decide +kernel
theorem dX10_findThoseThatFit_81 : decode cX10_findThoseThatFit 81 = .ok (.goto (-61), 3) := by decide +kernel
theorem dX10_findThoseThatFit_84 : decode cX10_findThoseThatFit 84 = .ok (.iinc 2 1, 3) := by decide +kernel
theorem dX10_findThoseThatFit_87 : decode cX10_findThoseThatFit 87 = .ok (.goto (-75), 3) := by decide +kernel
theorem dX10_findThoseThatFit_90 : decode cX10_findThoseThatFit 90 = .ok (.return_, 1) := by decide +kernel
theorem dX10_follow_0 : decode cX10_follow 0 = .ok (.aload_n 0, 1) := by decide +kernel
theorem dX10_follow_1 : decode cX10_follow 1 = .ok (.getfield 21, 3) := by decide +kernel
theorem dX10_follow_4 : decode cX10_follow 4 = .ok (.iload_n 1, 1) := by decide +kernel
theorem dX10_follow_5 : decode cX10_follow 5 = .ok (.putfield 55, 3) := by decide +kernel
theorem dX10_follow_8 : decode cX10_follow 8 = .ok (.aload_n 0, 1) := by decide +kernel
theorem dX10_follow_9 : decode cX10_follow 9 = .ok (.getfield 21, 3) := by decide +kernel
theorem dX10_follow_12 : decode cX10_follow 12 = .ok (.iload_n 2, 1) := by decide +kernel
theorem dX10_follow_13 : decode cX10_follow 13 = .ok (.putfield 58, 3) := by decide +kernel
theorem dX10_follow_16 : decode cX10_follow 16 = .ok (.aload_n 0, 1) := by decide +kernel
theorem dX10_follow_17 : decode cX10_follow 17 = .ok (.getfield 21, 3) := by decide +kernel
theorem dX10_follow_20 : decode cX10_follow 20 = .ok (.sipush 3000, 3) := by decide +kernel
theorem dX10_follow_23 : decode cX10_follow 23 = .ok (.invokevirtual 61, 3) := by decide +kernel
theorem dX10_follow_26 : decode cX10_follow 26 = .ok (.aload_n 0, 1) := by decide +kernel
theorem dX10_follow_27 : decode cX10_follow 27 = .ok (.getfield 25, 3) := by decide +kernel
theorem dX10_follow_30 : decode cX10_follow 30 = .ok (.iconst 0, 1) := by decide +kernel
theorem dX10_follow_31 : decode cX10_follow 31 = .ok (.sipush 3000, 3) := by decide +kernel
theorem dX10_follow_34 : decode cX10_follow 34 = .ok (.iastore, 1) := by decide +kernel
theorem dX10_follow_35 : decode cX10_follow 35 = .ok (.iconst 1, 1) := by decide +kernel
theorem dX10_follow_36 : decode cX10_follow 36 = .ok (.istore_n 3, 1) := by decide +kernel
theorem dX10_follow_37 : decode cX10_follow 37 = .ok (.iload_n 3, 1) := by decide +kernel
theorem dX10_follow_38 : decode cX10_follow 38 = .ok (.bipush 60, 2) := by decide +kernel
theorem dX10_follow_40 : decode cX10_follow 40 = .ok (.if_icmp .gt 42, 3) := by decide +kernel
theorem dX10_follow_43 : decode cX10_follow 43 = .ok (.aload_n 0, 1) := by decide +kernel
theorem dX10_follow_44 : decode cX10_follow 44 = .ok (.getfield 21, 3) := by decide +kernel
theorem dX10_follow_47 : decode cX10_follow 47 = .ok (.iconst 0, 1) := by decide +kernel
theorem dX10_follow_48 : decode cX10_follow 48 = .ok (.invokestatic 65, 3) := by decide +kernel
theorem dX10_follow_51 : decode cX10_follow 51 = .ok (.aload_n 0, 1) := by decide +kernel
theorem dX10_follow_52 : decode cX10_follow 52 = .ok (.getfield 21, 3) := by decide +kernel
theorem dX10_follow_55 : decode cX10_follow 55 = .ok (.getfield 69, 3) := by decide +kernel
theorem dX10_follow_58 : decode cX10_follow 58 = .ok (.iconst 0, 1) := by decide +kernel
theorem dX10_follow_59 : decode cX10_follow 59 = .ok (.iconst 1, 1) := by decide +kernel
theorem dX10_follow_60 : decode cX10_follow 60 = .ok (.invokevirtual 72, 3) := by decide +kernel
theorem dX10_follow_63 : decode cX10_follow 63 = .ok (.aload_n 0, 1) := by decide +kernel
theorem dX10_follow_64 : decode cX10_follow 64 = .ok (.getfield 25, 3) := by decide +kernel
theorem dX10_follow_67 : decode cX10_follow 67 = .ok (.iload_n 3, 1) := by decide +kernel
theorem dX10_follow_68 : decode cX10_follow 68 = .ok (.aload_n 0, 1) := by decide +kernel
theorem dX10_follow_69 : decode cX10_follow 69 = .ok (.getfield 21, 3) := by decide +kernel
theorem dX10_follow_72 : decode cX10_follow 72 = .ok (.getfield 69, 3) := by decide +kernel
theorem dX10_follow_75 : decode cX10_follow 75 = .ok (.iastore, 1) := by decide +kernel
theorem dX10_follow_76 : decode cX10_follow 76 = .ok (.iinc 3 1, 3) := by decide +kernel
theorem dX10_follow_79 : decode cX10_follow 79 = .ok (.goto (-42), 3) := by decide +kernel
theorem dX10_follow_82 : decode cX10_follow 82 = .ok (.return_, 1) := by decide +kernel
theorem dX10_fits_0 : decode cX10_fits 0 = .ok (.iconst 0, 1) := by decide +kernel
theorem dX10_fits_1 : decode cX10_fits 1 = .ok (.istore_n 2, 1) := by decide +kernel
theorem dX10_fits_2 : decode cX10_fits 2 = .ok (.iload_n 2, 1) := by decide +kernel
theorem dX10_fits_3 : decode cX10_fits 3 = .ok (.aload_n 0, 1) := by decide +kernel
theorem dX10_fits_4 : decode cX10_fits 4 = .ok (.getfield 34, 3) := by decide +kernel
theorem dX10_fits_7 : decode cX10_fits 7 = .ok (.if_icmp .ge 35, 3) := by decide +kernel
theorem dX10_fits_10 : decode cX10_fits 10 = .ok (.aload_n 0, 1) := by decide +kernel
theorem dX10_fits_11 : decode cX10_fits 11 = .ok (.getfield 25, 3) := by decide +kernel
theorem dX10_fits_14 : decode cX10_fits 14 = .ok (.aload_n 0, 1) := by decide +kernel
theorem dX10_fits_15 : decode cX10_fits 15 = .ok (.getfield 11, 3) := by decide +kernel
theorem dX10_fits_18 : decode cX10_fits 18 = .ok (.iload_n 2, 1) := by decide +kernel
theorem dX10_fits_19 : decode cX10_fits 19 = .ok (.iaload, 1) := by decide +kernel
theorem dX10_fits_20 : decode cX10_fits 20 = .ok (.iaload, 1) := by decide +kernel
theorem dX10_fits_21 : decode cX10_fits 21 = .ok (.aload_n 0, 1) := by decide +kernel
theorem dX10_fits_22 : decode cX10_fits 22 = .ok (.getfield 15, 3) := by decide +kernel
theorem dX10_fits_25 : decode cX10_fits 25 = .ok (.iload_n 2, 1) := by decide +kernel
theorem dX10_fits_26 : decode cX10_fits 26 = .ok (.iaload, 1) := by decide +kernel
theorem dX10_fits_27 : decode cX10_fits 27 = .ok (.invokestatic 76, 3) := by decide +kernel
theorem dX10_fits_30 : decode cX10_fits 30 = .ok (.iload_n 1, 1) := by decide +kernel
theorem dX10_fits_31 : decode cX10_fits 31 = .ok (.if_icmp .le 5, 3) := by decide +kernel
theorem dX10_fits_34 : decode cX10_fits 34 = .ok (.iconst 0, 1) := by decide +kernel
theorem dX10_fits_35 : decode cX10_fits 35 = .ok (.ireturn, 1) := by decide +kernel
theorem dX10_fits_36 : decode cX10_fits 36 = .ok (.iinc 2 1, 3) := by decide +kernel
theorem dX10_fits_39 : decode cX10_fits 39 = .ok (.goto (-37), 3) := by decide +kernel
theorem dX10_fits_42 : decode cX10_fits 42 = .ok (.iconst 1, 1) := by decide +kernel
theorem dX10_fits_43 : decode cX10_fits 43 = .ok (.ireturn, 1) := by decide +kernel
theorem dX10_widen_0 : decode cX10_widen 0 = .ok (.iconst 0, 1) := by decide +kernel
theorem dX10_widen_1 : decode cX10_widen 1 = .ok (.istore_n 1, 1) := by decide +kernel
theorem dX10_widen_2 : decode cX10_widen 2 = .ok (.iload_n 1, 1) := by decide +kernel
theorem dX10_widen_3 : decode cX10_widen 3 = .ok (.bipush 60, 2) := by decide +kernel
theorem dX10_widen_5 : decode cX10_widen 5 = .ok (.if_icmp .gt 83, 3) := by decide +kernel
theorem dX10_widen_8 : decode cX10_widen 8 = .ok (.aload_n 0, 1) := by decide +kernel
theorem dX10_widen_9 : decode cX10_widen 9 = .ok (.getfield 28, 3) := by decide +kernel
theorem dX10_widen_12 : decode cX10_widen 12 = .ok (.iload_n 1, 1) := by decide +kernel
theorem dX10_widen_13 : decode cX10_widen 13 = .ok (.aload_n 0, 1) := by decide +kernel
theorem dX10_widen_14 : decode cX10_widen 14 = .ok (.getfield 38, 3) := by decide +kernel
theorem dX10_widen_17 : decode cX10_widen 17 = .ok (.ifCond .ne 12, 3) := by decide +kernel
theorem dX10_widen_20 : decode cX10_widen 20 = .ok (.aload_n 0, 1) := by decide +kernel
theorem dX10_widen_21 : decode cX10_widen 21 = .ok (.getfield 25, 3) := by decide +kernel
theorem dX10_widen_24 : decode cX10_widen 24 = .ok (.iload_n 1, 1) := by decide +kernel
theorem dX10_widen_25 : decode cX10_widen 25 = .ok (.iaload, 1) := by decide +kernel
theorem dX10_widen_26 : decode cX10_widen 26 = .ok (.goto 18, 3) := by decide +kernel
theorem dX10_widen_29 : decode cX10_widen 29 = .ok (.aload_n 0, 1) := by decide +kernel
theorem dX10_widen_30 : decode cX10_widen 30 = .ok (.getfield 28, 3) := by decide +kernel
theorem dX10_widen_33 : decode cX10_widen 33 = .ok (.iload_n 1, 1) := by decide +kernel
theorem dX10_widen_34 : decode cX10_widen 34 = .ok (.iaload, 1) := by decide +kernel
theorem dX10_widen_35 : decode cX10_widen 35 = .ok (.aload_n 0, 1) := by decide +kernel
theorem dX10_widen_36 : decode cX10_widen 36 = .ok (.getfield 25, 3) := by decide +kernel
theorem dX10_widen_39 : decode cX10_widen 39 = .ok (.iload_n 1, 1) := by decide +kernel
theorem dX10_widen_40 : decode cX10_widen 40 = .ok (.iaload, 1) := by decide +kernel
theorem dX10_widen_41 : decode cX10_widen 41 = .ok (.invokestatic 80, 3) := by decide +kernel
theorem dX10_widen_44 : decode cX10_widen 44 = .ok (.iastore, 1) := by decide +kernel
theorem dX10_widen_45 : decode cX10_widen 45 = .ok (.aload_n 0, 1) := by decide +kernel
theorem dX10_widen_46 : decode cX10_widen 46 = .ok (.getfield 31, 3) := by decide +kernel
theorem dX10_widen_49 : decode cX10_widen 49 = .ok (.iload_n 1, 1) := by decide +kernel
theorem dX10_widen_50 : decode cX10_widen 50 = .ok (.aload_n 0, 1) := by decide +kernel
theorem dX10_widen_51 : decode cX10_widen 51 = .ok (.getfield 38, 3) := by decide +kernel
theorem dX10_widen_54 : decode cX10_widen 54 = .ok (.ifCond .ne 12, 3) := by decide +kernel
theorem dX10_widen_57 : decode cX10_widen 57 = .ok (.aload_n 0, 1) := by decide +kernel
theorem dX10_widen_58 : decode cX10_widen 58 = .ok (.getfield 25, 3) := by decide +kernel
theorem dX10_widen_61 : decode cX10_widen 61 = .ok (.iload_n 1, 1) := by decide +kernel
theorem dX10_widen_62 : decode cX10_widen 62 = .ok (.iaload, 1) := by decide +kernel
theorem dX10_widen_63 : decode cX10_widen 63 = .ok (.goto 18, 3) := by decide +kernel
theorem dX10_widen_66 : decode cX10_widen 66 = .ok (.aload_n 0, 1) := by decide +kernel
theorem dX10_widen_67 : decode cX10_widen 67 = .ok (.getfield 31, 3) := by decide +kernel
theorem dX10_widen_70 : decode cX10_widen 70 = .ok (.iload_n 1, 1) := by decide +kernel
theorem dX10_widen_71 : decode cX10_widen 71 = .ok (.iaload, 1) := by decide +kernel
theorem dX10_widen_72 : decode cX10_widen 72 = .ok (.aload_n 0, 1) := by decide +kernel
theorem dX10_widen_73 : decode cX10_widen 73 = .ok (.getfield 25, 3) := by decide +kernel
theorem dX10_widen_76 : decode cX10_widen 76 = .ok (.iload_n 1, 1) := by decide +kernel
theorem dX10_widen_77 : decode cX10_widen 77 = .ok (.iaload, 1) := by decide +kernel
theorem dX10_widen_78 : decode cX10_widen 78 = .ok (.invokestatic 85, 3) := by decide +kernel
theorem dX10_widen_81 : decode cX10_widen 81 = .ok (.iastore, 1) := by decide +kernel
theorem dX10_widen_82 : decode cX10_widen 82 = .ok (.iinc 1 1, 3) := by decide +kernel
theorem dX10_widen_85 : decode cX10_widen 85 = .ok (.goto (-83), 3) := by decide +kernel
theorem dX10_widen_88 : decode cX10_widen 88 = .ok (.return_, 1) := by decide +kernel
theorem dX10_widestTick_0 : decode cX10_widestTick 0 = .ok (.aload_n 0, 1) := by decide +kernel
theorem dX10_widestTick_1 : decode cX10_widestTick 1 = .ok (.getfield 38, 3) := by decide +kernel
theorem dX10_widestTick_4 : decode cX10_widestTick 4 = .ok (.ifCond .ne 5, 3) := by decide +kernel
theorem dX10_widestTick_7 : decode cX10_widestTick 7 = .ok (.iconst (-1), 1) := by decide +kernel
theorem dX10_widestTick_8 : decode cX10_widestTick 8 = .ok (.ireturn, 1) := by decide +kernel
theorem dX10_widestTick_9 : decode cX10_widestTick 9 = .ok (.iconst 0, 1) := by decide +kernel
theorem dX10_widestTick_10 : decode cX10_widestTick 10 = .ok (.istore_n 1, 1) := by decide +kernel
theorem dX10_widestTick_11 : decode cX10_widestTick 11 = .ok (.iconst 1, 1) := by decide +kernel
theorem dX10_widestTick_12 : decode cX10_widestTick 12 = .ok (.istore_n 2, 1) := by decide +kernel
theorem dX10_widestTick_13 : decode cX10_widestTick 13 = .ok (.iload_n 2, 1) := by decide +kernel
theorem dX10_widestTick_14 : decode cX10_widestTick 14 = .ok (.bipush 60, 2) := by decide +kernel
theorem dX10_widestTick_16 : decode cX10_widestTick 16 = .ok (.if_icmp .gt 40, 3) := by decide +kernel
theorem dX10_widestTick_19 : decode cX10_widestTick 19 = .ok (.aload_n 0, 1) := by decide +kernel
theorem dX10_widestTick_20 : decode cX10_widestTick 20 = .ok (.getfield 31, 3) := by decide +kernel
theorem dX10_widestTick_23 : decode cX10_widestTick 23 = .ok (.iload_n 2, 1) := by decide +kernel
theorem dX10_widestTick_24 : decode cX10_widestTick 24 = .ok (.iaload, 1) := by decide +kernel
theorem dX10_widestTick_25 : decode cX10_widestTick 25 = .ok (.aload_n 0, 1) := by decide +kernel
theorem dX10_widestTick_26 : decode cX10_widestTick 26 = .ok (.getfield 28, 3) := by decide +kernel
theorem dX10_widestTick_29 : decode cX10_widestTick 29 = .ok (.iload_n 2, 1) := by decide +kernel
theorem dX10_widestTick_30 : decode cX10_widestTick 30 = .ok (.iaload, 1) := by decide +kernel
theorem dX10_widestTick_31 : decode cX10_widestTick 31 = .ok (.isub, 1) := by decide +kernel
theorem dX10_widestTick_32 : decode cX10_widestTick 32 = .ok (.aload_n 0, 1) := by decide +kernel
theorem dX10_widestTick_33 : decode cX10_widestTick 33 = .ok (.getfield 31, 3) := by decide +kernel
theorem dX10_widestTick_36 : decode cX10_widestTick 36 = .ok (.iload_n 1, 1) := by decide +kernel
theorem dX10_widestTick_37 : decode cX10_widestTick 37 = .ok (.iaload, 1) := by decide +kernel
theorem dX10_widestTick_38 : decode cX10_widestTick 38 = .ok (.aload_n 0, 1) := by decide +kernel
theorem dX10_widestTick_39 : decode cX10_widestTick 39 = .ok (.getfield 28, 3) := by decide +kernel
theorem dX10_widestTick_42 : decode cX10_widestTick 42 = .ok (.iload_n 1, 1) := by decide +kernel
theorem dX10_widestTick_43 : decode cX10_widestTick 43 = .ok (.iaload, 1) := by decide +kernel
theorem dX10_widestTick_44 : decode cX10_widestTick 44 = .ok (.isub, 1) := by decide +kernel
theorem dX10_widestTick_45 : decode cX10_widestTick 45 = .ok (.if_icmp .le 5, 3) := by decide +kernel
theorem dX10_widestTick_48 : decode cX10_widestTick 48 = .ok (.iload_n 2, 1) := by decide +kernel
theorem dX10_widestTick_49 : decode cX10_widestTick 49 = .ok (.istore_n 1, 1) := by decide +kernel
theorem dX10_widestTick_50 : decode cX10_widestTick 50 = .ok (.iinc 2 1, 3) := by decide +kernel
theorem dX10_widestTick_53 : decode cX10_widestTick 53 = .ok (.goto (-40), 3) := by decide +kernel
theorem dX10_widestTick_56 : decode cX10_widestTick 56 = .ok (.iload_n 1, 1) := by decide +kernel
theorem dX10_widestTick_57 : decode cX10_widestTick 57 = .ok (.ireturn, 1) := by decide +kernel
theorem dX11_init_0 : decode cX11_init 0 = .ok (.aload_n 0, 1) := by decide +kernel
theorem dX11_init_1 : decode cX11_init 1 = .ok (.invokespecial 1, 3) := by decide +kernel
theorem dX11_init_4 : decode cX11_init 4 = .ok (.aload_n 0, 1) := by decide +kernel
theorem dX11_init_5 : decode cX11_init 5 = .ok (.new 7, 3) := by decide +kernel
theorem dX11_init_8 : decode cX11_init 8 = .ok (.dup, 1) := by decide +kernel
theorem dX11_init_9 : decode cX11_init 9 = .ok (.invokespecial 9, 3) := by decide +kernel
theorem dX11_init_12 : decode cX11_init 12 = .ok (.putfield 10, 3) := by decide +kernel
theorem dX11_init_15 : decode cX11_init 15 = .ok (.aload_n 0, 1) := by decide +kernel
theorem dX11_init_16 : decode cX11_init 16 = .ok (.new 16, 3) := by decide +kernel
theorem dX11_init_19 : decode cX11_init 19 = .ok (.dup, 1) := by decide +kernel
theorem dX11_init_20 : decode cX11_init 20 = .ok (.invokespecial 18, 3) := by decide +kernel
theorem dX11_init_23 : decode cX11_init 23 = .ok (.putfield 19, 3) := by decide +kernel
theorem dX11_init_26 : decode cX11_init 26 = .ok (.aload_n 0, 1) := by decide +kernel
theorem dX11_init_27 : decode cX11_init 27 = .ok (.new 23, 3) := by decide +kernel
theorem dX11_init_30 : decode cX11_init 30 = .ok (.dup, 1) := by decide +kernel
theorem dX11_init_31 : decode cX11_init 31 = .ok (.aload_n 0, 1) := by decide +kernel
theorem dX11_init_32 : decode cX11_init 32 = .ok (.getfield 10, 3) := by decide +kernel
theorem dX11_init_35 : decode cX11_init 35 = .ok (.aload_n 0, 1) := by decide +kernel
theorem dX11_init_36 : decode cX11_init 36 = .ok (.getfield 19, 3) := by decide +kernel
theorem dX11_init_39 : decode cX11_init 39 = .ok (.invokespecial 25, 3) := by decide +kernel
theorem dX11_init_42 : decode cX11_init 42 = .ok (.putfield 28, 3) := by decide +kernel
theorem dX11_init_45 : decode cX11_init 45 = .ok (.aload_n 0, 1) := by decide +kernel
theorem dX11_init_46 : decode cX11_init 46 = .ok (.new 32, 3) := by decide +kernel
theorem dX11_init_49 : decode cX11_init 49 = .ok (.dup, 1) := by decide +kernel
theorem dX11_init_50 : decode cX11_init 50 = .ok (.invokespecial 34, 3) := by decide +kernel
theorem dX11_init_53 : decode cX11_init 53 = .ok (.putfield 35, 3) := by decide +kernel
theorem dX11_init_56 : decode cX11_init 56 = .ok (.aload_n 0, 1) := by decide +kernel
theorem dX11_init_57 : decode cX11_init 57 = .ok (.new 39, 3) := by decide +kernel
theorem dX11_init_60 : decode cX11_init 60 = .ok (.dup, 1) := by decide +kernel
theorem dX11_init_61 : decode cX11_init 61 = .ok (.invokespecial 41, 3) := by decide +kernel
theorem dX11_init_64 : decode cX11_init 64 = .ok (.putfield 42, 3) := by decide +kernel
theorem dX11_init_67 : decode cX11_init 67 = .ok (.aload_n 0, 1) := by decide +kernel
theorem dX11_init_68 : decode cX11_init 68 = .ok (.new 46, 3) := by decide +kernel
theorem dX11_init_71 : decode cX11_init 71 = .ok (.dup, 1) := by decide +kernel
theorem dX11_init_72 : decode cX11_init 72 = .ok (.invokespecial 48, 3) := by decide +kernel
theorem dX11_init_75 : decode cX11_init 75 = .ok (.putfield 49, 3) := by decide +kernel
theorem dX11_init_78 : decode cX11_init 78 = .ok (.aload_n 0, 1) := by decide +kernel
theorem dX11_init_79 : decode cX11_init 79 = .ok (.new 53, 3) := by decide +kernel
theorem dX11_init_82 : decode cX11_init 82 = .ok (.dup, 1) := by decide +kernel
theorem dX11_init_83 : decode cX11_init 83 = .ok (.new 23, 3) := by decide +kernel
theorem dX11_init_86 : decode cX11_init 86 = .ok (.dup, 1) := by decide +kernel
theorem dX11_init_87 : decode cX11_init 87 = .ok (.aload_n 0, 1) := by decide +kernel
theorem dX11_init_88 : decode cX11_init 88 = .ok (.getfield 10, 3) := by decide +kernel
theorem dX11_init_91 : decode cX11_init 91 = .ok (.aload_n 0, 1) := by decide +kernel
theorem dX11_init_92 : decode cX11_init 92 = .ok (.getfield 19, 3) := by decide +kernel
theorem dX11_init_95 : decode cX11_init 95 = .ok (.invokespecial 25, 3) := by decide +kernel
theorem dX11_init_98 : decode cX11_init 98 = .ok (.new 32, 3) := by decide +kernel
theorem dX11_init_101 : decode cX11_init 101 = .ok (.dup, 1) := by decide +kernel
theorem dX11_init_102 : decode cX11_init 102 = .ok (.invokespecial 34, 3) := by decide +kernel
theorem dX11_init_105 : decode cX11_init 105 = .ok (.invokespecial 55, 3) := by decide +kernel
theorem dX11_init_108 : decode cX11_init 108 = .ok (.putfield 58, 3) := by decide +kernel
theorem dX11_init_111 : decode cX11_init 111 = .ok (.aload_n 0, 1) := by decide +kernel
theorem dX11_init_112 : decode cX11_init 112 = .ok (.new 62, 3) := by decide +kernel
theorem dX11_init_115 : decode cX11_init 115 = .ok (.dup, 1) := by decide +kernel
theorem dX11_init_116 : decode cX11_init 116 = .ok (.invokespecial 64, 3) := by decide +kernel
theorem dX11_init_119 : decode cX11_init 119 = .ok (.putfield 65, 3) := by decide +kernel
theorem dX11_init_122 : decode cX11_init 122 = .ok (.aload_n 0, 1) := by decide +kernel
theorem dX11_init_123 : decode cX11_init 123 = .ok (.new 69, 3) := by decide +kernel
theorem dX11_init_126 : decode cX11_init 126 = .ok (.dup, 1) := by decide +kernel
theorem dX11_init_127 : decode cX11_init 127 = .ok (.invokespecial 71, 3) := by decide +kernel
theorem dX11_init_130 : decode cX11_init 130 = .ok (.putfield 72, 3) := by decide +kernel
theorem dX11_init_133 : decode cX11_init 133 = .ok (.aload_n 0, 1) := by decide +kernel
theorem dX11_init_134 : decode cX11_init 134 = .ok (.new 76, 3) := by decide +kernel
theorem dX11_init_137 : decode cX11_init 137 = .ok (.dup, 1) := by decide +kernel
theorem dX11_init_138 : decode cX11_init 138 = .ok (.invokespecial 78, 3) := by decide +kernel
theorem dX11_init_141 : decode cX11_init 141 = .ok (.putfield 79, 3) := by decide +kernel
theorem dX11_init_144 : decode cX11_init 144 = .ok (.return_, 1) := by decide +kernel
theorem dX11_set_0 : decode cX11_set 0 = .ok (.iload_n 1, 1) := by decide +kernel
theorem dX11_set_1 : decode cX11_set 1 = .ok (.ifCond .ne 29, 3) := by decide +kernel
theorem dX11_set_4 : decode cX11_set 4 = .ok (.iload_n 2, 1) := by decide +kernel
theorem dX11_set_5 : decode cX11_set 5 = .ok (.invokestatic 83, 3) := by decide +kernel
theorem dX11_set_8 : decode cX11_set 8 = .ok (.ifCond .eq 22, 3) := by decide +kernel
theorem dX11_set_11 : decode cX11_set 11 = .ok (.aload_n 0, 1) := by decide +kernel
theorem dX11_set_12 : decode cX11_set 12 = .ok (.getfield 28, 3) := by decide +kernel
theorem dX11_set_15 : decode cX11_set 15 = .ok (.getfield 87, 3) := by decide +kernel
theorem dX11_set_18 : decode cX11_set 18 = .ok (.istore_n 3, 1) := by decide +kernel
theorem dX11_set_19 : decode cX11_set 19 = .ok (.aload_n 0, 1) := by decide +kernel
theorem dX11_set_20 : decode cX11_set 20 = .ok (.getfield 28, 3) := by decide +kernel
theorem dX11_set_23 : decode cX11_set 23 = .ok (.iload_n 2, 1) := by decide +kernel
theorem dX11_set_24 : decode cX11_set 24 = .ok (.putfield 87, 3) := by decide +kernel
theorem dX11_set_27 : decode cX11_set 27 = .ok (.goto 106, 3) := by decide +kernel
theorem dX11_set_30 : decode cX11_set 30 = .ok (.iload_n 1, 1) := by decide +kernel
theorem dX11_set_31 : decode cX11_set 31 = .ok (.iconst 1, 1) := by decide +kernel
theorem dX11_set_32 : decode cX11_set 32 = .ok (.if_icmp .ne 29, 3) := by decide +kernel
theorem dX11_set_35 : decode cX11_set 35 = .ok (.iload_n 2, 1) := by decide +kernel
theorem dX11_set_36 : decode cX11_set 36 = .ok (.invokestatic 91, 3) := by decide +kernel
theorem dX11_set_39 : decode cX11_set 39 = .ok (.ifCond .eq 22, 3) := by decide +kernel
theorem dX11_set_42 : decode cX11_set 42 = .ok (.aload_n 0, 1) := by decide +kernel
theorem dX11_set_43 : decode cX11_set 43 = .ok (.getfield 28, 3) := by decide +kernel
theorem dX11_set_46 : decode cX11_set 46 = .ok (.getfield 94, 3) := by decide +kernel
theorem dX11_set_49 : decode cX11_set 49 = .ok (.istore_n 3, 1) := by decide +kernel
theorem dX11_set_50 : decode cX11_set 50 = .ok (.aload_n 0, 1) := by decide +kernel
theorem dX11_set_51 : decode cX11_set 51 = .ok (.getfield 28, 3) := by decide +kernel
theorem dX11_set_54 : decode cX11_set 54 = .ok (.iload_n 2, 1) := by decide +kernel
theorem dX11_set_55 : decode cX11_set 55 = .ok (.putfield 94, 3) := by decide +kernel
theorem dX11_set_58 : decode cX11_set 58 = .ok (.goto 75, 3) := by decide +kernel
theorem dX11_set_61 : decode cX11_set 61 = .ok (.iload_n 1, 1) := by decide +kernel
theorem dX11_set_62 : decode cX11_set 62 = .ok (.iconst 2, 1) := by decide +kernel
theorem dX11_set_63 : decode cX11_set 63 = .ok (.if_icmp .ne 32, 3) := by decide +kernel
theorem dX11_set_66 : decode cX11_set 66 = .ok (.iload_n 2, 1) := by decide +kernel
theorem dX11_set_67 : decode cX11_set 67 = .ok (.iconst 0, 1) := by decide +kernel
theorem dX11_set_68 : decode cX11_set 68 = .ok (.bipush 99, 2) := by decide +kernel
theorem dX11_set_70 : decode cX11_set 70 = .ok (.invokestatic 97, 3) := by decide +kernel
theorem dX11_set_73 : decode cX11_set 73 = .ok (.ifCond .eq 22, 3) := by decide +kernel
theorem dX11_set_76 : decode cX11_set 76 = .ok (.aload_n 0, 1) := by decide +kernel
theorem dX11_set_77 : decode cX11_set 77 = .ok (.getfield 28, 3) := by decide +kernel
theorem dX11_set_80 : decode cX11_set 80 = .ok (.getfield 101, 3) := by decide +kernel
theorem dX11_set_83 : decode cX11_set 83 = .ok (.istore_n 3, 1) := by decide +kernel
theorem dX11_set_84 : decode cX11_set 84 = .ok (.aload_n 0, 1) := by decide +kernel
theorem dX11_set_85 : decode cX11_set 85 = .ok (.getfield 28, 3) := by decide +kernel
theorem dX11_set_88 : decode cX11_set 88 = .ok (.iload_n 2, 1) := by decide +kernel
theorem dX11_set_89 : decode cX11_set 89 = .ok (.putfield 101, 3) := by decide +kernel
theorem dX11_set_92 : decode cX11_set 92 = .ok (.goto 41, 3) := by decide +kernel
theorem dX11_set_95 : decode cX11_set 95 = .ok (.iload_n 1, 1) := by decide +kernel
theorem dX11_set_96 : decode cX11_set 96 = .ok (.iconst 3, 1) := by decide +kernel
theorem dX11_set_97 : decode cX11_set 97 = .ok (.if_icmp .ne 33, 3) := by decide +kernel
theorem dX11_set_100 : decode cX11_set 100 = .ok (.iload_n 2, 1) := by decide +kernel
theorem dX11_set_101 : decode cX11_set 101 = .ok (.bipush (-35), 2) := by decide +kernel
theorem dX11_set_103 : decode cX11_set 103 = .ok (.bipush 35, 2) := by decide +kernel
theorem dX11_set_105 : decode cX11_set 105 = .ok (.invokestatic 97, 3) := by decide +kernel
theorem dX11_set_108 : decode cX11_set 108 = .ok (.ifCond .eq 22, 3) := by decide +kernel
theorem dX11_set_111 : decode cX11_set 111 = .ok (.aload_n 0, 1) := by decide +kernel
theorem dX11_set_112 : decode cX11_set 112 = .ok (.getfield 28, 3) := by decide +kernel
theorem dX11_set_115 : decode cX11_set 115 = .ok (.getfield 104, 3) := by decide +kernel
theorem dX11_set_118 : decode cX11_set 118 = .ok (.istore_n 3, 1) := by decide +kernel
theorem dX11_set_119 : decode cX11_set 119 = .ok (.aload_n 0, 1) := by decide +kernel
theorem dX11_set_120 : decode cX11_set 120 = .ok (.getfield 28, 3) := by decide +kernel
theorem dX11_set_123 : decode cX11_set 123 = .ok (.iload_n 2, 1) := by decide +kernel
theorem dX11_set_124 : decode cX11_set 124 = .ok (.putfield 104, 3) := by decide +kernel
theorem dX11_set_127 : decode cX11_set 127 = .ok (.goto 6, 3) := by decide +kernel
theorem dX11_set_130 : decode cX11_set 130 = .ok (.bipush (-3), 2) := by decide +kernel
theorem dX11_set_132 : decode cX11_set 132 = .ok (.ireturn, 1) := by decide +kernel
theorem dX11_set_133 : decode cX11_set 133 = .ok (.iload_n 3, 1) := by decide +kernel
theorem dX11_set_134 : decode cX11_set 134 = .ok (.bipush 100, 2) := by decide +kernel
theorem dX11_set_136 : decode cX11_set 136 = .ok (.iadd, 1) := by decide +kernel
theorem dX11_set_137 : decode cX11_set 137 = .ok (.ireturn, 1) := by decide +kernel
theorem dX11_head_0 : decode cX11_head 0 = .ok (.iload_n 1, 1) := by decide +kernel
theorem dX11_head_1 : decode cX11_head 1 = .ok (.invokestatic 107, 3) := by decide +kernel
theorem dX11_head_4 : decode cX11_head 4 = .ok (.ifCond .ne 6, 3) := by decide +kernel
theorem dX11_head_7 : decode cX11_head 7 = .ok (.bipush (-3), 2) := by decide +kernel
theorem dX11_head_9 : decode cX11_head 9 = .ok (.ireturn, 1) := by decide +kernel
theorem dX11_head_10 : decode cX11_head 10 = .ok (.aload_n 0, 1) := by decide +kernel
theorem dX11_head_11 : decode cX11_head 11 = .ok (.getfield 28, 3) := by decide +kernel
theorem dX11_head_14 : decode cX11_head 14 = .ok (.getfield 110, 3) := by decide +kernel
theorem dX11_head_17 : decode cX11_head 17 = .ok (.istore_n 2, 1) := by decide +kernel
theorem dX11_head_18 : decode cX11_head 18 = .ok (.aload_n 0, 1) := by decide +kernel
theorem dX11_head_19 : decode cX11_head 19 = .ok (.getfield 28, 3) := by decide +kernel
theorem dX11_head_22 : decode cX11_head 22 = .ok (.iload_n 1, 1) := by decide +kernel
theorem dX11_head_23 : decode cX11_head 23 = .ok (.putfield 110, 3) := by decide +kernel
theorem dX11_head_26 : decode cX11_head 26 = .ok (.iload_n 2, 1) := by decide +kernel
theorem dX11_head_27 : decode cX11_head 27 = .ok (.ireturn, 1) := by decide +kernel
theorem dX11_sea_0 : decode cX11_sea 0 = .ok (.iload_n 1, 1) := by decide +kernel
theorem dX11_sea_1 : decode cX11_sea 1 = .ok (.invokestatic 113, 3) := by decide +kernel
theorem dX11_sea_4 : decode cX11_sea 4 = .ok (.ifCond .ne 6, 3) := by decide +kernel
theorem dX11_sea_7 : decode cX11_sea 7 = .ok (.bipush (-3), 2) := by decide +kernel
theorem dX11_sea_9 : decode cX11_sea 9 = .ok (.ireturn, 1) := by decide +kernel
theorem dX11_sea_10 : decode cX11_sea 10 = .ok (.aload_n 0, 1) := by decide +kernel
theorem dX11_sea_11 : decode cX11_sea 11 = .ok (.getfield 10, 3) := by decide +kernel
theorem dX11_sea_14 : decode cX11_sea 14 = .ok (.iload_n 1, 1) := by decide +kernel
theorem dX11_sea_15 : decode cX11_sea 15 = .ok (.invokevirtual 116, 3) := by decide +kernel
theorem dX11_sea_18 : decode cX11_sea 18 = .ok (.ireturn, 1) := by decide +kernel
theorem dX11_calm_0 : decode cX11_calm 0 = .ok (.aload_n 0, 1) := by decide +kernel
theorem dX11_calm_1 : decode cX11_calm 1 = .ok (.getfield 10, 3) := by decide +kernel
theorem dX11_calm_4 : decode cX11_calm 4 = .ok (.getfield 120, 3) := by decide +kernel
theorem dX11_calm_7 : decode cX11_calm 7 = .ok (.istore_n 1, 1) := by decide +kernel
theorem dX11_calm_8 : decode cX11_calm 8 = .ok (.aload_n 0, 1) := by decide +kernel
theorem dX11_calm_9 : decode cX11_calm 9 = .ok (.getfield 10, 3) := by decide +kernel
theorem dX11_calm_12 : decode cX11_calm 12 = .ok (.iconst 0, 1) := by decide +kernel
theorem dX11_calm_13 : decode cX11_calm 13 = .ok (.putfield 120, 3) := by decide +kernel
theorem dX11_calm_16 : decode cX11_calm 16 = .ok (.iload_n 1, 1) := by decide +kernel
theorem dX11_calm_17 : decode cX11_calm 17 = .ok (.ireturn, 1) := by decide +kernel
theorem dX11_kind_0 : decode cX11_kind 0 = .ok (.aload_n 0, 1) := by decide +kernel
theorem dX11_kind_1 : decode cX11_kind 1 = .ok (.getfield 28, 3) := by decide +kernel
theorem dX11_kind_4 : decode cX11_kind 4 = .ok (.iload_n 1, 1) := by decide +kernel
theorem dX11_kind_5 : decode cX11_kind 5 = .ok (.invokevirtual 123, 3) := by decide +kernel
theorem dX11_kind_8 : decode cX11_kind 8 = .ok (.astore_n 3, 1) := by decide +kernel
theorem dX11_kind_9 : decode cX11_kind 9 = .ok (.aload_n 3, 1) := by decide +kernel
theorem dX11_kind_10 : decode cX11_kind 10 = .ok (.ifnonnull 6, 3) := by decide +kernel
theorem dX11_kind_13 : decode cX11_kind 13 = .ok (.bipush (-2), 2) := by decide +kernel
theorem dX11_kind_15 : decode cX11_kind 15 = .ok (.ireturn, 1) := by decide +kernel
theorem dX11_kind_16 : decode cX11_kind 16 = .ok (.iload_n 2, 1) := by decide +kernel
theorem dX11_kind_17 : decode cX11_kind 17 = .ok (.iconst 0, 1) := by decide +kernel
theorem dX11_kind_18 : decode cX11_kind 18 = .ok (.iconst 5, 1) := by decide +kernel
theorem dX11_kind_19 : decode cX11_kind 19 = .ok (.invokestatic 97, 3) := by decide +kernel
theorem dX11_kind_22 : decode cX11_kind 22 = .ok (.ifCond .ne 6, 3) := by decide +kernel
theorem dX11_kind_25 : decode cX11_kind 25 = .ok (.bipush (-3), 2) := by decide +kernel
theorem dX11_kind_27 : decode cX11_kind 27 = .ok (.ireturn, 1) := by decide +kernel
theorem dX11_kind_28 : decode cX11_kind 28 = .ok (.aload_n 3, 1) := by decide +kernel
theorem dX11_kind_29 : decode cX11_kind 29 = .ok (.getfield 127, 3) := by decide +kernel
theorem dX11_kind_32 : decode cX11_kind 32 = .ok (.istore 4, 2) := by decide +kernel
theorem dX11_kind_34 : decode cX11_kind 34 = .ok (.aload_n 3, 1) := by decide +kernel
theorem dX11_kind_35 : decode cX11_kind 35 = .ok (.iload_n 2, 1) := by decide +kernel
theorem dX11_kind_36 : decode cX11_kind 36 = .ok (.putfield 127, 3) := by decide +kernel
theorem dX11_kind_39 : decode cX11_kind 39 = .ok (.aload_n 3, 1) := by decide +kernel
theorem dX11_kind_40 : decode cX11_kind 40 = .ok (.iconst 0, 1) := by decide +kernel
theorem dX11_kind_41 : decode cX11_kind 41 = .ok (.invokevirtual 132, 3) := by decide +kernel
theorem dX11_kind_44 : decode cX11_kind 44 = .ok (.iload 4, 2) := by decide +kernel
theorem dX11_kind_46 : decode cX11_kind 46 = .ok (.ireturn, 1) := by decide +kernel
theorem dX11_tune_0 : decode cX11_tune 0 = .ok (.aload_n 0, 1) := by decide +kernel
theorem dX11_tune_1 : decode cX11_tune 1 = .ok (.getfield 28, 3) := by decide +kernel
theorem dX11_tune_4 : decode cX11_tune 4 = .ok (.iload_n 1, 1) := by decide +kernel
theorem dX11_tune_5 : decode cX11_tune 5 = .ok (.invokevirtual 123, 3) := by decide +kernel
theorem dX11_tune_8 : decode cX11_tune 8 = .ok (.astore 4, 2) := by decide +kernel
theorem dX11_tune_10 : decode cX11_tune 10 = .ok (.aload 4, 2) := by decide +kernel
theorem dX11_tune_12 : decode cX11_tune 12 = .ok (.ifnonnull 6, 3) := by decide +kernel
theorem dX11_tune_15 : decode cX11_tune 15 = .ok (.bipush (-2), 2) := by decide +kernel
theorem dX11_tune_17 : decode cX11_tune 17 = .ok (.ireturn, 1) := by decide +kernel
theorem dX11_tune_18 : decode cX11_tune 18 = .ok (.iload_n 2, 1) := by decide +kernel
theorem dX11_tune_19 : decode cX11_tune 19 = .ok (.iconst 0, 1) := by decide +kernel
theorem dX11_tune_20 : decode cX11_tune 20 = .ok (.iconst 2, 1) := by decide +kernel
theorem dX11_tune_21 : decode cX11_tune 21 = .ok (.invokestatic 97, 3) := by decide +kernel
theorem dX11_tune_24 : decode cX11_tune 24 = .ok (.ifCond .eq 13, 3) := by decide +kernel
theorem dX11_tune_27 : decode cX11_tune 27 = .ok (.iload_n 3, 1) := by decide +kernel
theorem dX11_tune_28 : decode cX11_tune 28 = .ok (.iconst 0, 1) := by decide +kernel
theorem dX11_tune_29 : decode cX11_tune 29 = .ok (.bipush 99, 2) := by decide +kernel
theorem dX11_tune_31 : decode cX11_tune 31 = .ok (.invokestatic 97, 3) := by decide +kernel
theorem dX11_tune_34 : decode cX11_tune 34 = .ok (.ifCond .ne 6, 3) := by decide +kernel
theorem dX11_tune_37 : decode cX11_tune 37 = .ok (.bipush (-3), 2) := by decide +kernel
theorem dX11_tune_39 : decode cX11_tune 39 = .ok (.ireturn, 1) := by decide +kernel
theorem dX11_tune_40 : decode cX11_tune 40 = .ok (.aload 4, 2) := by decide +kernel
theorem dX11_tune_42 : decode cX11_tune 42 = .ok (.iload_n 2, 1) := by decide +kernel
theorem dX11_tune_43 : decode cX11_tune 43 = .ok (.iload_n 3, 1) := by decide +kernel
theorem dX11_tune_44 : decode cX11_tune 44 = .ok (.invokevirtual 136, 3) := by decide +kernel
theorem dX11_tune_47 : decode cX11_tune 47 = .ok (.ireturn, 1) := by decide +kernel
theorem dX11_off_0 : decode cX11_off 0 = .ok (.aload_n 0, 1) := by decide +kernel
theorem dX11_off_1 : decode cX11_off 1 = .ok (.getfield 28, 3) := by decide +kernel
theorem dX11_off_4 : decode cX11_off 4 = .ok (.iload_n 1, 1) := by decide +kernel
theorem dX11_off_5 : decode cX11_off 5 = .ok (.invokevirtual 123, 3) := by decide +kernel
theorem dX11_off_8 : decode cX11_off 8 = .ok (.astore_n 3, 1) := by decide +kernel
theorem dX11_off_9 : decode cX11_off 9 = .ok (.aload_n 3, 1) := by decide +kernel
theorem dX11_off_10 : decode cX11_off 10 = .ok (.ifnonnull 6, 3) := by decide +kernel
theorem dX11_off_13 : decode cX11_off 13 = .ok (.bipush (-2), 2) := by decide +kernel
theorem dX11_off_15 : decode cX11_off 15 = .ok (.ireturn, 1) := by decide +kernel
theorem dX11_off_16 : decode cX11_off 16 = .ok (.iload_n 2, 1) := by decide +kernel
theorem dX11_off_17 : decode cX11_off 17 = .ok (.invokestatic 140, 3) := by decide +kernel
theorem dX11_off_20 : decode cX11_off 20 = .ok (.ifCond .ne 6, 3) := by decide +kernel
theorem dX11_off_23 : decode cX11_off 23 = .ok (.bipush (-3), 2) := by decide +kernel
theorem dX11_off_25 : decode cX11_off 25 = .ok (.ireturn, 1) := by decide +kernel
theorem dX11_off_26 : decode cX11_off 26 = .ok (.aload_n 3, 1) := by decide +kernel
theorem dX11_off_27 : decode cX11_off 27 = .ok (.iload_n 2, 1) := by decide +kernel
theorem dX11_off_28 : decode cX11_off 28 = .ok (.invokevirtual 132, 3) := by decide +kernel
theorem dX11_off_31 : decode cX11_off 31 = .ok (.iconst 1, 1) := by decide +kernel
theorem dX11_off_32 : decode cX11_off 32 = .ok (.ireturn, 1) := by decide +kernel
theorem dX11_told_0 : decode cX11_told 0 = .ok (.aload_n 0, 1) := by decide +kernel
theorem dX11_told_1 : decode cX11_told 1 = .ok (.getfield 28, 3) := by decide +kernel
theorem dX11_told_4 : decode cX11_told 4 = .ok (.iload_n 1, 1) := by decide +kernel
theorem dX11_told_5 : decode cX11_told 5 = .ok (.invokevirtual 123, 3) := by decide +kernel
theorem dX11_told_8 : decode cX11_told 8 = .ok (.astore 4, 2) := by decide +kernel
theorem dX11_told_10 : decode cX11_told 10 = .ok (.aload 4, 2) := by decide +kernel
theorem dX11_told_12 : decode cX11_told 12 = .ok (.ifnonnull 6, 3) := by decide +kernel
theorem dX11_told_15 : decode cX11_told 15 = .ok (.bipush (-2), 2) := by decide +kernel
theorem dX11_told_17 : decode cX11_told 17 = .ok (.ireturn, 1) := by decide +kernel
theorem dX11_told_18 : decode cX11_told 18 = .ok (.iload_n 2, 1) := by decide +kernel
theorem dX11_told_19 : decode cX11_told 19 = .ok (.invokestatic 91, 3) := by decide +kernel
theorem dX11_told_22 : decode cX11_told 22 = .ok (.ifCond .eq 10, 3) := by decide +kernel
theorem dX11_told_25 : decode cX11_told 25 = .ok (.iload_n 3, 1) := by decide +kernel
theorem dX11_told_26 : decode cX11_told 26 = .ok (.invokestatic 83, 3) := by decide +kernel
theorem dX11_told_29 : decode cX11_told 29 = .ok (.ifCond .ne 6, 3) := by decide +kernel
theorem dX11_told_32 : decode cX11_told 32 = .ok (.bipush (-3), 2) := by decide +kernel
theorem dX11_told_34 : decode cX11_told 34 = .ok (.ireturn, 1) := by decide +kernel
theorem dX11_told_35 : decode cX11_told 35 = .ok (.aload 4, 2) := by decide +kernel
theorem dX11_told_37 : decode cX11_told 37 = .ok (.iload_n 2, 1) := by decide +kernel
theorem dX11_told_38 : decode cX11_told 38 = .ok (.putfield 143, 3) := by decide +kernel
theorem dX11_told_41 : decode cX11_told 41 = .ok (.aload 4, 2) := by decide +kernel
theorem dX11_told_43 : decode cX11_told 43 = .ok (.iload_n 3, 1) := by decide +kernel
theorem dX11_told_44 : decode cX11_told 44 = .ok (.putfield 146, 3) := by decide +kernel
theorem dX11_told_47 : decode cX11_told 47 = .ok (.iconst 1, 1) := by decide +kernel
theorem dX11_told_48 : decode cX11_told 48 = .ok (.ireturn, 1) := by decide +kernel
theorem dX11_iron_0 : decode cX11_iron 0 = .ok (.iload_n 1, 1) := by decide +kernel
theorem dX11_iron_1 : decode cX11_iron 1 = .ok (.invokestatic 149, 3) := by decide +kernel
theorem dX11_iron_4 : decode cX11_iron 4 = .ok (.ifCond .eq 16, 3) := by decide +kernel
theorem dX11_iron_7 : decode cX11_iron 7 = .ok (.iload_n 2, 1) := by decide +kernel
theorem dX11_iron_8 : decode cX11_iron 8 = .ok (.sipush (-2000), 3) := by decide +kernel
theorem dX11_iron_11 : decode cX11_iron 11 = .ok (.sipush 2000, 3) := by decide +kernel
theorem dX11_iron_14 : decode cX11_iron 14 = .ok (.invokestatic 97, 3) := by decide +kernel
theorem dX11_iron_17 : decode cX11_iron 17 = .ok (.ifCond .ne 6, 3) := by decide +kernel
theorem dX11_iron_20 : decode cX11_iron 20 = .ok (.bipush (-3), 2) := by decide +kernel
theorem dX11_iron_22 : decode cX11_iron 22 = .ok (.ireturn, 1) := by decide +kernel
theorem dX11_iron_23 : decode cX11_iron 23 = .ok (.aload_n 0, 1) := by decide +kernel
theorem dX11_iron_24 : decode cX11_iron 24 = .ok (.getfield 19, 3) := by decide +kernel
theorem dX11_iron_27 : decode cX11_iron 27 = .ok (.getfield 152, 3) := by decide +kernel
theorem dX11_iron_30 : decode cX11_iron 30 = .ok (.iload_n 1, 1) := by decide +kernel
theorem dX11_iron_31 : decode cX11_iron 31 = .ok (.iload_n 2, 1) := by decide +kernel
theorem dX11_iron_32 : decode cX11_iron 32 = .ok (.iastore, 1) := by decide +kernel
theorem dX11_iron_33 : decode cX11_iron 33 = .ok (.iconst 1, 1) := by decide +kernel
theorem dX11_iron_34 : decode cX11_iron 34 = .ok (.ireturn, 1) := by decide +kernel
theorem dX11_shows_0 : decode cX11_shows 0 = .ok (.aload_n 0, 1) := by decide +kernel
theorem dX11_shows_1 : decode cX11_shows 1 = .ok (.getfield 28, 3) := by decide +kernel
theorem dX11_shows_4 : decode cX11_shows 4 = .ok (.iload_n 1, 1) := by decide +kernel
theorem dX11_shows_5 : decode cX11_shows 5 = .ok (.invokevirtual 123, 3) := by decide +kernel
theorem dX11_shows_8 : decode cX11_shows 8 = .ok (.astore_n 2, 1) := by decide +kernel
theorem dX11_shows_9 : decode cX11_shows 9 = .ok (.aload_n 2, 1) := by decide +kernel
theorem dX11_shows_10 : decode cX11_shows 10 = .ok (.ifnonnull 8, 3) := by decide +kernel
theorem dX11_shows_13 : decode cX11_shows 13 = .ok (.bipush (-2), 2) := by decide +kernel
theorem dX11_shows_15 : decode cX11_shows 15 = .ok (.goto 18, 3) := by decide +kernel
theorem dX11_shows_18 : decode cX11_shows 18 = .ok (.aload_n 2, 1) := by decide +kernel
theorem dX11_shows_19 : decode cX11_shows 19 = .ok (.aload_n 0, 1) := by decide +kernel
theorem dX11_shows_20 : decode cX11_shows 20 = .ok (.getfield 28, 3) := by decide +kernel
theorem dX11_shows_23 : decode cX11_shows 23 = .ok (.getfield 110, 3) := by decide +kernel
theorem dX11_shows_26 : decode cX11_shows 26 = .ok (.aload_n 0, 1) := by decide +kernel
theorem dX11_shows_27 : decode cX11_shows 27 = .ok (.getfield 19, 3) := by decide +kernel
theorem dX11_shows_30 : decode cX11_shows 30 = .ok (.invokevirtual 156, 3) := by decide +kernel
theorem dX11_shows_33 : decode cX11_shows 33 = .ok (.ireturn, 1) := by decide +kernel
theorem dX11_now_0 : decode cX11_now 0 = .ok (.aload_n 0, 1) := by decide +kernel
theorem dX11_now_1 : decode cX11_now 1 = .ok (.getfield 28, 3) := by decide +kernel
theorem dX11_now_4 : decode cX11_now 4 = .ok (.iload_n 1, 1) := by decide +kernel
theorem dX11_now_5 : decode cX11_now 5 = .ok (.invokevirtual 123, 3) := by decide +kernel
theorem dX11_now_8 : decode cX11_now 8 = .ok (.astore_n 3, 1) := by decide +kernel
theorem dX11_now_9 : decode cX11_now 9 = .ok (.aload_n 3, 1) := by decide +kernel
theorem dX11_now_10 : decode cX11_now 10 = .ok (.ifnonnull 6, 3) := by decide +kernel
theorem dX11_now_13 : decode cX11_now 13 = .ok (.bipush (-2), 2) := by decide +kernel
theorem dX11_now_15 : decode cX11_now 15 = .ok (.ireturn, 1) := by decide +kernel
theorem dX11_now_16 : decode cX11_now 16 = .ok (.iload_n 2, 1) := by decide +kernel
theorem dX11_now_17 : decode cX11_now 17 = .ok (.iconst 0, 1) := by decide +kernel
theorem dX11_now_18 : decode cX11_now 18 = .ok (.iconst 1, 1) := by decide +kernel
theorem dX11_now_19 : decode cX11_now 19 = .ok (.invokestatic 97, 3) := by decide +kernel
theorem dX11_now_22 : decode cX11_now 22 = .ok (.ifCond .ne 6, 3) := by decide +kernel
theorem dX11_now_25 : decode cX11_now 25 = .ok (.bipush (-3), 2) := by decide +kernel
theorem dX11_now_27 : decode cX11_now 27 = .ok (.ireturn, 1) := by decide +kernel
theorem dX11_now_28 : decode cX11_now 28 = .ok (.iload_n 2, 1) := by decide +kernel
theorem dX11_now_29 : decode cX11_now 29 = .ok (.ifCond .ne 10, 3) := by decide +kernel
theorem dX11_now_32 : decode cX11_now 32 = .ok (.aload_n 3, 1) := by decide +kernel
theorem dX11_now_33 : decode cX11_now 33 = .ok (.getfield 160, 3) := by decide +kernel
theorem dX11_now_36 : decode cX11_now 36 = .ok (.goto 7, 3) := by decide +kernel
theorem dX11_now_39 : decode cX11_now 39 = .ok (.aload_n 3, 1) := by decide +kernel
theorem dX11_now_40 : decode cX11_now 40 = .ok (.getfield 163, 3) := by decide +kernel
theorem dX11_now_43 : decode cX11_now 43 = .ok (.ldc 166, 2) := by decide +kernel
theorem dX11_now_45 : decode cX11_now 45 = .ok (.iadd, 1) := by decide +kernel
theorem dX11_now_46 : decode cX11_now 46 = .ok (.ireturn, 1) := by decide +kernel
theorem dX11_lean_0 : decode cX11_lean 0 = .ok (.iload_n 1, 1) := by decide +kernel
theorem dX11_lean_1 : decode cX11_lean 1 = .ok (.invokestatic 91, 3) := by decide +kernel
theorem dX11_lean_4 : decode cX11_lean 4 = .ok (.ifCond .eq 17, 3) := by decide +kernel
theorem dX11_lean_7 : decode cX11_lean 7 = .ok (.iload_n 2, 1) := by decide +kernel
theorem dX11_lean_8 : decode cX11_lean 8 = .ok (.invokestatic 83, 3) := by decide +kernel
theorem dX11_lean_11 : decode cX11_lean 11 = .ok (.ifCond .eq 10, 3) := by decide +kernel
theorem dX11_lean_14 : decode cX11_lean 14 = .ok (.iload_n 3, 1) := by decide +kernel
theorem dX11_lean_15 : decode cX11_lean 15 = .ok (.invokestatic 107, 3) := by decide +kernel
theorem dX11_lean_18 : decode cX11_lean 18 = .ok (.ifCond .ne 6, 3) := by decide +kernel
theorem dX11_lean_21 : decode cX11_lean 21 = .ok (.bipush (-3), 2) := by decide +kernel
theorem dX11_lean_23 : decode cX11_lean 23 = .ok (.ireturn, 1) := by decide +kernel
theorem dX11_lean_24 : decode cX11_lean 24 = .ok (.iload_n 1, 1) := by decide +kernel
theorem dX11_lean_25 : decode cX11_lean 25 = .ok (.iload_n 2, 1) := by decide +kernel
theorem dX11_lean_26 : decode cX11_lean 26 = .ok (.iload_n 3, 1) := by decide +kernel
theorem dX11_lean_27 : decode cX11_lean 27 = .ok (.invokestatic 167, 3) := by decide +kernel
theorem dX11_lean_30 : decode cX11_lean 30 = .ok (.ldc 171, 2) := by decide +kernel
theorem dX11_lean_32 : decode cX11_lean 32 = .ok (.iadd, 1) := by decide +kernel
theorem dX11_lean_33 : decode cX11_lean 33 = .ok (.ireturn, 1) := by decide +kernel
theorem dX11_deviation_0 : decode cX11_deviation 0 = .ok (.iload_n 1, 1) := by decide +kernel
theorem dX11_deviation_1 : decode cX11_deviation 1 = .ok (.invokestatic 107, 3) := by decide +kernel
theorem dX11_deviation_4 : decode cX11_deviation 4 = .ok (.ifCond .ne 6, 3) := by decide +kernel
theorem dX11_deviation_7 : decode cX11_deviation 7 = .ok (.bipush (-3), 2) := by decide +kernel
theorem dX11_deviation_9 : decode cX11_deviation 9 = .ok (.ireturn, 1) := by decide +kernel
theorem dX11_deviation_10 : decode cX11_deviation 10 = .ok (.aload_n 0, 1) := by decide +kernel
theorem dX11_deviation_11 : decode cX11_deviation 11 = .ok (.getfield 19, 3) := by decide +kernel
theorem dX11_deviation_14 : decode cX11_deviation 14 = .ok (.iload_n 1, 1) := by decide +kernel
theorem dX11_deviation_15 : decode cX11_deviation 15 = .ok (.invokevirtual 172, 3) := by decide +kernel
theorem dX11_deviation_18 : decode cX11_deviation 18 = .ok (.ldc 166, 2) := by decide +kernel
theorem dX11_deviation_20 : decode cX11_deviation 20 = .ok (.iadd, 1) := by decide +kernel
theorem dX11_deviation_21 : decode cX11_deviation 21 = .ok (.ireturn, 1) := by decide +kernel
theorem dX11_run_0 : decode cX11_run 0 = .ok (.iload_n 1, 1) := by decide +kernel
theorem dX11_run_1 : decode cX11_run 1 = .ok (.iconst 1, 1) := by decide +kernel
theorem dX11_run_2 : decode cX11_run 2 = .ok (.sipush 500, 3) := by decide +kernel
theorem dX11_run_5 : decode cX11_run 5 = .ok (.invokestatic 97, 3) := by decide +kernel
theorem dX11_run_8 : decode cX11_run 8 = .ok (.ifCond .eq 18, 3) := by decide +kernel
theorem dX11_run_11 : decode cX11_run 11 = .ok (.aload_n 0, 1) := by decide +kernel
theorem dX11_run_12 : decode cX11_run 12 = .ok (.getfield 28, 3) := by decide +kernel
theorem dX11_run_15 : decode cX11_run 15 = .ok (.getfield 175, 3) := by decide +kernel
theorem dX11_run_18 : decode cX11_run 18 = .ok (.iload_n 1, 1) := by decide +kernel
theorem dX11_run_19 : decode cX11_run 19 = .ok (.iadd, 1) := by decide +kernel
theorem dX11_run_20 : decode cX11_run 20 = .ok (.sipush 5000, 3) := by decide +kernel
theorem dX11_run_23 : decode cX11_run 23 = .ok (.if_icmp .le 6, 3) := by decide +kernel
theorem dX11_run_26 : decode cX11_run 26 = .ok (.bipush (-3), 2) := by decide +kernel
theorem dX11_run_28 : decode cX11_run 28 = .ok (.ireturn, 1) := by decide +kernel
theorem dX11_run_29 : decode cX11_run 29 = .ok (.iconst 0, 1) := by decide +kernel
theorem dX11_run_30 : decode cX11_run 30 = .ok (.istore_n 3, 1) := by decide +kernel
theorem dX11_run_31 : decode cX11_run 31 = .ok (.iload_n 3, 1) := by decide +kernel
theorem dX11_run_32 : decode cX11_run 32 = .ok (.iload_n 1, 1) := by decide +kernel
theorem dX11_run_33 : decode cX11_run 33 = .ok (.if_icmp .ge 31, 3) := by decide +kernel
theorem dX11_run_36 : decode cX11_run 36 = .ok (.iload_n 2, 1) := by decide +kernel
theorem dX11_run_37 : decode cX11_run 37 = .ok (.ifCond .eq 14, 3) := by decide +kernel
theorem dX11_run_40 : decode cX11_run 40 = .ok (.aload_n 0, 1) := by decide +kernel
theorem dX11_run_41 : decode cX11_run 41 = .ok (.getfield 35, 3) := by decide +kernel
theorem dX11_run_44 : decode cX11_run 44 = .ok (.aload_n 0, 1) := by decide +kernel
theorem dX11_run_45 : decode cX11_run 45 = .ok (.getfield 28, 3) := by decide +kernel
theorem dX11_run_48 : decode cX11_run 48 = .ok (.invokevirtual 178, 3) := by decide +kernel
theorem dX11_run_51 : decode cX11_run 51 = .ok (.aload_n 0, 1) := by decide +kernel
theorem dX11_run_52 : decode cX11_run 52 = .ok (.getfield 28, 3) := by decide +kernel
theorem dX11_run_55 : decode cX11_run 55 = .ok (.invokevirtual 182, 3) := by decide +kernel
theorem dX11_run_58 : decode cX11_run 58 = .ok (.iinc 3 1, 3) := by decide +kernel
theorem dX11_run_61 : decode cX11_run 61 = .ok (.goto (-30), 3) := by decide +kernel
theorem dX11_run_64 : decode cX11_run 64 = .ok (.aload_n 0, 1) := by decide +kernel
theorem dX11_run_65 : decode cX11_run 65 = .ok (.getfield 28, 3) := by decide +kernel
theorem dX11_run_68 : decode cX11_run 68 = .ok (.getfield 110, 3) := by decide +kernel
theorem dX11_run_71 : decode cX11_run 71 = .ok (.ireturn, 1) := by decide +kernel
theorem dX11_write_0 : decode cX11_write 0 = .ok (.iload_n 3, 1) := by decide +kernel
theorem dX11_write_1 : decode cX11_write 1 = .ok (.iconst 1, 1) := by decide +kernel
theorem dX11_write_2 : decode cX11_write 2 = .ok (.bipush 8, 2) := by decide +kernel
theorem dX11_write_4 : decode cX11_write 4 = .ok (.invokestatic 97, 3) := by decide +kernel
theorem dX11_write_7 : decode cX11_write 7 = .ok (.ifCond .ne 6, 3) := by decide +kernel
theorem dX11_write_10 : decode cX11_write 10 = .ok (.bipush (-3), 2) := by decide +kernel
theorem dX11_write_12 : decode cX11_write 12 = .ok (.ireturn, 1) := by decide +kernel
theorem dX11_write_13 : decode cX11_write 13 = .ok (.aload_n 0, 1) := by decide +kernel
theorem dX11_write_14 : decode cX11_write 14 = .ok (.getfield 42, 3) := by decide +kernel
theorem dX11_write_17 : decode cX11_write 17 = .ok (.lload_n 1, 1) := by decide +kernel
theorem dX11_write_18 : decode cX11_write 18 = .ok (.iload_n 3, 1) := by decide +kernel
theorem dX11_write_19 : decode cX11_write 19 = .ok (.invokevirtual 185, 3) := by decide +kernel
theorem dX11_write_22 : decode cX11_write 22 = .ok (.ireturn, 1) := by decide +kernel
theorem dX11_erase_0 : decode cX11_erase 0 = .ok (.aload_n 0, 1) := by decide +kernel
theorem dX11_erase_1 : decode cX11_erase 1 = .ok (.getfield 42, 3) := by decide +kernel
theorem dX11_erase_4 : decode cX11_erase 4 = .ok (.getfield 189, 3) := by decide +kernel
theorem dX11_erase_7 : decode cX11_erase 7 = .ok (.istore_n 1, 1) := by decide +kernel
theorem dX11_erase_8 : decode cX11_erase 8 = .ok (.aload_n 0, 1) := by decide +kernel
theorem dX11_erase_9 : decode cX11_erase 9 = .ok (.getfield 42, 3) := by decide +kernel
theorem dX11_erase_12 : decode cX11_erase 12 = .ok (.iconst 0, 1) := by decide +kernel
theorem dX11_erase_13 : decode cX11_erase 13 = .ok (.putfield 189, 3) := by decide +kernel
theorem dX11_erase_16 : decode cX11_erase 16 = .ok (.iload_n 1, 1) := by decide +kernel
theorem dX11_erase_17 : decode cX11_erase 17 = .ok (.ireturn, 1) := by decide +kernel
theorem dX11_fault_0 : decode cX11_fault 0 = .ok (.aload_n 0, 1) := by decide +kernel
theorem dX11_fault_1 : decode cX11_fault 1 = .ok (.getfield 42, 3) := by decide +kernel
theorem dX11_fault_4 : decode cX11_fault 4 = .ok (.invokevirtual 192, 3) := by decide +kernel
theorem dX11_fault_7 : decode cX11_fault 7 = .ok (.ireturn, 1) := by decide +kernel
theorem dX11_steerer_0 : decode cX11_steerer 0 = .ok (.aload_n 0, 1) := by decide +kernel
theorem dX11_steerer_1 : decode cX11_steerer 1 = .ok (.getfield 42, 3) := by decide +kernel
theorem dX11_steerer_4 : decode cX11_steerer 4 = .ok (.invokevirtual 192, 3) := by decide +kernel
theorem dX11_steerer_7 : decode cX11_steerer 7 = .ok (.iconst (-1), 1) := by decide +kernel
theorem dX11_steerer_8 : decode cX11_steerer 8 = .ok (.if_icmp .eq 6, 3) := by decide +kernel
theorem dX11_steerer_11 : decode cX11_steerer 11 = .ok (.bipush (-4), 2) := by decide +kernel
theorem dX11_steerer_13 : decode cX11_steerer 13 = .ok (.ireturn, 1) := by decide +kernel
theorem dX11_steerer_14 : decode cX11_steerer 14 = .ok (.aload_n 0, 1) := by decide +kernel
theorem dX11_steerer_15 : decode cX11_steerer 15 = .ok (.getfield 35, 3) := by decide +kernel
theorem dX11_steerer_18 : decode cX11_steerer 18 = .ok (.aload_n 0, 1) := by decide +kernel
theorem dX11_steerer_19 : decode cX11_steerer 19 = .ok (.getfield 42, 3) := by decide +kernel
theorem dX11_steerer_22 : decode cX11_steerer 22 = .ok (.getfield 196, 3) := by decide +kernel
theorem dX11_steerer_25 : decode cX11_steerer 25 = .ok (.invokevirtual 199, 3) := by decide +kernel
theorem dX11_steerer_28 : decode cX11_steerer 28 = .ok (.aload_n 0, 1) := by decide +kernel
theorem dX11_steerer_29 : decode cX11_steerer 29 = .ok (.getfield 42, 3) := by decide +kernel
theorem dX11_steerer_32 : decode cX11_steerer 32 = .ok (.iconst 0, 1) := by decide +kernel
theorem dX11_steerer_33 : decode cX11_steerer 33 = .ok (.putfield 189, 3) := by decide +kernel
theorem dX11_steerer_36 : decode cX11_steerer 36 = .ok (.aload_n 0, 1) := by decide +kernel
theorem dX11_steerer_37 : decode cX11_steerer 37 = .ok (.getfield 42, 3) := by decide +kernel
theorem dX11_steerer_40 : decode cX11_steerer 40 = .ok (.getfield 203, 3) := by decide +kernel
theorem dX11_steerer_43 : decode cX11_steerer 43 = .ok (.ireturn, 1) := by decide +kernel
theorem dX11_steers_0 : decode cX11_steers 0 = .ok (.iload_n 1, 1) := by decide +kernel
theorem dX11_steers_1 : decode cX11_steers 1 = .ok (.iconst 0, 1) := by decide +kernel
theorem dX11_steers_2 : decode cX11_steers 2 = .ok (.iconst 5, 1) := by decide +kernel
theorem dX11_steers_3 : decode cX11_steers 3 = .ok (.invokestatic 97, 3) := by decide +kernel
theorem dX11_steers_6 : decode cX11_steers 6 = .ok (.ifCond .eq 15, 3) := by decide +kernel
theorem dX11_steers_9 : decode cX11_steers 9 = .ok (.aload_n 0, 1) := by decide +kernel
theorem dX11_steers_10 : decode cX11_steers 10 = .ok (.getfield 35, 3) := by decide +kernel
theorem dX11_steers_13 : decode cX11_steers 13 = .ok (.getfield 206, 3) := by decide +kernel
theorem dX11_steers_16 : decode cX11_steers 16 = .ok (.iload_n 1, 1) := by decide +kernel
theorem dX11_steers_17 : decode cX11_steers 17 = .ok (.iaload, 1) := by decide +kernel
theorem dX11_steers_18 : decode cX11_steers 18 = .ok (.goto 5, 3) := by decide +kernel
theorem dX11_steers_21 : decode cX11_steers 21 = .ok (.bipush (-3), 2) := by decide +kernel
theorem dX11_steers_23 : decode cX11_steers 23 = .ok (.ireturn, 1) := by decide +kernel
theorem dX11_course_0 : decode cX11_course 0 = .ok (.iload_n 1, 1) := by decide +kernel
theorem dX11_course_1 : decode cX11_course 1 = .ok (.invokestatic 107, 3) := by decide +kernel
theorem dX11_course_4 : decode cX11_course 4 = .ok (.ifCond .ne 6, 3) := by decide +kernel
theorem dX11_course_7 : decode cX11_course 7 = .ok (.bipush (-3), 2) := by decide +kernel
theorem dX11_course_9 : decode cX11_course 9 = .ok (.ireturn, 1) := by decide +kernel
theorem dX11_course_10 : decode cX11_course 10 = .ok (.aload_n 0, 1) := by decide +kernel
theorem dX11_course_11 : decode cX11_course 11 = .ok (.getfield 35, 3) := by decide +kernel
theorem dX11_course_14 : decode cX11_course 14 = .ok (.getfield 207, 3) := by decide +kernel
theorem dX11_course_17 : decode cX11_course 17 = .ok (.istore_n 2, 1) := by decide +kernel
theorem dX11_course_18 : decode cX11_course 18 = .ok (.aload_n 0, 1) := by decide +kernel
theorem dX11_course_19 : decode cX11_course 19 = .ok (.getfield 35, 3) := by decide +kernel
theorem dX11_course_22 : decode cX11_course 22 = .ok (.iload_n 1, 1) := by decide +kernel
theorem dX11_course_23 : decode cX11_course 23 = .ok (.invokevirtual 210, 3) := by decide +kernel
theorem dX11_course_26 : decode cX11_course 26 = .ok (.iload_n 2, 1) := by decide +kernel
theorem dX11_course_27 : decode cX11_course 27 = .ok (.ireturn, 1) := by decide +kernel
theorem dX11_swing_0 : decode cX11_swing 0 = .ok (.aload_n 0, 1) := by decide +kernel
theorem dX11_swing_1 : decode cX11_swing 1 = .ok (.getfield 28, 3) := by decide +kernel
theorem dX11_swing_4 : decode cX11_swing 4 = .ok (.iload_n 1, 1) := by decide +kernel
theorem dX11_swing_5 : decode cX11_swing 5 = .ok (.invokevirtual 123, 3) := by decide +kernel
theorem dX11_swing_8 : decode cX11_swing 8 = .ok (.astore 5, 2) := by decide +kernel
theorem dX11_swing_10 : decode cX11_swing 10 = .ok (.aload 5, 2) := by decide +kernel
theorem dX11_swing_12 : decode cX11_swing 12 = .ok (.ifnonnull 6, 3) := by decide +kernel
theorem dX11_swing_15 : decode cX11_swing 15 = .ok (.bipush (-2), 2) := by decide +kernel
theorem dX11_swing_17 : decode cX11_swing 17 = .ok (.ireturn, 1) := by decide +kernel
theorem dX11_swing_18 : decode cX11_swing 18 = .ok (.iload_n 2, 1) := by decide +kernel
theorem dX11_swing_19 : decode cX11_swing 19 = .ok (.sipush (-9000), 3) := by decide +kernel
theorem dX11_swing_22 : decode cX11_swing 22 = .ok (.sipush 9000, 3) := by decide +kernel
theorem dX11_swing_25 : decode cX11_swing 25 = .ok (.invokestatic 97, 3) := by decide +kernel
theorem dX11_swing_28 : decode cX11_swing 28 = .ok (.ifCond .eq 17, 3) := by decide +kernel
theorem dX11_swing_31 : decode cX11_swing 31 = .ok (.iload_n 2, 1) := by decide +kernel
theorem dX11_swing_32 : decode cX11_swing 32 = .ok (.ifCond .eq 13, 3) := by decide +kernel
theorem dX11_swing_35 : decode cX11_swing 35 = .ok (.iload 4, 2) := by decide +kernel
theorem dX11_swing_37 : decode cX11_swing 37 = .ok (.iconst 0, 1) := by decide +kernel
theorem dX11_swing_38 : decode cX11_swing 38 = .ok (.iconst 2, 1) := by decide +kernel
theorem dX11_swing_39 : decode cX11_swing 39 = .ok (.invokestatic 97, 3) := by decide +kernel
theorem dX11_swing_42 : decode cX11_swing 42 = .ok (.ifCond .ne 6, 3) := by decide +kernel
theorem dX11_swing_45 : decode cX11_swing 45 = .ok (.bipush (-3), 2) := by decide +kernel
theorem dX11_swing_47 : decode cX11_swing 47 = .ok (.ireturn, 1) := by decide +kernel
theorem dX11_swing_48 : decode cX11_swing 48 = .ok (.aload_n 0, 1) := by decide +kernel
theorem dX11_swing_49 : decode cX11_swing 49 = .ok (.getfield 49, 3) := by decide +kernel
theorem dX11_swing_52 : decode cX11_swing 52 = .ok (.aload 5, 2) := by decide +kernel
theorem dX11_swing_54 : decode cX11_swing 54 = .ok (.aload_n 0, 1) := by decide +kernel
theorem dX11_swing_55 : decode cX11_swing 55 = .ok (.getfield 28, 3) := by decide +kernel
theorem dX11_swing_58 : decode cX11_swing 58 = .ok (.getfield 87, 3) := by decide +kernel
theorem dX11_swing_61 : decode cX11_swing 61 = .ok (.invokestatic 213, 3) := by decide +kernel
theorem dX11_swing_64 : decode cX11_swing 64 = .ok (.iload_n 2, 1) := by decide +kernel
theorem dX11_swing_65 : decode cX11_swing 65 = .ok (.iload_n 3, 1) := by decide +kernel
theorem dX11_swing_66 : decode cX11_swing 66 = .ok (.invokevirtual 216, 3) := by decide +kernel
theorem dX11_swing_69 : decode cX11_swing 69 = .ok (.iload 4, 2) := by decide +kernel
theorem dX11_swing_71 : decode cX11_swing 71 = .ok (.ifCond .ne 11, 3) := by decide +kernel
theorem dX11_swing_74 : decode cX11_swing 74 = .ok (.aload_n 0, 1) := by decide +kernel
theorem dX11_swing_75 : decode cX11_swing 75 = .ok (.getfield 49, 3) := by decide +kernel
theorem dX11_swing_78 : decode cX11_swing 78 = .ok (.getfield 220, 3) := by decide +kernel
theorem dX11_swing_81 : decode cX11_swing 81 = .ok (.ireturn, 1) := by decide +kernel
theorem dX11_swing_82 : decode cX11_swing 82 = .ok (.iload 4, 2) := by decide +kernel
theorem dX11_swing_84 : decode cX11_swing 84 = .ok (.iconst 2, 1) := by decide +kernel
theorem dX11_swing_85 : decode cX11_swing 85 = .ok (.if_icmp .ne 11, 3) := by decide +kernel
theorem dX11_swing_88 : decode cX11_swing 88 = .ok (.aload_n 0, 1) := by decide +kernel
theorem dX11_swing_89 : decode cX11_swing 89 = .ok (.getfield 49, 3) := by decide +kernel
theorem dX11_swing_92 : decode cX11_swing 92 = .ok (.getfield 223, 3) := by decide +kernel
theorem dX11_swing_95 : decode cX11_swing 95 = .ok (.ireturn, 1) := by decide +kernel
theorem dX11_swing_96 : decode cX11_swing 96 = .ok (.aload_n 0, 1) := by decide +kernel
theorem dX11_swing_97 : decode cX11_swing 97 = .ok (.getfield 49, 3) := by decide +kernel
theorem dX11_swing_100 : decode cX11_swing 100 = .ok (.getfield 220, 3) := by decide +kernel
theorem dX11_swing_103 : decode cX11_swing 103 = .ok (.iconst (-1), 1) := by decide +kernel
theorem dX11_swing_104 : decode cX11_swing 104 = .ok (.if_icmp .ne 7, 3) := by decide +kernel
theorem dX11_swing_107 : decode cX11_swing 107 = .ok (.iconst (-1), 1) := by decide +kernel
theorem dX11_swing_108 : decode cX11_swing 108 = .ok (.goto 13, 3) := by decide +kernel
theorem dX11_swing_111 : decode cX11_swing 111 = .ok (.aload_n 0, 1) := by decide +kernel
theorem dX11_swing_112 : decode cX11_swing 112 = .ok (.getfield 49, 3) := by decide +kernel
theorem dX11_swing_115 : decode cX11_swing 115 = .ok (.getfield 226, 3) := by decide +kernel
theorem dX11_swing_118 : decode cX11_swing 118 = .ok (.ldc 166, 2) := by decide +kernel
theorem dX11_swing_120 : decode cX11_swing 120 = .ok (.iadd, 1) := by decide +kernel
theorem dX11_swing_121 : decode cX11_swing 121 = .ok (.ireturn, 1) := by decide +kernel
theorem dX11_noUse_0 : decode cX11_noUse 0 = .ok (.aload_n 0, 1) := by decide +kernel
theorem dX11_noUse_1 : decode cX11_noUse 1 = .ok (.getfield 28, 3) := by decide +kernel
theorem dX11_noUse_4 : decode cX11_noUse 4 = .ok (.iload_n 1, 1) := by decide +kernel
theorem dX11_noUse_5 : decode cX11_noUse 5 = .ok (.invokevirtual 123, 3) := by decide +kernel
theorem dX11_noUse_8 : decode cX11_noUse 8 = .ok (.astore_n 2, 1) := by decide +kernel
theorem dX11_noUse_9 : decode cX11_noUse 9 = .ok (.aload_n 2, 1) := by decide +kernel
theorem dX11_noUse_10 : decode cX11_noUse 10 = .ok (.ifnonnull 8, 3) := by decide +kernel
theorem dX11_noUse_13 : decode cX11_noUse 13 = .ok (.bipush (-2), 2) := by decide +kernel
theorem dX11_noUse_15 : decode cX11_noUse 15 = .ok (.goto 11, 3) := by decide +kernel
theorem dX11_noUse_18 : decode cX11_noUse 18 = .ok (.aload_n 0, 1) := by decide +kernel
theorem dX11_noUse_19 : decode cX11_noUse 19 = .ok (.getfield 49, 3) := by decide +kernel
theorem dX11_noUse_22 : decode cX11_noUse 22 = .ok (.aload_n 2, 1) := by decide +kernel
theorem dX11_noUse_23 : decode cX11_noUse 23 = .ok (.invokevirtual 229, 3) := by decide +kernel
theorem dX11_noUse_26 : decode cX11_noUse 26 = .ok (.ireturn, 1) := by decide +kernel
theorem dX11_turned_0 : decode cX11_turned 0 = .ok (.aload_n 0, 1) := by decide +kernel
theorem dX11_turned_1 : decode cX11_turned 1 = .ok (.getfield 28, 3) := by decide +kernel
theorem dX11_turned_4 : decode cX11_turned 4 = .ok (.iload_n 1, 1) := by decide +kernel
theorem dX11_turned_5 : decode cX11_turned 5 = .ok (.invokevirtual 123, 3) := by decide +kernel
theorem dX11_turned_8 : decode cX11_turned 8 = .ok (.astore 5, 2) := by decide +kernel
theorem dX11_turned_10 : decode cX11_turned 10 = .ok (.aload 5, 2) := by decide +kernel
theorem dX11_turned_12 : decode cX11_turned 12 = .ok (.ifnonnull 6, 3) := by decide +kernel
theorem dX11_turned_15 : decode cX11_turned 15 = .ok (.bipush (-2), 2) := by decide +kernel
theorem dX11_turned_17 : decode cX11_turned 17 = .ok (.ireturn, 1) := by decide +kernel
theorem dX11_turned_18 : decode cX11_turned 18 = .ok (.iload_n 2, 1) := by decide +kernel
theorem dX11_turned_19 : decode cX11_turned 19 = .ok (.iload_n 3, 1) := by decide +kernel
theorem dX11_turned_20 : decode cX11_turned 20 = .ok (.iload 4, 2) := by decide +kernel
theorem dX11_turned_22 : decode cX11_turned 22 = .ok (.invokestatic 233, 3) := by decide +kernel
theorem dX11_turned_25 : decode cX11_turned 25 = .ok (.ifCond .ne 6, 3) := by decide +kernel
theorem dX11_turned_28 : decode cX11_turned 28 = .ok (.bipush (-3), 2) := by decide +kernel
theorem dX11_turned_30 : decode cX11_turned 30 = .ok (.ireturn, 1) := by decide +kernel
theorem dX11_turned_31 : decode cX11_turned 31 = .ok (.aload_n 0, 1) := by decide +kernel
theorem dX11_turned_32 : decode cX11_turned 32 = .ok (.getfield 49, 3) := by decide +kernel
theorem dX11_turned_35 : decode cX11_turned 35 = .ok (.aload 5, 2) := by decide +kernel
theorem dX11_turned_37 : decode cX11_turned 37 = .ok (.aload 5, 2) := by decide +kernel
theorem dX11_turned_39 : decode cX11_turned 39 = .ok (.getfield 236, 3) := by decide +kernel
theorem dX11_turned_42 : decode cX11_turned 42 = .ok (.aload_n 0, 1) := by decide +kernel
theorem dX11_turned_43 : decode cX11_turned 43 = .ok (.getfield 28, 3) := by decide +kernel
theorem dX11_turned_46 : decode cX11_turned 46 = .ok (.getfield 87, 3) := by decide +kernel
theorem dX11_turned_49 : decode cX11_turned 49 = .ok (.invokestatic 213, 3) := by decide +kernel
theorem dX11_turned_52 : decode cX11_turned 52 = .ok (.iload_n 2, 1) := by decide +kernel
theorem dX11_turned_53 : decode cX11_turned 53 = .ok (.iload_n 3, 1) := by decide +kernel
theorem dX11_turned_54 : decode cX11_turned 54 = .ok (.iload 4, 2) := by decide +kernel
theorem dX11_turned_56 : decode cX11_turned 56 = .ok (.invokevirtual 239, 3) := by decide +kernel
theorem dX11_turned_59 : decode cX11_turned 59 = .ok (.ireturn, 1) := by decide +kernel
theorem dX11_bestPull_0 : decode cX11_bestPull 0 = .ok (.aload_n 0, 1) := by decide +kernel
theorem dX11_bestPull_1 : decode cX11_bestPull 1 = .ok (.getfield 28, 3) := by decide +kernel
theorem dX11_bestPull_4 : decode cX11_bestPull 4 = .ok (.iload_n 1, 1) := by decide +kernel
theorem dX11_bestPull_5 : decode cX11_bestPull 5 = .ok (.invokevirtual 123, 3) := by decide +kernel
theorem dX11_bestPull_8 : decode cX11_bestPull 8 = .ok (.astore 5, 2) := by decide +kernel
theorem dX11_bestPull_10 : decode cX11_bestPull 10 = .ok (.aload 5, 2) := by decide +kernel
theorem dX11_bestPull_12 : decode cX11_bestPull 12 = .ok (.ifnonnull 6, 3) := by decide +kernel
theorem dX11_bestPull_15 : decode cX11_bestPull 15 = .ok (.bipush (-2), 2) := by decide +kernel
theorem dX11_bestPull_17 : decode cX11_bestPull 17 = .ok (.ireturn, 1) := by decide +kernel
theorem dX11_bestPull_18 : decode cX11_bestPull 18 = .ok (.iload_n 2, 1) := by decide +kernel
theorem dX11_bestPull_19 : decode cX11_bestPull 19 = .ok (.iload_n 3, 1) := by decide +kernel
theorem dX11_bestPull_20 : decode cX11_bestPull 20 = .ok (.iload 4, 2) := by decide +kernel
theorem dX11_bestPull_22 : decode cX11_bestPull 22 = .ok (.invokestatic 233, 3) := by decide +kernel
theorem dX11_bestPull_25 : decode cX11_bestPull 25 = .ok (.ifCond .ne 6, 3) := by decide +kernel
theorem dX11_bestPull_28 : decode cX11_bestPull 28 = .ok (.bipush (-3), 2) := by decide +kernel
theorem dX11_bestPull_30 : decode cX11_bestPull 30 = .ok (.ireturn, 1) := by decide +kernel
theorem dX11_bestPull_31 : decode cX11_bestPull 31 = .ok (.aload_n 0, 1) := by decide +kernel
theorem dX11_bestPull_32 : decode cX11_bestPull 32 = .ok (.getfield 49, 3) := by decide +kernel
theorem dX11_bestPull_35 : decode cX11_bestPull 35 = .ok (.aload 5, 2) := by decide +kernel
theorem dX11_bestPull_37 : decode cX11_bestPull 37 = .ok (.aload_n 0, 1) := by decide +kernel
theorem dX11_bestPull_38 : decode cX11_bestPull 38 = .ok (.getfield 28, 3) := by decide +kernel
theorem dX11_bestPull_41 : decode cX11_bestPull 41 = .ok (.getfield 87, 3) := by decide +kernel
theorem dX11_bestPull_44 : decode cX11_bestPull 44 = .ok (.invokestatic 213, 3) := by decide +kernel
theorem dX11_bestPull_47 : decode cX11_bestPull 47 = .ok (.iload_n 2, 1) := by decide +kernel
theorem dX11_bestPull_48 : decode cX11_bestPull 48 = .ok (.iload_n 3, 1) := by decide +kernel
theorem dX11_bestPull_49 : decode cX11_bestPull 49 = .ok (.iload 4, 2) := by decide +kernel
theorem dX11_bestPull_51 : decode cX11_bestPull 51 = .ok (.invokevirtual 243, 3) := by decide +kernel
theorem dX11_bestPull_54 : decode cX11_bestPull 54 = .ok (.ireturn, 1) := by decide +kernel
theorem dX11_kept_0 : decode cX11_kept 0 = .ok (.iload_n 1, 1) := by decide +kernel
theorem dX11_kept_1 : decode cX11_kept 1 = .ok (.invokestatic 247, 3) := by decide +kernel
theorem dX11_kept_4 : decode cX11_kept 4 = .ok (.ifCond .eq 23, 3) := by decide +kernel
theorem dX11_kept_7 : decode cX11_kept 7 = .ok (.iload_n 2, 1) := by decide +kernel
theorem dX11_kept_8 : decode cX11_kept 8 = .ok (.iconst 0, 1) := by decide +kernel
theorem dX11_kept_9 : decode cX11_kept 9 = .ok (.sipush 999, 3) := by decide +kernel
theorem dX11_kept_12 : decode cX11_kept 12 = .ok (.invokestatic 97, 3) := by decide +kernel
theorem dX11_kept_15 : decode cX11_kept 15 = .ok (.ifCond .eq 12, 3) := by decide +kernel
theorem dX11_kept_18 : decode cX11_kept 18 = .ok (.iload_n 3, 1) := by decide +kernel
theorem dX11_kept_19 : decode cX11_kept 19 = .ok (.iconst 0, 1) := by decide +kernel
theorem dX11_kept_20 : decode cX11_kept 20 = .ok (.iconst 1, 1) := by decide +kernel
theorem dX11_kept_21 : decode cX11_kept 21 = .ok (.invokestatic 97, 3) := by decide +kernel
theorem dX11_kept_24 : decode cX11_kept 24 = .ok (.ifCond .ne 6, 3) := by decide +kernel
theorem dX11_kept_27 : decode cX11_kept 27 = .ok (.bipush (-3), 2) := by decide +kernel
theorem dX11_kept_29 : decode cX11_kept 29 = .ok (.ireturn, 1) := by decide +kernel
theorem dX11_kept_30 : decode cX11_kept 30 = .ok (.aload_n 0, 1) := by decide +kernel
theorem dX11_kept_31 : decode cX11_kept 31 = .ok (.getfield 58, 3) := by decide +kernel
theorem dX11_kept_34 : decode cX11_kept 34 = .ok (.aload_n 0, 1) := by decide +kernel
theorem dX11_kept_35 : decode cX11_kept 35 = .ok (.getfield 28, 3) := by decide +kernel
theorem dX11_kept_38 : decode cX11_kept 38 = .ok (.aload_n 0, 1) := by decide +kernel
theorem dX11_kept_39 : decode cX11_kept 39 = .ok (.getfield 35, 3) := by decide +kernel
theorem dX11_kept_42 : decode cX11_kept 42 = .ok (.iload_n 1, 1) := by decide +kernel
theorem dX11_kept_43 : decode cX11_kept 43 = .ok (.iload_n 2, 1) := by decide +kernel
theorem dX11_kept_44 : decode cX11_kept 44 = .ok (.invokevirtual 250, 3) := by decide +kernel
theorem dX11_kept_47 : decode cX11_kept 47 = .ok (.iload_n 3, 1) := by decide +kernel
theorem dX11_kept_48 : decode cX11_kept 48 = .ok (.ifCond .ne 13, 3) := by decide +kernel
theorem dX11_kept_51 : decode cX11_kept 51 = .ok (.aload_n 0, 1) := by decide +kernel
theorem dX11_kept_52 : decode cX11_kept 52 = .ok (.getfield 58, 3) := by decide +kernel
theorem dX11_kept_55 : decode cX11_kept 55 = .ok (.getfield 254, 3) := by decide +kernel
theorem dX11_kept_58 : decode cX11_kept 58 = .ok (.goto 10, 3) := by decide +kernel
theorem dX11_kept_61 : decode cX11_kept 61 = .ok (.aload_n 0, 1) := by decide +kernel
theorem dX11_kept_62 : decode cX11_kept 62 = .ok (.getfield 58, 3) := by decide +kernel
theorem dX11_kept_65 : decode cX11_kept 65 = .ok (.getfield 257, 3) := by decide +kernel
theorem dX11_kept_68 : decode cX11_kept 68 = .ok (.ireturn, 1) := by decide +kernel
theorem dX11_bestDead_0 : decode cX11_bestDead 0 = .ok (.iload_n 1, 1) := by decide +kernel
theorem dX11_bestDead_1 : decode cX11_bestDead 1 = .ok (.invokestatic 247, 3) := by decide +kernel
theorem dX11_bestDead_4 : decode cX11_bestDead 4 = .ok (.ifCond .eq 14, 3) := by decide +kernel
theorem dX11_bestDead_7 : decode cX11_bestDead 7 = .ok (.iload_n 2, 1) := by decide +kernel
theorem dX11_bestDead_8 : decode cX11_bestDead 8 = .ok (.iconst 0, 1) := by decide +kernel
theorem dX11_bestDead_9 : decode cX11_bestDead 9 = .ok (.sipush 18000, 3) := by decide +kernel
theorem dX11_bestDead_12 : decode cX11_bestDead 12 = .ok (.invokestatic 97, 3) := by decide +kernel
theorem dX11_bestDead_15 : decode cX11_bestDead 15 = .ok (.ifCond .ne 6, 3) := by decide +kernel
theorem dX11_bestDead_18 : decode cX11_bestDead 18 = .ok (.bipush (-3), 2) := by decide +kernel
theorem dX11_bestDead_20 : decode cX11_bestDead 20 = .ok (.ireturn, 1) := by decide +kernel
theorem dX11_bestDead_21 : decode cX11_bestDead 21 = .ok (.iconst (-1), 1) := by decide +kernel
theorem dX11_bestDead_22 : decode cX11_bestDead 22 = .ok (.istore_n 3, 1) := by decide +kernel
theorem dX11_bestDead_23 : decode cX11_bestDead 23 = .ok (.iconst 0, 1) := by decide +kernel
theorem dX11_bestDead_24 : decode cX11_bestDead 24 = .ok (.istore 4, 2) := by decide +kernel
theorem dX11_bestDead_26 : decode cX11_bestDead 26 = .ok (.iconst 0, 1) := by decide +kernel
theorem dX11_bestDead_27 : decode cX11_bestDead 27 = .ok (.istore 5, 2) := by decide +kernel
theorem dX11_bestDead_29 : decode cX11_bestDead 29 = .ok (.iload 5, 2) := by decide +kernel
theorem dX11_bestDead_31 : decode cX11_bestDead 31 = .ok (.sipush 990, 3) := by decide +kernel
theorem dX11_bestDead_34 : decode cX11_bestDead 34 = .ok (.if_icmp .gt 67, 3) := by decide +kernel
theorem dX11_bestDead_37 : decode cX11_bestDead 37 = .ok (.aload_n 0, 1) := by decide +kernel
theorem dX11_bestDead_38 : decode cX11_bestDead 38 = .ok (.getfield 58, 3) := by decide +kernel
theorem dX11_bestDead_41 : decode cX11_bestDead 41 = .ok (.aload_n 0, 1) := by decide +kernel
theorem dX11_bestDead_42 : decode cX11_bestDead 42 = .ok (.getfield 28, 3) := by decide +kernel
theorem dX11_bestDead_45 : decode cX11_bestDead 45 = .ok (.aload_n 0, 1) := by decide +kernel
theorem dX11_bestDead_46 : decode cX11_bestDead 46 = .ok (.getfield 35, 3) := by decide +kernel
theorem dX11_bestDead_49 : decode cX11_bestDead 49 = .ok (.iload_n 1, 1) := by decide +kernel
theorem dX11_bestDead_50 : decode cX11_bestDead 50 = .ok (.iload 5, 2) := by decide +kernel
theorem dX11_bestDead_52 : decode cX11_bestDead 52 = .ok (.invokevirtual 250, 3) := by decide +kernel
theorem dX11_bestDead_55 : decode cX11_bestDead 55 = .ok (.aload_n 0, 1) := by decide +kernel
theorem dX11_bestDead_56 : decode cX11_bestDead 56 = .ok (.getfield 58, 3) := by decide +kernel
theorem dX11_bestDead_59 : decode cX11_bestDead 59 = .ok (.getfield 254, 3) := by decide +kernel
theorem dX11_bestDead_62 : decode cX11_bestDead 62 = .ok (.iload_n 2, 1) := by decide +kernel
theorem dX11_bestDead_63 : decode cX11_bestDead 63 = .ok (.if_icmp .gt 32, 3) := by decide +kernel
theorem dX11_bestDead_66 : decode cX11_bestDead 66 = .ok (.iload_n 3, 1) := by decide +kernel
theorem dX11_bestDead_67 : decode cX11_bestDead 67 = .ok (.iconst (-1), 1) := by decide +kernel
theorem dX11_bestDead_68 : decode cX11_bestDead 68 = .ok (.if_icmp .eq 15, 3) := by decide +kernel
theorem dX11_bestDead_71 : decode cX11_bestDead 71 = .ok (.aload_n 0, 1) := by decide +kernel
theorem dX11_bestDead_72 : decode cX11_bestDead 72 = .ok (.getfield 58, 3) := by decide +kernel
theorem dX11_bestDead_75 : decode cX11_bestDead 75 = .ok (.getfield 257, 3) := by decide +kernel
theorem dX11_bestDead_78 : decode cX11_bestDead 78 = .ok (.iload 4, 2) := by decide +kernel
theorem dX11_bestDead_80 : decode cX11_bestDead 80 = .ok (.if_icmp .ge 15, 3) := by decide +kernel
theorem dX11_bestDead_83 : decode cX11_bestDead 83 = .ok (.iload 5, 2) := by decide +kernel
theorem dX11_bestDead_85 : decode cX11_bestDead 85 = .ok (.istore_n 3, 1) := by decide +kernel
theorem dX11_bestDead_86 : decode cX11_bestDead 86 = .ok (.aload_n 0, 1) := by decide +kernel
theorem dX11_bestDead_87 : decode cX11_bestDead 87 = .ok (.getfield 58, 3) := by decide +kernel
theorem dX11_bestDead_90 : decode cX11_bestDead 90 = .ok (.getfield 257, 3) := by decide +kernel
theorem dX11_bestDead_93 : decode cX11_bestDead 93 = .ok (.istore 4, 2) := by decide +kernel
theorem dX11_bestDead_95 : decode cX11_bestDead 95 = .ok (.iinc 5 10, 3) := by decide +kernel
theorem dX11_bestDead_98 : decode cX11_bestDead 98 = .ok (.goto (-69), 3) := by decide +kernel
theorem dX11_bestDead_101 : decode cX11_bestDead 101 = .ok (.iload_n 3, 1) := by decide +kernel
theorem dX11_bestDead_102 : decode cX11_bestDead 102 = .ok (.ireturn, 1) := by decide +kernel
theorem dX11_look_0 : decode cX11_look 0 = .ok (.iload_n 1, 1) := by decide +kernel
theorem dX11_look_1 : decode cX11_look 1 = .ok (.invokestatic 107, 3) := by decide +kernel
theorem dX11_look_4 : decode cX11_look 4 = .ok (.ifCond .eq 17, 3) := by decide +kernel
theorem dX11_look_7 : decode cX11_look 7 = .ok (.iload_n 2, 1) := by decide +kernel
theorem dX11_look_8 : decode cX11_look 8 = .ok (.invokestatic 107, 3) := by decide +kernel
theorem dX11_look_11 : decode cX11_look 11 = .ok (.ifCond .eq 10, 3) := by decide +kernel
theorem dX11_look_14 : decode cX11_look 14 = .ok (.iload_n 3, 1) := by decide +kernel
theorem dX11_look_15 : decode cX11_look 15 = .ok (.invokestatic 107, 3) := by decide +kernel
theorem dX11_look_18 : decode cX11_look 18 = .ok (.ifCond .ne 6, 3) := by decide +kernel
theorem dX11_look_21 : decode cX11_look 21 = .ok (.bipush (-3), 2) := by decide +kernel
theorem dX11_look_23 : decode cX11_look 23 = .ok (.ireturn, 1) := by decide +kernel
theorem dX11_look_24 : decode cX11_look 24 = .ok (.aload_n 0, 1) := by decide +kernel
theorem dX11_look_25 : decode cX11_look 25 = .ok (.getfield 65, 3) := by decide +kernel
theorem dX11_look_28 : decode cX11_look 28 = .ok (.iload_n 1, 1) := by decide +kernel
theorem dX11_look_29 : decode cX11_look 29 = .ok (.iload_n 2, 1) := by decide +kernel
theorem dX11_look_30 : decode cX11_look 30 = .ok (.iload_n 3, 1) := by decide +kernel
theorem dX11_look_31 : decode cX11_look 31 = .ok (.invokevirtual 260, 3) := by decide +kernel
theorem dX11_look_34 : decode cX11_look 34 = .ok (.ireturn, 1) := by decide +kernel
theorem dX11_wrong_0 : decode cX11_wrong 0 = .ok (.iload_n 1, 1) := by decide +kernel
theorem dX11_wrong_1 : decode cX11_wrong 1 = .ok (.iconst 0, 1) := by decide +kernel
theorem dX11_wrong_2 : decode cX11_wrong 2 = .ok (.sipush 9000, 3) := by decide +kernel
theorem dX11_wrong_5 : decode cX11_wrong 5 = .ok (.invokestatic 97, 3) := by decide +kernel
theorem dX11_wrong_8 : decode cX11_wrong 8 = .ok (.ifCond .eq 12, 3) := by decide +kernel
theorem dX11_wrong_11 : decode cX11_wrong 11 = .ok (.iload_n 2, 1) := by decide +kernel
theorem dX11_wrong_12 : decode cX11_wrong 12 = .ok (.iconst 0, 1) := by decide +kernel
theorem dX11_wrong_13 : decode cX11_wrong 13 = .ok (.iconst 1, 1) := by decide +kernel
theorem dX11_wrong_14 : decode cX11_wrong 14 = .ok (.invokestatic 97, 3) := by decide +kernel
theorem dX11_wrong_17 : decode cX11_wrong 17 = .ok (.ifCond .ne 6, 3) := by decide +kernel
theorem dX11_wrong_20 : decode cX11_wrong 20 = .ok (.bipush (-3), 2) := by decide +kernel
theorem dX11_wrong_22 : decode cX11_wrong 22 = .ok (.ireturn, 1) := by decide +kernel
theorem dX11_wrong_23 : decode cX11_wrong 23 = .ok (.iload_n 2, 1) := by decide +kernel
theorem dX11_wrong_24 : decode cX11_wrong 24 = .ok (.ifCond .ne 14, 3) := by decide +kernel
theorem dX11_wrong_27 : decode cX11_wrong 27 = .ok (.aload_n 0, 1) := by decide +kernel
theorem dX11_wrong_28 : decode cX11_wrong 28 = .ok (.getfield 65, 3) := by decide +kernel
theorem dX11_wrong_31 : decode cX11_wrong 31 = .ok (.iload_n 1, 1) := by decide +kernel
theorem dX11_wrong_32 : decode cX11_wrong 32 = .ok (.invokevirtual 262, 3) := by decide +kernel
theorem dX11_wrong_35 : decode cX11_wrong 35 = .ok (.goto 11, 3) := by decide +kernel
theorem dX11_wrong_38 : decode cX11_wrong 38 = .ok (.aload_n 0, 1) := by decide +kernel
theorem dX11_wrong_39 : decode cX11_wrong 39 = .ok (.getfield 65, 3) := by decide +kernel
theorem dX11_wrong_42 : decode cX11_wrong 42 = .ok (.iload_n 1, 1) := by decide +kernel
theorem dX11_wrong_43 : decode cX11_wrong 43 = .ok (.invokevirtual 265, 3) := by decide +kernel
theorem dX11_wrong_46 : decode cX11_wrong 46 = .ok (.ireturn, 1) := by decide +kernel
theorem dX11_about_0 : decode cX11_about 0 = .ok (.iload_n 1, 1) := by decide +kernel
theorem dX11_about_1 : decode cX11_about 1 = .ok (.invokestatic 107, 3) := by decide +kernel
theorem dX11_about_4 : decode cX11_about 4 = .ok (.ifCond .eq 10, 3) := by decide +kernel
theorem dX11_about_7 : decode cX11_about 7 = .ok (.iload_n 2, 1) := by decide +kernel
theorem dX11_about_8 : decode cX11_about 8 = .ok (.invokestatic 107, 3) := by decide +kernel
theorem dX11_about_11 : decode cX11_about 11 = .ok (.ifCond .ne 6, 3) := by decide +kernel
theorem dX11_about_14 : decode cX11_about 14 = .ok (.bipush (-3), 2) := by decide +kernel
theorem dX11_about_16 : decode cX11_about 16 = .ok (.ireturn, 1) := by decide +kernel
theorem dX11_about_17 : decode cX11_about 17 = .ok (.aload_n 0, 1) := by decide +kernel
theorem dX11_about_18 : decode cX11_about 18 = .ok (.getfield 72, 3) := by decide +kernel
theorem dX11_about_21 : decode cX11_about 21 = .ok (.iload_n 1, 1) := by decide +kernel
theorem dX11_about_22 : decode cX11_about 22 = .ok (.iload_n 2, 1) := by decide +kernel
theorem dX11_about_23 : decode cX11_about 23 = .ok (.invokevirtual 268, 3) := by decide +kernel
theorem dX11_about_26 : decode cX11_about 26 = .ok (.ireturn, 1) := by decide +kernel
theorem dX11_needle_0 : decode cX11_needle 0 = .ok (.iload_n 1, 1) := by decide +kernel
theorem dX11_needle_1 : decode cX11_needle 1 = .ok (.invokestatic 149, 3) := by decide +kernel
theorem dX11_needle_4 : decode cX11_needle 4 = .ok (.ifCond .eq 12, 3) := by decide +kernel
theorem dX11_needle_7 : decode cX11_needle 7 = .ok (.iload_n 2, 1) := by decide +kernel
theorem dX11_needle_8 : decode cX11_needle 8 = .ok (.iconst 0, 1) := by decide +kernel
theorem dX11_needle_9 : decode cX11_needle 9 = .ok (.iconst 1, 1) := by decide +kernel
theorem dX11_needle_10 : decode cX11_needle 10 = .ok (.invokestatic 97, 3) := by decide +kernel
theorem dX11_needle_13 : decode cX11_needle 13 = .ok (.ifCond .ne 6, 3) := by decide +kernel
theorem dX11_needle_16 : decode cX11_needle 16 = .ok (.bipush (-3), 2) := by decide +kernel
theorem dX11_needle_18 : decode cX11_needle 18 = .ok (.ireturn, 1) := by decide +kernel
theorem dX11_needle_19 : decode cX11_needle 19 = .ok (.aload_n 0, 1) := by decide +kernel
theorem dX11_needle_20 : decode cX11_needle 20 = .ok (.getfield 72, 3) := by decide +kernel
theorem dX11_needle_23 : decode cX11_needle 23 = .ok (.getfield 270, 3) := by decide +kernel
theorem dX11_needle_26 : decode cX11_needle 26 = .ok (.iload_n 1, 1) := by decide +kernel
theorem dX11_needle_27 : decode cX11_needle 27 = .ok (.iaload, 1) := by decide +kernel
theorem dX11_needle_28 : decode cX11_needle 28 = .ok (.ifCond .ne 5, 3) := by decide +kernel
theorem dX11_needle_31 : decode cX11_needle 31 = .ok (.iconst (-1), 1) := by decide +kernel
theorem dX11_needle_32 : decode cX11_needle 32 = .ok (.ireturn, 1) := by decide +kernel
theorem dX11_needle_33 : decode cX11_needle 33 = .ok (.iload_n 2, 1) := by decide +kernel
theorem dX11_needle_34 : decode cX11_needle 34 = .ok (.ifCond .ne 15, 3) := by decide +kernel
theorem dX11_needle_37 : decode cX11_needle 37 = .ok (.aload_n 0, 1) := by decide +kernel
theorem dX11_needle_38 : decode cX11_needle 38 = .ok (.getfield 72, 3) := by decide +kernel
theorem dX11_needle_41 : decode cX11_needle 41 = .ok (.getfield 273, 3) := by decide +kernel
theorem dX11_needle_44 : decode cX11_needle 44 = .ok (.iload_n 1, 1) := by decide +kernel
theorem dX11_needle_45 : decode cX11_needle 45 = .ok (.iaload, 1) := by decide +kernel
theorem dX11_needle_46 : decode cX11_needle 46 = .ok (.goto 12, 3) := by decide +kernel
theorem dX11_needle_49 : decode cX11_needle 49 = .ok (.aload_n 0, 1) := by decide +kernel
theorem dX11_needle_50 : decode cX11_needle 50 = .ok (.getfield 72, 3) := by decide +kernel
theorem dX11_needle_53 : decode cX11_needle 53 = .ok (.getfield 276, 3) := by decide +kernel
theorem dX11_needle_56 : decode cX11_needle 56 = .ok (.iload_n 1, 1) := by decide +kernel
theorem dX11_needle_57 : decode cX11_needle 57 = .ok (.iaload, 1) := by decide +kernel
theorem dX11_needle_58 : decode cX11_needle 58 = .ok (.ldc 166, 2) := by decide +kernel
theorem dX11_needle_60 : decode cX11_needle 60 = .ok (.iadd, 1) := by decide +kernel
theorem dX11_needle_61 : decode cX11_needle 61 = .ok (.ireturn, 1) := by decide +kernel
theorem dX11_watch_0 : decode cX11_watch 0 = .ok (.iload_n 1, 1) := by decide +kernel
theorem dX11_watch_1 : decode cX11_watch 1 = .ok (.iconst 0, 1) := by decide +kernel
theorem dX11_watch_2 : decode cX11_watch 2 = .ok (.bipush 60, 2) := by decide +kernel
theorem dX11_watch_4 : decode cX11_watch 4 = .ok (.invokestatic 97, 3) := by decide +kernel
theorem dX11_watch_7 : decode cX11_watch 7 = .ok (.ifCond .eq 10, 3) := by decide +kernel
theorem dX11_watch_10 : decode cX11_watch 10 = .ok (.iload_n 2, 1) := by decide +kernel
theorem dX11_watch_11 : decode cX11_watch 11 = .ok (.invokestatic 140, 3) := by decide +kernel
theorem dX11_watch_14 : decode cX11_watch 14 = .ok (.ifCond .ne 6, 3) := by decide +kernel
theorem dX11_watch_17 : decode cX11_watch 17 = .ok (.bipush (-3), 2) := by decide +kernel
theorem dX11_watch_19 : decode cX11_watch 19 = .ok (.ireturn, 1) := by decide +kernel
theorem dX11_watch_20 : decode cX11_watch 20 = .ok (.aload_n 0, 1) := by decide +kernel
theorem dX11_watch_21 : decode cX11_watch 21 = .ok (.getfield 79, 3) := by decide +kernel
theorem dX11_watch_24 : decode cX11_watch 24 = .ok (.iload_n 1, 1) := by decide +kernel
theorem dX11_watch_25 : decode cX11_watch 25 = .ok (.iload_n 2, 1) := by decide +kernel
theorem dX11_watch_26 : decode cX11_watch 26 = .ok (.invokevirtual 279, 3) := by decide +kernel
theorem dX11_watch_29 : decode cX11_watch 29 = .ok (.ireturn, 1) := by decide +kernel
theorem dX11_may_0 : decode cX11_may 0 = .ok (.iload_n 1, 1) := by decide +kernel
theorem dX11_may_1 : decode cX11_may 1 = .ok (.iconst 0, 1) := by decide +kernel
theorem dX11_may_2 : decode cX11_may 2 = .ok (.sipush 999, 3) := by decide +kernel
theorem dX11_may_5 : decode cX11_may 5 = .ok (.invokestatic 97, 3) := by decide +kernel
theorem dX11_may_8 : decode cX11_may 8 = .ok (.ifCond .eq 12, 3) := by decide +kernel
theorem dX11_may_11 : decode cX11_may 11 = .ok (.iload_n 2, 1) := by decide +kernel
theorem dX11_may_12 : decode cX11_may 12 = .ok (.iconst 0, 1) := by decide +kernel
theorem dX11_may_13 : decode cX11_may 13 = .ok (.iconst 2, 1) := by decide +kernel
theorem dX11_may_14 : decode cX11_may 14 = .ok (.invokestatic 97, 3) := by decide +kernel
theorem dX11_may_17 : decode cX11_may 17 = .ok (.ifCond .ne 6, 3) := by decide +kernel
theorem dX11_may_20 : decode cX11_may 20 = .ok (.bipush (-3), 2) := by decide +kernel
theorem dX11_may_22 : decode cX11_may 22 = .ok (.ireturn, 1) := by decide +kernel
theorem dX11_may_23 : decode cX11_may 23 = .ok (.aload_n 0, 1) := by decide +kernel
theorem dX11_may_24 : decode cX11_may 24 = .ok (.getfield 79, 3) := by decide +kernel
theorem dX11_may_27 : decode cX11_may 27 = .ok (.iload_n 1, 1) := by decide +kernel
theorem dX11_may_28 : decode cX11_may 28 = .ok (.invokevirtual 280, 3) := by decide +kernel
theorem dX11_may_31 : decode cX11_may 31 = .ok (.iload_n 2, 1) := by decide +kernel
theorem dX11_may_32 : decode cX11_may 32 = .ok (.ifCond .ne 11, 3) := by decide +kernel
theorem dX11_may_35 : decode cX11_may 35 = .ok (.aload_n 0, 1) := by decide +kernel
theorem dX11_may_36 : decode cX11_may 36 = .ok (.getfield 79, 3) := by decide +kernel
theorem dX11_may_39 : decode cX11_may 39 = .ok (.getfield 283, 3) := by decide +kernel
theorem dX11_may_42 : decode cX11_may 42 = .ok (.ireturn, 1) := by decide +kernel
theorem dX11_may_43 : decode cX11_may 43 = .ok (.iload_n 2, 1) := by decide +kernel
theorem dX11_may_44 : decode cX11_may 44 = .ok (.iconst 1, 1) := by decide +kernel
theorem dX11_may_45 : decode cX11_may 45 = .ok (.if_icmp .ne 13, 3) := by decide +kernel
theorem dX11_may_48 : decode cX11_may 48 = .ok (.aload_n 0, 1) := by decide +kernel
theorem dX11_may_49 : decode cX11_may 49 = .ok (.getfield 79, 3) := by decide +kernel
theorem dX11_may_52 : decode cX11_may 52 = .ok (.getfield 286, 3) := by decide +kernel
theorem dX11_may_55 : decode cX11_may 55 = .ok (.goto 10, 3) := by decide +kernel
theorem dX11_may_58 : decode cX11_may 58 = .ok (.aload_n 0, 1) := by decide +kernel
theorem dX11_may_59 : decode cX11_may 59 = .ok (.getfield 79, 3) := by decide +kernel
theorem dX11_may_62 : decode cX11_may 62 = .ok (.invokevirtual 289, 3) := by decide +kernel
theorem dX11_may_65 : decode cX11_may 65 = .ok (.ireturn, 1) := by decide +kernel
theorem dX11_count_0 : decode cX11_count 0 = .ok (.iload_n 1, 1) := by decide +kernel
theorem dX11_count_1 : decode cX11_count 1 = .ok (.tableswitch 114 0 7 #[47, 55, 63, 74, 82, 90, 98, 106], 47) := by decide +kernel
theorem dX11_count_48 : decode cX11_count 48 = .ok (.aload_n 0, 1) := by decide +kernel
theorem dX11_count_49 : decode cX11_count 49 = .ok (.getfield 28, 3) := by decide +kernel
theorem dX11_count_52 : decode cX11_count 52 = .ok (.getfield 175, 3) := by decide +kernel
theorem dX11_count_55 : decode cX11_count 55 = .ok (.ireturn, 1) := by decide +kernel
theorem dX11_count_56 : decode cX11_count 56 = .ok (.aload_n 0, 1) := by decide +kernel
theorem dX11_count_57 : decode cX11_count 57 = .ok (.getfield 28, 3) := by decide +kernel
theorem dX11_count_60 : decode cX11_count 60 = .ok (.getfield 110, 3) := by decide +kernel
theorem dX11_count_63 : decode cX11_count 63 = .ok (.ireturn, 1) := by decide +kernel
theorem dX11_count_64 : decode cX11_count 64 = .ok (.aload_n 0, 1) := by decide +kernel
theorem dX11_count_65 : decode cX11_count 65 = .ok (.getfield 28, 3) := by decide +kernel
theorem dX11_count_68 : decode cX11_count 68 = .ok (.getfield 104, 3) := by decide +kernel
theorem dX11_count_71 : decode cX11_count 71 = .ok (.bipush 50, 2) := by decide +kernel
theorem dX11_count_73 : decode cX11_count 73 = .ok (.iadd, 1) := by decide +kernel
theorem dX11_count_74 : decode cX11_count 74 = .ok (.ireturn, 1) := by decide +kernel
theorem dX11_count_75 : decode cX11_count 75 = .ok (.aload_n 0, 1) := by decide +kernel
theorem dX11_count_76 : decode cX11_count 76 = .ok (.getfield 10, 3) := by decide +kernel
theorem dX11_count_79 : decode cX11_count 79 = .ok (.getfield 120, 3) := by decide +kernel
theorem dX11_count_82 : decode cX11_count 82 = .ok (.ireturn, 1) := by decide +kernel
theorem dX11_count_83 : decode cX11_count 83 = .ok (.aload_n 0, 1) := by decide +kernel
theorem dX11_count_84 : decode cX11_count 84 = .ok (.getfield 42, 3) := by decide +kernel
theorem dX11_count_87 : decode cX11_count 87 = .ok (.getfield 189, 3) := by decide +kernel
theorem dX11_count_90 : decode cX11_count 90 = .ok (.ireturn, 1) := by decide +kernel
theorem dX11_count_91 : decode cX11_count 91 = .ok (.aload_n 0, 1) := by decide +kernel
theorem dX11_count_92 : decode cX11_count 92 = .ok (.getfield 65, 3) := by decide +kernel
theorem dX11_count_95 : decode cX11_count 95 = .ok (.getfield 292, 3) := by decide +kernel
theorem dX11_count_98 : decode cX11_count 98 = .ok (.ireturn, 1) := by decide +kernel
theorem dX11_count_99 : decode cX11_count 99 = .ok (.aload_n 0, 1) := by decide +kernel
theorem dX11_count_100 : decode cX11_count 100 = .ok (.getfield 72, 3) := by decide +kernel
theorem dX11_count_103 : decode cX11_count 103 = .ok (.getfield 293, 3) := by decide +kernel
theorem dX11_count_106 : decode cX11_count 106 = .ok (.ireturn, 1) := by decide +kernel
theorem dX11_count_107 : decode cX11_count 107 = .ok (.aload_n 0, 1) := by decide +kernel
theorem dX11_count_108 : decode cX11_count 108 = .ok (.getfield 79, 3) := by decide +kernel
theorem dX11_count_111 : decode cX11_count 111 = .ok (.getfield 294, 3) := by decide +kernel
theorem dX11_count_114 : decode cX11_count 114 = .ok (.ireturn, 1) := by decide +kernel
theorem dX11_count_115 : decode cX11_count 115 = .ok (.bipush (-3), 2) := by decide +kernel
theorem dX11_count_117 : decode cX11_count 117 = .ok (.ireturn, 1) := by decide +kernel
theorem dX11_isWithin_0 : decode cX11_isWithin 0 = .ok (.iload_n 0, 1) := by decide +kernel
theorem dX11_isWithin_1 : decode cX11_isWithin 1 = .ok (.iload_n 1, 1) := by decide +kernel
theorem dX11_isWithin_2 : decode cX11_isWithin 2 = .ok (.if_icmp .lt 12, 3) := by decide +kernel
theorem dX11_isWithin_5 : decode cX11_isWithin 5 = .ok (.iload_n 0, 1) := by decide +kernel
theorem dX11_isWithin_6 : decode cX11_isWithin 6 = .ok (.iload_n 2, 1) := by decide +kernel
theorem dX11_isWithin_7 : decode cX11_isWithin 7 = .ok (.if_icmp .gt 7, 3) := by decide +kernel
theorem dX11_isWithin_10 : decode cX11_isWithin 10 = .ok (.iconst 1, 1) := by decide +kernel
theorem dX11_isWithin_11 : decode cX11_isWithin 11 = .ok (.goto 4, 3) := by decide +kernel
theorem dX11_isWithin_14 : decode cX11_isWithin 14 = .ok (.iconst 0, 1) := by decide +kernel
theorem dX11_isWithin_15 : decode cX11_isWithin 15 = .ok (.ireturn, 1) := by decide +kernel
theorem dX11_isHeading_0 : decode cX11_isHeading 0 = .ok (.iload_n 0, 1) := by decide +kernel
theorem dX11_isHeading_1 : decode cX11_isHeading 1 = .ok (.iconst 0, 1) := by decide +kernel
theorem dX11_isHeading_2 : decode cX11_isHeading 2 = .ok (.ldc_w 295, 3) := by decide +kernel
theorem dX11_isHeading_5 : decode cX11_isHeading 5 = .ok (.invokestatic 97, 3) := by decide +kernel
theorem dX11_isHeading_8 : decode cX11_isHeading 8 = .ok (.ireturn, 1) := by decide +kernel
theorem dX11_isOff_0 : decode cX11_isOff 0 = .ok (.iload_n 0, 1) := by decide +kernel
theorem dX11_isOff_1 : decode cX11_isOff 1 = .ok (.sipush (-18000), 3) := by decide +kernel
theorem dX11_isOff_4 : decode cX11_isOff 4 = .ok (.sipush 17999, 3) := by decide +kernel
theorem dX11_isOff_7 : decode cX11_isOff 7 = .ok (.invokestatic 97, 3) := by decide +kernel
theorem dX11_isOff_10 : decode cX11_isOff 10 = .ok (.ireturn, 1) := by decide +kernel
theorem dX11_isPlace_0 : decode cX11_isPlace 0 = .ok (.iload_n 0, 1) := by decide +kernel
theorem dX11_isPlace_1 : decode cX11_isPlace 1 = .ok (.bipush (-89), 2) := by decide +kernel
theorem dX11_isPlace_3 : decode cX11_isPlace 3 = .ok (.bipush 89, 2) := by decide +kernel
theorem dX11_isPlace_5 : decode cX11_isPlace 5 = .ok (.invokestatic 97, 3) := by decide +kernel
theorem dX11_isPlace_8 : decode cX11_isPlace 8 = .ok (.ireturn, 1) := by decide +kernel
theorem dX11_isSpeed_0 : decode cX11_isSpeed 0 = .ok (.iload_n 0, 1) := by decide +kernel
theorem dX11_isSpeed_1 : decode cX11_isSpeed 1 = .ok (.iconst 0, 1) := by decide +kernel
theorem dX11_isSpeed_2 : decode cX11_isSpeed 2 = .ok (.bipush 40, 2) := by decide +kernel
theorem dX11_isSpeed_4 : decode cX11_isSpeed 4 = .ok (.invokestatic 97, 3) := by decide +kernel
theorem dX11_isSpeed_7 : decode cX11_isSpeed 7 = .ok (.ireturn, 1) := by decide +kernel
theorem dX11_isTurn_0 : decode cX11_isTurn 0 = .ok (.iload_n 0, 1) := by decide +kernel
theorem dX11_isTurn_1 : decode cX11_isTurn 1 = .ok (.sipush (-999), 3) := by decide +kernel
theorem dX11_isTurn_4 : decode cX11_isTurn 4 = .ok (.sipush 999, 3) := by decide +kernel
theorem dX11_isTurn_7 : decode cX11_isTurn 7 = .ok (.invokestatic 97, 3) := by decide +kernel
theorem dX11_isTurn_10 : decode cX11_isTurn 10 = .ok (.ireturn, 1) := by decide +kernel
theorem dX11_isEighth_0 : decode cX11_isEighth 0 = .ok (.iload_n 0, 1) := by decide +kernel
theorem dX11_isEighth_1 : decode cX11_isEighth 1 = .ok (.iconst 0, 1) := by decide +kernel
theorem dX11_isEighth_2 : decode cX11_isEighth 2 = .ok (.bipush 7, 2) := by decide +kernel
theorem dX11_isEighth_4 : decode cX11_isEighth 4 = .ok (.invokestatic 97, 3) := by decide +kernel
theorem dX11_isEighth_7 : decode cX11_isEighth 7 = .ok (.ireturn, 1) := by decide +kernel
theorem dX11_isTrial_0 : decode cX11_isTrial 0 = .ok (.iload_n 0, 1) := by decide +kernel
theorem dX11_isTrial_1 : decode cX11_isTrial 1 = .ok (.iconst 1, 1) := by decide +kernel
theorem dX11_isTrial_2 : decode cX11_isTrial 2 = .ok (.sipush 300, 3) := by decide +kernel
theorem dX11_isTrial_5 : decode cX11_isTrial 5 = .ok (.invokestatic 97, 3) := by decide +kernel
theorem dX11_isTrial_8 : decode cX11_isTrial 8 = .ok (.ireturn, 1) := by decide +kernel
theorem dX11_isQuickTurn_0 : decode cX11_isQuickTurn 0 = .ok (.iload_n 0, 1) := by decide +kernel
theorem dX11_isQuickTurn_1 : decode cX11_isQuickTurn 1 = .ok (.invokestatic 247, 3) := by decide +kernel
theorem dX11_isQuickTurn_4 : decode cX11_isQuickTurn 4 = .ok (.ifCond .eq 23, 3) := by decide +kernel
theorem dX11_isQuickTurn_7 : decode cX11_isQuickTurn 7 = .ok (.iload_n 1, 1) := by decide +kernel
theorem dX11_isQuickTurn_8 : decode cX11_isQuickTurn 8 = .ok (.iconst 0, 1) := by decide +kernel
theorem dX11_isQuickTurn_9 : decode cX11_isQuickTurn 9 = .ok (.iload_n 0, 1) := by decide +kernel
theorem dX11_isQuickTurn_10 : decode cX11_isQuickTurn 10 = .ok (.invokestatic 97, 3) := by decide +kernel
theorem dX11_isQuickTurn_13 : decode cX11_isQuickTurn 13 = .ok (.ifCond .eq 14, 3) := by decide +kernel
theorem dX11_isQuickTurn_16 : decode cX11_isQuickTurn 16 = .ok (.iload_n 2, 1) := by decide +kernel
theorem dX11_isQuickTurn_17 : decode cX11_isQuickTurn 17 = .ok (.invokestatic 113, 3) := by decide +kernel
theorem dX11_isQuickTurn_20 : decode cX11_isQuickTurn 20 = .ok (.ifCond .eq 7, 3) := by decide +kernel
theorem dX11_isQuickTurn_23 : decode cX11_isQuickTurn 23 = .ok (.iconst 1, 1) := by decide +kernel
theorem dX11_isQuickTurn_24 : decode cX11_isQuickTurn 24 = .ok (.goto 4, 3) := by decide +kernel
theorem dX11_isQuickTurn_27 : decode cX11_isQuickTurn 27 = .ok (.iconst 0, 1) := by decide +kernel
theorem dX11_isQuickTurn_28 : decode cX11_isQuickTurn 28 = .ok (.ireturn, 1) := by decide +kernel
theorem dX11_asHeading_0 : decode cX11_asHeading 0 = .ok (.iload_n 0, 1) := by decide +kernel
theorem dX11_asHeading_1 : decode cX11_asHeading 1 = .ok (.ldc_w 296, 3) := by decide +kernel
theorem dX11_asHeading_4 : decode cX11_asHeading 4 = .ok (.invokestatic 297, 3) := by decide +kernel
theorem dX11_asHeading_7 : decode cX11_asHeading 7 = .ok (.ireturn, 1) := by decide +kernel
theorem dX11_asOff_0 : decode cX11_asOff 0 = .ok (.iload_n 0, 1) := by decide +kernel
theorem dX11_asOff_1 : decode cX11_asOff 1 = .ok (.sipush 18000, 3) := by decide +kernel
theorem dX11_asOff_4 : decode cX11_asOff 4 = .ok (.iadd, 1) := by decide +kernel
theorem dX11_asOff_5 : decode cX11_asOff 5 = .ok (.ldc_w 296, 3) := by decide +kernel
theorem dX11_asOff_8 : decode cX11_asOff 8 = .ok (.invokestatic 297, 3) := by decide +kernel
theorem dX11_asOff_11 : decode cX11_asOff 11 = .ok (.sipush 18000, 3) := by decide +kernel
theorem dX11_asOff_14 : decode cX11_asOff 14 = .ok (.isub, 1) := by decide +kernel
theorem dX11_asOff_15 : decode cX11_asOff 15 = .ok (.ireturn, 1) := by decide +kernel
theorem dX11_apart_0 : decode cX11_apart 0 = .ok (.iload_n 0, 1) := by decide +kernel
theorem dX11_apart_1 : decode cX11_apart 1 = .ok (.iload_n 1, 1) := by decide +kernel
theorem dX11_apart_2 : decode cX11_apart 2 = .ok (.isub, 1) := by decide +kernel
theorem dX11_apart_3 : decode cX11_apart 3 = .ok (.invokestatic 302, 3) := by decide +kernel
theorem dX11_apart_6 : decode cX11_apart 6 = .ok (.invokestatic 305, 3) := by decide +kernel
theorem dX11_apart_9 : decode cX11_apart 9 = .ok (.ireturn, 1) := by decide +kernel
theorem dX11_bounded_0 : decode cX11_bounded 0 = .ok (.iload_n 1, 1) := by decide +kernel
theorem dX11_bounded_1 : decode cX11_bounded 1 = .ok (.ineg, 1) := by decide +kernel
theorem dX11_bounded_2 : decode cX11_bounded 2 = .ok (.iload_n 1, 1) := by decide +kernel
theorem dX11_bounded_3 : decode cX11_bounded 3 = .ok (.iload_n 0, 1) := by decide +kernel
theorem dX11_bounded_4 : decode cX11_bounded 4 = .ok (.invokestatic 308, 3) := by decide +kernel
theorem dX11_bounded_7 : decode cX11_bounded 7 = .ok (.invokestatic 311, 3) := by decide +kernel
theorem dX11_bounded_10 : decode cX11_bounded 10 = .ok (.ireturn, 1) := by decide +kernel
theorem dX11_holdOf_0 : decode cX11_holdOf 0 = .ok (.bipush 90, 2) := by decide +kernel
theorem dX11_holdOf_2 : decode cX11_holdOf 2 = .ok (.iload_n 0, 1) := by decide +kernel
theorem dX11_holdOf_3 : decode cX11_holdOf 3 = .ok (.invokestatic 305, 3) := by decide +kernel
theorem dX11_holdOf_6 : decode cX11_holdOf 6 = .ok (.isub, 1) := by decide +kernel
theorem dX11_holdOf_7 : decode cX11_holdOf 7 = .ok (.ireturn, 1) := by decide +kernel
theorem dX11_leanOf_0 : decode cX11_leanOf 0 = .ok (.iload_n 1, 1) := by decide +kernel
theorem dX11_leanOf_1 : decode cX11_leanOf 1 = .ok (.invokestatic 213, 3) := by decide +kernel
theorem dX11_leanOf_4 : decode cX11_leanOf 4 = .ok (.istore_n 3, 1) := by decide +kernel
theorem dX11_leanOf_5 : decode cX11_leanOf 5 = .ok (.iload_n 2, 1) := by decide +kernel
theorem dX11_leanOf_6 : decode cX11_leanOf 6 = .ok (.ldc_w 296, 3) := by decide +kernel
theorem dX11_leanOf_9 : decode cX11_leanOf 9 = .ok (.iload_n 2, 1) := by decide +kernel
theorem dX11_leanOf_10 : decode cX11_leanOf 10 = .ok (.isub, 1) := by decide +kernel
theorem dX11_leanOf_11 : decode cX11_leanOf 11 = .ok (.invokestatic 308, 3) := by decide +kernel
theorem dX11_leanOf_14 : decode cX11_leanOf 14 = .ok (.bipush 100, 2) := by decide +kernel
theorem dX11_leanOf_16 : decode cX11_leanOf 16 = .ok (.idiv, 1) := by decide +kernel
theorem dX11_leanOf_17 : decode cX11_leanOf 17 = .ok (.istore 4, 2) := by decide +kernel
theorem dX11_leanOf_19 : decode cX11_leanOf 19 = .ok (.iload_n 3, 1) := by decide +kernel
theorem dX11_leanOf_20 : decode cX11_leanOf 20 = .ok (.iconst 1, 1) := by decide +kernel
theorem dX11_leanOf_21 : decode cX11_leanOf 21 = .ok (.if_icmp .ge 7, 3) := by decide +kernel
theorem dX11_leanOf_24 : decode cX11_leanOf 24 = .ok (.iconst 0, 1) := by decide +kernel
theorem dX11_leanOf_25 : decode cX11_leanOf 25 = .ok (.goto 15, 3) := by decide +kernel
theorem dX11_leanOf_28 : decode cX11_leanOf 28 = .ok (.iload_n 0, 1) := by decide +kernel
theorem dX11_leanOf_29 : decode cX11_leanOf 29 = .ok (.bipush 90, 2) := by decide +kernel
theorem dX11_leanOf_31 : decode cX11_leanOf 31 = .ok (.iload 4, 2) := by decide +kernel
theorem dX11_leanOf_33 : decode cX11_leanOf 33 = .ok (.isub, 1) := by decide +kernel
theorem dX11_leanOf_34 : decode cX11_leanOf 34 = .ok (.imul, 1) := by decide +kernel
theorem dX11_leanOf_35 : decode cX11_leanOf 35 = .ok (.bipush 20, 2) := by decide +kernel
theorem dX11_leanOf_37 : decode cX11_leanOf 37 = .ok (.imul, 1) := by decide +kernel
theorem dX11_leanOf_38 : decode cX11_leanOf 38 = .ok (.iload_n 3, 1) := by decide +kernel
theorem dX11_leanOf_39 : decode cX11_leanOf 39 = .ok (.idiv, 1) := by decide +kernel
theorem dX11_leanOf_40 : decode cX11_leanOf 40 = .ok (.ireturn, 1) := by decide +kernel
theorem dJ9_floorMod_7cf53_0 : decode cJ9_floorMod_7cf53 0 = .ok (.iload_n 0, 1) := by decide +kernel
theorem dJ9_floorMod_7cf53_1 : decode cJ9_floorMod_7cf53 1 = .ok (.iload_n 1, 1) := by decide +kernel
theorem dJ9_floorMod_7cf53_2 : decode cJ9_floorMod_7cf53 2 = .ok (.irem, 1) := by decide +kernel
theorem dJ9_floorMod_7cf53_3 : decode cJ9_floorMod_7cf53 3 = .ok (.istore_n 2, 1) := by decide +kernel
theorem dJ9_floorMod_7cf53_4 : decode cJ9_floorMod_7cf53 4 = .ok (.iload_n 0, 1) := by decide +kernel
theorem dJ9_floorMod_7cf53_5 : decode cJ9_floorMod_7cf53 5 = .ok (.iload_n 1, 1) := by decide +kernel
theorem dJ9_floorMod_7cf53_6 : decode cJ9_floorMod_7cf53 6 = .ok (.ixor, 1) := by decide +kernel
theorem dJ9_floorMod_7cf53_7 : decode cJ9_floorMod_7cf53 7 = .ok (.ifCond .ge 11, 3) := by decide +kernel
theorem dJ9_floorMod_7cf53_10 : decode cJ9_floorMod_7cf53 10 = .ok (.iload_n 2, 1) := by decide +kernel
theorem dJ9_floorMod_7cf53_11 : decode cJ9_floorMod_7cf53 11 = .ok (.ifCond .eq 7, 3) := by decide +kernel
theorem dJ9_floorMod_7cf53_14 : decode cJ9_floorMod_7cf53 14 = .ok (.iload_n 2, 1) := by decide +kernel
theorem dJ9_floorMod_7cf53_15 : decode cJ9_floorMod_7cf53 15 = .ok (.iload_n 1, 1) := by decide +kernel
theorem dJ9_floorMod_7cf53_16 : decode cJ9_floorMod_7cf53 16 = .ok (.iadd, 1) := by decide +kernel
theorem dJ9_floorMod_7cf53_17 : decode cJ9_floorMod_7cf53 17 = .ok (.ireturn, 1) := by decide +kernel
theorem dJ9_floorMod_7cf53_18 : decode cJ9_floorMod_7cf53 18 = .ok (.iload_n 2, 1) := by decide +kernel
theorem dJ9_floorMod_7cf53_19 : decode cJ9_floorMod_7cf53 19 = .ok (.ireturn, 1) := by decide +kernel
theorem dJ9_abs_0f7a4_0 : decode cJ9_abs_0f7a4 0 = .ok (.iload_n 0, 1) := by decide +kernel
theorem dJ9_abs_0f7a4_1 : decode cJ9_abs_0f7a4 1 = .ok (.ifCond .ge 8, 3) := by decide +kernel
theorem dJ9_abs_0f7a4_4 : decode cJ9_abs_0f7a4 4 = .ok (.iload_n 0, 1) := by decide +kernel
theorem dJ9_abs_0f7a4_5 : decode cJ9_abs_0f7a4 5 = .ok (.ineg, 1) := by decide +kernel
theorem dJ9_abs_0f7a4_6 : decode cJ9_abs_0f7a4 6 = .ok (.goto 4, 3) := by decide +kernel
theorem dJ9_abs_0f7a4_9 : decode cJ9_abs_0f7a4 9 = .ok (.iload_n 0, 1) := by decide +kernel
theorem dJ9_abs_0f7a4_10 : decode cJ9_abs_0f7a4 10 = .ok (.ireturn, 1) := by decide +kernel
theorem dJ9_max_7cf53_0 : decode cJ9_max_7cf53 0 = .ok (.iload_n 0, 1) := by decide +kernel
theorem dJ9_max_7cf53_1 : decode cJ9_max_7cf53 1 = .ok (.iload_n 1, 1) := by decide +kernel
theorem dJ9_max_7cf53_2 : decode cJ9_max_7cf53 2 = .ok (.if_icmp .lt 7, 3) := by decide +kernel
theorem dJ9_max_7cf53_5 : decode cJ9_max_7cf53 5 = .ok (.iload_n 0, 1) := by decide +kernel
theorem dJ9_max_7cf53_6 : decode cJ9_max_7cf53 6 = .ok (.goto 4, 3) := by decide +kernel
theorem dJ9_max_7cf53_9 : decode cJ9_max_7cf53 9 = .ok (.iload_n 1, 1) := by decide +kernel
theorem dJ9_max_7cf53_10 : decode cJ9_max_7cf53 10 = .ok (.ireturn, 1) := by decide +kernel
theorem dJ9_min_7cf53_0 : decode cJ9_min_7cf53 0 = .ok (.iload_n 0, 1) := by decide +kernel
theorem dJ9_min_7cf53_1 : decode cJ9_min_7cf53 1 = .ok (.iload_n 1, 1) := by decide +kernel
theorem dJ9_min_7cf53_2 : decode cJ9_min_7cf53 2 = .ok (.if_icmp .gt 7, 3) := by decide +kernel
theorem dJ9_min_7cf53_5 : decode cJ9_min_7cf53 5 = .ok (.iload_n 0, 1) := by decide +kernel
theorem dJ9_min_7cf53_6 : decode cJ9_min_7cf53 6 = .ok (.goto 4, 3) := by decide +kernel
theorem dJ9_min_7cf53_9 : decode cJ9_min_7cf53 9 = .ok (.iload_n 1, 1) := by decide +kernel
theorem dJ9_min_7cf53_10 : decode cJ9_min_7cf53 10 = .ok (.ireturn, 1) := by decide +kernel
theorem dJ0_length_8abf5_0 : decode cJ0_length_8abf5 0 = .ok (.aload_n 0, 1) := by decide +kernel
theorem dJ0_length_8abf5_1 : decode cJ0_length_8abf5 1 = .ok (.getfield 9, 3) := by decide +kernel
theorem dJ0_length_8abf5_4 : decode cJ0_length_8abf5 4 = .ok (.arraylength, 1) := by decide +kernel
theorem dJ0_length_8abf5_5 : decode cJ0_length_8abf5 5 = .ok (.aload_n 0, 1) := by decide +kernel
theorem dJ0_length_8abf5_6 : decode cJ0_length_8abf5 6 = .ok (.invokevirtual 335, 3) := by decide +kernel
theorem dJ0_length_8abf5_9 : decode cJ0_length_8abf5 9 = .ok (.ishr, 1) := by decide +kernel
theorem dJ0_length_8abf5_10 : decode cJ0_length_8abf5 10 = .ok (.ireturn, 1) := by decide +kernel
theorem dJ0_charAt_5068e_0 : decode cJ0_charAt_5068e 0 = .ok (.aload_n 0, 1) := by decide +kernel
theorem dJ0_charAt_5068e_1 : decode cJ0_charAt_5068e 1 = .ok (.invokevirtual 492, 3) := by decide +kernel
theorem dJ0_charAt_5068e_4 : decode cJ0_charAt_5068e 4 = .ok (.ifCond .eq 12, 3) := by decide +kernel
theorem dJ0_charAt_5068e_7 : decode cJ0_charAt_5068e 7 = .ok (.aload_n 0, 1) := by decide +kernel
theorem dJ0_charAt_5068e_8 : decode cJ0_charAt_5068e 8 = .ok (.getfield 9, 3) := by decide +kernel
theorem dJ0_charAt_5068e_11 : decode cJ0_charAt_5068e 11 = .ok (.iload_n 1, 1) := by decide +kernel
theorem dJ0_charAt_5068e_12 : decode cJ0_charAt_5068e 12 = .ok (.invokestatic 495, 3) := by decide +kernel
theorem dJ0_charAt_5068e_15 : decode cJ0_charAt_5068e 15 = .ok (.ireturn, 1) := by decide +kernel
theorem dJ0_charAt_5068e_16 : decode cJ0_charAt_5068e 16 = .ok (.aload_n 0, 1) := by decide +kernel
theorem dJ0_charAt_5068e_17 : decode cJ0_charAt_5068e 17 = .ok (.getfield 9, 3) := by decide +kernel
theorem dJ0_charAt_5068e_20 : decode cJ0_charAt_5068e 20 = .ok (.iload_n 1, 1) := by decide +kernel
theorem dJ0_charAt_5068e_21 : decode cJ0_charAt_5068e 21 = .ok (.invokestatic 498, 3) := by decide +kernel
theorem dJ0_charAt_5068e_24 : decode cJ0_charAt_5068e 24 = .ok (.ireturn, 1) := by decide +kernel
theorem dJ0_coder_7d493_0 : decode cJ0_coder_7d493 0 = .ok (.getstatic 38, 3) := by decide +kernel
theorem dJ0_coder_7d493_3 : decode cJ0_coder_7d493 3 = .ok (.ifCond .eq 10, 3) := by decide +kernel
theorem dJ0_coder_7d493_6 : decode cJ0_coder_7d493 6 = .ok (.aload_n 0, 1) := by decide +kernel
theorem dJ0_coder_7d493_7 : decode cJ0_coder_7d493 7 = .ok (.getfield 15, 3) := by decide +kernel
theorem dJ0_coder_7d493_10 : decode cJ0_coder_7d493 10 = .ok (.goto 4, 3) := by decide +kernel
theorem dJ0_coder_7d493_13 : decode cJ0_coder_7d493 13 = .ok (.iconst 1, 1) := by decide +kernel
theorem dJ0_coder_7d493_14 : decode cJ0_coder_7d493 14 = .ok (.ireturn, 1) := by decide +kernel
theorem dJ0_isLatin1_aae02_0 : decode cJ0_isLatin1_aae02 0 = .ok (.getstatic 38, 3) := by decide +kernel
theorem dJ0_isLatin1_aae02_3 : decode cJ0_isLatin1_aae02 3 = .ok (.ifCond .eq 14, 3) := by decide +kernel
theorem dJ0_isLatin1_aae02_6 : decode cJ0_isLatin1_aae02 6 = .ok (.aload_n 0, 1) := by decide +kernel
theorem dJ0_isLatin1_aae02_7 : decode cJ0_isLatin1_aae02 7 = .ok (.getfield 15, 3) := by decide +kernel
theorem dJ0_isLatin1_aae02_10 : decode cJ0_isLatin1_aae02 10 = .ok (.ifCond .ne 7, 3) := by decide +kernel
theorem dJ0_isLatin1_aae02_13 : decode cJ0_isLatin1_aae02 13 = .ok (.iconst 1, 1) := by decide +kernel
theorem dJ0_isLatin1_aae02_14 : decode cJ0_isLatin1_aae02 14 = .ok (.goto 4, 3) := by decide +kernel
theorem dJ0_isLatin1_aae02_17 : decode cJ0_isLatin1_aae02 17 = .ok (.iconst 0, 1) := by decide +kernel
theorem dJ0_isLatin1_aae02_18 : decode cJ0_isLatin1_aae02 18 = .ok (.ireturn, 1) := by decide +kernel
theorem dJ0_checkIndex_df160_0 : decode cJ0_checkIndex_df160 0 = .ok (.iload_n 0, 1) := by decide +kernel
theorem dJ0_checkIndex_df160_1 : decode cJ0_checkIndex_df160 1 = .ok (.iload_n 1, 1) := by decide +kernel
theorem dJ0_checkIndex_df160_2 : decode cJ0_checkIndex_df160 2 = .ok (.getstatic 1053, 3) := by decide +kernel
theorem dJ0_checkIndex_df160_5 : decode cJ0_checkIndex_df160 5 = .ok (.invokestatic 1059, 3) := by decide +kernel
theorem dJ0_checkIndex_df160_8 : decode cJ0_checkIndex_df160 8 = .ok (.pop, 1) := by decide +kernel
theorem dJ0_checkIndex_df160_9 : decode cJ0_checkIndex_df160 9 = .ok (.return_, 1) := by decide +kernel
theorem dJ1_charAt_3b067_0 : decode cJ1_charAt_3b067 0 = .ok (.iload_n 1, 1) := by decide +kernel
theorem dJ1_charAt_3b067_1 : decode cJ1_charAt_3b067 1 = .ok (.aload_n 0, 1) := by decide +kernel
theorem dJ1_charAt_3b067_2 : decode cJ1_charAt_3b067 2 = .ok (.arraylength, 1) := by decide +kernel
theorem dJ1_charAt_3b067_3 : decode cJ1_charAt_3b067 3 = .ok (.invokestatic 9, 3) := by decide +kernel
theorem dJ1_charAt_3b067_6 : decode cJ1_charAt_3b067 6 = .ok (.aload_n 0, 1) := by decide +kernel
theorem dJ1_charAt_3b067_7 : decode cJ1_charAt_3b067 7 = .ok (.iload_n 1, 1) := by decide +kernel
theorem dJ1_charAt_3b067_8 : decode cJ1_charAt_3b067 8 = .ok (.baload, 1) := by decide +kernel
theorem dJ1_charAt_3b067_9 : decode cJ1_charAt_3b067 9 = .ok (.sipush 255, 3) := by decide +kernel
theorem dJ1_charAt_3b067_12 : decode cJ1_charAt_3b067 12 = .ok (.iand, 1) := by decide +kernel
theorem dJ1_charAt_3b067_13 : decode cJ1_charAt_3b067 13 = .ok (.i2c, 1) := by decide +kernel
theorem dJ1_charAt_3b067_14 : decode cJ1_charAt_3b067 14 = .ok (.ireturn, 1) := by decide +kernel
theorem dJ2_getChar_3b067_0 : decode cJ2_getChar_3b067 0 = .ok (.getstatic 44, 3) := by decide +kernel
theorem dJ2_getChar_3b067_3 : decode cJ2_getChar_3b067 3 = .ok (.ifCond .ne 25, 3) := by decide +kernel
theorem dJ2_getChar_3b067_6 : decode cJ2_getChar_3b067 6 = .ok (.iload_n 1, 1) := by decide +kernel
theorem dJ2_getChar_3b067_7 : decode cJ2_getChar_3b067 7 = .ok (.ifCond .lt 11, 3) := by decide +kernel
theorem dJ2_getChar_3b067_10 : decode cJ2_getChar_3b067 10 = .ok (.iload_n 1, 1) := by decide +kernel
theorem dJ2_getChar_3b067_11 : decode cJ2_getChar_3b067 11 = .ok (.aload_n 0, 1) := by decide +kernel
theorem dJ2_getChar_3b067_12 : decode cJ2_getChar_3b067 12 = .ok (.invokestatic 48, 3) := by decide +kernel
theorem dJ2_getChar_3b067_15 : decode cJ2_getChar_3b067 15 = .ok (.if_icmp .lt 13, 3) := by decide +kernel
theorem dJ2_getChar_3b067_18 : decode cJ2_getChar_3b067 18 = .ok (.new 52, 3) := by decide +kernel
theorem dJ2_getChar_3b067_21 : decode cJ2_getChar_3b067 21 = .ok (.dup, 1) := by decide +kernel
theorem dJ2_getChar_3b067_22 : decode cJ2_getChar_3b067 22 = .ok (.ldc 54, 2) := by decide +kernel
theorem dJ2_getChar_3b067_24 : decode cJ2_getChar_3b067 24 = .ok (.invokespecial 56, 3) := by decide +kernel
theorem dJ2_getChar_3b067_27 : decode cJ2_getChar_3b067 27 = .ok (.athrow, 1) := by decide +kernel
theorem dJ2_getChar_3b067_28 : decode cJ2_getChar_3b067 28 = .ok (.iload_n 1, 1) := by decide +kernel
theorem dJ2_getChar_3b067_29 : decode cJ2_getChar_3b067 29 = .ok (.iconst 1, 1) := by decide +kernel
theorem dJ2_getChar_3b067_30 : decode cJ2_getChar_3b067 30 = .ok (.ishl, 1) := by decide +kernel
theorem dJ2_getChar_3b067_31 : decode cJ2_getChar_3b067 31 = .ok (.istore_n 1, 1) := by decide +kernel
theorem dJ2_getChar_3b067_32 : decode cJ2_getChar_3b067 32 = .ok (.aload_n 0, 1) := by decide +kernel
theorem dJ2_getChar_3b067_33 : decode cJ2_getChar_3b067 33 = .ok (.iload_n 1, 1) := by decide +kernel
theorem dJ2_getChar_3b067_34 : decode cJ2_getChar_3b067 34 = .ok (.iinc 1 1, 3) := by decide +kernel
theorem dJ2_getChar_3b067_37 : decode cJ2_getChar_3b067 37 = .ok (.baload, 1) := by decide +kernel
theorem dJ2_getChar_3b067_38 : decode cJ2_getChar_3b067 38 = .ok (.sipush 255, 3) := by decide +kernel
theorem dJ2_getChar_3b067_41 : decode cJ2_getChar_3b067 41 = .ok (.iand, 1) := by decide +kernel
theorem dJ2_getChar_3b067_42 : decode cJ2_getChar_3b067 42 = .ok (.getstatic 59, 3) := by decide +kernel
theorem dJ2_getChar_3b067_45 : decode cJ2_getChar_3b067 45 = .ok (.ishl, 1) := by decide +kernel
theorem dJ2_getChar_3b067_46 : decode cJ2_getChar_3b067 46 = .ok (.aload_n 0, 1) := by decide +kernel
theorem dJ2_getChar_3b067_47 : decode cJ2_getChar_3b067 47 = .ok (.iload_n 1, 1) := by decide +kernel
theorem dJ2_getChar_3b067_48 : decode cJ2_getChar_3b067 48 = .ok (.baload, 1) := by decide +kernel
theorem dJ2_getChar_3b067_49 : decode cJ2_getChar_3b067 49 = .ok (.sipush 255, 3) := by decide +kernel
theorem dJ2_getChar_3b067_52 : decode cJ2_getChar_3b067 52 = .ok (.iand, 1) := by decide +kernel
theorem dJ2_getChar_3b067_53 : decode cJ2_getChar_3b067 53 = .ok (.getstatic 63, 3) := by decide +kernel
theorem dJ2_getChar_3b067_56 : decode cJ2_getChar_3b067 56 = .ok (.ishl, 1) := by decide +kernel
theorem dJ2_getChar_3b067_57 : decode cJ2_getChar_3b067 57 = .ok (.ior, 1) := by decide +kernel
theorem dJ2_getChar_3b067_58 : decode cJ2_getChar_3b067 58 = .ok (.i2c, 1) := by decide +kernel
theorem dJ2_getChar_3b067_59 : decode cJ2_getChar_3b067 59 = .ok (.ireturn, 1) := by decide +kernel
theorem dJ2_length_9d52b_0 : decode cJ2_length_9d52b 0 = .ok (.aload_n 0, 1) := by decide +kernel
theorem dJ2_length_9d52b_1 : decode cJ2_length_9d52b 1 = .ok (.arraylength, 1) := by decide +kernel
theorem dJ2_length_9d52b_2 : decode cJ2_length_9d52b 2 = .ok (.iconst 1, 1) := by decide +kernel
theorem dJ2_length_9d52b_3 : decode cJ2_length_9d52b 3 = .ok (.ishr, 1) := by decide +kernel
theorem dJ2_length_9d52b_4 : decode cJ2_length_9d52b 4 = .ok (.ireturn, 1) := by decide +kernel
theorem dJ2_charAt_3b067_0 : decode cJ2_charAt_3b067 0 = .ok (.iload_n 1, 1) := by decide +kernel
theorem dJ2_charAt_3b067_1 : decode cJ2_charAt_3b067 1 = .ok (.aload_n 0, 1) := by decide +kernel
theorem dJ2_charAt_3b067_2 : decode cJ2_charAt_3b067 2 = .ok (.invokestatic 67, 3) := by decide +kernel
theorem dJ2_charAt_3b067_5 : decode cJ2_charAt_3b067 5 = .ok (.aload_n 0, 1) := by decide +kernel
theorem dJ2_charAt_3b067_6 : decode cJ2_charAt_3b067 6 = .ok (.iload_n 1, 1) := by decide +kernel
theorem dJ2_charAt_3b067_7 : decode cJ2_charAt_3b067 7 = .ok (.invokestatic 71, 3) := by decide +kernel
theorem dJ2_charAt_3b067_10 : decode cJ2_charAt_3b067 10 = .ok (.ireturn, 1) := by decide +kernel
theorem dJ2_checkIndex_2214a_0 : decode cJ2_checkIndex_2214a 0 = .ok (.iload_n 0, 1) := by decide +kernel
theorem dJ2_checkIndex_2214a_1 : decode cJ2_checkIndex_2214a 1 = .ok (.aload_n 1, 1) := by decide +kernel
theorem dJ2_checkIndex_2214a_2 : decode cJ2_checkIndex_2214a 2 = .ok (.invokestatic 48, 3) := by decide +kernel
theorem dJ2_checkIndex_2214a_5 : decode cJ2_checkIndex_2214a 5 = .ok (.invokestatic 414, 3) := by decide +kernel
theorem dJ2_checkIndex_2214a_8 : decode cJ2_checkIndex_2214a 8 = .ok (.return_, 1) := by decide +kernel
theorem dJ3_checkIndex_8e157_0 : decode cJ3_checkIndex_8e157 0 = .ok (.iload_n 0, 1) := by decide +kernel
theorem dJ3_checkIndex_8e157_1 : decode cJ3_checkIndex_8e157 1 = .ok (.ifCond .lt 8, 3) := by decide +kernel
theorem dJ3_checkIndex_8e157_4 : decode cJ3_checkIndex_8e157 4 = .ok (.iload_n 0, 1) := by decide +kernel
theorem dJ3_checkIndex_8e157_5 : decode cJ3_checkIndex_8e157 5 = .ok (.iload_n 1, 1) := by decide +kernel
theorem dJ3_checkIndex_8e157_6 : decode cJ3_checkIndex_8e157 6 = .ok (.if_icmp .lt 10, 3) := by decide +kernel
theorem dJ3_checkIndex_8e157_9 : decode cJ3_checkIndex_8e157 9 = .ok (.aload_n 2, 1) := by decide +kernel
theorem dJ3_checkIndex_8e157_10 : decode cJ3_checkIndex_8e157 10 = .ok (.iload_n 0, 1) := by decide +kernel
theorem dJ3_checkIndex_8e157_11 : decode cJ3_checkIndex_8e157 11 = .ok (.iload_n 1, 1) := by decide +kernel
theorem dJ3_checkIndex_8e157_12 : decode cJ3_checkIndex_8e157 12 = .ok (.invokestatic 95, 3) := by decide +kernel
theorem dJ3_checkIndex_8e157_15 : decode cJ3_checkIndex_8e157 15 = .ok (.athrow, 1) := by decide +kernel
theorem dJ3_checkIndex_8e157_16 : decode cJ3_checkIndex_8e157 16 = .ok (.iload_n 0, 1) := by decide +kernel
theorem dJ3_checkIndex_8e157_17 : decode cJ3_checkIndex_8e157 17 = .ok (.ireturn, 1) := by decide +kernel
