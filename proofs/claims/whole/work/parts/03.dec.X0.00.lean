theorem dX0_init_0 : decode cX0_init 0 = .ok (.aload_n 0, 1) := by decide +kernel
theorem dX0_init_1 : decode cX0_init 1 = .ok (.invokespecial 3, 3) := by decide +kernel
theorem dX0_init_4 : decode cX0_init 4 = .ok (.aload_n 0, 1) := by decide +kernel
theorem dX0_init_5 : decode cX0_init 5 = .ok (.sipush 256, 3) := by decide +kernel
theorem dX0_init_8 : decode cX0_init 8 = .ok (.newarray .boolean, 2) := by decide +kernel
theorem dX0_init_10 : decode cX0_init 10 = .ok (.putfield 9, 3) := by decide +kernel
theorem dX0_init_13 : decode cX0_init 13 = .ok (.aload_n 0, 1) := by decide +kernel
theorem dX0_init_14 : decode cX0_init 14 = .ok (.sipush 256, 3) := by decide +kernel
theorem dX0_init_17 : decode cX0_init 17 = .ok (.newarray .int, 2) := by decide +kernel
theorem dX0_init_19 : decode cX0_init 19 = .ok (.putfield 15, 3) := by decide +kernel
theorem dX0_init_22 : decode cX0_init 22 = .ok (.aload_n 0, 1) := by decide +kernel
theorem dX0_init_23 : decode cX0_init 23 = .ok (.sipush 256, 3) := by decide +kernel
theorem dX0_init_26 : decode cX0_init 26 = .ok (.newarray .int, 2) := by decide +kernel
theorem dX0_init_28 : decode cX0_init 28 = .ok (.putfield 19, 3) := by decide +kernel
theorem dX0_init_31 : decode cX0_init 31 = .ok (.return_, 1) := by decide +kernel
theorem dX0_measure_0 : decode cX0_measure 0 = .ok (.iload_n 2, 1) := by decide +kernel
theorem dX0_measure_1 : decode cX0_measure 1 = .ok (.ifCond .ne 9, 3) := by decide +kernel
theorem dX0_measure_4 : decode cX0_measure 4 = .ok (.aload_n 1, 1) := by decide +kernel
theorem dX0_measure_5 : decode cX0_measure 5 = .ok (.iload_n 3, 1) := by decide +kernel
theorem dX0_measure_6 : decode cX0_measure 6 = .ok (.invokestatic 22, 3) := by decide +kernel
theorem dX0_measure_9 : decode cX0_measure 9 = .ok (.ireturn, 1) := by decide +kernel
theorem dX0_measure_10 : decode cX0_measure 10 = .ok (.aload_n 0, 1) := by decide +kernel
theorem dX0_measure_11 : decode cX0_measure 11 = .ok (.aload_n 1, 1) := by decide +kernel
theorem dX0_measure_12 : decode cX0_measure 12 = .ok (.iload_n 3, 1) := by decide +kernel
theorem dX0_measure_13 : decode cX0_measure 13 = .ok (.invokevirtual 26, 3) := by decide +kernel
theorem dX0_measure_16 : decode cX0_measure 16 = .ok (.iload_n 2, 1) := by decide +kernel
theorem dX0_measure_17 : decode cX0_measure 17 = .ok (.iconst 1, 1) := by decide +kernel
theorem dX0_measure_18 : decode cX0_measure 18 = .ok (.if_icmp .ne 11, 3) := by decide +kernel
theorem dX0_measure_21 : decode cX0_measure 21 = .ok (.aload_n 0, 1) := by decide +kernel
theorem dX0_measure_22 : decode cX0_measure 22 = .ok (.aload_n 1, 1) := by decide +kernel
theorem dX0_measure_23 : decode cX0_measure 23 = .ok (.invokevirtual 30, 3) := by decide +kernel
theorem dX0_measure_26 : decode cX0_measure 26 = .ok (.goto 8, 3) := by decide +kernel
theorem dX0_measure_29 : decode cX0_measure 29 = .ok (.aload_n 0, 1) := by decide +kernel
theorem dX0_measure_30 : decode cX0_measure 30 = .ok (.aload_n 1, 1) := by decide +kernel
theorem dX0_measure_31 : decode cX0_measure 31 = .ok (.invokevirtual 34, 3) := by decide +kernel
theorem dX0_measure_34 : decode cX0_measure 34 = .ok (.ireturn, 1) := by decide +kernel
theorem dX0_leastGreatest_0 : decode cX0_leastGreatest 0 = .ok (.iconst (-1), 1) := by decide +kernel
theorem dX0_leastGreatest_1 : decode cX0_leastGreatest 1 = .ok (.istore 4, 2) := by decide +kernel
theorem dX0_leastGreatest_3 : decode cX0_leastGreatest 3 = .ok (.iconst (-1), 1) := by decide +kernel
theorem dX0_leastGreatest_4 : decode cX0_leastGreatest 4 = .ok (.istore 5, 2) := by decide +kernel
theorem dX0_leastGreatest_6 : decode cX0_leastGreatest 6 = .ok (.iconst 0, 1) := by decide +kernel
theorem dX0_leastGreatest_7 : decode cX0_leastGreatest 7 = .ok (.istore 6, 2) := by decide +kernel
theorem dX0_leastGreatest_9 : decode cX0_leastGreatest 9 = .ok (.iload 6, 2) := by decide +kernel
theorem dX0_leastGreatest_11 : decode cX0_leastGreatest 11 = .ok (.aload_n 1, 1) := by decide +kernel
theorem dX0_leastGreatest_12 : decode cX0_leastGreatest 12 = .ok (.getfield 37, 3) := by decide +kernel
theorem dX0_leastGreatest_15 : decode cX0_leastGreatest 15 = .ok (.arraylength, 1) := by decide +kernel
theorem dX0_leastGreatest_16 : decode cX0_leastGreatest 16 = .ok (.if_icmp .ge 62, 3) := by decide +kernel
theorem dX0_leastGreatest_19 : decode cX0_leastGreatest 19 = .ok (.iload 5, 2) := by decide +kernel
theorem dX0_leastGreatest_21 : decode cX0_leastGreatest 21 = .ok (.aload_n 1, 1) := by decide +kernel
theorem dX0_leastGreatest_22 : decode cX0_leastGreatest 22 = .ok (.getfield 43, 3) := by decide +kernel
theorem dX0_leastGreatest_25 : decode cX0_leastGreatest 25 = .ok (.if_icmp .ge 53, 3) := by decide +kernel
theorem dX0_leastGreatest_28 : decode cX0_leastGreatest 28 = .ok (.iload_n 3, 1) := by decide +kernel
theorem dX0_leastGreatest_29 : decode cX0_leastGreatest 29 = .ok (.iconst 2, 1) := by decide +kernel
theorem dX0_leastGreatest_30 : decode cX0_leastGreatest 30 = .ok (.if_icmp .eq 17, 3) := by decide +kernel
theorem dX0_leastGreatest_33 : decode cX0_leastGreatest 33 = .ok (.aload_n 1, 1) := by decide +kernel
theorem dX0_leastGreatest_34 : decode cX0_leastGreatest 34 = .ok (.getfield 37, 3) := by decide +kernel
theorem dX0_leastGreatest_37 : decode cX0_leastGreatest 37 = .ok (.iload 6, 2) := by decide +kernel
theorem dX0_leastGreatest_39 : decode cX0_leastGreatest 39 = .ok (.baload, 1) := by decide +kernel
theorem dX0_leastGreatest_40 : decode cX0_leastGreatest 40 = .ok (.iload_n 3, 1) := by decide +kernel
theorem dX0_leastGreatest_41 : decode cX0_leastGreatest 41 = .ok (.if_icmp .eq 6, 3) := by decide +kernel
theorem dX0_leastGreatest_44 : decode cX0_leastGreatest 44 = .ok (.goto 28, 3) := by decide +kernel
theorem dX0_leastGreatest_47 : decode cX0_leastGreatest 47 = .ok (.aload_n 0, 1) := by decide +kernel
theorem dX0_leastGreatest_48 : decode cX0_leastGreatest 48 = .ok (.aload_n 1, 1) := by decide +kernel
theorem dX0_leastGreatest_49 : decode cX0_leastGreatest 49 = .ok (.iload_n 2, 1) := by decide +kernel
theorem dX0_leastGreatest_50 : decode cX0_leastGreatest 50 = .ok (.iload 6, 2) := by decide +kernel
theorem dX0_leastGreatest_52 : decode cX0_leastGreatest 52 = .ok (.invokevirtual 47, 3) := by decide +kernel
theorem dX0_leastGreatest_55 : decode cX0_leastGreatest 55 = .ok (.istore 7, 2) := by decide +kernel
theorem dX0_leastGreatest_57 : decode cX0_leastGreatest 57 = .ok (.iload 7, 2) := by decide +kernel
theorem dX0_leastGreatest_59 : decode cX0_leastGreatest 59 = .ok (.iload 5, 2) := by decide +kernel
theorem dX0_leastGreatest_61 : decode cX0_leastGreatest 61 = .ok (.if_icmp .le 11, 3) := by decide +kernel
theorem dX0_leastGreatest_64 : decode cX0_leastGreatest 64 = .ok (.iload 6, 2) := by decide +kernel
theorem dX0_leastGreatest_66 : decode cX0_leastGreatest 66 = .ok (.istore 4, 2) := by decide +kernel
theorem dX0_leastGreatest_68 : decode cX0_leastGreatest 68 = .ok (.iload 7, 2) := by decide +kernel
theorem dX0_leastGreatest_70 : decode cX0_leastGreatest 70 = .ok (.istore 5, 2) := by decide +kernel
theorem dX0_leastGreatest_72 : decode cX0_leastGreatest 72 = .ok (.iinc 6 1, 3) := by decide +kernel
theorem dX0_leastGreatest_75 : decode cX0_leastGreatest 75 = .ok (.goto (-66), 3) := by decide +kernel
theorem dX0_leastGreatest_78 : decode cX0_leastGreatest 78 = .ok (.iload 4, 2) := by decide +kernel
theorem dX0_leastGreatest_80 : decode cX0_leastGreatest 80 = .ok (.ireturn, 1) := by decide +kernel
theorem dX0_sensitiveBits_0 : decode cX0_sensitiveBits 0 = .ok (.iconst 0, 1) := by decide +kernel
theorem dX0_sensitiveBits_1 : decode cX0_sensitiveBits 1 = .ok (.istore_n 2, 1) := by decide +kernel
theorem dX0_sensitiveBits_2 : decode cX0_sensitiveBits 2 = .ok (.iconst 0, 1) := by decide +kernel
theorem dX0_sensitiveBits_3 : decode cX0_sensitiveBits 3 = .ok (.istore_n 3, 1) := by decide +kernel
theorem dX0_sensitiveBits_4 : decode cX0_sensitiveBits 4 = .ok (.iload_n 3, 1) := by decide +kernel
theorem dX0_sensitiveBits_5 : decode cX0_sensitiveBits 5 = .ok (.aload_n 0, 1) := by decide +kernel
theorem dX0_sensitiveBits_6 : decode cX0_sensitiveBits 6 = .ok (.getfield 43, 3) := by decide +kernel
theorem dX0_sensitiveBits_9 : decode cX0_sensitiveBits 9 = .ok (.if_icmp .ge 36, 3) := by decide +kernel
theorem dX0_sensitiveBits_12 : decode cX0_sensitiveBits 12 = .ok (.iload_n 2, 1) := by decide +kernel
theorem dX0_sensitiveBits_13 : decode cX0_sensitiveBits 13 = .ok (.aload_n 0, 1) := by decide +kernel
theorem dX0_sensitiveBits_14 : decode cX0_sensitiveBits 14 = .ok (.getfield 37, 3) := by decide +kernel
theorem dX0_sensitiveBits_17 : decode cX0_sensitiveBits 17 = .ok (.iload_n 1, 1) := by decide +kernel
theorem dX0_sensitiveBits_18 : decode cX0_sensitiveBits 18 = .ok (.baload, 1) := by decide +kernel
theorem dX0_sensitiveBits_19 : decode cX0_sensitiveBits 19 = .ok (.aload_n 0, 1) := by decide +kernel
theorem dX0_sensitiveBits_20 : decode cX0_sensitiveBits 20 = .ok (.getfield 37, 3) := by decide +kernel
theorem dX0_sensitiveBits_23 : decode cX0_sensitiveBits 23 = .ok (.iload_n 1, 1) := by decide +kernel
theorem dX0_sensitiveBits_24 : decode cX0_sensitiveBits 24 = .ok (.iconst 1, 1) := by decide +kernel
theorem dX0_sensitiveBits_25 : decode cX0_sensitiveBits 25 = .ok (.iload_n 3, 1) := by decide +kernel
theorem dX0_sensitiveBits_26 : decode cX0_sensitiveBits 26 = .ok (.ishl, 1) := by decide +kernel
theorem dX0_sensitiveBits_27 : decode cX0_sensitiveBits 27 = .ok (.ixor, 1) := by decide +kernel
theorem dX0_sensitiveBits_28 : decode cX0_sensitiveBits 28 = .ok (.baload, 1) := by decide +kernel
theorem dX0_sensitiveBits_29 : decode cX0_sensitiveBits 29 = .ok (.if_icmp .eq 7, 3) := by decide +kernel
theorem dX0_sensitiveBits_32 : decode cX0_sensitiveBits 32 = .ok (.iconst 1, 1) := by decide +kernel
theorem dX0_sensitiveBits_33 : decode cX0_sensitiveBits 33 = .ok (.goto 4, 3) := by decide +kernel
theorem dX0_sensitiveBits_36 : decode cX0_sensitiveBits 36 = .ok (.iconst 0, 1) := by decide +kernel
theorem dX0_sensitiveBits_37 : decode cX0_sensitiveBits 37 = .ok (.iadd, 1) := by decide +kernel
theorem dX0_sensitiveBits_38 : decode cX0_sensitiveBits 38 = .ok (.istore_n 2, 1) := by decide +kernel
theorem dX0_sensitiveBits_39 : decode cX0_sensitiveBits 39 = .ok (.iinc 3 1, 3) := by decide +kernel
theorem dX0_sensitiveBits_42 : decode cX0_sensitiveBits 42 = .ok (.goto (-38), 3) := by decide +kernel
theorem dX0_sensitiveBits_45 : decode cX0_sensitiveBits 45 = .ok (.iload_n 2, 1) := by decide +kernel
theorem dX0_sensitiveBits_46 : decode cX0_sensitiveBits 46 = .ok (.ireturn, 1) := by decide +kernel
theorem dX0_load_0 : decode cX0_load 0 = .ok (.aload_n 0, 1) := by decide +kernel
theorem dX0_load_1 : decode cX0_load 1 = .ok (.iconst 0, 1) := by decide +kernel
theorem dX0_load_2 : decode cX0_load 2 = .ok (.putfield 51, 3) := by decide +kernel
theorem dX0_load_5 : decode cX0_load 5 = .ok (.iconst 0, 1) := by decide +kernel
theorem dX0_load_6 : decode cX0_load 6 = .ok (.istore_n 3, 1) := by decide +kernel
theorem dX0_load_7 : decode cX0_load 7 = .ok (.iload_n 3, 1) := by decide +kernel
theorem dX0_load_8 : decode cX0_load 8 = .ok (.aload_n 1, 1) := by decide +kernel
theorem dX0_load_9 : decode cX0_load 9 = .ok (.getfield 37, 3) := by decide +kernel
theorem dX0_load_12 : decode cX0_load 12 = .ok (.arraylength, 1) := by decide +kernel
theorem dX0_load_13 : decode cX0_load 13 = .ok (.if_icmp .ge 141, 3) := by decide +kernel
theorem dX0_load_16 : decode cX0_load 16 = .ok (.iconst 0, 1) := by decide +kernel
theorem dX0_load_17 : decode cX0_load 17 = .ok (.istore 4, 2) := by decide +kernel
theorem dX0_load_19 : decode cX0_load 19 = .ok (.iconst 0, 1) := by decide +kernel
theorem dX0_load_20 : decode cX0_load 20 = .ok (.istore 5, 2) := by decide +kernel
theorem dX0_load_22 : decode cX0_load 22 = .ok (.iload 5, 2) := by decide +kernel
theorem dX0_load_24 : decode cX0_load 24 = .ok (.aload_n 1, 1) := by decide +kernel
theorem dX0_load_25 : decode cX0_load 25 = .ok (.getfield 43, 3) := by decide +kernel
theorem dX0_load_28 : decode cX0_load 28 = .ok (.if_icmp .ge 45, 3) := by decide +kernel
theorem dX0_load_31 : decode cX0_load 31 = .ok (.iload 4, 2) := by decide +kernel
theorem dX0_load_33 : decode cX0_load 33 = .ok (.ifCond .ne 40, 3) := by decide +kernel
theorem dX0_load_36 : decode cX0_load 36 = .ok (.iload_n 3, 1) := by decide +kernel
theorem dX0_load_37 : decode cX0_load 37 = .ok (.iload 5, 2) := by decide +kernel
theorem dX0_load_39 : decode cX0_load 39 = .ok (.ishr, 1) := by decide +kernel
theorem dX0_load_40 : decode cX0_load 40 = .ok (.iconst 1, 1) := by decide +kernel
theorem dX0_load_41 : decode cX0_load 41 = .ok (.iand, 1) := by decide +kernel
theorem dX0_load_42 : decode cX0_load 42 = .ok (.iconst 1, 1) := by decide +kernel
theorem dX0_load_43 : decode cX0_load 43 = .ok (.if_icmp .ne 21, 3) := by decide +kernel
theorem dX0_load_46 : decode cX0_load 46 = .ok (.aload_n 0, 1) := by decide +kernel
theorem dX0_load_47 : decode cX0_load 47 = .ok (.getfield 9, 3) := by decide +kernel
theorem dX0_load_50 : decode cX0_load 50 = .ok (.iload_n 3, 1) := by decide +kernel
theorem dX0_load_51 : decode cX0_load 51 = .ok (.iconst 1, 1) := by decide +kernel
theorem dX0_load_52 : decode cX0_load 52 = .ok (.iload 5, 2) := by decide +kernel
theorem dX0_load_54 : decode cX0_load 54 = .ok (.ishl, 1) := by decide +kernel
theorem dX0_load_55 : decode cX0_load 55 = .ok (.ixor, 1) := by decide +kernel
theorem dX0_load_56 : decode cX0_load 56 = .ok (.baload, 1) := by decide +kernel
theorem dX0_load_57 : decode cX0_load 57 = .ok (.ifCond .eq 7, 3) := by decide +kernel
theorem dX0_load_60 : decode cX0_load 60 = .ok (.iconst 1, 1) := by decide +kernel
theorem dX0_load_61 : decode cX0_load 61 = .ok (.goto 4, 3) := by decide +kernel
theorem dX0_load_64 : decode cX0_load 64 = .ok (.iconst 0, 1) := by decide +kernel
theorem dX0_load_65 : decode cX0_load 65 = .ok (.istore 4, 2) := by decide +kernel
theorem dX0_load_67 : decode cX0_load 67 = .ok (.iinc 5 1, 3) := by decide +kernel
theorem dX0_load_70 : decode cX0_load 70 = .ok (.goto (-48), 3) := by decide +kernel
theorem dX0_load_73 : decode cX0_load 73 = .ok (.aload_n 1, 1) := by decide +kernel
theorem dX0_load_74 : decode cX0_load 74 = .ok (.getfield 37, 3) := by decide +kernel
theorem dX0_load_77 : decode cX0_load 77 = .ok (.iload_n 2, 1) := by decide +kernel
theorem dX0_load_78 : decode cX0_load 78 = .ok (.iload_n 3, 1) := by decide +kernel
theorem dX0_load_79 : decode cX0_load 79 = .ok (.ixor, 1) := by decide +kernel
theorem dX0_load_80 : decode cX0_load 80 = .ok (.baload, 1) := by decide +kernel
theorem dX0_load_81 : decode cX0_load 81 = .ok (.aload_n 1, 1) := by decide +kernel
theorem dX0_load_82 : decode cX0_load 82 = .ok (.getfield 37, 3) := by decide +kernel
theorem dX0_load_85 : decode cX0_load 85 = .ok (.iload_n 2, 1) := by decide +kernel
theorem dX0_load_86 : decode cX0_load 86 = .ok (.baload, 1) := by decide +kernel
theorem dX0_load_87 : decode cX0_load 87 = .ok (.if_icmp .eq 7, 3) := by decide +kernel
theorem dX0_load_90 : decode cX0_load 90 = .ok (.iconst 1, 1) := by decide +kernel
theorem dX0_load_91 : decode cX0_load 91 = .ok (.goto 4, 3) := by decide +kernel
theorem dX0_load_94 : decode cX0_load 94 = .ok (.iconst 0, 1) := by decide +kernel
theorem dX0_load_95 : decode cX0_load 95 = .ok (.istore 5, 2) := by decide +kernel
theorem dX0_load_97 : decode cX0_load 97 = .ok (.aload_n 0, 1) := by decide +kernel
theorem dX0_load_98 : decode cX0_load 98 = .ok (.getfield 9, 3) := by decide +kernel
theorem dX0_load_101 : decode cX0_load 101 = .ok (.iload_n 3, 1) := by decide +kernel
theorem dX0_load_102 : decode cX0_load 102 = .ok (.iload 4, 2) := by decide +kernel
theorem dX0_load_104 : decode cX0_load 104 = .ok (.ifCond .ne 8, 3) := by decide +kernel
theorem dX0_load_107 : decode cX0_load 107 = .ok (.iload 5, 2) := by decide +kernel
theorem dX0_load_109 : decode cX0_load 109 = .ok (.ifCond .eq 7, 3) := by decide +kernel
theorem dX0_load_112 : decode cX0_load 112 = .ok (.iconst 1, 1) := by decide +kernel
theorem dX0_load_113 : decode cX0_load 113 = .ok (.goto 4, 3) := by decide +kernel
theorem dX0_load_116 : decode cX0_load 116 = .ok (.iconst 0, 1) := by decide +kernel
theorem dX0_load_117 : decode cX0_load 117 = .ok (.bastore, 1) := by decide +kernel
theorem dX0_load_118 : decode cX0_load 118 = .ok (.iload 5, 2) := by decide +kernel
theorem dX0_load_120 : decode cX0_load 120 = .ok (.ifCond .eq 28, 3) := by decide +kernel
theorem dX0_load_123 : decode cX0_load 123 = .ok (.iload 4, 2) := by decide +kernel
theorem dX0_load_125 : decode cX0_load 125 = .ok (.ifCond .ne 23, 3) := by decide +kernel
theorem dX0_load_128 : decode cX0_load 128 = .ok (.aload_n 0, 1) := by decide +kernel
theorem dX0_load_129 : decode cX0_load 129 = .ok (.getfield 15, 3) := by decide +kernel
theorem dX0_load_132 : decode cX0_load 132 = .ok (.aload_n 0, 1) := by decide +kernel
theorem dX0_load_133 : decode cX0_load 133 = .ok (.getfield 51, 3) := by decide +kernel
theorem dX0_load_136 : decode cX0_load 136 = .ok (.iload_n 3, 1) := by decide +kernel
theorem dX0_load_137 : decode cX0_load 137 = .ok (.iastore, 1) := by decide +kernel
theorem dX0_load_138 : decode cX0_load 138 = .ok (.aload_n 0, 1) := by decide +kernel
theorem dX0_load_139 : decode cX0_load 139 = .ok (.dup, 1) := by decide +kernel
theorem dX0_load_140 : decode cX0_load 140 = .ok (.getfield 51, 3) := by decide +kernel
theorem dX0_load_143 : decode cX0_load 143 = .ok (.iconst 1, 1) := by decide +kernel
theorem dX0_load_144 : decode cX0_load 144 = .ok (.iadd, 1) := by decide +kernel
theorem dX0_load_145 : decode cX0_load 145 = .ok (.putfield 51, 3) := by decide +kernel
theorem dX0_load_148 : decode cX0_load 148 = .ok (.iinc 3 1, 3) := by decide +kernel
theorem dX0_load_151 : decode cX0_load 151 = .ok (.goto (-144), 3) := by decide +kernel
theorem dX0_load_154 : decode cX0_load 154 = .ok (.return_, 1) := by decide +kernel
theorem dX0_blocksApart_0 : decode cX0_blocksApart 0 = .ok (.aload_n 1, 1) := by decide +kernel
theorem dX0_blocksApart_1 : decode cX0_blocksApart 1 = .ok (.getfield 37, 3) := by decide +kernel
theorem dX0_blocksApart_4 : decode cX0_blocksApart 4 = .ok (.arraylength, 1) := by decide +kernel
theorem dX0_blocksApart_5 : decode cX0_blocksApart 5 = .ok (.istore_n 2, 1) := by decide +kernel
theorem dX0_blocksApart_6 : decode cX0_blocksApart 6 = .ok (.iconst 0, 1) := by decide +kernel
theorem dX0_blocksApart_7 : decode cX0_blocksApart 7 = .ok (.istore_n 3, 1) := by decide +kernel
theorem dX0_blocksApart_8 : decode cX0_blocksApart 8 = .ok (.iload_n 3, 1) := by decide +kernel
theorem dX0_blocksApart_9 : decode cX0_blocksApart 9 = .ok (.iload_n 2, 1) := by decide +kernel
theorem dX0_blocksApart_10 : decode cX0_blocksApart 10 = .ok (.if_icmp .ge 86, 3) := by decide +kernel
theorem dX0_blocksApart_13 : decode cX0_blocksApart 13 = .ok (.iconst 0, 1) := by decide +kernel
theorem dX0_blocksApart_14 : decode cX0_blocksApart 14 = .ok (.istore 4, 2) := by decide +kernel
theorem dX0_blocksApart_16 : decode cX0_blocksApart 16 = .ok (.iconst 0, 1) := by decide +kernel
theorem dX0_blocksApart_17 : decode cX0_blocksApart 17 = .ok (.istore 5, 2) := by decide +kernel
theorem dX0_blocksApart_19 : decode cX0_blocksApart 19 = .ok (.iload 5, 2) := by decide +kernel
theorem dX0_blocksApart_21 : decode cX0_blocksApart 21 = .ok (.aload_n 0, 1) := by decide +kernel
theorem dX0_blocksApart_22 : decode cX0_blocksApart 22 = .ok (.getfield 51, 3) := by decide +kernel
theorem dX0_blocksApart_25 : decode cX0_blocksApart 25 = .ok (.if_icmp .ge 57, 3) := by decide +kernel
theorem dX0_blocksApart_28 : decode cX0_blocksApart 28 = .ok (.aload_n 0, 1) := by decide +kernel
theorem dX0_blocksApart_29 : decode cX0_blocksApart 29 = .ok (.getfield 15, 3) := by decide +kernel
theorem dX0_blocksApart_32 : decode cX0_blocksApart 32 = .ok (.iload 5, 2) := by decide +kernel
theorem dX0_blocksApart_34 : decode cX0_blocksApart 34 = .ok (.iaload, 1) := by decide +kernel
theorem dX0_blocksApart_35 : decode cX0_blocksApart 35 = .ok (.iload_n 3, 1) := by decide +kernel
theorem dX0_blocksApart_36 : decode cX0_blocksApart 36 = .ok (.if_icmp .gt 46, 3) := by decide +kernel
theorem dX0_blocksApart_39 : decode cX0_blocksApart 39 = .ok (.aload_n 0, 1) := by decide +kernel
theorem dX0_blocksApart_40 : decode cX0_blocksApart 40 = .ok (.getfield 15, 3) := by decide +kernel
theorem dX0_blocksApart_43 : decode cX0_blocksApart 43 = .ok (.iload 5, 2) := by decide +kernel
theorem dX0_blocksApart_45 : decode cX0_blocksApart 45 = .ok (.iaload, 1) := by decide +kernel
theorem dX0_blocksApart_46 : decode cX0_blocksApart 46 = .ok (.iload_n 3, 1) := by decide +kernel
theorem dX0_blocksApart_47 : decode cX0_blocksApart 47 = .ok (.iconst (-1), 1) := by decide +kernel
theorem dX0_blocksApart_48 : decode cX0_blocksApart 48 = .ok (.ixor, 1) := by decide +kernel
theorem dX0_blocksApart_49 : decode cX0_blocksApart 49 = .ok (.iand, 1) := by decide +kernel
theorem dX0_blocksApart_50 : decode cX0_blocksApart 50 = .ok (.ifCond .ne 26, 3) := by decide +kernel
theorem dX0_blocksApart_53 : decode cX0_blocksApart 53 = .ok (.iload 4, 2) := by decide +kernel
theorem dX0_blocksApart_55 : decode cX0_blocksApart 55 = .ok (.aload_n 0, 1) := by decide +kernel
theorem dX0_blocksApart_56 : decode cX0_blocksApart 56 = .ok (.getfield 19, 3) := by decide +kernel
theorem dX0_blocksApart_59 : decode cX0_blocksApart 59 = .ok (.iload_n 3, 1) := by decide +kernel
theorem dX0_blocksApart_60 : decode cX0_blocksApart 60 = .ok (.aload_n 0, 1) := by decide +kernel
theorem dX0_blocksApart_61 : decode cX0_blocksApart 61 = .ok (.getfield 15, 3) := by decide +kernel
theorem dX0_blocksApart_64 : decode cX0_blocksApart 64 = .ok (.iload 5, 2) := by decide +kernel
theorem dX0_blocksApart_66 : decode cX0_blocksApart 66 = .ok (.iaload, 1) := by decide +kernel
theorem dX0_blocksApart_67 : decode cX0_blocksApart 67 = .ok (.ixor, 1) := by decide +kernel
theorem dX0_blocksApart_68 : decode cX0_blocksApart 68 = .ok (.iaload, 1) := by decide +kernel
theorem dX0_blocksApart_69 : decode cX0_blocksApart 69 = .ok (.iconst 1, 1) := by decide +kernel
theorem dX0_blocksApart_70 : decode cX0_blocksApart 70 = .ok (.iadd, 1) := by decide +kernel
theorem dX0_blocksApart_71 : decode cX0_blocksApart 71 = .ok (.invokestatic 54, 3) := by decide +kernel
theorem dX0_blocksApart_74 : decode cX0_blocksApart 74 = .ok (.istore 4, 2) := by decide +kernel
theorem dX0_blocksApart_76 : decode cX0_blocksApart 76 = .ok (.iinc 5 1, 3) := by decide +kernel
theorem dX0_blocksApart_79 : decode cX0_blocksApart 79 = .ok (.goto (-60), 3) := by decide +kernel
theorem dX0_blocksApart_82 : decode cX0_blocksApart 82 = .ok (.aload_n 0, 1) := by decide +kernel
theorem dX0_blocksApart_83 : decode cX0_blocksApart 83 = .ok (.getfield 19, 3) := by decide +kernel
theorem dX0_blocksApart_86 : decode cX0_blocksApart 86 = .ok (.iload_n 3, 1) := by decide +kernel
theorem dX0_blocksApart_87 : decode cX0_blocksApart 87 = .ok (.iload 4, 2) := by decide +kernel
theorem dX0_blocksApart_89 : decode cX0_blocksApart 89 = .ok (.iastore, 1) := by decide +kernel
theorem dX0_blocksApart_90 : decode cX0_blocksApart 90 = .ok (.iinc 3 1, 3) := by decide +kernel
theorem dX0_blocksApart_93 : decode cX0_blocksApart 93 = .ok (.goto (-85), 3) := by decide +kernel
theorem dX0_blocksApart_96 : decode cX0_blocksApart 96 = .ok (.aload_n 0, 1) := by decide +kernel
theorem dX0_blocksApart_97 : decode cX0_blocksApart 97 = .ok (.getfield 19, 3) := by decide +kernel
theorem dX0_blocksApart_100 : decode cX0_blocksApart 100 = .ok (.iload_n 2, 1) := by decide +kernel
theorem dX0_blocksApart_101 : decode cX0_blocksApart 101 = .ok (.iconst 1, 1) := by decide +kernel
theorem dX0_blocksApart_102 : decode cX0_blocksApart 102 = .ok (.isub, 1) := by decide +kernel
theorem dX0_blocksApart_103 : decode cX0_blocksApart 103 = .ok (.iaload, 1) := by decide +kernel
theorem dX0_blocksApart_104 : decode cX0_blocksApart 104 = .ok (.ireturn, 1) := by decide +kernel
theorem dX0_proofBits_0 : decode cX0_proofBits 0 = .ok (.iconst 0, 1) := by decide +kernel
theorem dX0_proofBits_1 : decode cX0_proofBits 1 = .ok (.istore_n 2, 1) := by decide +kernel
theorem dX0_proofBits_2 : decode cX0_proofBits 2 = .ok (.iconst 0, 1) := by decide +kernel
theorem dX0_proofBits_3 : decode cX0_proofBits 3 = .ok (.istore_n 3, 1) := by decide +kernel
theorem dX0_proofBits_4 : decode cX0_proofBits 4 = .ok (.iload_n 3, 1) := by decide +kernel
theorem dX0_proofBits_5 : decode cX0_proofBits 5 = .ok (.aload_n 1, 1) := by decide +kernel
theorem dX0_proofBits_6 : decode cX0_proofBits 6 = .ok (.getfield 37, 3) := by decide +kernel
theorem dX0_proofBits_9 : decode cX0_proofBits 9 = .ok (.arraylength, 1) := by decide +kernel
theorem dX0_proofBits_10 : decode cX0_proofBits 10 = .ok (.if_icmp .ge 27, 3) := by decide +kernel
theorem dX0_proofBits_13 : decode cX0_proofBits 13 = .ok (.aload_n 0, 1) := by decide +kernel
theorem dX0_proofBits_14 : decode cX0_proofBits 14 = .ok (.getfield 9, 3) := by decide +kernel
theorem dX0_proofBits_17 : decode cX0_proofBits 17 = .ok (.iload_n 3, 1) := by decide +kernel
theorem dX0_proofBits_18 : decode cX0_proofBits 18 = .ok (.baload, 1) := by decide +kernel
theorem dX0_proofBits_19 : decode cX0_proofBits 19 = .ok (.ifCond .ne 12, 3) := by decide +kernel
theorem dX0_proofBits_22 : decode cX0_proofBits 22 = .ok (.iload_n 2, 1) := by decide +kernel
theorem dX0_proofBits_23 : decode cX0_proofBits 23 = .ok (.iload_n 3, 1) := by decide +kernel
theorem dX0_proofBits_24 : decode cX0_proofBits 24 = .ok (.invokestatic 60, 3) := by decide +kernel
theorem dX0_proofBits_27 : decode cX0_proofBits 27 = .ok (.invokestatic 54, 3) := by decide +kernel
theorem dX0_proofBits_30 : decode cX0_proofBits 30 = .ok (.istore_n 2, 1) := by decide +kernel
theorem dX0_proofBits_31 : decode cX0_proofBits 31 = .ok (.iinc 3 1, 3) := by decide +kernel
theorem dX0_proofBits_34 : decode cX0_proofBits 34 = .ok (.goto (-30), 3) := by decide +kernel
theorem dX0_proofBits_37 : decode cX0_proofBits 37 = .ok (.aload_n 1, 1) := by decide +kernel
theorem dX0_proofBits_38 : decode cX0_proofBits 38 = .ok (.getfield 43, 3) := by decide +kernel
theorem dX0_proofBits_41 : decode cX0_proofBits 41 = .ok (.iload_n 2, 1) := by decide +kernel
theorem dX0_proofBits_42 : decode cX0_proofBits 42 = .ok (.isub, 1) := by decide +kernel
theorem dX0_proofBits_43 : decode cX0_proofBits 43 = .ok (.ireturn, 1) := by decide +kernel
