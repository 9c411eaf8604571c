theorem dX0_init_0 : decode cX0_init 0 = .ok (.aload_n 0, 1) := by decide +kernel
theorem dX0_init_1 : decode cX0_init 1 = .ok (.invokespecial 3, 3) := by decide +kernel
theorem dX0_init_4 : decode cX0_init 4 = .ok (.aload_n 0, 1) := by decide +kernel
theorem dX0_init_5 : decode cX0_init 5 = .ok (.bipush 8, 2) := by decide +kernel
theorem dX0_init_7 : decode cX0_init 7 = .ok (.newarray .int, 2) := by decide +kernel
theorem dX0_init_9 : decode cX0_init 9 = .ok (.putfield 9, 3) := by decide +kernel
theorem dX0_init_12 : decode cX0_init 12 = .ok (.aload_n 0, 1) := by decide +kernel
theorem dX0_init_13 : decode cX0_init 13 = .ok (.bipush 8, 2) := by decide +kernel
theorem dX0_init_15 : decode cX0_init 15 = .ok (.newarray .int, 2) := by decide +kernel
theorem dX0_init_17 : decode cX0_init 17 = .ok (.putfield 15, 3) := by decide +kernel
theorem dX0_init_20 : decode cX0_init 20 = .ok (.aload_n 0, 1) := by decide +kernel
theorem dX0_init_21 : decode cX0_init 21 = .ok (.bipush 32, 2) := by decide +kernel
theorem dX0_init_23 : decode cX0_init 23 = .ok (.newarray .int, 2) := by decide +kernel
theorem dX0_init_25 : decode cX0_init 25 = .ok (.putfield 18, 3) := by decide +kernel
theorem dX0_init_28 : decode cX0_init 28 = .ok (.aload_n 0, 1) := by decide +kernel
theorem dX0_init_29 : decode cX0_init 29 = .ok (.aload_n 1, 1) := by decide +kernel
theorem dX0_init_30 : decode cX0_init 30 = .ok (.putfield 21, 3) := by decide +kernel
theorem dX0_init_33 : decode cX0_init 33 = .ok (.aload_n 0, 1) := by decide +kernel
theorem dX0_init_34 : decode cX0_init 34 = .ok (.aload_n 2, 1) := by decide +kernel
theorem dX0_init_35 : decode cX0_init 35 = .ok (.putfield 25, 3) := by decide +kernel
theorem dX0_init_38 : decode cX0_init 38 = .ok (.aload_n 0, 1) := by decide +kernel
theorem dX0_init_39 : decode cX0_init 39 = .ok (.aload_n 3, 1) := by decide +kernel
theorem dX0_init_40 : decode cX0_init 40 = .ok (.putfield 29, 3) := by decide +kernel
theorem dX0_init_43 : decode cX0_init 43 = .ok (.return_, 1) := by decide +kernel
theorem dX0_measure_0 : decode cX0_measure 0 = .ok (.iconst 0, 1) := by decide +kernel
theorem dX0_measure_1 : decode cX0_measure 1 = .ok (.istore 4, 2) := by decide +kernel
theorem dX0_measure_3 : decode cX0_measure 3 = .ok (.iload 4, 2) := by decide +kernel
theorem dX0_measure_5 : decode cX0_measure 5 = .ok (.bipush 8, 2) := by decide +kernel
theorem dX0_measure_7 : decode cX0_measure 7 = .ok (.if_icmp .ge 32, 3) := by decide +kernel
theorem dX0_measure_10 : decode cX0_measure 10 = .ok (.aload_n 0, 1) := by decide +kernel
theorem dX0_measure_11 : decode cX0_measure 11 = .ok (.getfield 9, 3) := by decide +kernel
theorem dX0_measure_14 : decode cX0_measure 14 = .ok (.iload 4, 2) := by decide +kernel
theorem dX0_measure_16 : decode cX0_measure 16 = .ok (.aload_n 0, 1) := by decide +kernel
theorem dX0_measure_17 : decode cX0_measure 17 = .ok (.getfield 25, 3) := by decide +kernel
theorem dX0_measure_20 : decode cX0_measure 20 = .ok (.getfield 33, 3) := by decide +kernel
theorem dX0_measure_23 : decode cX0_measure 23 = .ok (.iload 4, 2) := by decide +kernel
theorem dX0_measure_25 : decode cX0_measure 25 = .ok (.iaload, 1) := by decide +kernel
theorem dX0_measure_26 : decode cX0_measure 26 = .ok (.sipush 1000, 3) := by decide +kernel
theorem dX0_measure_29 : decode cX0_measure 29 = .ok (.iload_n 3, 1) := by decide +kernel
theorem dX0_measure_30 : decode cX0_measure 30 = .ok (.isub, 1) := by decide +kernel
theorem dX0_measure_31 : decode cX0_measure 31 = .ok (.imul, 1) := by decide +kernel
theorem dX0_measure_32 : decode cX0_measure 32 = .ok (.iastore, 1) := by decide +kernel
theorem dX0_measure_33 : decode cX0_measure 33 = .ok (.iinc 4 1, 3) := by decide +kernel
theorem dX0_measure_36 : decode cX0_measure 36 = .ok (.goto (-33), 3) := by decide +kernel
theorem dX0_measure_39 : decode cX0_measure 39 = .ok (.aload_n 0, 1) := by decide +kernel
theorem dX0_measure_40 : decode cX0_measure 40 = .ok (.getfield 21, 3) := by decide +kernel
theorem dX0_measure_43 : decode cX0_measure 43 = .ok (.iload_n 2, 1) := by decide +kernel
theorem dX0_measure_44 : decode cX0_measure 44 = .ok (.invokevirtual 38, 3) := by decide +kernel
theorem dX0_measure_47 : decode cX0_measure 47 = .ok (.ifCond .eq 17, 3) := by decide +kernel
theorem dX0_measure_50 : decode cX0_measure 50 = .ok (.aload_n 0, 1) := by decide +kernel
theorem dX0_measure_51 : decode cX0_measure 51 = .ok (.getfield 9, 3) := by decide +kernel
theorem dX0_measure_54 : decode cX0_measure 54 = .ok (.iload_n 2, 1) := by decide +kernel
theorem dX0_measure_55 : decode cX0_measure 55 = .ok (.dup2, 1) := by decide +kernel
theorem dX0_measure_56 : decode cX0_measure 56 = .ok (.iaload, 1) := by decide +kernel
theorem dX0_measure_57 : decode cX0_measure 57 = .ok (.iload_n 3, 1) := by decide +kernel
theorem dX0_measure_58 : decode cX0_measure 58 = .ok (.sipush 1000, 3) := by decide +kernel
theorem dX0_measure_61 : decode cX0_measure 61 = .ok (.imul, 1) := by decide +kernel
theorem dX0_measure_62 : decode cX0_measure 62 = .ok (.iadd, 1) := by decide +kernel
theorem dX0_measure_63 : decode cX0_measure 63 = .ok (.iastore, 1) := by decide +kernel
theorem dX0_measure_64 : decode cX0_measure 64 = .ok (.aload_n 0, 1) := by decide +kernel
theorem dX0_measure_65 : decode cX0_measure 65 = .ok (.getfield 29, 3) := by decide +kernel
theorem dX0_measure_68 : decode cX0_measure 68 = .ok (.iload_n 1, 1) := by decide +kernel
theorem dX0_measure_69 : decode cX0_measure 69 = .ok (.aload_n 0, 1) := by decide +kernel
theorem dX0_measure_70 : decode cX0_measure 70 = .ok (.getfield 9, 3) := by decide +kernel
theorem dX0_measure_73 : decode cX0_measure 73 = .ok (.bipush 8, 2) := by decide +kernel
theorem dX0_measure_75 : decode cX0_measure 75 = .ok (.aload_n 0, 1) := by decide +kernel
theorem dX0_measure_76 : decode cX0_measure 76 = .ok (.getfield 15, 3) := by decide +kernel
theorem dX0_measure_79 : decode cX0_measure 79 = .ok (.iconst 0, 1) := by decide +kernel
theorem dX0_measure_80 : decode cX0_measure 80 = .ok (.invokevirtual 44, 3) := by decide +kernel
theorem dX0_measure_83 : decode cX0_measure 83 = .ok (.iconst 0, 1) := by decide +kernel
theorem dX0_measure_84 : decode cX0_measure 84 = .ok (.istore 4, 2) := by decide +kernel
theorem dX0_measure_86 : decode cX0_measure 86 = .ok (.iload 4, 2) := by decide +kernel
theorem dX0_measure_88 : decode cX0_measure 88 = .ok (.aload_n 0, 1) := by decide +kernel
theorem dX0_measure_89 : decode cX0_measure 89 = .ok (.getfield 21, 3) := by decide +kernel
theorem dX0_measure_92 : decode cX0_measure 92 = .ok (.getfield 50, 3) := by decide +kernel
theorem dX0_measure_95 : decode cX0_measure 95 = .ok (.if_icmp .ge 42, 3) := by decide +kernel
theorem dX0_measure_98 : decode cX0_measure 98 = .ok (.aload_n 0, 1) := by decide +kernel
theorem dX0_measure_99 : decode cX0_measure 99 = .ok (.getfield 29, 3) := by decide +kernel
theorem dX0_measure_102 : decode cX0_measure 102 = .ok (.aload_n 0, 1) := by decide +kernel
theorem dX0_measure_103 : decode cX0_measure 103 = .ok (.getfield 15, 3) := by decide +kernel
theorem dX0_measure_106 : decode cX0_measure 106 = .ok (.iload 4, 2) := by decide +kernel
theorem dX0_measure_108 : decode cX0_measure 108 = .ok (.iaload, 1) := by decide +kernel
theorem dX0_measure_109 : decode cX0_measure 109 = .ok (.aload_n 0, 1) := by decide +kernel
theorem dX0_measure_110 : decode cX0_measure 110 = .ok (.getfield 21, 3) := by decide +kernel
theorem dX0_measure_113 : decode cX0_measure 113 = .ok (.getfield 54, 3) := by decide +kernel
theorem dX0_measure_116 : decode cX0_measure 116 = .ok (.iload 4, 2) := by decide +kernel
theorem dX0_measure_118 : decode cX0_measure 118 = .ok (.aaload, 1) := by decide +kernel
theorem dX0_measure_119 : decode cX0_measure 119 = .ok (.iconst 4, 1) := by decide +kernel
theorem dX0_measure_120 : decode cX0_measure 120 = .ok (.aload_n 0, 1) := by decide +kernel
theorem dX0_measure_121 : decode cX0_measure 121 = .ok (.getfield 18, 3) := by decide +kernel
theorem dX0_measure_124 : decode cX0_measure 124 = .ok (.iload 4, 2) := by decide +kernel
theorem dX0_measure_126 : decode cX0_measure 126 = .ok (.iconst 4, 1) := by decide +kernel
theorem dX0_measure_127 : decode cX0_measure 127 = .ok (.imul, 1) := by decide +kernel
theorem dX0_measure_128 : decode cX0_measure 128 = .ok (.invokevirtual 44, 3) := by decide +kernel
theorem dX0_measure_131 : decode cX0_measure 131 = .ok (.iinc 4 1, 3) := by decide +kernel
theorem dX0_measure_134 : decode cX0_measure 134 = .ok (.goto (-48), 3) := by decide +kernel
theorem dX0_measure_137 : decode cX0_measure 137 = .ok (.aload_n 0, 1) := by decide +kernel
theorem dX0_measure_138 : decode cX0_measure 138 = .ok (.aload_n 0, 1) := by decide +kernel
theorem dX0_measure_139 : decode cX0_measure 139 = .ok (.getfield 21, 3) := by decide +kernel
theorem dX0_measure_142 : decode cX0_measure 142 = .ok (.getfield 50, 3) := by decide +kernel
theorem dX0_measure_145 : decode cX0_measure 145 = .ok (.iconst 4, 1) := by decide +kernel
theorem dX0_measure_146 : decode cX0_measure 146 = .ok (.imul, 1) := by decide +kernel
theorem dX0_measure_147 : decode cX0_measure 147 = .ok (.putfield 58, 3) := by decide +kernel
theorem dX0_measure_150 : decode cX0_measure 150 = .ok (.return_, 1) := by decide +kernel
theorem dX1_init_0 : decode cX1_init 0 = .ok (.aload_n 0, 1) := by decide +kernel
theorem dX1_init_1 : decode cX1_init 1 = .ok (.invokespecial 3, 3) := by decide +kernel
theorem dX1_init_4 : decode cX1_init 4 = .ok (.aload_n 0, 1) := by decide +kernel
theorem dX1_init_5 : decode cX1_init 5 = .ok (.bipush 6, 2) := by decide +kernel
theorem dX1_init_7 : decode cX1_init 7 = .ok (.iconst 4, 1) := by decide +kernel
theorem dX1_init_8 : decode cX1_init 8 = .ok (.multianewarray 9 2, 4) := by decide +kernel
theorem dX1_init_12 : decode cX1_init 12 = .ok (.putfield 11, 3) := by decide +kernel
theorem dX1_init_15 : decode cX1_init 15 = .ok (.aload_n 0, 1) := by decide +kernel
theorem dX1_init_16 : decode cX1_init 16 = .ok (.bipush 6, 2) := by decide +kernel
theorem dX1_init_18 : decode cX1_init 18 = .ok (.iconst 4, 1) := by decide +kernel
theorem dX1_init_19 : decode cX1_init 19 = .ok (.multianewarray 9 2, 4) := by decide +kernel
theorem dX1_init_23 : decode cX1_init 23 = .ok (.putfield 16, 3) := by decide +kernel
theorem dX1_init_26 : decode cX1_init 26 = .ok (.return_, 1) := by decide +kernel
theorem dX1_has_0 : decode cX1_has 0 = .ok (.iload_n 1, 1) := by decide +kernel
theorem dX1_has_1 : decode cX1_has 1 = .ok (.ifCond .lt 15, 3) := by decide +kernel
theorem dX1_has_4 : decode cX1_has 4 = .ok (.iload_n 1, 1) := by decide +kernel
theorem dX1_has_5 : decode cX1_has 5 = .ok (.aload_n 0, 1) := by decide +kernel
theorem dX1_has_6 : decode cX1_has 6 = .ok (.getfield 19, 3) := by decide +kernel
theorem dX1_has_9 : decode cX1_has 9 = .ok (.if_icmp .ge 7, 3) := by decide +kernel
theorem dX1_has_12 : decode cX1_has 12 = .ok (.iconst 1, 1) := by decide +kernel
theorem dX1_has_13 : decode cX1_has 13 = .ok (.goto 4, 3) := by decide +kernel
theorem dX1_has_16 : decode cX1_has 16 = .ok (.iconst 0, 1) := by decide +kernel
theorem dX1_has_17 : decode cX1_has 17 = .ok (.ireturn, 1) := by decide +kernel
theorem dX1_add_0 : decode cX1_add 0 = .ok (.aload_n 0, 1) := by decide +kernel
theorem dX1_add_1 : decode cX1_add 1 = .ok (.getfield 19, 3) := by decide +kernel
theorem dX1_add_4 : decode cX1_add 4 = .ok (.bipush 6, 2) := by decide +kernel
theorem dX1_add_6 : decode cX1_add 6 = .ok (.if_icmp .lt 6, 3) := by decide +kernel
theorem dX1_add_9 : decode cX1_add 9 = .ok (.ldc 23, 2) := by decide +kernel
theorem dX1_add_11 : decode cX1_add 11 = .ok (.ireturn, 1) := by decide +kernel
theorem dX1_add_12 : decode cX1_add 12 = .ok (.iconst 0, 1) := by decide +kernel
theorem dX1_add_13 : decode cX1_add 13 = .ok (.istore_n 1, 1) := by decide +kernel
theorem dX1_add_14 : decode cX1_add 14 = .ok (.iload_n 1, 1) := by decide +kernel
theorem dX1_add_15 : decode cX1_add 15 = .ok (.iconst 4, 1) := by decide +kernel
theorem dX1_add_16 : decode cX1_add 16 = .ok (.if_icmp .ge 35, 3) := by decide +kernel
theorem dX1_add_19 : decode cX1_add 19 = .ok (.aload_n 0, 1) := by decide +kernel
theorem dX1_add_20 : decode cX1_add 20 = .ok (.getfield 11, 3) := by decide +kernel
theorem dX1_add_23 : decode cX1_add 23 = .ok (.aload_n 0, 1) := by decide +kernel
theorem dX1_add_24 : decode cX1_add 24 = .ok (.getfield 19, 3) := by decide +kernel
theorem dX1_add_27 : decode cX1_add 27 = .ok (.aaload, 1) := by decide +kernel
theorem dX1_add_28 : decode cX1_add 28 = .ok (.iload_n 1, 1) := by decide +kernel
theorem dX1_add_29 : decode cX1_add 29 = .ok (.iconst 0, 1) := by decide +kernel
theorem dX1_add_30 : decode cX1_add 30 = .ok (.iastore, 1) := by decide +kernel
theorem dX1_add_31 : decode cX1_add 31 = .ok (.aload_n 0, 1) := by decide +kernel
theorem dX1_add_32 : decode cX1_add 32 = .ok (.getfield 16, 3) := by decide +kernel
theorem dX1_add_35 : decode cX1_add 35 = .ok (.aload_n 0, 1) := by decide +kernel
theorem dX1_add_36 : decode cX1_add 36 = .ok (.getfield 19, 3) := by decide +kernel
theorem dX1_add_39 : decode cX1_add 39 = .ok (.aaload, 1) := by decide +kernel
theorem dX1_add_40 : decode cX1_add 40 = .ok (.iload_n 1, 1) := by decide +kernel
theorem dX1_add_41 : decode cX1_add 41 = .ok (.sipush 1000, 3) := by decide +kernel
theorem dX1_add_44 : decode cX1_add 44 = .ok (.iastore, 1) := by decide +kernel
theorem dX1_add_45 : decode cX1_add 45 = .ok (.iinc 1 1, 3) := by decide +kernel
theorem dX1_add_48 : decode cX1_add 48 = .ok (.goto (-34), 3) := by decide +kernel
theorem dX1_add_51 : decode cX1_add 51 = .ok (.aload_n 0, 1) := by decide +kernel
theorem dX1_add_52 : decode cX1_add 52 = .ok (.dup, 1) := by decide +kernel
theorem dX1_add_53 : decode cX1_add 53 = .ok (.getfield 19, 3) := by decide +kernel
theorem dX1_add_56 : decode cX1_add 56 = .ok (.iconst 1, 1) := by decide +kernel
theorem dX1_add_57 : decode cX1_add 57 = .ok (.iadd, 1) := by decide +kernel
theorem dX1_add_58 : decode cX1_add 58 = .ok (.putfield 19, 3) := by decide +kernel
theorem dX1_add_61 : decode cX1_add 61 = .ok (.aload_n 0, 1) := by decide +kernel
theorem dX1_add_62 : decode cX1_add 62 = .ok (.getfield 19, 3) := by decide +kernel
theorem dX1_add_65 : decode cX1_add 65 = .ok (.iconst 1, 1) := by decide +kernel
theorem dX1_add_66 : decode cX1_add 66 = .ok (.isub, 1) := by decide +kernel
theorem dX1_add_67 : decode cX1_add 67 = .ok (.ireturn, 1) := by decide +kernel
theorem dX1_fits_0 : decode cX1_fits 0 = .ok (.iconst 0, 1) := by decide +kernel
theorem dX1_fits_1 : decode cX1_fits 1 = .ok (.istore_n 3, 1) := by decide +kernel
theorem dX1_fits_2 : decode cX1_fits 2 = .ok (.iload_n 3, 1) := by decide +kernel
theorem dX1_fits_3 : decode cX1_fits 3 = .ok (.iconst 4, 1) := by decide +kernel
theorem dX1_fits_4 : decode cX1_fits 4 = .ok (.if_icmp .ge 59, 3) := by decide +kernel
theorem dX1_fits_7 : decode cX1_fits 7 = .ok (.sipush 1000, 3) := by decide +kernel
theorem dX1_fits_10 : decode cX1_fits 10 = .ok (.aload_n 2, 1) := by decide +kernel
theorem dX1_fits_11 : decode cX1_fits 11 = .ok (.getfield 24, 3) := by decide +kernel
theorem dX1_fits_14 : decode cX1_fits 14 = .ok (.iload_n 3, 1) := by decide +kernel
theorem dX1_fits_15 : decode cX1_fits 15 = .ok (.iaload, 1) := by decide +kernel
theorem dX1_fits_16 : decode cX1_fits 16 = .ok (.imul, 1) := by decide +kernel
theorem dX1_fits_17 : decode cX1_fits 17 = .ok (.istore 4, 2) := by decide +kernel
theorem dX1_fits_19 : decode cX1_fits 19 = .ok (.iload 4, 2) := by decide +kernel
theorem dX1_fits_21 : decode cX1_fits 21 = .ok (.aload_n 0, 1) := by decide +kernel
theorem dX1_fits_22 : decode cX1_fits 22 = .ok (.getfield 11, 3) := by decide +kernel
theorem dX1_fits_25 : decode cX1_fits 25 = .ok (.iload_n 1, 1) := by decide +kernel
theorem dX1_fits_26 : decode cX1_fits 26 = .ok (.aaload, 1) := by decide +kernel
theorem dX1_fits_27 : decode cX1_fits 27 = .ok (.iload_n 3, 1) := by decide +kernel
theorem dX1_fits_28 : decode cX1_fits 28 = .ok (.iaload, 1) := by decide +kernel
theorem dX1_fits_29 : decode cX1_fits 29 = .ok (.aload_n 2, 1) := by decide +kernel
theorem dX1_fits_30 : decode cX1_fits 30 = .ok (.getfield 30, 3) := by decide +kernel
theorem dX1_fits_33 : decode cX1_fits 33 = .ok (.imul, 1) := by decide +kernel
theorem dX1_fits_34 : decode cX1_fits 34 = .ok (.if_icmp .lt 21, 3) := by decide +kernel
theorem dX1_fits_37 : decode cX1_fits 37 = .ok (.iload 4, 2) := by decide +kernel
theorem dX1_fits_39 : decode cX1_fits 39 = .ok (.aload_n 0, 1) := by decide +kernel
theorem dX1_fits_40 : decode cX1_fits 40 = .ok (.getfield 16, 3) := by decide +kernel
theorem dX1_fits_43 : decode cX1_fits 43 = .ok (.iload_n 1, 1) := by decide +kernel
theorem dX1_fits_44 : decode cX1_fits 44 = .ok (.aaload, 1) := by decide +kernel
theorem dX1_fits_45 : decode cX1_fits 45 = .ok (.iload_n 3, 1) := by decide +kernel
theorem dX1_fits_46 : decode cX1_fits 46 = .ok (.iaload, 1) := by decide +kernel
theorem dX1_fits_47 : decode cX1_fits 47 = .ok (.aload_n 2, 1) := by decide +kernel
theorem dX1_fits_48 : decode cX1_fits 48 = .ok (.getfield 30, 3) := by decide +kernel
theorem dX1_fits_51 : decode cX1_fits 51 = .ok (.imul, 1) := by decide +kernel
theorem dX1_fits_52 : decode cX1_fits 52 = .ok (.if_icmp .le 5, 3) := by decide +kernel
theorem dX1_fits_55 : decode cX1_fits 55 = .ok (.iconst 0, 1) := by decide +kernel
theorem dX1_fits_56 : decode cX1_fits 56 = .ok (.ireturn, 1) := by decide +kernel
theorem dX1_fits_57 : decode cX1_fits 57 = .ok (.iinc 3 1, 3) := by decide +kernel
theorem dX1_fits_60 : decode cX1_fits 60 = .ok (.goto (-58), 3) := by decide +kernel
theorem dX1_fits_63 : decode cX1_fits 63 = .ok (.iconst 1, 1) := by decide +kernel
theorem dX1_fits_64 : decode cX1_fits 64 = .ok (.ireturn, 1) := by decide +kernel
theorem dX1_nameOf_0 : decode cX1_nameOf 0 = .ok (.iconst 0, 1) := by decide +kernel
theorem dX1_nameOf_1 : decode cX1_nameOf 1 = .ok (.istore_n 2, 1) := by decide +kernel
theorem dX1_nameOf_2 : decode cX1_nameOf 2 = .ok (.iload_n 2, 1) := by decide +kernel
theorem dX1_nameOf_3 : decode cX1_nameOf 3 = .ok (.aload_n 0, 1) := by decide +kernel
theorem dX1_nameOf_4 : decode cX1_nameOf 4 = .ok (.getfield 19, 3) := by decide +kernel
theorem dX1_nameOf_7 : decode cX1_nameOf 7 = .ok (.if_icmp .ge 20, 3) := by decide +kernel
theorem dX1_nameOf_10 : decode cX1_nameOf 10 = .ok (.aload_n 0, 1) := by decide +kernel
theorem dX1_nameOf_11 : decode cX1_nameOf 11 = .ok (.iload_n 2, 1) := by decide +kernel
theorem dX1_nameOf_12 : decode cX1_nameOf 12 = .ok (.aload_n 1, 1) := by decide +kernel
theorem dX1_nameOf_13 : decode cX1_nameOf 13 = .ok (.invokevirtual 33, 3) := by decide +kernel
theorem dX1_nameOf_16 : decode cX1_nameOf 16 = .ok (.ifCond .eq 5, 3) := by decide +kernel
theorem dX1_nameOf_19 : decode cX1_nameOf 19 = .ok (.iload_n 2, 1) := by decide +kernel
theorem dX1_nameOf_20 : decode cX1_nameOf 20 = .ok (.ireturn, 1) := by decide +kernel
theorem dX1_nameOf_21 : decode cX1_nameOf 21 = .ok (.iinc 2 1, 3) := by decide +kernel
theorem dX1_nameOf_24 : decode cX1_nameOf 24 = .ok (.goto (-22), 3) := by decide +kernel
theorem dX1_nameOf_27 : decode cX1_nameOf 27 = .ok (.iconst (-1), 1) := by decide +kernel
theorem dX1_nameOf_28 : decode cX1_nameOf 28 = .ok (.ireturn, 1) := by decide +kernel
theorem dX1_isSure_0 : decode cX1_isSure 0 = .ok (.iconst 0, 1) := by decide +kernel
theorem dX1_isSure_1 : decode cX1_isSure 1 = .ok (.istore 4, 2) := by decide +kernel
theorem dX1_isSure_3 : decode cX1_isSure 3 = .ok (.iload 4, 2) := by decide +kernel
theorem dX1_isSure_5 : decode cX1_isSure 5 = .ok (.iconst 4, 1) := by decide +kernel
theorem dX1_isSure_6 : decode cX1_isSure 6 = .ok (.if_icmp .ge 133, 3) := by decide +kernel
theorem dX1_isSure_9 : decode cX1_isSure 9 = .ok (.iconst 0, 1) := by decide +kernel
theorem dX1_isSure_10 : decode cX1_isSure 10 = .ok (.istore 5, 2) := by decide +kernel
theorem dX1_isSure_12 : decode cX1_isSure 12 = .ok (.iconst 0, 1) := by decide +kernel
theorem dX1_isSure_13 : decode cX1_isSure 13 = .ok (.istore 6, 2) := by decide +kernel
theorem dX1_isSure_15 : decode cX1_isSure 15 = .ok (.iconst 0, 1) := by decide +kernel
theorem dX1_isSure_16 : decode cX1_isSure 16 = .ok (.istore 7, 2) := by decide +kernel
theorem dX1_isSure_18 : decode cX1_isSure 18 = .ok (.iload 7, 2) := by decide +kernel
theorem dX1_isSure_20 : decode cX1_isSure 20 = .ok (.aload_n 3, 1) := by decide +kernel
theorem dX1_isSure_21 : decode cX1_isSure 21 = .ok (.getfield 37, 3) := by decide +kernel
theorem dX1_isSure_24 : decode cX1_isSure 24 = .ok (.if_icmp .ge 71, 3) := by decide +kernel
theorem dX1_isSure_27 : decode cX1_isSure 27 = .ok (.aload_n 3, 1) := by decide +kernel
theorem dX1_isSure_28 : decode cX1_isSure 28 = .ok (.getfield 40, 3) := by decide +kernel
theorem dX1_isSure_31 : decode cX1_isSure 31 = .ok (.iload 7, 2) := by decide +kernel
theorem dX1_isSure_33 : decode cX1_isSure 33 = .ok (.aaload, 1) := by decide +kernel
theorem dX1_isSure_34 : decode cX1_isSure 34 = .ok (.iload 4, 2) := by decide +kernel
theorem dX1_isSure_36 : decode cX1_isSure 36 = .ok (.iaload, 1) := by decide +kernel
theorem dX1_isSure_37 : decode cX1_isSure 37 = .ok (.istore 8, 2) := by decide +kernel
theorem dX1_isSure_39 : decode cX1_isSure 39 = .ok (.iload 5, 2) := by decide +kernel
theorem dX1_isSure_41 : decode cX1_isSure 41 = .ok (.aload_n 2, 1) := by decide +kernel
theorem dX1_isSure_42 : decode cX1_isSure 42 = .ok (.iload 7, 2) := by decide +kernel
theorem dX1_isSure_44 : decode cX1_isSure 44 = .ok (.iaload, 1) := by decide +kernel
theorem dX1_isSure_45 : decode cX1_isSure 45 = .ok (.iload 8, 2) := by decide +kernel
theorem dX1_isSure_47 : decode cX1_isSure 47 = .ok (.aload_n 3, 1) := by decide +kernel
theorem dX1_isSure_48 : decode cX1_isSure 48 = .ok (.getfield 43, 3) := by decide +kernel
theorem dX1_isSure_51 : decode cX1_isSure 51 = .ok (.iload 7, 2) := by decide +kernel
theorem dX1_isSure_53 : decode cX1_isSure 53 = .ok (.iaload, 1) := by decide +kernel
theorem dX1_isSure_54 : decode cX1_isSure 54 = .ok (.isub, 1) := by decide +kernel
theorem dX1_isSure_55 : decode cX1_isSure 55 = .ok (.iconst 0, 1) := by decide +kernel
theorem dX1_isSure_56 : decode cX1_isSure 56 = .ok (.invokestatic 46, 3) := by decide +kernel
theorem dX1_isSure_59 : decode cX1_isSure 59 = .ok (.imul, 1) := by decide +kernel
theorem dX1_isSure_60 : decode cX1_isSure 60 = .ok (.iadd, 1) := by decide +kernel
theorem dX1_isSure_61 : decode cX1_isSure 61 = .ok (.istore 5, 2) := by decide +kernel
theorem dX1_isSure_63 : decode cX1_isSure 63 = .ok (.iload 6, 2) := by decide +kernel
theorem dX1_isSure_65 : decode cX1_isSure 65 = .ok (.aload_n 2, 1) := by decide +kernel
theorem dX1_isSure_66 : decode cX1_isSure 66 = .ok (.iload 7, 2) := by decide +kernel
theorem dX1_isSure_68 : decode cX1_isSure 68 = .ok (.iaload, 1) := by decide +kernel
theorem dX1_isSure_69 : decode cX1_isSure 69 = .ok (.iload 8, 2) := by decide +kernel
theorem dX1_isSure_71 : decode cX1_isSure 71 = .ok (.aload_n 3, 1) := by decide +kernel
theorem dX1_isSure_72 : decode cX1_isSure 72 = .ok (.getfield 43, 3) := by decide +kernel
theorem dX1_isSure_75 : decode cX1_isSure 75 = .ok (.iload 7, 2) := by decide +kernel
theorem dX1_isSure_77 : decode cX1_isSure 77 = .ok (.iaload, 1) := by decide +kernel
theorem dX1_isSure_78 : decode cX1_isSure 78 = .ok (.iadd, 1) := by decide +kernel
theorem dX1_isSure_79 : decode cX1_isSure 79 = .ok (.sipush 1000, 3) := by decide +kernel
theorem dX1_isSure_82 : decode cX1_isSure 82 = .ok (.invokestatic 52, 3) := by decide +kernel
theorem dX1_isSure_85 : decode cX1_isSure 85 = .ok (.imul, 1) := by decide +kernel
theorem dX1_isSure_86 : decode cX1_isSure 86 = .ok (.iadd, 1) := by decide +kernel
theorem dX1_isSure_87 : decode cX1_isSure 87 = .ok (.istore 6, 2) := by decide +kernel
theorem dX1_isSure_89 : decode cX1_isSure 89 = .ok (.iinc 7 1, 3) := by decide +kernel
theorem dX1_isSure_92 : decode cX1_isSure 92 = .ok (.goto (-74), 3) := by decide +kernel
theorem dX1_isSure_95 : decode cX1_isSure 95 = .ok (.iload 5, 2) := by decide +kernel
theorem dX1_isSure_97 : decode cX1_isSure 97 = .ok (.aload_n 0, 1) := by decide +kernel
theorem dX1_isSure_98 : decode cX1_isSure 98 = .ok (.getfield 11, 3) := by decide +kernel
theorem dX1_isSure_101 : decode cX1_isSure 101 = .ok (.iload_n 1, 1) := by decide +kernel
theorem dX1_isSure_102 : decode cX1_isSure 102 = .ok (.aaload, 1) := by decide +kernel
theorem dX1_isSure_103 : decode cX1_isSure 103 = .ok (.iload 4, 2) := by decide +kernel
theorem dX1_isSure_105 : decode cX1_isSure 105 = .ok (.iaload, 1) := by decide +kernel
theorem dX1_isSure_106 : decode cX1_isSure 106 = .ok (.sipush 1000, 3) := by decide +kernel
theorem dX1_isSure_109 : decode cX1_isSure 109 = .ok (.imul, 1) := by decide +kernel
theorem dX1_isSure_110 : decode cX1_isSure 110 = .ok (.if_icmp .lt 21, 3) := by decide +kernel
theorem dX1_isSure_113 : decode cX1_isSure 113 = .ok (.iload 6, 2) := by decide +kernel
theorem dX1_isSure_115 : decode cX1_isSure 115 = .ok (.aload_n 0, 1) := by decide +kernel
theorem dX1_isSure_116 : decode cX1_isSure 116 = .ok (.getfield 16, 3) := by decide +kernel
theorem dX1_isSure_119 : decode cX1_isSure 119 = .ok (.iload_n 1, 1) := by decide +kernel
theorem dX1_isSure_120 : decode cX1_isSure 120 = .ok (.aaload, 1) := by decide +kernel
theorem dX1_isSure_121 : decode cX1_isSure 121 = .ok (.iload 4, 2) := by decide +kernel
theorem dX1_isSure_123 : decode cX1_isSure 123 = .ok (.iaload, 1) := by decide +kernel
theorem dX1_isSure_124 : decode cX1_isSure 124 = .ok (.sipush 1000, 3) := by decide +kernel
theorem dX1_isSure_127 : decode cX1_isSure 127 = .ok (.imul, 1) := by decide +kernel
theorem dX1_isSure_128 : decode cX1_isSure 128 = .ok (.if_icmp .le 5, 3) := by decide +kernel
theorem dX1_isSure_131 : decode cX1_isSure 131 = .ok (.iconst 0, 1) := by decide +kernel
theorem dX1_isSure_132 : decode cX1_isSure 132 = .ok (.ireturn, 1) := by decide +kernel
theorem dX1_isSure_133 : decode cX1_isSure 133 = .ok (.iinc 4 1, 3) := by decide +kernel
theorem dX1_isSure_136 : decode cX1_isSure 136 = .ok (.goto (-133), 3) := by decide +kernel
theorem dX1_isSure_139 : decode cX1_isSure 139 = .ok (.iconst 1, 1) := by decide +kernel
theorem dX1_isSure_140 : decode cX1_isSure 140 = .ok (.ireturn, 1) := by decide +kernel
theorem dX2_init_0 : decode cX2_init 0 = .ok (.aload_n 0, 1) := by decide +kernel
theorem dX2_init_1 : decode cX2_init 1 = .ok (.invokespecial 3, 3) := by decide +kernel
theorem dX2_init_4 : decode cX2_init 4 = .ok (.aload_n 0, 1) := by decide +kernel
theorem dX2_init_5 : decode cX2_init 5 = .ok (.bipush 8, 2) := by decide +kernel
theorem dX2_init_7 : decode cX2_init 7 = .ok (.newarray .int, 2) := by decide +kernel
theorem dX2_init_9 : decode cX2_init 9 = .ok (.putfield 9, 3) := by decide +kernel
theorem dX2_init_12 : decode cX2_init 12 = .ok (.aload_n 0, 1) := by decide +kernel
theorem dX2_init_13 : decode cX2_init 13 = .ok (.bipush 8, 2) := by decide +kernel
theorem dX2_init_15 : decode cX2_init 15 = .ok (.iconst 4, 1) := by decide +kernel
theorem dX2_init_16 : decode cX2_init 16 = .ok (.multianewarray 15 2, 4) := by decide +kernel
theorem dX2_init_20 : decode cX2_init 20 = .ok (.putfield 17, 3) := by decide +kernel
theorem dX2_init_23 : decode cX2_init 23 = .ok (.aload_n 0, 1) := by decide +kernel
theorem dX2_init_24 : decode cX2_init 24 = .ok (.bipush 8, 2) := by decide +kernel
theorem dX2_init_26 : decode cX2_init 26 = .ok (.newarray .int, 2) := by decide +kernel
theorem dX2_init_28 : decode cX2_init 28 = .ok (.putfield 20, 3) := by decide +kernel
theorem dX2_init_31 : decode cX2_init 31 = .ok (.aload_n 0, 1) := by decide +kernel
theorem dX2_init_32 : decode cX2_init 32 = .ok (.bipush 8, 2) := by decide +kernel
theorem dX2_init_34 : decode cX2_init 34 = .ok (.newarray .int, 2) := by decide +kernel
theorem dX2_init_36 : decode cX2_init 36 = .ok (.putfield 23, 3) := by decide +kernel
theorem dX2_init_39 : decode cX2_init 39 = .ok (.aload_n 0, 1) := by decide +kernel
theorem dX2_init_40 : decode cX2_init 40 = .ok (.bipush 8, 2) := by decide +kernel
theorem dX2_init_42 : decode cX2_init 42 = .ok (.newarray .int, 2) := by decide +kernel
theorem dX2_init_44 : decode cX2_init 44 = .ok (.putfield 26, 3) := by decide +kernel
theorem dX2_init_47 : decode cX2_init 47 = .ok (.return_, 1) := by decide +kernel
theorem dX2_has_0 : decode cX2_has 0 = .ok (.iload_n 1, 1) := by decide +kernel
theorem dX2_has_1 : decode cX2_has 1 = .ok (.ifCond .lt 15, 3) := by decide +kernel
theorem dX2_has_4 : decode cX2_has 4 = .ok (.iload_n 1, 1) := by decide +kernel
theorem dX2_has_5 : decode cX2_has 5 = .ok (.aload_n 0, 1) := by decide +kernel
theorem dX2_has_6 : decode cX2_has 6 = .ok (.getfield 29, 3) := by decide +kernel
theorem dX2_has_9 : decode cX2_has 9 = .ok (.if_icmp .ge 7, 3) := by decide +kernel
theorem dX2_has_12 : decode cX2_has 12 = .ok (.iconst 1, 1) := by decide +kernel
theorem dX2_has_13 : decode cX2_has 13 = .ok (.goto 4, 3) := by decide +kernel
theorem dX2_has_16 : decode cX2_has 16 = .ok (.iconst 0, 1) := by decide +kernel
theorem dX2_has_17 : decode cX2_has 17 = .ok (.ireturn, 1) := by decide +kernel
theorem dX2_add_0 : decode cX2_add 0 = .ok (.aload_n 0, 1) := by decide +kernel
theorem dX2_add_1 : decode cX2_add 1 = .ok (.getfield 29, 3) := by decide +kernel
theorem dX2_add_4 : decode cX2_add 4 = .ok (.bipush 8, 2) := by decide +kernel
theorem dX2_add_6 : decode cX2_add 6 = .ok (.if_icmp .lt 6, 3) := by decide +kernel
theorem dX2_add_9 : decode cX2_add 9 = .ok (.ldc 33, 2) := by decide +kernel
theorem dX2_add_11 : decode cX2_add 11 = .ok (.ireturn, 1) := by decide +kernel
theorem dX2_add_12 : decode cX2_add 12 = .ok (.aload_n 0, 1) := by decide +kernel
theorem dX2_add_13 : decode cX2_add 13 = .ok (.getfield 29, 3) := by decide +kernel
theorem dX2_add_16 : decode cX2_add 16 = .ok (.istore 8, 2) := by decide +kernel
theorem dX2_add_18 : decode cX2_add 18 = .ok (.aload_n 0, 1) := by decide +kernel
theorem dX2_add_19 : decode cX2_add 19 = .ok (.getfield 9, 3) := by decide +kernel
theorem dX2_add_22 : decode cX2_add 22 = .ok (.iload 8, 2) := by decide +kernel
theorem dX2_add_24 : decode cX2_add 24 = .ok (.iload_n 1, 1) := by decide +kernel
theorem dX2_add_25 : decode cX2_add 25 = .ok (.iastore, 1) := by decide +kernel
theorem dX2_add_26 : decode cX2_add 26 = .ok (.aload_n 0, 1) := by decide +kernel
theorem dX2_add_27 : decode cX2_add 27 = .ok (.getfield 17, 3) := by decide +kernel
theorem dX2_add_30 : decode cX2_add 30 = .ok (.iload 8, 2) := by decide +kernel
theorem dX2_add_32 : decode cX2_add 32 = .ok (.aaload, 1) := by decide +kernel
theorem dX2_add_33 : decode cX2_add 33 = .ok (.iconst 0, 1) := by decide +kernel
theorem dX2_add_34 : decode cX2_add 34 = .ok (.iload_n 2, 1) := by decide +kernel
theorem dX2_add_35 : decode cX2_add 35 = .ok (.iastore, 1) := by decide +kernel
theorem dX2_add_36 : decode cX2_add 36 = .ok (.aload_n 0, 1) := by decide +kernel
theorem dX2_add_37 : decode cX2_add 37 = .ok (.getfield 17, 3) := by decide +kernel
theorem dX2_add_40 : decode cX2_add 40 = .ok (.iload 8, 2) := by decide +kernel
theorem dX2_add_42 : decode cX2_add 42 = .ok (.aaload, 1) := by decide +kernel
theorem dX2_add_43 : decode cX2_add 43 = .ok (.iconst 1, 1) := by decide +kernel
theorem dX2_add_44 : decode cX2_add 44 = .ok (.iload_n 3, 1) := by decide +kernel
theorem dX2_add_45 : decode cX2_add 45 = .ok (.iastore, 1) := by decide +kernel
theorem dX2_add_46 : decode cX2_add 46 = .ok (.aload_n 0, 1) := by decide +kernel
theorem dX2_add_47 : decode cX2_add 47 = .ok (.getfield 17, 3) := by decide +kernel
theorem dX2_add_50 : decode cX2_add 50 = .ok (.iload 8, 2) := by decide +kernel
theorem dX2_add_52 : decode cX2_add 52 = .ok (.aaload, 1) := by decide +kernel
theorem dX2_add_53 : decode cX2_add 53 = .ok (.iconst 2, 1) := by decide +kernel
theorem dX2_add_54 : decode cX2_add 54 = .ok (.iload 4, 2) := by decide +kernel
theorem dX2_add_56 : decode cX2_add 56 = .ok (.iastore, 1) := by decide +kernel
theorem dX2_add_57 : decode cX2_add 57 = .ok (.aload_n 0, 1) := by decide +kernel
theorem dX2_add_58 : decode cX2_add 58 = .ok (.getfield 17, 3) := by decide +kernel
theorem dX2_add_61 : decode cX2_add 61 = .ok (.iload 8, 2) := by decide +kernel
theorem dX2_add_63 : decode cX2_add 63 = .ok (.aaload, 1) := by decide +kernel
theorem dX2_add_64 : decode cX2_add 64 = .ok (.iconst 3, 1) := by decide +kernel
theorem dX2_add_65 : decode cX2_add 65 = .ok (.iload 5, 2) := by decide +kernel
theorem dX2_add_67 : decode cX2_add 67 = .ok (.iastore, 1) := by decide +kernel
theorem dX2_add_68 : decode cX2_add 68 = .ok (.aload_n 0, 1) := by decide +kernel
theorem dX2_add_69 : decode cX2_add 69 = .ok (.getfield 20, 3) := by decide +kernel
theorem dX2_add_72 : decode cX2_add 72 = .ok (.iload 8, 2) := by decide +kernel
theorem dX2_add_74 : decode cX2_add 74 = .ok (.iload 6, 2) := by decide +kernel
theorem dX2_add_76 : decode cX2_add 76 = .ok (.iastore, 1) := by decide +kernel
theorem dX2_add_77 : decode cX2_add 77 = .ok (.aload_n 0, 1) := by decide +kernel
theorem dX2_add_78 : decode cX2_add 78 = .ok (.getfield 23, 3) := by decide +kernel
theorem dX2_add_81 : decode cX2_add 81 = .ok (.iload 8, 2) := by decide +kernel
theorem dX2_add_83 : decode cX2_add 83 = .ok (.iload 7, 2) := by decide +kernel
theorem dX2_add_85 : decode cX2_add 85 = .ok (.iastore, 1) := by decide +kernel
theorem dX2_add_86 : decode cX2_add 86 = .ok (.aload_n 0, 1) := by decide +kernel
theorem dX2_add_87 : decode cX2_add 87 = .ok (.dup, 1) := by decide +kernel
theorem dX2_add_88 : decode cX2_add 88 = .ok (.getfield 29, 3) := by decide +kernel
theorem dX2_add_91 : decode cX2_add 91 = .ok (.iconst 1, 1) := by decide +kernel
theorem dX2_add_92 : decode cX2_add 92 = .ok (.iadd, 1) := by decide +kernel
theorem dX2_add_93 : decode cX2_add 93 = .ok (.putfield 29, 3) := by decide +kernel
theorem dX2_add_96 : decode cX2_add 96 = .ok (.iload 8, 2) := by decide +kernel
theorem dX2_add_98 : decode cX2_add 98 = .ok (.ireturn, 1) := by decide +kernel
theorem dX2_haveAll_0 : decode cX2_haveAll 0 = .ok (.iconst 0, 1) := by decide +kernel
theorem dX2_haveAll_1 : decode cX2_haveAll 1 = .ok (.istore_n 2, 1) := by decide +kernel
theorem dX2_haveAll_2 : decode cX2_haveAll 2 = .ok (.iload_n 2, 1) := by decide +kernel
theorem dX2_haveAll_3 : decode cX2_haveAll 3 = .ok (.bipush 8, 2) := by decide +kernel
theorem dX2_haveAll_5 : decode cX2_haveAll 5 = .ok (.if_icmp .ge 23, 3) := by decide +kernel
theorem dX2_haveAll_8 : decode cX2_haveAll 8 = .ok (.aload_n 0, 1) := by decide +kernel
theorem dX2_haveAll_9 : decode cX2_haveAll 9 = .ok (.getfield 26, 3) := by decide +kernel
theorem dX2_haveAll_12 : decode cX2_haveAll 12 = .ok (.iload_n 2, 1) := by decide +kernel
theorem dX2_haveAll_13 : decode cX2_haveAll 13 = .ok (.iaload, 1) := by decide +kernel
theorem dX2_haveAll_14 : decode cX2_haveAll 14 = .ok (.aload_n 1, 1) := by decide +kernel
theorem dX2_haveAll_15 : decode cX2_haveAll 15 = .ok (.iload_n 2, 1) := by decide +kernel
theorem dX2_haveAll_16 : decode cX2_haveAll 16 = .ok (.iaload, 1) := by decide +kernel
theorem dX2_haveAll_17 : decode cX2_haveAll 17 = .ok (.if_icmp .ge 5, 3) := by decide +kernel
theorem dX2_haveAll_20 : decode cX2_haveAll 20 = .ok (.iconst 0, 1) := by decide +kernel
theorem dX2_haveAll_21 : decode cX2_haveAll 21 = .ok (.ireturn, 1) := by decide +kernel
theorem dX2_haveAll_22 : decode cX2_haveAll 22 = .ok (.iinc 2 1, 3) := by decide +kernel
theorem dX2_haveAll_25 : decode cX2_haveAll 25 = .ok (.goto (-23), 3) := by decide +kernel
theorem dX2_haveAll_28 : decode cX2_haveAll 28 = .ok (.iconst 1, 1) := by decide +kernel
theorem dX2_haveAll_29 : decode cX2_haveAll 29 = .ok (.ireturn, 1) := by decide +kernel
theorem dX2_takeAll_0 : decode cX2_takeAll 0 = .ok (.iconst 0, 1) := by decide +kernel
theorem dX2_takeAll_1 : decode cX2_takeAll 1 = .ok (.istore_n 2, 1) := by decide +kernel
theorem dX2_takeAll_2 : decode cX2_takeAll 2 = .ok (.iload_n 2, 1) := by decide +kernel
theorem dX2_takeAll_3 : decode cX2_takeAll 3 = .ok (.bipush 8, 2) := by decide +kernel
theorem dX2_takeAll_5 : decode cX2_takeAll 5 = .ok (.if_icmp .ge 21, 3) := by decide +kernel
theorem dX2_takeAll_8 : decode cX2_takeAll 8 = .ok (.aload_n 0, 1) := by decide +kernel
theorem dX2_takeAll_9 : decode cX2_takeAll 9 = .ok (.getfield 26, 3) := by decide +kernel
theorem dX2_takeAll_12 : decode cX2_takeAll 12 = .ok (.iload_n 2, 1) := by decide +kernel
theorem dX2_takeAll_13 : decode cX2_takeAll 13 = .ok (.dup2, 1) := by decide +kernel
theorem dX2_takeAll_14 : decode cX2_takeAll 14 = .ok (.iaload, 1) := by decide +kernel
theorem dX2_takeAll_15 : decode cX2_takeAll 15 = .ok (.aload_n 1, 1) := by decide +kernel
theorem dX2_takeAll_16 : decode cX2_takeAll 16 = .ok (.iload_n 2, 1) := by decide +kernel
theorem dX2_takeAll_17 : decode cX2_takeAll 17 = .ok (.iaload, 1) := by decide +kernel
theorem dX2_takeAll_18 : decode cX2_takeAll 18 = .ok (.isub, 1) := by decide +kernel
theorem dX2_takeAll_19 : decode cX2_takeAll 19 = .ok (.iastore, 1) := by decide +kernel
theorem dX2_takeAll_20 : decode cX2_takeAll 20 = .ok (.iinc 2 1, 3) := by decide +kernel
theorem dX2_takeAll_23 : decode cX2_takeAll 23 = .ok (.goto (-21), 3) := by decide +kernel
theorem dX2_takeAll_26 : decode cX2_takeAll 26 = .ok (.return_, 1) := by decide +kernel
theorem dX2_takeBack_0 : decode cX2_takeBack 0 = .ok (.iconst 0, 1) := by decide +kernel
theorem dX2_takeBack_1 : decode cX2_takeBack 1 = .ok (.istore_n 2, 1) := by decide +kernel
theorem dX2_takeBack_2 : decode cX2_takeBack 2 = .ok (.iload_n 2, 1) := by decide +kernel
theorem dX2_takeBack_3 : decode cX2_takeBack 3 = .ok (.aload_n 0, 1) := by decide +kernel
theorem dX2_takeBack_4 : decode cX2_takeBack 4 = .ok (.getfield 29, 3) := by decide +kernel
theorem dX2_takeBack_7 : decode cX2_takeBack 7 = .ok (.if_icmp .ge 39, 3) := by decide +kernel
theorem dX2_takeBack_10 : decode cX2_takeBack 10 = .ok (.aload_n 0, 1) := by decide +kernel
theorem dX2_takeBack_11 : decode cX2_takeBack 11 = .ok (.getfield 9, 3) := by decide +kernel
theorem dX2_takeBack_14 : decode cX2_takeBack 14 = .ok (.iload_n 2, 1) := by decide +kernel
theorem dX2_takeBack_15 : decode cX2_takeBack 15 = .ok (.iaload, 1) := by decide +kernel
theorem dX2_takeBack_16 : decode cX2_takeBack 16 = .ok (.iconst 3, 1) := by decide +kernel
theorem dX2_takeBack_17 : decode cX2_takeBack 17 = .ok (.if_icmp .ne 23, 3) := by decide +kernel
theorem dX2_takeBack_20 : decode cX2_takeBack 20 = .ok (.aload_n 0, 1) := by decide +kernel
theorem dX2_takeBack_21 : decode cX2_takeBack 21 = .ok (.getfield 26, 3) := by decide +kernel
theorem dX2_takeBack_24 : decode cX2_takeBack 24 = .ok (.iload_n 2, 1) := by decide +kernel
theorem dX2_takeBack_25 : decode cX2_takeBack 25 = .ok (.aload_n 0, 1) := by decide +kernel
theorem dX2_takeBack_26 : decode cX2_takeBack 26 = .ok (.getfield 26, 3) := by decide +kernel
theorem dX2_takeBack_29 : decode cX2_takeBack 29 = .ok (.iload_n 2, 1) := by decide +kernel
theorem dX2_takeBack_30 : decode cX2_takeBack 30 = .ok (.iaload, 1) := by decide +kernel
theorem dX2_takeBack_31 : decode cX2_takeBack 31 = .ok (.iload_n 1, 1) := by decide +kernel
theorem dX2_takeBack_32 : decode cX2_takeBack 32 = .ok (.iadd, 1) := by decide +kernel
theorem dX2_takeBack_33 : decode cX2_takeBack 33 = .ok (.ldc 34, 2) := by decide +kernel
theorem dX2_takeBack_35 : decode cX2_takeBack 35 = .ok (.invokestatic 35, 3) := by decide +kernel
theorem dX2_takeBack_38 : decode cX2_takeBack 38 = .ok (.iastore, 1) := by decide +kernel
theorem dX2_takeBack_39 : decode cX2_takeBack 39 = .ok (.return_, 1) := by decide +kernel
theorem dX2_takeBack_40 : decode cX2_takeBack 40 = .ok (.iinc 2 1, 3) := by decide +kernel
theorem dX2_takeBack_43 : decode cX2_takeBack 43 = .ok (.goto (-41), 3) := by decide +kernel
theorem dX2_takeBack_46 : decode cX2_takeBack 46 = .ok (.return_, 1) := by decide +kernel
theorem dX3_init_0 : decode cX3_init 0 = .ok (.aload_n 0, 1) := by decide +kernel
theorem dX3_init_1 : decode cX3_init 1 = .ok (.invokespecial 3, 3) := by decide +kernel
theorem dX3_init_4 : decode cX3_init 4 = .ok (.aload_n 0, 1) := by decide +kernel
theorem dX3_init_5 : decode cX3_init 5 = .ok (.new 9, 3) := by decide +kernel
theorem dX3_init_8 : decode cX3_init 8 = .ok (.dup, 1) := by decide +kernel
theorem dX3_init_9 : decode cX3_init 9 = .ok (.invokespecial 11, 3) := by decide +kernel
theorem dX3_init_12 : decode cX3_init 12 = .ok (.putfield 12, 3) := by decide +kernel
theorem dX3_init_15 : decode cX3_init 15 = .ok (.aload_n 0, 1) := by decide +kernel
theorem dX3_init_16 : decode cX3_init 16 = .ok (.aload_n 1, 1) := by decide +kernel
theorem dX3_init_17 : decode cX3_init 17 = .ok (.putfield 18, 3) := by decide +kernel
theorem dX3_init_20 : decode cX3_init 20 = .ok (.aload_n 0, 1) := by decide +kernel
theorem dX3_init_21 : decode cX3_init 21 = .ok (.aload_n 2, 1) := by decide +kernel
theorem dX3_init_22 : decode cX3_init 22 = .ok (.putfield 22, 3) := by decide +kernel
theorem dX3_init_25 : decode cX3_init 25 = .ok (.aload_n 0, 1) := by decide +kernel
theorem dX3_init_26 : decode cX3_init 26 = .ok (.aload_n 3, 1) := by decide +kernel
theorem dX3_init_27 : decode cX3_init 27 = .ok (.putfield 26, 3) := by decide +kernel
theorem dX3_init_30 : decode cX3_init 30 = .ok (.aload_n 0, 1) := by decide +kernel
theorem dX3_init_31 : decode cX3_init 31 = .ok (.aload 4, 2) := by decide +kernel
theorem dX3_init_33 : decode cX3_init 33 = .ok (.putfield 30, 3) := by decide +kernel
theorem dX3_init_36 : decode cX3_init 36 = .ok (.aload_n 0, 1) := by decide +kernel
theorem dX3_init_37 : decode cX3_init 37 = .ok (.aload 5, 2) := by decide +kernel
theorem dX3_init_39 : decode cX3_init 39 = .ok (.putfield 33, 3) := by decide +kernel
theorem dX3_init_42 : decode cX3_init 42 = .ok (.return_, 1) := by decide +kernel
theorem dX3_firstHour_0 : decode cX3_firstHour 0 = .ok (.aload_n 0, 1) := by decide +kernel
theorem dX3_firstHour_1 : decode cX3_firstHour 1 = .ok (.getfield 26, 3) := by decide +kernel
theorem dX3_firstHour_4 : decode cX3_firstHour 4 = .ok (.aload_n 0, 1) := by decide +kernel
theorem dX3_firstHour_5 : decode cX3_firstHour 5 = .ok (.getfield 18, 3) := by decide +kernel
theorem dX3_firstHour_8 : decode cX3_firstHour 8 = .ok (.getfield 36, 3) := by decide +kernel
theorem dX3_firstHour_11 : decode cX3_firstHour 11 = .ok (.iconst (-1), 1) := by decide +kernel
theorem dX3_firstHour_12 : decode cX3_firstHour 12 = .ok (.iconst 0, 1) := by decide +kernel
theorem dX3_firstHour_13 : decode cX3_firstHour 13 = .ok (.invokevirtual 42, 3) := by decide +kernel
theorem dX3_firstHour_16 : decode cX3_firstHour 16 = .ok (.aload_n 0, 1) := by decide +kernel
theorem dX3_firstHour_17 : decode cX3_firstHour 17 = .ok (.iload_n 1, 1) := by decide +kernel
theorem dX3_firstHour_18 : decode cX3_firstHour 18 = .ok (.iconst 0, 1) := by decide +kernel
theorem dX3_firstHour_19 : decode cX3_firstHour 19 = .ok (.bipush 100, 2) := by decide +kernel
theorem dX3_firstHour_21 : decode cX3_firstHour 21 = .ok (.invokevirtual 48, 3) := by decide +kernel
theorem dX3_firstHour_24 : decode cX3_firstHour 24 = .ok (.ireturn, 1) := by decide +kernel
theorem dX3_hoursWithoutName_0 : decode cX3_hoursWithoutName 0 = .ok (.aload_n 0, 1) := by decide +kernel
theorem dX3_hoursWithoutName_1 : decode cX3_hoursWithoutName 1 = .ok (.getfield 26, 3) := by decide +kernel
theorem dX3_hoursWithoutName_4 : decode cX3_hoursWithoutName 4 = .ok (.aload_n 0, 1) := by decide +kernel
theorem dX3_hoursWithoutName_5 : decode cX3_hoursWithoutName 5 = .ok (.getfield 18, 3) := by decide +kernel
theorem dX3_hoursWithoutName_8 : decode cX3_hoursWithoutName 8 = .ok (.getfield 36, 3) := by decide +kernel
theorem dX3_hoursWithoutName_11 : decode cX3_hoursWithoutName 11 = .ok (.iconst (-1), 1) := by decide +kernel
theorem dX3_hoursWithoutName_12 : decode cX3_hoursWithoutName 12 = .ok (.iconst 0, 1) := by decide +kernel
theorem dX3_hoursWithoutName_13 : decode cX3_hoursWithoutName 13 = .ok (.invokevirtual 42, 3) := by decide +kernel
theorem dX3_hoursWithoutName_16 : decode cX3_hoursWithoutName 16 = .ok (.aload_n 0, 1) := by decide +kernel
theorem dX3_hoursWithoutName_17 : decode cX3_hoursWithoutName 17 = .ok (.getfield 33, 3) := by decide +kernel
theorem dX3_hoursWithoutName_20 : decode cX3_hoursWithoutName 20 = .ok (.aload_n 0, 1) := by decide +kernel
theorem dX3_hoursWithoutName_21 : decode cX3_hoursWithoutName 21 = .ok (.getfield 18, 3) := by decide +kernel
theorem dX3_hoursWithoutName_24 : decode cX3_hoursWithoutName 24 = .ok (.invokevirtual 52, 3) := by decide +kernel
theorem dX3_hoursWithoutName_27 : decode cX3_hoursWithoutName 27 = .ok (.iconst 0, 1) := by decide +kernel
theorem dX3_hoursWithoutName_28 : decode cX3_hoursWithoutName 28 = .ok (.istore_n 1, 1) := by decide +kernel
theorem dX3_hoursWithoutName_29 : decode cX3_hoursWithoutName 29 = .ok (.iconst 1, 1) := by decide +kernel
theorem dX3_hoursWithoutName_30 : decode cX3_hoursWithoutName 30 = .ok (.istore_n 2, 1) := by decide +kernel
theorem dX3_hoursWithoutName_31 : decode cX3_hoursWithoutName 31 = .ok (.iload_n 2, 1) := by decide +kernel
theorem dX3_hoursWithoutName_32 : decode cX3_hoursWithoutName 32 = .ok (.bipush 100, 2) := by decide +kernel
theorem dX3_hoursWithoutName_34 : decode cX3_hoursWithoutName 34 = .ok (.if_icmp .gt 35, 3) := by decide +kernel
theorem dX3_hoursWithoutName_37 : decode cX3_hoursWithoutName 37 = .ok (.aload_n 0, 1) := by decide +kernel
theorem dX3_hoursWithoutName_38 : decode cX3_hoursWithoutName 38 = .ok (.aload_n 0, 1) := by decide +kernel
theorem dX3_hoursWithoutName_39 : decode cX3_hoursWithoutName 39 = .ok (.getfield 26, 3) := by decide +kernel
theorem dX3_hoursWithoutName_42 : decode cX3_hoursWithoutName 42 = .ok (.invokevirtual 56, 3) := by decide +kernel
theorem dX3_hoursWithoutName_45 : decode cX3_hoursWithoutName 45 = .ok (.aload_n 0, 1) := by decide +kernel
theorem dX3_hoursWithoutName_46 : decode cX3_hoursWithoutName 46 = .ok (.getfield 22, 3) := by decide +kernel
theorem dX3_hoursWithoutName_49 : decode cX3_hoursWithoutName 49 = .ok (.aload_n 0, 1) := by decide +kernel
theorem dX3_hoursWithoutName_50 : decode cX3_hoursWithoutName 50 = .ok (.getfield 12, 3) := by decide +kernel
theorem dX3_hoursWithoutName_53 : decode cX3_hoursWithoutName 53 = .ok (.invokevirtual 60, 3) := by decide +kernel
theorem dX3_hoursWithoutName_56 : decode cX3_hoursWithoutName 56 = .ok (.iconst (-1), 1) := by decide +kernel
theorem dX3_hoursWithoutName_57 : decode cX3_hoursWithoutName 57 = .ok (.if_icmp .ne 6, 3) := by decide +kernel
theorem dX3_hoursWithoutName_60 : decode cX3_hoursWithoutName 60 = .ok (.iinc 1 1, 3) := by decide +kernel
theorem dX3_hoursWithoutName_63 : decode cX3_hoursWithoutName 63 = .ok (.iinc 2 1, 3) := by decide +kernel
theorem dX3_hoursWithoutName_66 : decode cX3_hoursWithoutName 66 = .ok (.goto (-35), 3) := by decide +kernel
theorem dX3_hoursWithoutName_69 : decode cX3_hoursWithoutName 69 = .ok (.iload_n 1, 1) := by decide +kernel
theorem dX3_hoursWithoutName_70 : decode cX3_hoursWithoutName 70 = .ok (.ireturn, 1) := by decide +kernel
theorem dX3_bestDose_0 : decode cX3_bestDose 0 = .ok (.aload_n 0, 1) := by decide +kernel
theorem dX3_bestDose_1 : decode cX3_bestDose 1 = .ok (.iload_n 1, 1) := by decide +kernel
theorem dX3_bestDose_2 : decode cX3_bestDose 2 = .ok (.invokevirtual 66, 3) := by decide +kernel
theorem dX3_bestDose_5 : decode cX3_bestDose 5 = .ok (.istore_n 3, 1) := by decide +kernel
theorem dX3_bestDose_6 : decode cX3_bestDose 6 = .ok (.ldc 70, 2) := by decide +kernel
theorem dX3_bestDose_8 : decode cX3_bestDose 8 = .ok (.iload_n 3, 1) := by decide +kernel
theorem dX3_bestDose_9 : decode cX3_bestDose 9 = .ok (.imul, 1) := by decide +kernel
theorem dX3_bestDose_10 : decode cX3_bestDose 10 = .ok (.istore 4, 2) := by decide +kernel
theorem dX3_bestDose_12 : decode cX3_bestDose 12 = .ok (.bipush 100, 2) := by decide +kernel
theorem dX3_bestDose_14 : decode cX3_bestDose 14 = .ok (.istore 5, 2) := by decide +kernel
theorem dX3_bestDose_16 : decode cX3_bestDose 16 = .ok (.iload 5, 2) := by decide +kernel
theorem dX3_bestDose_18 : decode cX3_bestDose 18 = .ok (.sipush 500, 3) := by decide +kernel
theorem dX3_bestDose_21 : decode cX3_bestDose 21 = .ok (.if_icmp .gt 91, 3) := by decide +kernel
theorem dX3_bestDose_24 : decode cX3_bestDose 24 = .ok (.aload_n 0, 1) := by decide +kernel
theorem dX3_bestDose_25 : decode cX3_bestDose 25 = .ok (.getfield 30, 3) := by decide +kernel
theorem dX3_bestDose_28 : decode cX3_bestDose 28 = .ok (.aload_n 0, 1) := by decide +kernel
theorem dX3_bestDose_29 : decode cX3_bestDose 29 = .ok (.getfield 18, 3) := by decide +kernel
theorem dX3_bestDose_32 : decode cX3_bestDose 32 = .ok (.getfield 36, 3) := by decide +kernel
theorem dX3_bestDose_35 : decode cX3_bestDose 35 = .ok (.iload_n 2, 1) := by decide +kernel
theorem dX3_bestDose_36 : decode cX3_bestDose 36 = .ok (.iload 5, 2) := by decide +kernel
theorem dX3_bestDose_38 : decode cX3_bestDose 38 = .ok (.invokevirtual 42, 3) := by decide +kernel
theorem dX3_bestDose_41 : decode cX3_bestDose 41 = .ok (.iconst 1, 1) := by decide +kernel
theorem dX3_bestDose_42 : decode cX3_bestDose 42 = .ok (.istore 6, 2) := by decide +kernel
theorem dX3_bestDose_44 : decode cX3_bestDose 44 = .ok (.iload 6, 2) := by decide +kernel
theorem dX3_bestDose_46 : decode cX3_bestDose 46 = .ok (.bipush 10, 2) := by decide +kernel
theorem dX3_bestDose_48 : decode cX3_bestDose 48 = .ok (.if_icmp .gt 58, 3) := by decide +kernel
theorem dX3_bestDose_51 : decode cX3_bestDose 51 = .ok (.iload_n 3, 1) := by decide +kernel
theorem dX3_bestDose_52 : decode cX3_bestDose 52 = .ok (.ifCond .ne 8, 3) := by decide +kernel
theorem dX3_bestDose_55 : decode cX3_bestDose 55 = .ok (.bipush 100, 2) := by decide +kernel
theorem dX3_bestDose_57 : decode cX3_bestDose 57 = .ok (.goto 6, 3) := by decide +kernel
theorem dX3_bestDose_60 : decode cX3_bestDose 60 = .ok (.iload_n 3, 1) := by decide +kernel
theorem dX3_bestDose_61 : decode cX3_bestDose 61 = .ok (.iconst 1, 1) := by decide +kernel
theorem dX3_bestDose_62 : decode cX3_bestDose 62 = .ok (.isub, 1) := by decide +kernel
theorem dX3_bestDose_63 : decode cX3_bestDose 63 = .ok (.istore 7, 2) := by decide +kernel
theorem dX3_bestDose_65 : decode cX3_bestDose 65 = .ok (.aload_n 0, 1) := by decide +kernel
theorem dX3_bestDose_66 : decode cX3_bestDose 66 = .ok (.iload_n 1, 1) := by decide +kernel
theorem dX3_bestDose_67 : decode cX3_bestDose 67 = .ok (.iload 6, 2) := by decide +kernel
theorem dX3_bestDose_69 : decode cX3_bestDose 69 = .ok (.iload 7, 2) := by decide +kernel
theorem dX3_bestDose_71 : decode cX3_bestDose 71 = .ok (.invokevirtual 48, 3) := by decide +kernel
theorem dX3_bestDose_74 : decode cX3_bestDose 74 = .ok (.istore 8, 2) := by decide +kernel
theorem dX3_bestDose_76 : decode cX3_bestDose 76 = .ok (.iload 8, 2) := by decide +kernel
theorem dX3_bestDose_78 : decode cX3_bestDose 78 = .ok (.ifCond .eq 22, 3) := by decide +kernel
theorem dX3_bestDose_81 : decode cX3_bestDose 81 = .ok (.iload 8, 2) := by decide +kernel
theorem dX3_bestDose_83 : decode cX3_bestDose 83 = .ok (.istore_n 3, 1) := by decide +kernel
theorem dX3_bestDose_84 : decode cX3_bestDose 84 = .ok (.ldc 70, 2) := by decide +kernel
theorem dX3_bestDose_86 : decode cX3_bestDose 86 = .ok (.iload 8, 2) := by decide +kernel
theorem dX3_bestDose_88 : decode cX3_bestDose 88 = .ok (.imul, 1) := by decide +kernel
theorem dX3_bestDose_89 : decode cX3_bestDose 89 = .ok (.bipush 100, 2) := by decide +kernel
theorem dX3_bestDose_91 : decode cX3_bestDose 91 = .ok (.iload 5, 2) := by decide +kernel
theorem dX3_bestDose_93 : decode cX3_bestDose 93 = .ok (.imul, 1) := by decide +kernel
theorem dX3_bestDose_94 : decode cX3_bestDose 94 = .ok (.iadd, 1) := by decide +kernel
theorem dX3_bestDose_95 : decode cX3_bestDose 95 = .ok (.iload 6, 2) := by decide +kernel
theorem dX3_bestDose_97 : decode cX3_bestDose 97 = .ok (.iadd, 1) := by decide +kernel
theorem dX3_bestDose_98 : decode cX3_bestDose 98 = .ok (.istore 4, 2) := by decide +kernel
theorem dX3_bestDose_100 : decode cX3_bestDose 100 = .ok (.iinc 6 1, 3) := by decide +kernel
theorem dX3_bestDose_103 : decode cX3_bestDose 103 = .ok (.goto (-59), 3) := by decide +kernel
theorem dX3_bestDose_106 : decode cX3_bestDose 106 = .ok (.iinc 5 100, 3) := by decide +kernel
theorem dX3_bestDose_109 : decode cX3_bestDose 109 = .ok (.goto (-93), 3) := by decide +kernel
theorem dX3_bestDose_112 : decode cX3_bestDose 112 = .ok (.iload 4, 2) := by decide +kernel
theorem dX3_bestDose_114 : decode cX3_bestDose 114 = .ok (.ireturn, 1) := by decide +kernel
theorem dX3_firstHourWithDose_0 : decode cX3_firstHourWithDose 0 = .ok (.aload_n 0, 1) := by decide +kernel
theorem dX3_firstHourWithDose_1 : decode cX3_firstHourWithDose 1 = .ok (.getfield 33, 3) := by decide +kernel
theorem dX3_firstHourWithDose_4 : decode cX3_firstHourWithDose 4 = .ok (.aload_n 0, 1) := by decide +kernel
theorem dX3_firstHourWithDose_5 : decode cX3_firstHourWithDose 5 = .ok (.getfield 18, 3) := by decide +kernel
theorem dX3_firstHourWithDose_8 : decode cX3_firstHourWithDose 8 = .ok (.invokevirtual 52, 3) := by decide +kernel
theorem dX3_firstHourWithDose_11 : decode cX3_firstHourWithDose 11 = .ok (.iconst 1, 1) := by decide +kernel
theorem dX3_firstHourWithDose_12 : decode cX3_firstHourWithDose 12 = .ok (.istore 4, 2) := by decide +kernel
theorem dX3_firstHourWithDose_14 : decode cX3_firstHourWithDose 14 = .ok (.iload 4, 2) := by decide +kernel
theorem dX3_firstHourWithDose_16 : decode cX3_firstHourWithDose 16 = .ok (.iload_n 3, 1) := by decide +kernel
theorem dX3_firstHourWithDose_17 : decode cX3_firstHourWithDose 17 = .ok (.if_icmp .gt 66, 3) := by decide +kernel
theorem dX3_firstHourWithDose_20 : decode cX3_firstHourWithDose 20 = .ok (.aload_n 0, 1) := by decide +kernel
theorem dX3_firstHourWithDose_21 : decode cX3_firstHourWithDose 21 = .ok (.iload 4, 2) := by decide +kernel
theorem dX3_firstHourWithDose_23 : decode cX3_firstHourWithDose 23 = .ok (.iload_n 2, 1) := by decide +kernel
theorem dX3_firstHourWithDose_24 : decode cX3_firstHourWithDose 24 = .ok (.if_icmp .gt 10, 3) := by decide +kernel
theorem dX3_firstHourWithDose_27 : decode cX3_firstHourWithDose 27 = .ok (.aload_n 0, 1) := by decide +kernel
theorem dX3_firstHourWithDose_28 : decode cX3_firstHourWithDose 28 = .ok (.getfield 30, 3) := by decide +kernel
theorem dX3_firstHourWithDose_31 : decode cX3_firstHourWithDose 31 = .ok (.goto 7, 3) := by decide +kernel
theorem dX3_firstHourWithDose_34 : decode cX3_firstHourWithDose 34 = .ok (.aload_n 0, 1) := by decide +kernel
theorem dX3_firstHourWithDose_35 : decode cX3_firstHourWithDose 35 = .ok (.getfield 26, 3) := by decide +kernel
theorem dX3_firstHourWithDose_38 : decode cX3_firstHourWithDose 38 = .ok (.invokevirtual 56, 3) := by decide +kernel
theorem dX3_firstHourWithDose_41 : decode cX3_firstHourWithDose 41 = .ok (.aload_n 0, 1) := by decide +kernel
theorem dX3_firstHourWithDose_42 : decode cX3_firstHourWithDose 42 = .ok (.getfield 22, 3) := by decide +kernel
theorem dX3_firstHourWithDose_45 : decode cX3_firstHourWithDose 45 = .ok (.iload_n 1, 1) := by decide +kernel
theorem dX3_firstHourWithDose_46 : decode cX3_firstHourWithDose 46 = .ok (.aload_n 0, 1) := by decide +kernel
theorem dX3_firstHourWithDose_47 : decode cX3_firstHourWithDose 47 = .ok (.getfield 12, 3) := by decide +kernel
theorem dX3_firstHourWithDose_50 : decode cX3_firstHourWithDose 50 = .ok (.invokevirtual 71, 3) := by decide +kernel
theorem dX3_firstHourWithDose_53 : decode cX3_firstHourWithDose 53 = .ok (.ifCond .eq 6, 3) := by decide +kernel
theorem dX3_firstHourWithDose_56 : decode cX3_firstHourWithDose 56 = .ok (.iload 4, 2) := by decide +kernel
theorem dX3_firstHourWithDose_58 : decode cX3_firstHourWithDose 58 = .ok (.ireturn, 1) := by decide +kernel
theorem dX3_firstHourWithDose_59 : decode cX3_firstHourWithDose 59 = .ok (.aload_n 0, 1) := by decide +kernel
theorem dX3_firstHourWithDose_60 : decode cX3_firstHourWithDose 60 = .ok (.getfield 33, 3) := by decide +kernel
theorem dX3_firstHourWithDose_63 : decode cX3_firstHourWithDose 63 = .ok (.getfield 75, 3) := by decide +kernel
theorem dX3_firstHourWithDose_66 : decode cX3_firstHourWithDose 66 = .ok (.ifCond .eq 11, 3) := by decide +kernel
theorem dX3_firstHourWithDose_69 : decode cX3_firstHourWithDose 69 = .ok (.iload 4, 2) := by decide +kernel
theorem dX3_firstHourWithDose_71 : decode cX3_firstHourWithDose 71 = .ok (.iload_n 2, 1) := by decide +kernel
theorem dX3_firstHourWithDose_72 : decode cX3_firstHourWithDose 72 = .ok (.if_icmp .le 5, 3) := by decide +kernel
theorem dX3_firstHourWithDose_75 : decode cX3_firstHourWithDose 75 = .ok (.iconst 0, 1) := by decide +kernel
theorem dX3_firstHourWithDose_76 : decode cX3_firstHourWithDose 76 = .ok (.ireturn, 1) := by decide +kernel
theorem dX3_firstHourWithDose_77 : decode cX3_firstHourWithDose 77 = .ok (.iinc 4 1, 3) := by decide +kernel
theorem dX3_firstHourWithDose_80 : decode cX3_firstHourWithDose 80 = .ok (.goto (-66), 3) := by decide +kernel
theorem dX3_firstHourWithDose_83 : decode cX3_firstHourWithDose 83 = .ok (.iconst 0, 1) := by decide +kernel
theorem dX3_firstHourWithDose_84 : decode cX3_firstHourWithDose 84 = .ok (.ireturn, 1) := by decide +kernel
theorem dX3_passHour_0 : decode cX3_passHour 0 = .ok (.aload_n 0, 1) := by decide +kernel
theorem dX3_passHour_1 : decode cX3_passHour 1 = .ok (.getfield 33, 3) := by decide +kernel
theorem dX3_passHour_4 : decode cX3_passHour 4 = .ok (.aload_n 1, 1) := by decide +kernel
theorem dX3_passHour_5 : decode cX3_passHour 5 = .ok (.invokevirtual 79, 3) := by decide +kernel
theorem dX3_passHour_8 : decode cX3_passHour 8 = .ok (.aload_n 0, 1) := by decide +kernel
theorem dX3_passHour_9 : decode cX3_passHour 9 = .ok (.getfield 12, 3) := by decide +kernel
theorem dX3_passHour_12 : decode cX3_passHour 12 = .ok (.aload_n 0, 1) := by decide +kernel
theorem dX3_passHour_13 : decode cX3_passHour 13 = .ok (.getfield 33, 3) := by decide +kernel
theorem dX3_passHour_16 : decode cX3_passHour 16 = .ok (.invokevirtual 82, 3) := by decide +kernel
theorem dX3_passHour_19 : decode cX3_passHour 19 = .ok (.return_, 1) := by decide +kernel
theorem dX4_init_0 : decode cX4_init 0 = .ok (.aload_n 0, 1) := by decide +kernel
theorem dX4_init_1 : decode cX4_init 1 = .ok (.invokespecial 3, 3) := by decide +kernel
theorem dX4_init_4 : decode cX4_init 4 = .ok (.aload_n 0, 1) := by decide +kernel
theorem dX4_init_5 : decode cX4_init 5 = .ok (.iconst 4, 1) := by decide +kernel
theorem dX4_init_6 : decode cX4_init 6 = .ok (.newarray .int, 2) := by decide +kernel
theorem dX4_init_8 : decode cX4_init 8 = .ok (.putfield 9, 3) := by decide +kernel
theorem dX4_init_11 : decode cX4_init 11 = .ok (.aload_n 0, 1) := by decide +kernel
theorem dX4_init_12 : decode cX4_init 12 = .ok (.bipush 8, 2) := by decide +kernel
theorem dX4_init_14 : decode cX4_init 14 = .ok (.newarray .int, 2) := by decide +kernel
theorem dX4_init_16 : decode cX4_init 16 = .ok (.putfield 15, 3) := by decide +kernel
theorem dX4_init_19 : decode cX4_init 19 = .ok (.return_, 1) := by decide +kernel
theorem dX4_read_0 : decode cX4_read 0 = .ok (.aload_n 1, 1) := by decide +kernel
theorem dX4_read_1 : decode cX4_read 1 = .ok (.invokevirtual 18, 3) := by decide +kernel
theorem dX4_read_4 : decode cX4_read 4 = .ok (.astore_n 2, 1) := by decide +kernel
theorem dX4_read_5 : decode cX4_read 5 = .ok (.iconst 0, 1) := by decide +kernel
theorem dX4_read_6 : decode cX4_read 6 = .ok (.istore_n 3, 1) := by decide +kernel
theorem dX4_read_7 : decode cX4_read 7 = .ok (.iload_n 3, 1) := by decide +kernel
theorem dX4_read_8 : decode cX4_read 8 = .ok (.iconst 4, 1) := by decide +kernel
theorem dX4_read_9 : decode cX4_read 9 = .ok (.if_icmp .ge 16, 3) := by decide +kernel
theorem dX4_read_12 : decode cX4_read 12 = .ok (.aload_n 0, 1) := by decide +kernel
theorem dX4_read_13 : decode cX4_read 13 = .ok (.getfield 9, 3) := by decide +kernel
theorem dX4_read_16 : decode cX4_read 16 = .ok (.iload_n 3, 1) := by decide +kernel
theorem dX4_read_17 : decode cX4_read 17 = .ok (.iconst 0, 1) := by decide +kernel
theorem dX4_read_18 : decode cX4_read 18 = .ok (.iastore, 1) := by decide +kernel
theorem dX4_read_19 : decode cX4_read 19 = .ok (.iinc 3 1, 3) := by decide +kernel
theorem dX4_read_22 : decode cX4_read 22 = .ok (.goto (-15), 3) := by decide +kernel
theorem dX4_read_25 : decode cX4_read 25 = .ok (.iconst 0, 1) := by decide +kernel
theorem dX4_read_26 : decode cX4_read 26 = .ok (.istore_n 3, 1) := by decide +kernel
theorem dX4_read_27 : decode cX4_read 27 = .ok (.iload_n 3, 1) := by decide +kernel
theorem dX4_read_28 : decode cX4_read 28 = .ok (.bipush 8, 2) := by decide +kernel
theorem dX4_read_30 : decode cX4_read 30 = .ok (.if_icmp .ge 64, 3) := by decide +kernel
theorem dX4_read_33 : decode cX4_read 33 = .ok (.iconst 0, 1) := by decide +kernel
theorem dX4_read_34 : decode cX4_read 34 = .ok (.istore 4, 2) := by decide +kernel
theorem dX4_read_36 : decode cX4_read 36 = .ok (.iconst 0, 1) := by decide +kernel
theorem dX4_read_37 : decode cX4_read 37 = .ok (.istore 5, 2) := by decide +kernel
theorem dX4_read_39 : decode cX4_read 39 = .ok (.iload 5, 2) := by decide +kernel
theorem dX4_read_41 : decode cX4_read 41 = .ok (.iconst 4, 1) := by decide +kernel
theorem dX4_read_42 : decode cX4_read 42 = .ok (.if_icmp .ge 38, 3) := by decide +kernel
theorem dX4_read_45 : decode cX4_read 45 = .ok (.aload_n 2, 1) := by decide +kernel
theorem dX4_read_46 : decode cX4_read 46 = .ok (.iload_n 3, 1) := by decide +kernel
theorem dX4_read_47 : decode cX4_read 47 = .ok (.iconst 4, 1) := by decide +kernel
theorem dX4_read_48 : decode cX4_read 48 = .ok (.imul, 1) := by decide +kernel
theorem dX4_read_49 : decode cX4_read 49 = .ok (.iload 5, 2) := by decide +kernel
theorem dX4_read_51 : decode cX4_read 51 = .ok (.iadd, 1) := by decide +kernel
theorem dX4_read_52 : decode cX4_read 52 = .ok (.iaload, 1) := by decide +kernel
theorem dX4_read_53 : decode cX4_read 53 = .ok (.istore 6, 2) := by decide +kernel
theorem dX4_read_55 : decode cX4_read 55 = .ok (.aload_n 0, 1) := by decide +kernel
theorem dX4_read_56 : decode cX4_read 56 = .ok (.getfield 9, 3) := by decide +kernel
theorem dX4_read_59 : decode cX4_read 59 = .ok (.iload 5, 2) := by decide +kernel
theorem dX4_read_61 : decode cX4_read 61 = .ok (.dup2, 1) := by decide +kernel
theorem dX4_read_62 : decode cX4_read 62 = .ok (.iaload, 1) := by decide +kernel
theorem dX4_read_63 : decode cX4_read 63 = .ok (.iload 6, 2) := by decide +kernel
theorem dX4_read_65 : decode cX4_read 65 = .ok (.iadd, 1) := by decide +kernel
theorem dX4_read_66 : decode cX4_read 66 = .ok (.iastore, 1) := by decide +kernel
theorem dX4_read_67 : decode cX4_read 67 = .ok (.iload 4, 2) := by decide +kernel
theorem dX4_read_69 : decode cX4_read 69 = .ok (.iload 6, 2) := by decide +kernel
theorem dX4_read_71 : decode cX4_read 71 = .ok (.iadd, 1) := by decide +kernel
theorem dX4_read_72 : decode cX4_read 72 = .ok (.istore 4, 2) := by decide +kernel
theorem dX4_read_74 : decode cX4_read 74 = .ok (.iinc 5 1, 3) := by decide +kernel
theorem dX4_read_77 : decode cX4_read 77 = .ok (.goto (-38), 3) := by decide +kernel
theorem dX4_read_80 : decode cX4_read 80 = .ok (.aload_n 0, 1) := by decide +kernel
theorem dX4_read_81 : decode cX4_read 81 = .ok (.getfield 15, 3) := by decide +kernel
theorem dX4_read_84 : decode cX4_read 84 = .ok (.iload_n 3, 1) := by decide +kernel
theorem dX4_read_85 : decode cX4_read 85 = .ok (.iload 4, 2) := by decide +kernel
theorem dX4_read_87 : decode cX4_read 87 = .ok (.iastore, 1) := by decide +kernel
theorem dX4_read_88 : decode cX4_read 88 = .ok (.iinc 3 1, 3) := by decide +kernel
theorem dX4_read_91 : decode cX4_read 91 = .ok (.goto (-64), 3) := by decide +kernel
theorem dX4_read_94 : decode cX4_read 94 = .ok (.aload_n 0, 1) := by decide +kernel
theorem dX4_read_95 : decode cX4_read 95 = .ok (.aload_n 1, 1) := by decide +kernel
theorem dX4_read_96 : decode cX4_read 96 = .ok (.getfield 24, 3) := by decide +kernel
theorem dX4_read_99 : decode cX4_read 99 = .ok (.putfield 28, 3) := by decide +kernel
theorem dX4_read_102 : decode cX4_read 102 = .ok (.return_, 1) := by decide +kernel
theorem dX5_init_0 : decode cX5_init 0 = .ok (.aload_n 0, 1) := by decide +kernel
theorem dX5_init_1 : decode cX5_init 1 = .ok (.invokespecial 3, 3) := by decide +kernel
theorem dX5_init_4 : decode cX5_init 4 = .ok (.aload_n 0, 1) := by decide +kernel
theorem dX5_init_5 : decode cX5_init 5 = .ok (.sipush 1600, 3) := by decide +kernel
theorem dX5_init_8 : decode cX5_init 8 = .ok (.newarray .int, 2) := by decide +kernel
theorem dX5_init_10 : decode cX5_init 10 = .ok (.putfield 9, 3) := by decide +kernel
theorem dX5_init_13 : decode cX5_init 13 = .ok (.aload_n 0, 1) := by decide +kernel
theorem dX5_init_14 : decode cX5_init 14 = .ok (.sipush 3200, 3) := by decide +kernel
theorem dX5_init_17 : decode cX5_init 17 = .ok (.newarray .int, 2) := by decide +kernel
theorem dX5_init_19 : decode cX5_init 19 = .ok (.putfield 15, 3) := by decide +kernel
theorem dX5_init_22 : decode cX5_init 22 = .ok (.aload_n 0, 1) := by decide +kernel
theorem dX5_init_23 : decode cX5_init 23 = .ok (.sipush 400, 3) := by decide +kernel
theorem dX5_init_26 : decode cX5_init 26 = .ok (.newarray .int, 2) := by decide +kernel
theorem dX5_init_28 : decode cX5_init 28 = .ok (.putfield 18, 3) := by decide +kernel
theorem dX5_init_31 : decode cX5_init 31 = .ok (.aload_n 0, 1) := by decide +kernel
theorem dX5_init_32 : decode cX5_init 32 = .ok (.sipush 400, 3) := by decide +kernel
theorem dX5_init_35 : decode cX5_init 35 = .ok (.newarray .int, 2) := by decide +kernel
theorem dX5_init_37 : decode cX5_init 37 = .ok (.putfield 21, 3) := by decide +kernel
theorem dX5_init_40 : decode cX5_init 40 = .ok (.aload_n 0, 1) := by decide +kernel
theorem dX5_init_41 : decode cX5_init 41 = .ok (.sipush 400, 3) := by decide +kernel
theorem dX5_init_44 : decode cX5_init 44 = .ok (.newarray .boolean, 2) := by decide +kernel
theorem dX5_init_46 : decode cX5_init 46 = .ok (.putfield 24, 3) := by decide +kernel
theorem dX5_init_49 : decode cX5_init 49 = .ok (.return_, 1) := by decide +kernel
theorem dX5_has_0 : decode cX5_has 0 = .ok (.iload_n 1, 1) := by decide +kernel
theorem dX5_has_1 : decode cX5_has 1 = .ok (.ifCond .lt 15, 3) := by decide +kernel
theorem dX5_has_4 : decode cX5_has 4 = .ok (.iload_n 1, 1) := by decide +kernel
theorem dX5_has_5 : decode cX5_has 5 = .ok (.aload_n 0, 1) := by decide +kernel
theorem dX5_has_6 : decode cX5_has 6 = .ok (.getfield 28, 3) := by decide +kernel
theorem dX5_has_9 : decode cX5_has 9 = .ok (.if_icmp .ge 7, 3) := by decide +kernel
theorem dX5_has_12 : decode cX5_has 12 = .ok (.iconst 1, 1) := by decide +kernel
theorem dX5_has_13 : decode cX5_has 13 = .ok (.goto 4, 3) := by decide +kernel
theorem dX5_has_16 : decode cX5_has 16 = .ok (.iconst 0, 1) := by decide +kernel
theorem dX5_has_17 : decode cX5_has 17 = .ok (.ireturn, 1) := by decide +kernel
theorem dX5_clear_0 : decode cX5_clear 0 = .ok (.aload_n 0, 1) := by decide +kernel
theorem dX5_clear_1 : decode cX5_clear 1 = .ok (.iconst 0, 1) := by decide +kernel
theorem dX5_clear_2 : decode cX5_clear 2 = .ok (.putfield 28, 3) := by decide +kernel
theorem dX5_clear_5 : decode cX5_clear 5 = .ok (.aload_n 0, 1) := by decide +kernel
theorem dX5_clear_6 : decode cX5_clear 6 = .ok (.iconst 0, 1) := by decide +kernel
theorem dX5_clear_7 : decode cX5_clear 7 = .ok (.putfield 32, 3) := by decide +kernel
theorem dX5_clear_10 : decode cX5_clear 10 = .ok (.aload_n 0, 1) := by decide +kernel
theorem dX5_clear_11 : decode cX5_clear 11 = .ok (.iconst 0, 1) := by decide +kernel
theorem dX5_clear_12 : decode cX5_clear 12 = .ok (.putfield 35, 3) := by decide +kernel
theorem dX5_clear_15 : decode cX5_clear 15 = .ok (.return_, 1) := by decide +kernel
theorem dX5_add_0 : decode cX5_add 0 = .ok (.aload_n 0, 1) := by decide +kernel
theorem dX5_add_1 : decode cX5_add 1 = .ok (.getfield 28, 3) := by decide +kernel
theorem dX5_add_4 : decode cX5_add 4 = .ok (.sipush 400, 3) := by decide +kernel
theorem dX5_add_7 : decode cX5_add 7 = .ok (.if_icmp .lt 4, 3) := by decide +kernel
theorem dX5_add_10 : decode cX5_add 10 = .ok (.return_, 1) := by decide +kernel
theorem dX5_add_11 : decode cX5_add 11 = .ok (.aload_n 1, 1) := by decide +kernel
theorem dX5_add_12 : decode cX5_add 12 = .ok (.getfield 38, 3) := by decide +kernel
theorem dX5_add_15 : decode cX5_add 15 = .ok (.iconst 0, 1) := by decide +kernel
theorem dX5_add_16 : decode cX5_add 16 = .ok (.aload_n 0, 1) := by decide +kernel
theorem dX5_add_17 : decode cX5_add 17 = .ok (.getfield 9, 3) := by decide +kernel
theorem dX5_add_20 : decode cX5_add 20 = .ok (.aload_n 0, 1) := by decide +kernel
theorem dX5_add_21 : decode cX5_add 21 = .ok (.getfield 28, 3) := by decide +kernel
theorem dX5_add_24 : decode cX5_add 24 = .ok (.iconst 4, 1) := by decide +kernel
theorem dX5_add_25 : decode cX5_add 25 = .ok (.imul, 1) := by decide +kernel
theorem dX5_add_26 : decode cX5_add 26 = .ok (.iconst 4, 1) := by decide +kernel
theorem dX5_add_27 : decode cX5_add 27 = .ok (.invokestatic 41, 3) := by decide +kernel
theorem dX5_add_30 : decode cX5_add 30 = .ok (.aload_n 1, 1) := by decide +kernel
theorem dX5_add_31 : decode cX5_add 31 = .ok (.getfield 47, 3) := by decide +kernel
theorem dX5_add_34 : decode cX5_add 34 = .ok (.iconst 0, 1) := by decide +kernel
theorem dX5_add_35 : decode cX5_add 35 = .ok (.aload_n 0, 1) := by decide +kernel
theorem dX5_add_36 : decode cX5_add 36 = .ok (.getfield 15, 3) := by decide +kernel
theorem dX5_add_39 : decode cX5_add 39 = .ok (.aload_n 0, 1) := by decide +kernel
theorem dX5_add_40 : decode cX5_add 40 = .ok (.getfield 28, 3) := by decide +kernel
theorem dX5_add_43 : decode cX5_add 43 = .ok (.bipush 8, 2) := by decide +kernel
theorem dX5_add_45 : decode cX5_add 45 = .ok (.imul, 1) := by decide +kernel
theorem dX5_add_46 : decode cX5_add 46 = .ok (.bipush 8, 2) := by decide +kernel
theorem dX5_add_48 : decode cX5_add 48 = .ok (.invokestatic 41, 3) := by decide +kernel
theorem dX5_add_51 : decode cX5_add 51 = .ok (.aload_n 0, 1) := by decide +kernel
theorem dX5_add_52 : decode cX5_add 52 = .ok (.getfield 18, 3) := by decide +kernel
theorem dX5_add_55 : decode cX5_add 55 = .ok (.aload_n 0, 1) := by decide +kernel
theorem dX5_add_56 : decode cX5_add 56 = .ok (.getfield 28, 3) := by decide +kernel
theorem dX5_add_59 : decode cX5_add 59 = .ok (.aload_n 1, 1) := by decide +kernel
theorem dX5_add_60 : decode cX5_add 60 = .ok (.getfield 48, 3) := by decide +kernel
theorem dX5_add_63 : decode cX5_add 63 = .ok (.iastore, 1) := by decide +kernel
theorem dX5_add_64 : decode cX5_add 64 = .ok (.aload_n 0, 1) := by decide +kernel
theorem dX5_add_65 : decode cX5_add 65 = .ok (.getfield 21, 3) := by decide +kernel
theorem dX5_add_68 : decode cX5_add 68 = .ok (.aload_n 0, 1) := by decide +kernel
theorem dX5_add_69 : decode cX5_add 69 = .ok (.getfield 28, 3) := by decide +kernel
theorem dX5_add_72 : decode cX5_add 72 = .ok (.iload_n 2, 1) := by decide +kernel
theorem dX5_add_73 : decode cX5_add 73 = .ok (.iastore, 1) := by decide +kernel
theorem dX5_add_74 : decode cX5_add 74 = .ok (.aload_n 0, 1) := by decide +kernel
theorem dX5_add_75 : decode cX5_add 75 = .ok (.getfield 24, 3) := by decide +kernel
theorem dX5_add_78 : decode cX5_add 78 = .ok (.aload_n 0, 1) := by decide +kernel
theorem dX5_add_79 : decode cX5_add 79 = .ok (.getfield 28, 3) := by decide +kernel
theorem dX5_add_82 : decode cX5_add 82 = .ok (.iload_n 3, 1) := by decide +kernel
theorem dX5_add_83 : decode cX5_add 83 = .ok (.bastore, 1) := by decide +kernel
theorem dX5_add_84 : decode cX5_add 84 = .ok (.aload_n 0, 1) := by decide +kernel
theorem dX5_add_85 : decode cX5_add 85 = .ok (.dup, 1) := by decide +kernel
theorem dX5_add_86 : decode cX5_add 86 = .ok (.getfield 28, 3) := by decide +kernel
theorem dX5_add_89 : decode cX5_add 89 = .ok (.iconst 1, 1) := by decide +kernel
theorem dX5_add_90 : decode cX5_add 90 = .ok (.iadd, 1) := by decide +kernel
theorem dX5_add_91 : decode cX5_add 91 = .ok (.putfield 28, 3) := by decide +kernel
theorem dX5_add_94 : decode cX5_add 94 = .ok (.aload_n 0, 1) := by decide +kernel
theorem dX5_add_95 : decode cX5_add 95 = .ok (.dup, 1) := by decide +kernel
theorem dX5_add_96 : decode cX5_add 96 = .ok (.getfield 35, 3) := by decide +kernel
theorem dX5_add_99 : decode cX5_add 99 = .ok (.aload_n 1, 1) := by decide +kernel
theorem dX5_add_100 : decode cX5_add 100 = .ok (.getfield 48, 3) := by decide +kernel
theorem dX5_add_103 : decode cX5_add 103 = .ok (.iadd, 1) := by decide +kernel
theorem dX5_add_104 : decode cX5_add 104 = .ok (.putfield 35, 3) := by decide +kernel
theorem dX5_add_107 : decode cX5_add 107 = .ok (.iload_n 3, 1) := by decide +kernel
theorem dX5_add_108 : decode cX5_add 108 = .ok (.ifCond .eq 16, 3) := by decide +kernel
theorem dX5_add_111 : decode cX5_add 111 = .ok (.aload_n 0, 1) := by decide +kernel
theorem dX5_add_112 : decode cX5_add 112 = .ok (.dup, 1) := by decide +kernel
theorem dX5_add_113 : decode cX5_add 113 = .ok (.getfield 32, 3) := by decide +kernel
theorem dX5_add_116 : decode cX5_add 116 = .ok (.aload_n 1, 1) := by decide +kernel
theorem dX5_add_117 : decode cX5_add 117 = .ok (.getfield 48, 3) := by decide +kernel
theorem dX5_add_120 : decode cX5_add 120 = .ok (.iadd, 1) := by decide +kernel
theorem dX5_add_121 : decode cX5_add 121 = .ok (.putfield 32, 3) := by decide +kernel
theorem dX5_add_124 : decode cX5_add 124 = .ok (.return_, 1) := by decide +kernel
theorem dX6_init_0 : decode cX6_init 0 = .ok (.aload_n 0, 1) := by decide +kernel
theorem dX6_init_1 : decode cX6_init 1 = .ok (.invokespecial 3, 3) := by decide +kernel
theorem dX6_init_4 : decode cX6_init 4 = .ok (.aload_n 0, 1) := by decide +kernel
theorem dX6_init_5 : decode cX6_init 5 = .ok (.bipush 8, 2) := by decide +kernel
theorem dX6_init_7 : decode cX6_init 7 = .ok (.newarray .int, 2) := by decide +kernel
theorem dX6_init_9 : decode cX6_init 9 = .ok (.putfield 9, 3) := by decide +kernel
theorem dX6_init_12 : decode cX6_init 12 = .ok (.aload_n 0, 1) := by decide +kernel
theorem dX6_init_13 : decode cX6_init 13 = .ok (.bipush 8, 2) := by decide +kernel
theorem dX6_init_15 : decode cX6_init 15 = .ok (.newarray .int, 2) := by decide +kernel
theorem dX6_init_17 : decode cX6_init 17 = .ok (.putfield 15, 3) := by decide +kernel
theorem dX6_init_20 : decode cX6_init 20 = .ok (.return_, 1) := by decide +kernel
theorem dX6_become_0 : decode cX6_become 0 = .ok (.iconst 0, 1) := by decide +kernel
theorem dX6_become_1 : decode cX6_become 1 = .ok (.istore_n 2, 1) := by decide +kernel
theorem dX6_become_2 : decode cX6_become 2 = .ok (.iload_n 2, 1) := by decide +kernel
theorem dX6_become_3 : decode cX6_become 3 = .ok (.bipush 8, 2) := by decide +kernel
theorem dX6_become_5 : decode cX6_become 5 = .ok (.if_icmp .ge 27, 3) := by decide +kernel
theorem dX6_become_8 : decode cX6_become 8 = .ok (.aload_n 0, 1) := by decide +kernel
theorem dX6_become_9 : decode cX6_become 9 = .ok (.getfield 9, 3) := by decide +kernel
theorem dX6_become_12 : decode cX6_become 12 = .ok (.iload_n 2, 1) := by decide +kernel
theorem dX6_become_13 : decode cX6_become 13 = .ok (.aload_n 1, 1) := by decide +kernel
theorem dX6_become_14 : decode cX6_become 14 = .ok (.iload_n 2, 1) := by decide +kernel
theorem dX6_become_15 : decode cX6_become 15 = .ok (.iaload, 1) := by decide +kernel
theorem dX6_become_16 : decode cX6_become 16 = .ok (.iastore, 1) := by decide +kernel
theorem dX6_become_17 : decode cX6_become 17 = .ok (.aload_n 0, 1) := by decide +kernel
theorem dX6_become_18 : decode cX6_become 18 = .ok (.getfield 15, 3) := by decide +kernel
theorem dX6_become_21 : decode cX6_become 21 = .ok (.iload_n 2, 1) := by decide +kernel
theorem dX6_become_22 : decode cX6_become 22 = .ok (.aload_n 1, 1) := by decide +kernel
theorem dX6_become_23 : decode cX6_become 23 = .ok (.iload_n 2, 1) := by decide +kernel
theorem dX6_become_24 : decode cX6_become 24 = .ok (.iaload, 1) := by decide +kernel
theorem dX6_become_25 : decode cX6_become 25 = .ok (.iastore, 1) := by decide +kernel
theorem dX6_become_26 : decode cX6_become 26 = .ok (.iinc 2 1, 3) := by decide +kernel
theorem dX6_become_29 : decode cX6_become 29 = .ok (.goto (-27), 3) := by decide +kernel
theorem dX6_become_32 : decode cX6_become 32 = .ok (.aload_n 0, 1) := by decide +kernel
theorem dX6_become_33 : decode cX6_become 33 = .ok (.iconst 1, 1) := by decide +kernel
theorem dX6_become_34 : decode cX6_become 34 = .ok (.putfield 18, 3) := by decide +kernel
theorem dX6_become_37 : decode cX6_become 37 = .ok (.return_, 1) := by decide +kernel
theorem dX7_init_0 : decode cX7_init 0 = .ok (.aload_n 0, 1) := by decide +kernel
theorem dX7_init_1 : decode cX7_init 1 = .ok (.invokespecial 3, 3) := by decide +kernel
theorem dX7_init_4 : decode cX7_init 4 = .ok (.aload_n 0, 1) := by decide +kernel
theorem dX7_init_5 : decode cX7_init 5 = .ok (.bipush 8, 2) := by decide +kernel
theorem dX7_init_7 : decode cX7_init 7 = .ok (.newarray .int, 2) := by decide +kernel
theorem dX7_init_9 : decode cX7_init 9 = .ok (.putfield 9, 3) := by decide +kernel
theorem dX7_init_12 : decode cX7_init 12 = .ok (.aload_n 0, 1) := by decide +kernel
theorem dX7_init_13 : decode cX7_init 13 = .ok (.bipush 8, 2) := by decide +kernel
theorem dX7_init_15 : decode cX7_init 15 = .ok (.newarray .int, 2) := by decide +kernel
theorem dX7_init_17 : decode cX7_init 17 = .ok (.putfield 15, 3) := by decide +kernel
theorem dX7_init_20 : decode cX7_init 20 = .ok (.aload_n 0, 1) := by decide +kernel
theorem dX7_init_21 : decode cX7_init 21 = .ok (.aload_n 1, 1) := by decide +kernel
theorem dX7_init_22 : decode cX7_init 22 = .ok (.putfield 18, 3) := by decide +kernel
theorem dX7_init_25 : decode cX7_init 25 = .ok (.aload_n 0, 1) := by decide +kernel
theorem dX7_init_26 : decode cX7_init 26 = .ok (.aload_n 2, 1) := by decide +kernel
theorem dX7_init_27 : decode cX7_init 27 = .ok (.putfield 22, 3) := by decide +kernel
theorem dX7_init_30 : decode cX7_init 30 = .ok (.return_, 1) := by decide +kernel
theorem dX7_find_0 : decode cX7_find 0 = .ok (.aload_n 0, 1) := by decide +kernel
theorem dX7_find_1 : decode cX7_find 1 = .ok (.getfield 18, 3) := by decide +kernel
theorem dX7_find_4 : decode cX7_find 4 = .ok (.getfield 26, 3) := by decide +kernel
theorem dX7_find_7 : decode cX7_find 7 = .ok (.ifCond .ne 5, 3) := by decide +kernel
theorem dX7_find_10 : decode cX7_find 10 = .ok (.iconst 0, 1) := by decide +kernel
theorem dX7_find_11 : decode cX7_find 11 = .ok (.ireturn, 1) := by decide +kernel
theorem dX7_find_12 : decode cX7_find 12 = .ok (.iconst 0, 1) := by decide +kernel
theorem dX7_find_13 : decode cX7_find 13 = .ok (.istore_n 2, 1) := by decide +kernel
theorem dX7_find_14 : decode cX7_find 14 = .ok (.iload_n 2, 1) := by decide +kernel
theorem dX7_find_15 : decode cX7_find 15 = .ok (.bipush 8, 2) := by decide +kernel
theorem dX7_find_17 : decode cX7_find 17 = .ok (.if_icmp .ge 16, 3) := by decide +kernel
theorem dX7_find_20 : decode cX7_find 20 = .ok (.aload_n 0, 1) := by decide +kernel
theorem dX7_find_21 : decode cX7_find 21 = .ok (.getfield 9, 3) := by decide +kernel
theorem dX7_find_24 : decode cX7_find 24 = .ok (.iload_n 2, 1) := by decide +kernel
theorem dX7_find_25 : decode cX7_find 25 = .ok (.iconst 0, 1) := by decide +kernel
theorem dX7_find_26 : decode cX7_find 26 = .ok (.iastore, 1) := by decide +kernel
theorem dX7_find_27 : decode cX7_find 27 = .ok (.iinc 2 1, 3) := by decide +kernel
theorem dX7_find_30 : decode cX7_find 30 = .ok (.goto (-16), 3) := by decide +kernel
theorem dX7_find_33 : decode cX7_find 33 = .ok (.aload_n 0, 1) := by decide +kernel
theorem dX7_find_34 : decode cX7_find 34 = .ok (.getfield 9, 3) := by decide +kernel
theorem dX7_find_37 : decode cX7_find 37 = .ok (.iconst 0, 1) := by decide +kernel
theorem dX7_find_38 : decode cX7_find 38 = .ok (.sipush 1000, 3) := by decide +kernel
theorem dX7_find_41 : decode cX7_find 41 = .ok (.iastore, 1) := by decide +kernel
theorem dX7_find_42 : decode cX7_find 42 = .ok (.iconst 0, 1) := by decide +kernel
theorem dX7_find_43 : decode cX7_find 43 = .ok (.istore_n 2, 1) := by decide +kernel
theorem dX7_find_44 : decode cX7_find 44 = .ok (.iconst 1, 1) := by decide +kernel
theorem dX7_find_45 : decode cX7_find 45 = .ok (.istore_n 3, 1) := by decide +kernel
theorem dX7_find_46 : decode cX7_find 46 = .ok (.iconst 0, 1) := by decide +kernel
theorem dX7_find_47 : decode cX7_find 47 = .ok (.istore 4, 2) := by decide +kernel
theorem dX7_find_49 : decode cX7_find 49 = .ok (.iload 4, 2) := by decide +kernel
theorem dX7_find_51 : decode cX7_find 51 = .ok (.sipush 20000, 3) := by decide +kernel
theorem dX7_find_54 : decode cX7_find 54 = .ok (.if_icmp .ge 64, 3) := by decide +kernel
theorem dX7_find_57 : decode cX7_find 57 = .ok (.iload_n 3, 1) := by decide +kernel
theorem dX7_find_58 : decode cX7_find 58 = .ok (.ifCond .eq 60, 3) := by decide +kernel
theorem dX7_find_61 : decode cX7_find 61 = .ok (.aload_n 0, 1) := by decide +kernel
theorem dX7_find_62 : decode cX7_find 62 = .ok (.invokevirtual 32, 3) := by decide +kernel
theorem dX7_find_65 : decode cX7_find 65 = .ok (.istore 5, 2) := by decide +kernel
theorem dX7_find_67 : decode cX7_find 67 = .ok (.iload_n 2, 1) := by decide +kernel
theorem dX7_find_68 : decode cX7_find 68 = .ok (.ifCond .eq 12, 3) := by decide +kernel
theorem dX7_find_71 : decode cX7_find 71 = .ok (.iload 5, 2) := by decide +kernel
theorem dX7_find_73 : decode cX7_find 73 = .ok (.aload_n 0, 1) := by decide +kernel
theorem dX7_find_74 : decode cX7_find 74 = .ok (.getfield 36, 3) := by decide +kernel
theorem dX7_find_77 : decode cX7_find 77 = .ok (.if_icmp .ge 30, 3) := by decide +kernel
theorem dX7_find_80 : decode cX7_find 80 = .ok (.aload_n 0, 1) := by decide +kernel
theorem dX7_find_81 : decode cX7_find 81 = .ok (.getfield 22, 3) := by decide +kernel
theorem dX7_find_84 : decode cX7_find 84 = .ok (.iload_n 1, 1) := by decide +kernel
theorem dX7_find_85 : decode cX7_find 85 = .ok (.aload_n 0, 1) := by decide +kernel
theorem dX7_find_86 : decode cX7_find 86 = .ok (.getfield 9, 3) := by decide +kernel
theorem dX7_find_89 : decode cX7_find 89 = .ok (.aload_n 0, 1) := by decide +kernel
theorem dX7_find_90 : decode cX7_find 90 = .ok (.getfield 18, 3) := by decide +kernel
theorem dX7_find_93 : decode cX7_find 93 = .ok (.invokevirtual 39, 3) := by decide +kernel
theorem dX7_find_96 : decode cX7_find 96 = .ok (.ifCond .eq 11, 3) := by decide +kernel
theorem dX7_find_99 : decode cX7_find 99 = .ok (.iconst 1, 1) := by decide +kernel
theorem dX7_find_100 : decode cX7_find 100 = .ok (.istore_n 2, 1) := by decide +kernel
theorem dX7_find_101 : decode cX7_find 101 = .ok (.aload_n 0, 1) := by decide +kernel
theorem dX7_find_102 : decode cX7_find 102 = .ok (.iload 5, 2) := by decide +kernel
theorem dX7_find_104 : decode cX7_find 104 = .ok (.invokevirtual 45, 3) := by decide +kernel
theorem dX7_find_107 : decode cX7_find 107 = .ok (.aload_n 0, 1) := by decide +kernel
theorem dX7_find_108 : decode cX7_find 108 = .ok (.invokevirtual 49, 3) := by decide +kernel
theorem dX7_find_111 : decode cX7_find 111 = .ok (.istore_n 3, 1) := by decide +kernel
theorem dX7_find_112 : decode cX7_find 112 = .ok (.iinc 4 1, 3) := by decide +kernel
theorem dX7_find_115 : decode cX7_find 115 = .ok (.goto (-66), 3) := by decide +kernel
theorem dX7_find_118 : decode cX7_find 118 = .ok (.iload_n 2, 1) := by decide +kernel
theorem dX7_find_119 : decode cX7_find 119 = .ok (.ireturn, 1) := by decide +kernel
theorem dX7_costOfTrial_0 : decode cX7_costOfTrial 0 = .ok (.iconst 0, 1) := by decide +kernel
theorem dX7_costOfTrial_1 : decode cX7_costOfTrial 1 = .ok (.istore_n 1, 1) := by decide +kernel
theorem dX7_costOfTrial_2 : decode cX7_costOfTrial 2 = .ok (.iconst 0, 1) := by decide +kernel
theorem dX7_costOfTrial_3 : decode cX7_costOfTrial 3 = .ok (.istore_n 2, 1) := by decide +kernel
theorem dX7_costOfTrial_4 : decode cX7_costOfTrial 4 = .ok (.iload_n 2, 1) := by decide +kernel
theorem dX7_costOfTrial_5 : decode cX7_costOfTrial 5 = .ok (.aload_n 0, 1) := by decide +kernel
theorem dX7_costOfTrial_6 : decode cX7_costOfTrial 6 = .ok (.getfield 18, 3) := by decide +kernel
theorem dX7_costOfTrial_9 : decode cX7_costOfTrial 9 = .ok (.getfield 26, 3) := by decide +kernel
theorem dX7_costOfTrial_12 : decode cX7_costOfTrial 12 = .ok (.if_icmp .ge 28, 3) := by decide +kernel
theorem dX7_costOfTrial_15 : decode cX7_costOfTrial 15 = .ok (.iload_n 1, 1) := by decide +kernel
theorem dX7_costOfTrial_16 : decode cX7_costOfTrial 16 = .ok (.aload_n 0, 1) := by decide +kernel
theorem dX7_costOfTrial_17 : decode cX7_costOfTrial 17 = .ok (.getfield 9, 3) := by decide +kernel
theorem dX7_costOfTrial_20 : decode cX7_costOfTrial 20 = .ok (.iload_n 2, 1) := by decide +kernel
theorem dX7_costOfTrial_21 : decode cX7_costOfTrial 21 = .ok (.iaload, 1) := by decide +kernel
theorem dX7_costOfTrial_22 : decode cX7_costOfTrial 22 = .ok (.aload_n 0, 1) := by decide +kernel
theorem dX7_costOfTrial_23 : decode cX7_costOfTrial 23 = .ok (.getfield 18, 3) := by decide +kernel
theorem dX7_costOfTrial_26 : decode cX7_costOfTrial 26 = .ok (.getfield 53, 3) := by decide +kernel
theorem dX7_costOfTrial_29 : decode cX7_costOfTrial 29 = .ok (.iload_n 2, 1) := by decide +kernel
theorem dX7_costOfTrial_30 : decode cX7_costOfTrial 30 = .ok (.iaload, 1) := by decide +kernel
theorem dX7_costOfTrial_31 : decode cX7_costOfTrial 31 = .ok (.imul, 1) := by decide +kernel
theorem dX7_costOfTrial_32 : decode cX7_costOfTrial 32 = .ok (.iadd, 1) := by decide +kernel
theorem dX7_costOfTrial_33 : decode cX7_costOfTrial 33 = .ok (.istore_n 1, 1) := by decide +kernel
theorem dX7_costOfTrial_34 : decode cX7_costOfTrial 34 = .ok (.iinc 2 1, 3) := by decide +kernel
theorem dX7_costOfTrial_37 : decode cX7_costOfTrial 37 = .ok (.goto (-33), 3) := by decide +kernel
theorem dX7_costOfTrial_40 : decode cX7_costOfTrial 40 = .ok (.iload_n 1, 1) := by decide +kernel
theorem dX7_costOfTrial_41 : decode cX7_costOfTrial 41 = .ok (.ireturn, 1) := by decide +kernel
theorem dX7_keepTrial_0 : decode cX7_keepTrial 0 = .ok (.aload_n 0, 1) := by decide +kernel
theorem dX7_keepTrial_1 : decode cX7_keepTrial 1 = .ok (.iload_n 1, 1) := by decide +kernel
theorem dX7_keepTrial_2 : decode cX7_keepTrial 2 = .ok (.putfield 36, 3) := by decide +kernel
theorem dX7_keepTrial_5 : decode cX7_keepTrial 5 = .ok (.iconst 0, 1) := by decide +kernel
theorem dX7_keepTrial_6 : decode cX7_keepTrial 6 = .ok (.istore_n 2, 1) := by decide +kernel
theorem dX7_keepTrial_7 : decode cX7_keepTrial 7 = .ok (.iload_n 2, 1) := by decide +kernel
theorem dX7_keepTrial_8 : decode cX7_keepTrial 8 = .ok (.bipush 8, 2) := by decide +kernel
theorem dX7_keepTrial_10 : decode cX7_keepTrial 10 = .ok (.if_icmp .ge 21, 3) := by decide +kernel
theorem dX7_keepTrial_13 : decode cX7_keepTrial 13 = .ok (.aload_n 0, 1) := by decide +kernel
theorem dX7_keepTrial_14 : decode cX7_keepTrial 14 = .ok (.getfield 15, 3) := by decide +kernel
theorem dX7_keepTrial_17 : decode cX7_keepTrial 17 = .ok (.iload_n 2, 1) := by decide +kernel
theorem dX7_keepTrial_18 : decode cX7_keepTrial 18 = .ok (.aload_n 0, 1) := by decide +kernel
theorem dX7_keepTrial_19 : decode cX7_keepTrial 19 = .ok (.getfield 9, 3) := by decide +kernel
theorem dX7_keepTrial_22 : decode cX7_keepTrial 22 = .ok (.iload_n 2, 1) := by decide +kernel
theorem dX7_keepTrial_23 : decode cX7_keepTrial 23 = .ok (.iaload, 1) := by decide +kernel
theorem dX7_keepTrial_24 : decode cX7_keepTrial 24 = .ok (.iastore, 1) := by decide +kernel
theorem dX7_keepTrial_25 : decode cX7_keepTrial 25 = .ok (.iinc 2 1, 3) := by decide +kernel
theorem dX7_keepTrial_28 : decode cX7_keepTrial 28 = .ok (.goto (-21), 3) := by decide +kernel
theorem dX7_keepTrial_31 : decode cX7_keepTrial 31 = .ok (.return_, 1) := by decide +kernel
theorem dX7_advance_0 : decode cX7_advance 0 = .ok (.aload_n 0, 1) := by decide +kernel
theorem dX7_advance_1 : decode cX7_advance 1 = .ok (.getfield 18, 3) := by decide +kernel
theorem dX7_advance_4 : decode cX7_advance 4 = .ok (.getfield 26, 3) := by decide +kernel
theorem dX7_advance_7 : decode cX7_advance 7 = .ok (.iconst 1, 1) := by decide +kernel
theorem dX7_advance_8 : decode cX7_advance 8 = .ok (.isub, 1) := by decide +kernel
theorem dX7_advance_9 : decode cX7_advance 9 = .ok (.istore_n 1, 1) := by decide +kernel
theorem dX7_advance_10 : decode cX7_advance 10 = .ok (.iload_n 1, 1) := by decide +kernel
theorem dX7_advance_11 : decode cX7_advance 11 = .ok (.iconst 1, 1) := by decide +kernel
theorem dX7_advance_12 : decode cX7_advance 12 = .ok (.isub, 1) := by decide +kernel
theorem dX7_advance_13 : decode cX7_advance 13 = .ok (.istore_n 2, 1) := by decide +kernel
theorem dX7_advance_14 : decode cX7_advance 14 = .ok (.iload_n 2, 1) := by decide +kernel
theorem dX7_advance_15 : decode cX7_advance 15 = .ok (.ifCond .lt 18, 3) := by decide +kernel
theorem dX7_advance_18 : decode cX7_advance 18 = .ok (.aload_n 0, 1) := by decide +kernel
theorem dX7_advance_19 : decode cX7_advance 19 = .ok (.getfield 9, 3) := by decide +kernel
theorem dX7_advance_22 : decode cX7_advance 22 = .ok (.iload_n 2, 1) := by decide +kernel
theorem dX7_advance_23 : decode cX7_advance 23 = .ok (.iaload, 1) := by decide +kernel
theorem dX7_advance_24 : decode cX7_advance 24 = .ok (.ifCond .ne 9, 3) := by decide +kernel
theorem dX7_advance_27 : decode cX7_advance 27 = .ok (.iinc 2 (-1), 3) := by decide +kernel
theorem dX7_advance_30 : decode cX7_advance 30 = .ok (.goto (-16), 3) := by decide +kernel
theorem dX7_advance_33 : decode cX7_advance 33 = .ok (.iload_n 2, 1) := by decide +kernel
theorem dX7_advance_34 : decode cX7_advance 34 = .ok (.ifCond .ge 5, 3) := by decide +kernel
theorem dX7_advance_37 : decode cX7_advance 37 = .ok (.iconst 0, 1) := by decide +kernel
theorem dX7_advance_38 : decode cX7_advance 38 = .ok (.ireturn, 1) := by decide +kernel
theorem dX7_advance_39 : decode cX7_advance 39 = .ok (.aload_n 0, 1) := by decide +kernel
theorem dX7_advance_40 : decode cX7_advance 40 = .ok (.getfield 9, 3) := by decide +kernel
theorem dX7_advance_43 : decode cX7_advance 43 = .ok (.iload_n 1, 1) := by decide +kernel
theorem dX7_advance_44 : decode cX7_advance 44 = .ok (.iaload, 1) := by decide +kernel
theorem dX7_advance_45 : decode cX7_advance 45 = .ok (.istore_n 3, 1) := by decide +kernel
theorem dX7_advance_46 : decode cX7_advance 46 = .ok (.aload_n 0, 1) := by decide +kernel
theorem dX7_advance_47 : decode cX7_advance 47 = .ok (.getfield 9, 3) := by decide +kernel
theorem dX7_advance_50 : decode cX7_advance 50 = .ok (.iload_n 1, 1) := by decide +kernel
theorem dX7_advance_51 : decode cX7_advance 51 = .ok (.iconst 0, 1) := by decide +kernel
theorem dX7_advance_52 : decode cX7_advance 52 = .ok (.iastore, 1) := by decide +kernel
theorem dX7_advance_53 : decode cX7_advance 53 = .ok (.aload_n 0, 1) := by decide +kernel
theorem dX7_advance_54 : decode cX7_advance 54 = .ok (.getfield 9, 3) := by decide +kernel
theorem dX7_advance_57 : decode cX7_advance 57 = .ok (.iload_n 2, 1) := by decide +kernel
theorem dX7_advance_58 : decode cX7_advance 58 = .ok (.dup2, 1) := by decide +kernel
theorem dX7_advance_59 : decode cX7_advance 59 = .ok (.iaload, 1) := by decide +kernel
theorem dX7_advance_60 : decode cX7_advance 60 = .ok (.bipush 100, 2) := by decide +kernel
theorem dX7_advance_62 : decode cX7_advance 62 = .ok (.isub, 1) := by decide +kernel
theorem dX7_advance_63 : decode cX7_advance 63 = .ok (.iastore, 1) := by decide +kernel
theorem dX7_advance_64 : decode cX7_advance 64 = .ok (.aload_n 0, 1) := by decide +kernel
theorem dX7_advance_65 : decode cX7_advance 65 = .ok (.getfield 9, 3) := by decide +kernel
theorem dX7_advance_68 : decode cX7_advance 68 = .ok (.iload_n 2, 1) := by decide +kernel
theorem dX7_advance_69 : decode cX7_advance 69 = .ok (.iconst 1, 1) := by decide +kernel
theorem dX7_advance_70 : decode cX7_advance 70 = .ok (.iadd, 1) := by decide +kernel
theorem dX7_advance_71 : decode cX7_advance 71 = .ok (.iload_n 3, 1) := by decide +kernel
theorem dX7_advance_72 : decode cX7_advance 72 = .ok (.bipush 100, 2) := by decide +kernel
theorem dX7_advance_74 : decode cX7_advance 74 = .ok (.iadd, 1) := by decide +kernel
theorem dX7_advance_75 : decode cX7_advance 75 = .ok (.iastore, 1) := by decide +kernel
theorem dX7_advance_76 : decode cX7_advance 76 = .ok (.iconst 1, 1) := by decide +kernel
theorem dX7_advance_77 : decode cX7_advance 77 = .ok (.ireturn, 1) := by decide +kernel
theorem dX8_init_0 : decode cX8_init 0 = .ok (.aload_n 0, 1) := by decide +kernel
theorem dX8_init_1 : decode cX8_init 1 = .ok (.invokespecial 3, 3) := by decide +kernel
theorem dX8_init_4 : decode cX8_init 4 = .ok (.aload_n 0, 1) := by decide +kernel
theorem dX8_init_5 : decode cX8_init 5 = .ok (.bipush 6, 2) := by decide +kernel
theorem dX8_init_7 : decode cX8_init 7 = .ok (.bipush 6, 2) := by decide +kernel
theorem dX8_init_9 : decode cX8_init 9 = .ok (.multianewarray 9 2, 4) := by decide +kernel
theorem dX8_init_13 : decode cX8_init 13 = .ok (.putfield 11, 3) := by decide +kernel
theorem dX8_init_16 : decode cX8_init 16 = .ok (.aload_n 0, 1) := by decide +kernel
theorem dX8_init_17 : decode cX8_init 17 = .ok (.bipush 6, 2) := by decide +kernel
theorem dX8_init_19 : decode cX8_init 19 = .ok (.newarray .int, 2) := by decide +kernel
theorem dX8_init_21 : decode cX8_init 21 = .ok (.putfield 16, 3) := by decide +kernel
theorem dX8_init_24 : decode cX8_init 24 = .ok (.aload_n 0, 1) := by decide +kernel
theorem dX8_init_25 : decode cX8_init 25 = .ok (.bipush 6, 2) := by decide +kernel
theorem dX8_init_27 : decode cX8_init 27 = .ok (.newarray .int, 2) := by decide +kernel
theorem dX8_init_29 : decode cX8_init 29 = .ok (.putfield 20, 3) := by decide +kernel
theorem dX8_init_32 : decode cX8_init 32 = .ok (.return_, 1) := by decide +kernel
theorem dX8_leastSum_0 : decode cX8_leastSum 0 = .ok (.aload_n 0, 1) := by decide +kernel
theorem dX8_leastSum_1 : decode cX8_leastSum 1 = .ok (.iload_n 1, 1) := by decide +kernel
theorem dX8_leastSum_2 : decode cX8_leastSum 2 = .ok (.invokevirtual 23, 3) := by decide +kernel
theorem dX8_leastSum_5 : decode cX8_leastSum 5 = .ok (.istore_n 2, 1) := by decide +kernel
theorem dX8_leastSum_6 : decode cX8_leastSum 6 = .ok (.aload_n 0, 1) := by decide +kernel
theorem dX8_leastSum_7 : decode cX8_leastSum 7 = .ok (.iload_n 2, 1) := by decide +kernel
theorem dX8_leastSum_8 : decode cX8_leastSum 8 = .ok (.invokevirtual 27, 3) := by decide +kernel
theorem dX8_leastSum_11 : decode cX8_leastSum 11 = .ok (.istore_n 3, 1) := by decide +kernel
theorem dX8_leastSum_12 : decode cX8_leastSum 12 = .ok (.aload_n 0, 1) := by decide +kernel
theorem dX8_leastSum_13 : decode cX8_leastSum 13 = .ok (.iload_n 2, 1) := by decide +kernel
theorem dX8_leastSum_14 : decode cX8_leastSum 14 = .ok (.invokevirtual 30, 3) := by decide +kernel
theorem dX8_leastSum_17 : decode cX8_leastSum 17 = .ok (.aload_n 0, 1) := by decide +kernel
theorem dX8_leastSum_18 : decode cX8_leastSum 18 = .ok (.iload_n 2, 1) := by decide +kernel
theorem dX8_leastSum_19 : decode cX8_leastSum 19 = .ok (.invokevirtual 34, 3) := by decide +kernel
theorem dX8_leastSum_22 : decode cX8_leastSum 22 = .ok (.istore 4, 2) := by decide +kernel
theorem dX8_leastSum_24 : decode cX8_leastSum 24 = .ok (.iconst 0, 1) := by decide +kernel
theorem dX8_leastSum_25 : decode cX8_leastSum 25 = .ok (.istore 5, 2) := by decide +kernel
theorem dX8_leastSum_27 : decode cX8_leastSum 27 = .ok (.iload 5, 2) := by decide +kernel
theorem dX8_leastSum_29 : decode cX8_leastSum 29 = .ok (.sipush 200, 3) := by decide +kernel
theorem dX8_leastSum_32 : decode cX8_leastSum 32 = .ok (.if_icmp .ge 42, 3) := by decide +kernel
theorem dX8_leastSum_35 : decode cX8_leastSum 35 = .ok (.iload 4, 2) := by decide +kernel
theorem dX8_leastSum_37 : decode cX8_leastSum 37 = .ok (.ifCond .eq 37, 3) := by decide +kernel
theorem dX8_leastSum_40 : decode cX8_leastSum 40 = .ok (.aload_n 0, 1) := by decide +kernel
theorem dX8_leastSum_41 : decode cX8_leastSum 41 = .ok (.iload_n 2, 1) := by decide +kernel
theorem dX8_leastSum_42 : decode cX8_leastSum 42 = .ok (.invokevirtual 27, 3) := by decide +kernel
theorem dX8_leastSum_45 : decode cX8_leastSum 45 = .ok (.istore 6, 2) := by decide +kernel
theorem dX8_leastSum_47 : decode cX8_leastSum 47 = .ok (.iload 6, 2) := by decide +kernel
theorem dX8_leastSum_49 : decode cX8_leastSum 49 = .ok (.iload_n 3, 1) := by decide +kernel
theorem dX8_leastSum_50 : decode cX8_leastSum 50 = .ok (.if_icmp .ge 11, 3) := by decide +kernel
theorem dX8_leastSum_53 : decode cX8_leastSum 53 = .ok (.iload 6, 2) := by decide +kernel
theorem dX8_leastSum_55 : decode cX8_leastSum 55 = .ok (.istore_n 3, 1) := by decide +kernel
theorem dX8_leastSum_56 : decode cX8_leastSum 56 = .ok (.aload_n 0, 1) := by decide +kernel
theorem dX8_leastSum_57 : decode cX8_leastSum 57 = .ok (.iload_n 2, 1) := by decide +kernel
theorem dX8_leastSum_58 : decode cX8_leastSum 58 = .ok (.invokevirtual 30, 3) := by decide +kernel
theorem dX8_leastSum_61 : decode cX8_leastSum 61 = .ok (.aload_n 0, 1) := by decide +kernel
theorem dX8_leastSum_62 : decode cX8_leastSum 62 = .ok (.iload_n 2, 1) := by decide +kernel
theorem dX8_leastSum_63 : decode cX8_leastSum 63 = .ok (.invokevirtual 34, 3) := by decide +kernel
theorem dX8_leastSum_66 : decode cX8_leastSum 66 = .ok (.istore 4, 2) := by decide +kernel
theorem dX8_leastSum_68 : decode cX8_leastSum 68 = .ok (.iinc 5 1, 3) := by decide +kernel
theorem dX8_leastSum_71 : decode cX8_leastSum 71 = .ok (.goto (-44), 3) := by decide +kernel
theorem dX8_leastSum_74 : decode cX8_leastSum 74 = .ok (.iload_n 3, 1) := by decide +kernel
theorem dX8_leastSum_75 : decode cX8_leastSum 75 = .ok (.ireturn, 1) := by decide +kernel
theorem dX8_gather_0 : decode cX8_gather 0 = .ok (.iconst 0, 1) := by decide +kernel
theorem dX8_gather_1 : decode cX8_gather 1 = .ok (.istore_n 2, 1) := by decide +kernel
theorem dX8_gather_2 : decode cX8_gather 2 = .ok (.iconst 0, 1) := by decide +kernel
theorem dX8_gather_3 : decode cX8_gather 3 = .ok (.istore_n 3, 1) := by decide +kernel
theorem dX8_gather_4 : decode cX8_gather 4 = .ok (.iload_n 3, 1) := by decide +kernel
theorem dX8_gather_5 : decode cX8_gather 5 = .ok (.bipush 6, 2) := by decide +kernel
theorem dX8_gather_7 : decode cX8_gather 7 = .ok (.if_icmp .ge 28, 3) := by decide +kernel
theorem dX8_gather_10 : decode cX8_gather 10 = .ok (.iload_n 1, 1) := by decide +kernel
theorem dX8_gather_11 : decode cX8_gather 11 = .ok (.iload_n 3, 1) := by decide +kernel
theorem dX8_gather_12 : decode cX8_gather 12 = .ok (.ishr, 1) := by decide +kernel
theorem dX8_gather_13 : decode cX8_gather 13 = .ok (.iconst 1, 1) := by decide +kernel
theorem dX8_gather_14 : decode cX8_gather 14 = .ok (.iand, 1) := by decide +kernel
theorem dX8_gather_15 : decode cX8_gather 15 = .ok (.iconst 1, 1) := by decide +kernel
theorem dX8_gather_16 : decode cX8_gather 16 = .ok (.if_icmp .ne 13, 3) := by decide +kernel
theorem dX8_gather_19 : decode cX8_gather 19 = .ok (.aload_n 0, 1) := by decide +kernel
theorem dX8_gather_20 : decode cX8_gather 20 = .ok (.getfield 20, 3) := by decide +kernel
theorem dX8_gather_23 : decode cX8_gather 23 = .ok (.iload_n 2, 1) := by decide +kernel
theorem dX8_gather_24 : decode cX8_gather 24 = .ok (.iload_n 3, 1) := by decide +kernel
theorem dX8_gather_25 : decode cX8_gather 25 = .ok (.iastore, 1) := by decide +kernel
theorem dX8_gather_26 : decode cX8_gather 26 = .ok (.iinc 2 1, 3) := by decide +kernel
theorem dX8_gather_29 : decode cX8_gather 29 = .ok (.iinc 3 1, 3) := by decide +kernel
theorem dX8_gather_32 : decode cX8_gather 32 = .ok (.goto (-28), 3) := by decide +kernel
theorem dX8_gather_35 : decode cX8_gather 35 = .ok (.iload_n 2, 1) := by decide +kernel
theorem dX8_gather_36 : decode cX8_gather 36 = .ok (.ireturn, 1) := by decide +kernel
theorem dX8_sumOfOrder_0 : decode cX8_sumOfOrder 0 = .ok (.iconst 0, 1) := by decide +kernel
theorem dX8_sumOfOrder_1 : decode cX8_sumOfOrder 1 = .ok (.istore_n 2, 1) := by decide +kernel
theorem dX8_sumOfOrder_2 : decode cX8_sumOfOrder 2 = .ok (.iconst 0, 1) := by decide +kernel
theorem dX8_sumOfOrder_3 : decode cX8_sumOfOrder 3 = .ok (.istore_n 3, 1) := by decide +kernel
theorem dX8_sumOfOrder_4 : decode cX8_sumOfOrder 4 = .ok (.iload_n 3, 1) := by decide +kernel
theorem dX8_sumOfOrder_5 : decode cX8_sumOfOrder 5 = .ok (.iload_n 1, 1) := by decide +kernel
theorem dX8_sumOfOrder_6 : decode cX8_sumOfOrder 6 = .ok (.if_icmp .ge 52, 3) := by decide +kernel
theorem dX8_sumOfOrder_9 : decode cX8_sumOfOrder 9 = .ok (.iload_n 3, 1) := by decide +kernel
theorem dX8_sumOfOrder_10 : decode cX8_sumOfOrder 10 = .ok (.iconst 1, 1) := by decide +kernel
theorem dX8_sumOfOrder_11 : decode cX8_sumOfOrder 11 = .ok (.iadd, 1) := by decide +kernel
theorem dX8_sumOfOrder_12 : decode cX8_sumOfOrder 12 = .ok (.iload_n 1, 1) := by decide +kernel
theorem dX8_sumOfOrder_13 : decode cX8_sumOfOrder 13 = .ok (.if_icmp .ge 14, 3) := by decide +kernel
theorem dX8_sumOfOrder_16 : decode cX8_sumOfOrder 16 = .ok (.aload_n 0, 1) := by decide +kernel
theorem dX8_sumOfOrder_17 : decode cX8_sumOfOrder 17 = .ok (.getfield 20, 3) := by decide +kernel
theorem dX8_sumOfOrder_20 : decode cX8_sumOfOrder 20 = .ok (.iload_n 3, 1) := by decide +kernel
theorem dX8_sumOfOrder_21 : decode cX8_sumOfOrder 21 = .ok (.iconst 1, 1) := by decide +kernel
theorem dX8_sumOfOrder_22 : decode cX8_sumOfOrder 22 = .ok (.iadd, 1) := by decide +kernel
theorem dX8_sumOfOrder_23 : decode cX8_sumOfOrder 23 = .ok (.iaload, 1) := by decide +kernel
theorem dX8_sumOfOrder_24 : decode cX8_sumOfOrder 24 = .ok (.goto 9, 3) := by decide +kernel
theorem dX8_sumOfOrder_27 : decode cX8_sumOfOrder 27 = .ok (.aload_n 0, 1) := by decide +kernel
theorem dX8_sumOfOrder_28 : decode cX8_sumOfOrder 28 = .ok (.getfield 20, 3) := by decide +kernel
theorem dX8_sumOfOrder_31 : decode cX8_sumOfOrder 31 = .ok (.iconst 0, 1) := by decide +kernel
theorem dX8_sumOfOrder_32 : decode cX8_sumOfOrder 32 = .ok (.iaload, 1) := by decide +kernel
theorem dX8_sumOfOrder_33 : decode cX8_sumOfOrder 33 = .ok (.istore 4, 2) := by decide +kernel
theorem dX8_sumOfOrder_35 : decode cX8_sumOfOrder 35 = .ok (.iload_n 2, 1) := by decide +kernel
theorem dX8_sumOfOrder_36 : decode cX8_sumOfOrder 36 = .ok (.aload_n 0, 1) := by decide +kernel
theorem dX8_sumOfOrder_37 : decode cX8_sumOfOrder 37 = .ok (.getfield 11, 3) := by decide +kernel
theorem dX8_sumOfOrder_40 : decode cX8_sumOfOrder 40 = .ok (.aload_n 0, 1) := by decide +kernel
theorem dX8_sumOfOrder_41 : decode cX8_sumOfOrder 41 = .ok (.getfield 20, 3) := by decide +kernel
theorem dX8_sumOfOrder_44 : decode cX8_sumOfOrder 44 = .ok (.iload_n 3, 1) := by decide +kernel
theorem dX8_sumOfOrder_45 : decode cX8_sumOfOrder 45 = .ok (.iaload, 1) := by decide +kernel
theorem dX8_sumOfOrder_46 : decode cX8_sumOfOrder 46 = .ok (.aaload, 1) := by decide +kernel
theorem dX8_sumOfOrder_47 : decode cX8_sumOfOrder 47 = .ok (.iload 4, 2) := by decide +kernel
theorem dX8_sumOfOrder_49 : decode cX8_sumOfOrder 49 = .ok (.iaload, 1) := by decide +kernel
theorem dX8_sumOfOrder_50 : decode cX8_sumOfOrder 50 = .ok (.iadd, 1) := by decide +kernel
theorem dX8_sumOfOrder_51 : decode cX8_sumOfOrder 51 = .ok (.istore_n 2, 1) := by decide +kernel
theorem dX8_sumOfOrder_52 : decode cX8_sumOfOrder 52 = .ok (.iinc 3 1, 3) := by decide +kernel
theorem dX8_sumOfOrder_55 : decode cX8_sumOfOrder 55 = .ok (.goto (-51), 3) := by decide +kernel
theorem dX8_sumOfOrder_58 : decode cX8_sumOfOrder 58 = .ok (.iload_n 2, 1) := by decide +kernel
theorem dX8_sumOfOrder_59 : decode cX8_sumOfOrder 59 = .ok (.ireturn, 1) := by decide +kernel
theorem dX8_keepOrder_0 : decode cX8_keepOrder 0 = .ok (.aload_n 0, 1) := by decide +kernel
theorem dX8_keepOrder_1 : decode cX8_keepOrder 1 = .ok (.getfield 20, 3) := by decide +kernel
theorem dX8_keepOrder_4 : decode cX8_keepOrder 4 = .ok (.iconst 0, 1) := by decide +kernel
theorem dX8_keepOrder_5 : decode cX8_keepOrder 5 = .ok (.aload_n 0, 1) := by decide +kernel
theorem dX8_keepOrder_6 : decode cX8_keepOrder 6 = .ok (.getfield 16, 3) := by decide +kernel
theorem dX8_keepOrder_9 : decode cX8_keepOrder 9 = .ok (.iconst 0, 1) := by decide +kernel
theorem dX8_keepOrder_10 : decode cX8_keepOrder 10 = .ok (.iload_n 1, 1) := by decide +kernel
theorem dX8_keepOrder_11 : decode cX8_keepOrder 11 = .ok (.invokestatic 38, 3) := by decide +kernel
theorem dX8_keepOrder_14 : decode cX8_keepOrder 14 = .ok (.aload_n 0, 1) := by decide +kernel
theorem dX8_keepOrder_15 : decode cX8_keepOrder 15 = .ok (.iload_n 1, 1) := by decide +kernel
theorem dX8_keepOrder_16 : decode cX8_keepOrder 16 = .ok (.putfield 44, 3) := by decide +kernel
theorem dX8_keepOrder_19 : decode cX8_keepOrder 19 = .ok (.return_, 1) := by decide +kernel
theorem dX8_advance_0 : decode cX8_advance 0 = .ok (.iload_n 1, 1) := by decide +kernel
theorem dX8_advance_1 : decode cX8_advance 1 = .ok (.iconst 2, 1) := by decide +kernel
theorem dX8_advance_2 : decode cX8_advance 2 = .ok (.isub, 1) := by decide +kernel
theorem dX8_advance_3 : decode cX8_advance 3 = .ok (.istore_n 2, 1) := by decide +kernel
theorem dX8_advance_4 : decode cX8_advance 4 = .ok (.iload_n 2, 1) := by decide +kernel
theorem dX8_advance_5 : decode cX8_advance 5 = .ok (.iconst 1, 1) := by decide +kernel
theorem dX8_advance_6 : decode cX8_advance 6 = .ok (.if_icmp .lt 26, 3) := by decide +kernel
theorem dX8_advance_9 : decode cX8_advance 9 = .ok (.aload_n 0, 1) := by decide +kernel
theorem dX8_advance_10 : decode cX8_advance 10 = .ok (.getfield 20, 3) := by decide +kernel
theorem dX8_advance_13 : decode cX8_advance 13 = .ok (.iload_n 2, 1) := by decide +kernel
theorem dX8_advance_14 : decode cX8_advance 14 = .ok (.iaload, 1) := by decide +kernel
theorem dX8_advance_15 : decode cX8_advance 15 = .ok (.aload_n 0, 1) := by decide +kernel
theorem dX8_advance_16 : decode cX8_advance 16 = .ok (.getfield 20, 3) := by decide +kernel
theorem dX8_advance_19 : decode cX8_advance 19 = .ok (.iload_n 2, 1) := by decide +kernel
theorem dX8_advance_20 : decode cX8_advance 20 = .ok (.iconst 1, 1) := by decide +kernel
theorem dX8_advance_21 : decode cX8_advance 21 = .ok (.iadd, 1) := by decide +kernel
theorem dX8_advance_22 : decode cX8_advance 22 = .ok (.iaload, 1) := by decide +kernel
theorem dX8_advance_23 : decode cX8_advance 23 = .ok (.if_icmp .le 9, 3) := by decide +kernel
theorem dX8_advance_26 : decode cX8_advance 26 = .ok (.iinc 2 (-1), 3) := by decide +kernel
theorem dX8_advance_29 : decode cX8_advance 29 = .ok (.goto (-25), 3) := by decide +kernel
theorem dX8_advance_32 : decode cX8_advance 32 = .ok (.iload_n 2, 1) := by decide +kernel
theorem dX8_advance_33 : decode cX8_advance 33 = .ok (.iconst 1, 1) := by decide +kernel
theorem dX8_advance_34 : decode cX8_advance 34 = .ok (.if_icmp .ge 5, 3) := by decide +kernel
theorem dX8_advance_37 : decode cX8_advance 37 = .ok (.iconst 0, 1) := by decide +kernel
theorem dX8_advance_38 : decode cX8_advance 38 = .ok (.ireturn, 1) := by decide +kernel
theorem dX8_advance_39 : decode cX8_advance 39 = .ok (.iload_n 1, 1) := by decide +kernel
theorem dX8_advance_40 : decode cX8_advance 40 = .ok (.iconst 1, 1) := by decide +kernel
theorem dX8_advance_41 : decode cX8_advance 41 = .ok (.isub, 1) := by decide +kernel
theorem dX8_advance_42 : decode cX8_advance 42 = .ok (.istore_n 3, 1) := by decide +kernel
theorem dX8_advance_43 : decode cX8_advance 43 = .ok (.iload_n 3, 1) := by decide +kernel
theorem dX8_advance_44 : decode cX8_advance 44 = .ok (.iload_n 2, 1) := by decide +kernel
theorem dX8_advance_45 : decode cX8_advance 45 = .ok (.if_icmp .le 24, 3) := by decide +kernel
theorem dX8_advance_48 : decode cX8_advance 48 = .ok (.aload_n 0, 1) := by decide +kernel
theorem dX8_advance_49 : decode cX8_advance 49 = .ok (.getfield 20, 3) := by decide +kernel
theorem dX8_advance_52 : decode cX8_advance 52 = .ok (.iload_n 3, 1) := by decide +kernel
theorem dX8_advance_53 : decode cX8_advance 53 = .ok (.iaload, 1) := by decide +kernel
theorem dX8_advance_54 : decode cX8_advance 54 = .ok (.aload_n 0, 1) := by decide +kernel
theorem dX8_advance_55 : decode cX8_advance 55 = .ok (.getfield 20, 3) := by decide +kernel
theorem dX8_advance_58 : decode cX8_advance 58 = .ok (.iload_n 2, 1) := by decide +kernel
theorem dX8_advance_59 : decode cX8_advance 59 = .ok (.iaload, 1) := by decide +kernel
theorem dX8_advance_60 : decode cX8_advance 60 = .ok (.if_icmp .ge 9, 3) := by decide +kernel
theorem dX8_advance_63 : decode cX8_advance 63 = .ok (.iinc 3 (-1), 3) := by decide +kernel
theorem dX8_advance_66 : decode cX8_advance 66 = .ok (.goto (-23), 3) := by decide +kernel
theorem dX8_advance_69 : decode cX8_advance 69 = .ok (.aload_n 0, 1) := by decide +kernel
theorem dX8_advance_70 : decode cX8_advance 70 = .ok (.iload_n 2, 1) := by decide +kernel
theorem dX8_advance_71 : decode cX8_advance 71 = .ok (.iload_n 3, 1) := by decide +kernel
theorem dX8_advance_72 : decode cX8_advance 72 = .ok (.invokevirtual 48, 3) := by decide +kernel
theorem dX8_advance_75 : decode cX8_advance 75 = .ok (.iload_n 2, 1) := by decide +kernel
theorem dX8_advance_76 : decode cX8_advance 76 = .ok (.iconst 1, 1) := by decide +kernel
theorem dX8_advance_77 : decode cX8_advance 77 = .ok (.iadd, 1) := by decide +kernel
theorem dX8_advance_78 : decode cX8_advance 78 = .ok (.istore 4, 2) := by decide +kernel
theorem dX8_advance_80 : decode cX8_advance 80 = .ok (.iload_n 1, 1) := by decide +kernel
theorem dX8_advance_81 : decode cX8_advance 81 = .ok (.iconst 1, 1) := by decide +kernel
theorem dX8_advance_82 : decode cX8_advance 82 = .ok (.isub, 1) := by decide +kernel
theorem dX8_advance_83 : decode cX8_advance 83 = .ok (.istore 5, 2) := by decide +kernel
theorem dX8_advance_85 : decode cX8_advance 85 = .ok (.iload 4, 2) := by decide +kernel
theorem dX8_advance_87 : decode cX8_advance 87 = .ok (.iload 5, 2) := by decide +kernel
theorem dX8_advance_89 : decode cX8_advance 89 = .ok (.if_icmp .ge 20, 3) := by decide +kernel
theorem dX8_advance_92 : decode cX8_advance 92 = .ok (.aload_n 0, 1) := by decide +kernel
theorem dX8_advance_93 : decode cX8_advance 93 = .ok (.iload 4, 2) := by decide +kernel
theorem dX8_advance_95 : decode cX8_advance 95 = .ok (.iload 5, 2) := by decide +kernel
theorem dX8_advance_97 : decode cX8_advance 97 = .ok (.invokevirtual 48, 3) := by decide +kernel
theorem dX8_advance_100 : decode cX8_advance 100 = .ok (.iinc 4 1, 3) := by decide +kernel
theorem dX8_advance_103 : decode cX8_advance 103 = .ok (.iinc 5 (-1), 3) := by decide +kernel
theorem dX8_advance_106 : decode cX8_advance 106 = .ok (.goto (-21), 3) := by decide +kernel
theorem dX8_advance_109 : decode cX8_advance 109 = .ok (.iconst 1, 1) := by decide +kernel
theorem dX8_advance_110 : decode cX8_advance 110 = .ok (.ireturn, 1) := by decide +kernel
theorem dX8_swap_0 : decode cX8_swap 0 = .ok (.aload_n 0, 1) := by decide +kernel
theorem dX8_swap_1 : decode cX8_swap 1 = .ok (.getfield 20, 3) := by decide +kernel
theorem dX8_swap_4 : decode cX8_swap 4 = .ok (.iload_n 1, 1) := by decide +kernel
theorem dX8_swap_5 : decode cX8_swap 5 = .ok (.iaload, 1) := by decide +kernel
theorem dX8_swap_6 : decode cX8_swap 6 = .ok (.istore_n 3, 1) := by decide +kernel
theorem dX8_swap_7 : decode cX8_swap 7 = .ok (.aload_n 0, 1) := by decide +kernel
theorem dX8_swap_8 : decode cX8_swap 8 = .ok (.getfield 20, 3) := by decide +kernel
theorem dX8_swap_11 : decode cX8_swap 11 = .ok (.iload_n 1, 1) := by decide +kernel
theorem dX8_swap_12 : decode cX8_swap 12 = .ok (.aload_n 0, 1) := by decide +kernel
theorem dX8_swap_13 : decode cX8_swap 13 = .ok (.getfield 20, 3) := by decide +kernel
theorem dX8_swap_16 : decode cX8_swap 16 = .ok (.iload_n 2, 1) := by decide +kernel
theorem dX8_swap_17 : decode cX8_swap 17 = .ok (.iaload, 1) := by decide +kernel
theorem dX8_swap_18 : decode cX8_swap 18 = .ok (.iastore, 1) := by decide +kernel
theorem dX8_swap_19 : decode cX8_swap 19 = .ok (.aload_n 0, 1) := by decide +kernel
theorem dX8_swap_20 : decode cX8_swap 20 = .ok (.getfield 20, 3) := by decide +kernel
theorem dX8_swap_23 : decode cX8_swap 23 = .ok (.iload_n 2, 1) := by decide +kernel
theorem dX8_swap_24 : decode cX8_swap 24 = .ok (.iload_n 3, 1) := by decide +kernel
theorem dX8_swap_25 : decode cX8_swap 25 = .ok (.iastore, 1) := by decide +kernel
theorem dX8_swap_26 : decode cX8_swap 26 = .ok (.return_, 1) := by decide +kernel
theorem dX9_init_0 : decode cX9_init 0 = .ok (.aload_n 0, 1) := by decide +kernel
theorem dX9_init_1 : decode cX9_init 1 = .ok (.invokespecial 3, 3) := by decide +kernel
theorem dX9_init_4 : decode cX9_init 4 = .ok (.aload_n 0, 1) := by decide +kernel
theorem dX9_init_5 : decode cX9_init 5 = .ok (.bipush 32, 2) := by decide +kernel
theorem dX9_init_7 : decode cX9_init 7 = .ok (.newarray .long, 2) := by decide +kernel
theorem dX9_init_9 : decode cX9_init 9 = .ok (.putfield 9, 3) := by decide +kernel
theorem dX9_init_12 : decode cX9_init 12 = .ok (.aload_n 0, 1) := by decide +kernel
theorem dX9_init_13 : decode cX9_init 13 = .ok (.bipush 32, 2) := by decide +kernel
theorem dX9_init_15 : decode cX9_init 15 = .ok (.newarray .int, 2) := by decide +kernel
theorem dX9_init_17 : decode cX9_init 17 = .ok (.putfield 15, 3) := by decide +kernel
theorem dX9_init_20 : decode cX9_init 20 = .ok (.return_, 1) := by decide +kernel
theorem dX9_split_0 : decode cX9_split 0 = .ok (.iload_n 3, 1) := by decide +kernel
theorem dX9_split_1 : decode cX9_split 1 = .ok (.bipush 32, 2) := by decide +kernel
theorem dX9_split_3 : decode cX9_split 3 = .ok (.if_icmp .gt 24, 3) := by decide +kernel
theorem dX9_split_6 : decode cX9_split 6 = .ok (.iload_n 3, 1) := by decide +kernel
theorem dX9_split_7 : decode cX9_split 7 = .ok (.aload_n 2, 1) := by decide +kernel
theorem dX9_split_8 : decode cX9_split 8 = .ok (.arraylength, 1) := by decide +kernel
theorem dX9_split_9 : decode cX9_split 9 = .ok (.if_icmp .gt 18, 3) := by decide +kernel
theorem dX9_split_12 : decode cX9_split 12 = .ok (.iload 5, 2) := by decide +kernel
theorem dX9_split_14 : decode cX9_split 14 = .ok (.ifCond .lt 13, 3) := by decide +kernel
theorem dX9_split_17 : decode cX9_split 17 = .ok (.iload 5, 2) := by decide +kernel
theorem dX9_split_19 : decode cX9_split 19 = .ok (.aload 4, 2) := by decide +kernel
theorem dX9_split_21 : decode cX9_split 21 = .ok (.arraylength, 1) := by decide +kernel
theorem dX9_split_22 : decode cX9_split 22 = .ok (.iload_n 3, 1) := by decide +kernel
theorem dX9_split_23 : decode cX9_split 23 = .ok (.isub, 1) := by decide +kernel
theorem dX9_split_24 : decode cX9_split 24 = .ok (.if_icmp .le 4, 3) := by decide +kernel
theorem dX9_split_27 : decode cX9_split 27 = .ok (.return_, 1) := by decide +kernel
theorem dX9_split_28 : decode cX9_split 28 = .ok (.lconst 0, 1) := by decide +kernel
theorem dX9_split_29 : decode cX9_split 29 = .ok (.lstore 6, 2) := by decide +kernel
theorem dX9_split_31 : decode cX9_split 31 = .ok (.iconst 0, 1) := by decide +kernel
theorem dX9_split_32 : decode cX9_split 32 = .ok (.istore 8, 2) := by decide +kernel
theorem dX9_split_34 : decode cX9_split 34 = .ok (.iload 8, 2) := by decide +kernel
theorem dX9_split_36 : decode cX9_split 36 = .ok (.iload_n 3, 1) := by decide +kernel
theorem dX9_split_37 : decode cX9_split 37 = .ok (.if_icmp .ge 19, 3) := by decide +kernel
theorem dX9_split_40 : decode cX9_split 40 = .ok (.lload 6, 2) := by decide +kernel
theorem dX9_split_42 : decode cX9_split 42 = .ok (.aload_n 2, 1) := by decide +kernel
theorem dX9_split_43 : decode cX9_split 43 = .ok (.iload 8, 2) := by decide +kernel
theorem dX9_split_45 : decode cX9_split 45 = .ok (.iaload, 1) := by decide +kernel
theorem dX9_split_46 : decode cX9_split 46 = .ok (.i2l, 1) := by decide +kernel
theorem dX9_split_47 : decode cX9_split 47 = .ok (.ladd, 1) := by decide +kernel
theorem dX9_split_48 : decode cX9_split 48 = .ok (.lstore 6, 2) := by decide +kernel
theorem dX9_split_50 : decode cX9_split 50 = .ok (.iinc 8 1, 3) := by decide +kernel
theorem dX9_split_53 : decode cX9_split 53 = .ok (.goto (-19), 3) := by decide +kernel
theorem dX9_split_56 : decode cX9_split 56 = .ok (.lload 6, 2) := by decide +kernel
theorem dX9_split_58 : decode cX9_split 58 = .ok (.lconst 0, 1) := by decide +kernel
theorem dX9_split_59 : decode cX9_split 59 = .ok (.lcmp, 1) := by decide +kernel
theorem dX9_split_60 : decode cX9_split 60 = .ok (.ifCond .gt 4, 3) := by decide +kernel
theorem dX9_split_63 : decode cX9_split 63 = .ok (.return_, 1) := by decide +kernel
theorem dX9_split_64 : decode cX9_split 64 = .ok (.iload_n 1, 1) := by decide +kernel
theorem dX9_split_65 : decode cX9_split 65 = .ok (.istore 8, 2) := by decide +kernel
theorem dX9_split_67 : decode cX9_split 67 = .ok (.iconst 0, 1) := by decide +kernel
theorem dX9_split_68 : decode cX9_split 68 = .ok (.istore 9, 2) := by decide +kernel
theorem dX9_split_70 : decode cX9_split 70 = .ok (.iconst 0, 1) := by decide +kernel
theorem dX9_split_71 : decode cX9_split 71 = .ok (.istore 10, 2) := by decide +kernel
theorem dX9_split_73 : decode cX9_split 73 = .ok (.iload 10, 2) := by decide +kernel
theorem dX9_split_75 : decode cX9_split 75 = .ok (.iload_n 3, 1) := by decide +kernel
theorem dX9_split_76 : decode cX9_split 76 = .ok (.if_icmp .ge 96, 3) := by decide +kernel
theorem dX9_split_79 : decode cX9_split 79 = .ok (.iconst 0, 1) := by decide +kernel
theorem dX9_split_80 : decode cX9_split 80 = .ok (.istore 11, 2) := by decide +kernel
theorem dX9_split_82 : decode cX9_split 82 = .ok (.aload_n 2, 1) := by decide +kernel
theorem dX9_split_83 : decode cX9_split 83 = .ok (.iload 10, 2) := by decide +kernel
theorem dX9_split_85 : decode cX9_split 85 = .ok (.iaload, 1) := by decide +kernel
theorem dX9_split_86 : decode cX9_split 86 = .ok (.ifCond .eq 63, 3) := by decide +kernel
theorem dX9_split_89 : decode cX9_split 89 = .ok (.iload_n 1, 1) := by decide +kernel
theorem dX9_split_90 : decode cX9_split 90 = .ok (.i2l, 1) := by decide +kernel
theorem dX9_split_91 : decode cX9_split 91 = .ok (.aload_n 2, 1) := by decide +kernel
theorem dX9_split_92 : decode cX9_split 92 = .ok (.iload 10, 2) := by decide +kernel
theorem dX9_split_94 : decode cX9_split 94 = .ok (.iaload, 1) := by decide +kernel
theorem dX9_split_95 : decode cX9_split 95 = .ok (.i2l, 1) := by decide +kernel
theorem dX9_split_96 : decode cX9_split 96 = .ok (.lmul, 1) := by decide +kernel
theorem dX9_split_97 : decode cX9_split 97 = .ok (.lstore 12, 2) := by decide +kernel
theorem dX9_split_99 : decode cX9_split 99 = .ok (.lload 12, 2) := by decide +kernel
theorem dX9_split_101 : decode cX9_split 101 = .ok (.lload 6, 2) := by decide +kernel
theorem dX9_split_103 : decode cX9_split 103 = .ok (.ldiv, 1) := by decide +kernel
theorem dX9_split_104 : decode cX9_split 104 = .ok (.l2i, 1) := by decide +kernel
theorem dX9_split_105 : decode cX9_split 105 = .ok (.istore 11, 2) := by decide +kernel
theorem dX9_split_107 : decode cX9_split 107 = .ok (.lload 12, 2) := by decide +kernel
theorem dX9_split_109 : decode cX9_split 109 = .ok (.iload 11, 2) := by decide +kernel
theorem dX9_split_111 : decode cX9_split 111 = .ok (.i2l, 1) := by decide +kernel
theorem dX9_split_112 : decode cX9_split 112 = .ok (.lload 6, 2) := by decide +kernel
theorem dX9_split_114 : decode cX9_split 114 = .ok (.lmul, 1) := by decide +kernel
theorem dX9_split_115 : decode cX9_split 115 = .ok (.lsub, 1) := by decide +kernel
theorem dX9_split_116 : decode cX9_split 116 = .ok (.lstore 14, 2) := by decide +kernel
theorem dX9_split_118 : decode cX9_split 118 = .ok (.lload 14, 2) := by decide +kernel
theorem dX9_split_120 : decode cX9_split 120 = .ok (.lconst 0, 1) := by decide +kernel
theorem dX9_split_121 : decode cX9_split 121 = .ok (.lcmp, 1) := by decide +kernel
theorem dX9_split_122 : decode cX9_split 122 = .ok (.ifCond .le 27, 3) := by decide +kernel
theorem dX9_split_125 : decode cX9_split 125 = .ok (.aload_n 0, 1) := by decide +kernel
theorem dX9_split_126 : decode cX9_split 126 = .ok (.getfield 9, 3) := by decide +kernel
theorem dX9_split_129 : decode cX9_split 129 = .ok (.iload 9, 2) := by decide +kernel
theorem dX9_split_131 : decode cX9_split 131 = .ok (.lload 14, 2) := by decide +kernel
theorem dX9_split_133 : decode cX9_split 133 = .ok (.lastore, 1) := by decide +kernel
theorem dX9_split_134 : decode cX9_split 134 = .ok (.aload_n 0, 1) := by decide +kernel
theorem dX9_split_135 : decode cX9_split 135 = .ok (.getfield 15, 3) := by decide +kernel
theorem dX9_split_138 : decode cX9_split 138 = .ok (.iload 9, 2) := by decide +kernel
theorem dX9_split_140 : decode cX9_split 140 = .ok (.iload 5, 2) := by decide +kernel
theorem dX9_split_142 : decode cX9_split 142 = .ok (.iload 10, 2) := by decide +kernel
theorem dX9_split_144 : decode cX9_split 144 = .ok (.iadd, 1) := by decide +kernel
theorem dX9_split_145 : decode cX9_split 145 = .ok (.iastore, 1) := by decide +kernel
theorem dX9_split_146 : decode cX9_split 146 = .ok (.iinc 9 1, 3) := by decide +kernel
theorem dX9_split_149 : decode cX9_split 149 = .ok (.aload 4, 2) := by decide +kernel
theorem dX9_split_151 : decode cX9_split 151 = .ok (.iload 5, 2) := by decide +kernel
theorem dX9_split_153 : decode cX9_split 153 = .ok (.iload 10, 2) := by decide +kernel
theorem dX9_split_155 : decode cX9_split 155 = .ok (.iadd, 1) := by decide +kernel
theorem dX9_split_156 : decode cX9_split 156 = .ok (.iload 11, 2) := by decide +kernel
theorem dX9_split_158 : decode cX9_split 158 = .ok (.iastore, 1) := by decide +kernel
theorem dX9_split_159 : decode cX9_split 159 = .ok (.iload 8, 2) := by decide +kernel
theorem dX9_split_161 : decode cX9_split 161 = .ok (.iload 11, 2) := by decide +kernel
theorem dX9_split_163 : decode cX9_split 163 = .ok (.isub, 1) := by decide +kernel
theorem dX9_split_164 : decode cX9_split 164 = .ok (.istore 8, 2) := by decide +kernel
theorem dX9_split_166 : decode cX9_split 166 = .ok (.iinc 10 1, 3) := by decide +kernel
theorem dX9_split_169 : decode cX9_split 169 = .ok (.goto (-96), 3) := by decide +kernel
theorem dX9_split_172 : decode cX9_split 172 = .ok (.aload_n 0, 1) := by decide +kernel
theorem dX9_split_173 : decode cX9_split 173 = .ok (.iload 8, 2) := by decide +kernel
theorem dX9_split_175 : decode cX9_split 175 = .ok (.iload 9, 2) := by decide +kernel
theorem dX9_split_177 : decode cX9_split 177 = .ok (.aload 4, 2) := by decide +kernel
theorem dX9_split_179 : decode cX9_split 179 = .ok (.invokevirtual 19, 3) := by decide +kernel
theorem dX9_split_182 : decode cX9_split 182 = .ok (.return_, 1) := by decide +kernel
theorem dX9_giveLeft_0 : decode cX9_giveLeft 0 = .ok (.iconst 0, 1) := by decide +kernel
theorem dX9_giveLeft_1 : decode cX9_giveLeft 1 = .ok (.istore 4, 2) := by decide +kernel
theorem dX9_giveLeft_3 : decode cX9_giveLeft 3 = .ok (.iload 4, 2) := by decide +kernel
theorem dX9_giveLeft_5 : decode cX9_giveLeft 5 = .ok (.iload_n 1, 1) := by decide +kernel
theorem dX9_giveLeft_6 : decode cX9_giveLeft 6 = .ok (.if_icmp .ge 76, 3) := by decide +kernel
theorem dX9_giveLeft_9 : decode cX9_giveLeft 9 = .ok (.iload 4, 2) := by decide +kernel
theorem dX9_giveLeft_11 : decode cX9_giveLeft 11 = .ok (.iload_n 2, 1) := by decide +kernel
theorem dX9_giveLeft_12 : decode cX9_giveLeft 12 = .ok (.if_icmp .ge 70, 3) := by decide +kernel
theorem dX9_giveLeft_15 : decode cX9_giveLeft 15 = .ok (.iconst 0, 1) := by decide +kernel
theorem dX9_giveLeft_16 : decode cX9_giveLeft 16 = .ok (.istore 5, 2) := by decide +kernel
theorem dX9_giveLeft_18 : decode cX9_giveLeft 18 = .ok (.iconst 1, 1) := by decide +kernel
theorem dX9_giveLeft_19 : decode cX9_giveLeft 19 = .ok (.istore 6, 2) := by decide +kernel
theorem dX9_giveLeft_21 : decode cX9_giveLeft 21 = .ok (.iload 6, 2) := by decide +kernel
theorem dX9_giveLeft_23 : decode cX9_giveLeft 23 = .ok (.iload_n 2, 1) := by decide +kernel
theorem dX9_giveLeft_24 : decode cX9_giveLeft 24 = .ok (.if_icmp .ge 31, 3) := by decide +kernel
theorem dX9_giveLeft_27 : decode cX9_giveLeft 27 = .ok (.aload_n 0, 1) := by decide +kernel
theorem dX9_giveLeft_28 : decode cX9_giveLeft 28 = .ok (.getfield 9, 3) := by decide +kernel
theorem dX9_giveLeft_31 : decode cX9_giveLeft 31 = .ok (.iload 6, 2) := by decide +kernel
theorem dX9_giveLeft_33 : decode cX9_giveLeft 33 = .ok (.laload, 1) := by decide +kernel
theorem dX9_giveLeft_34 : decode cX9_giveLeft 34 = .ok (.aload_n 0, 1) := by decide +kernel
theorem dX9_giveLeft_35 : decode cX9_giveLeft 35 = .ok (.getfield 9, 3) := by decide +kernel
theorem dX9_giveLeft_38 : decode cX9_giveLeft 38 = .ok (.iload 5, 2) := by decide +kernel
theorem dX9_giveLeft_40 : decode cX9_giveLeft 40 = .ok (.laload, 1) := by decide +kernel
theorem dX9_giveLeft_41 : decode cX9_giveLeft 41 = .ok (.lcmp, 1) := by decide +kernel
theorem dX9_giveLeft_42 : decode cX9_giveLeft 42 = .ok (.ifCond .le 7, 3) := by decide +kernel
theorem dX9_giveLeft_45 : decode cX9_giveLeft 45 = .ok (.iload 6, 2) := by decide +kernel
theorem dX9_giveLeft_47 : decode cX9_giveLeft 47 = .ok (.istore 5, 2) := by decide +kernel
theorem dX9_giveLeft_49 : decode cX9_giveLeft 49 = .ok (.iinc 6 1, 3) := by decide +kernel
theorem dX9_giveLeft_52 : decode cX9_giveLeft 52 = .ok (.goto (-31), 3) := by decide +kernel
theorem dX9_giveLeft_55 : decode cX9_giveLeft 55 = .ok (.aload_n 3, 1) := by decide +kernel
theorem dX9_giveLeft_56 : decode cX9_giveLeft 56 = .ok (.aload_n 0, 1) := by decide +kernel
theorem dX9_giveLeft_57 : decode cX9_giveLeft 57 = .ok (.getfield 15, 3) := by decide +kernel
theorem dX9_giveLeft_60 : decode cX9_giveLeft 60 = .ok (.iload 5, 2) := by decide +kernel
theorem dX9_giveLeft_62 : decode cX9_giveLeft 62 = .ok (.iaload, 1) := by decide +kernel
theorem dX9_giveLeft_63 : decode cX9_giveLeft 63 = .ok (.dup2, 1) := by decide +kernel
theorem dX9_giveLeft_64 : decode cX9_giveLeft 64 = .ok (.iaload, 1) := by decide +kernel
theorem dX9_giveLeft_65 : decode cX9_giveLeft 65 = .ok (.iconst 1, 1) := by decide +kernel
theorem dX9_giveLeft_66 : decode cX9_giveLeft 66 = .ok (.iadd, 1) := by decide +kernel
theorem dX9_giveLeft_67 : decode cX9_giveLeft 67 = .ok (.iastore, 1) := by decide +kernel
theorem dX9_giveLeft_68 : decode cX9_giveLeft 68 = .ok (.aload_n 0, 1) := by decide +kernel
theorem dX9_giveLeft_69 : decode cX9_giveLeft 69 = .ok (.getfield 9, 3) := by decide +kernel
theorem dX9_giveLeft_72 : decode cX9_giveLeft 72 = .ok (.iload 5, 2) := by decide +kernel
theorem dX9_giveLeft_74 : decode cX9_giveLeft 74 = .ok (.lconst 0, 1) := by decide +kernel
theorem dX9_giveLeft_75 : decode cX9_giveLeft 75 = .ok (.lastore, 1) := by decide +kernel
theorem dX9_giveLeft_76 : decode cX9_giveLeft 76 = .ok (.iinc 4 1, 3) := by decide +kernel
theorem dX9_giveLeft_79 : decode cX9_giveLeft 79 = .ok (.goto (-76), 3) := by decide +kernel
theorem dX9_giveLeft_82 : decode cX9_giveLeft 82 = .ok (.return_, 1) := by decide +kernel
theorem dX10_init_0 : decode cX10_init 0 = .ok (.aload_n 0, 1) := by decide +kernel
theorem dX10_init_1 : decode cX10_init 1 = .ok (.invokespecial 3, 3) := by decide +kernel
theorem dX10_init_4 : decode cX10_init 4 = .ok (.aload_n 0, 1) := by decide +kernel
theorem dX10_init_5 : decode cX10_init 5 = .ok (.bipush 6, 2) := by decide +kernel
theorem dX10_init_7 : decode cX10_init 7 = .ok (.bipush 32, 2) := by decide +kernel
theorem dX10_init_9 : decode cX10_init 9 = .ok (.multianewarray 9 2, 4) := by decide +kernel
theorem dX10_init_13 : decode cX10_init 13 = .ok (.putfield 11, 3) := by decide +kernel
theorem dX10_init_16 : decode cX10_init 16 = .ok (.aload_n 0, 1) := by decide +kernel
theorem dX10_init_17 : decode cX10_init 17 = .ok (.bipush 7, 2) := by decide +kernel
theorem dX10_init_19 : decode cX10_init 19 = .ok (.bipush 32, 2) := by decide +kernel
theorem dX10_init_21 : decode cX10_init 21 = .ok (.multianewarray 9 2, 4) := by decide +kernel
theorem dX10_init_25 : decode cX10_init 25 = .ok (.putfield 16, 3) := by decide +kernel
theorem dX10_init_28 : decode cX10_init 28 = .ok (.aload_n 0, 1) := by decide +kernel
theorem dX10_init_29 : decode cX10_init 29 = .ok (.iconst 3, 1) := by decide +kernel
theorem dX10_init_30 : decode cX10_init 30 = .ok (.putfield 19, 3) := by decide +kernel
theorem dX10_init_33 : decode cX10_init 33 = .ok (.aload_n 0, 1) := by decide +kernel
theorem dX10_init_34 : decode cX10_init 34 = .ok (.sipush 1000, 3) := by decide +kernel
theorem dX10_init_37 : decode cX10_init 37 = .ok (.putfield 23, 3) := by decide +kernel
theorem dX10_init_40 : decode cX10_init 40 = .ok (.aload_n 0, 1) := by decide +kernel
theorem dX10_init_41 : decode cX10_init 41 = .ok (.bipush 100, 2) := by decide +kernel
theorem dX10_init_43 : decode cX10_init 43 = .ok (.putfield 26, 3) := by decide +kernel
theorem dX10_init_46 : decode cX10_init 46 = .ok (.aload_n 0, 1) := by decide +kernel
theorem dX10_init_47 : decode cX10_init 47 = .ok (.aload_n 1, 1) := by decide +kernel
theorem dX10_init_48 : decode cX10_init 48 = .ok (.putfield 29, 3) := by decide +kernel
theorem dX10_init_51 : decode cX10_init 51 = .ok (.return_, 1) := by decide +kernel
theorem dX10_fill_0 : decode cX10_fill 0 = .ok (.aload_n 0, 1) := by decide +kernel
theorem dX10_fill_1 : decode cX10_fill 1 = .ok (.iconst 1, 1) := by decide +kernel
theorem dX10_fill_2 : decode cX10_fill 2 = .ok (.putfield 33, 3) := by decide +kernel
theorem dX10_fill_5 : decode cX10_fill 5 = .ok (.aload_n 0, 1) := by decide +kernel
theorem dX10_fill_6 : decode cX10_fill 6 = .ok (.iload_n 1, 1) := by decide +kernel
theorem dX10_fill_7 : decode cX10_fill 7 = .ok (.putfield 19, 3) := by decide +kernel
theorem dX10_fill_10 : decode cX10_fill 10 = .ok (.aload_n 0, 1) := by decide +kernel
theorem dX10_fill_11 : decode cX10_fill 11 = .ok (.iload_n 2, 1) := by decide +kernel
theorem dX10_fill_12 : decode cX10_fill 12 = .ok (.putfield 23, 3) := by decide +kernel
theorem dX10_fill_15 : decode cX10_fill 15 = .ok (.iconst 0, 1) := by decide +kernel
theorem dX10_fill_16 : decode cX10_fill 16 = .ok (.istore 5, 2) := by decide +kernel
theorem dX10_fill_18 : decode cX10_fill 18 = .ok (.iload 5, 2) := by decide +kernel
theorem dX10_fill_20 : decode cX10_fill 20 = .ok (.iload_n 1, 1) := by decide +kernel
theorem dX10_fill_21 : decode cX10_fill 21 = .ok (.if_icmp .ge 57, 3) := by decide +kernel
theorem dX10_fill_24 : decode cX10_fill 24 = .ok (.iconst 0, 1) := by decide +kernel
theorem dX10_fill_25 : decode cX10_fill 25 = .ok (.istore 6, 2) := by decide +kernel
theorem dX10_fill_27 : decode cX10_fill 27 = .ok (.iload 6, 2) := by decide +kernel
theorem dX10_fill_29 : decode cX10_fill 29 = .ok (.bipush 32, 2) := by decide +kernel
theorem dX10_fill_31 : decode cX10_fill 31 = .ok (.if_icmp .ge 20, 3) := by decide +kernel
theorem dX10_fill_34 : decode cX10_fill 34 = .ok (.aload_n 0, 1) := by decide +kernel
theorem dX10_fill_35 : decode cX10_fill 35 = .ok (.getfield 11, 3) := by decide +kernel
theorem dX10_fill_38 : decode cX10_fill 38 = .ok (.iload 5, 2) := by decide +kernel
theorem dX10_fill_40 : decode cX10_fill 40 = .ok (.aaload, 1) := by decide +kernel
theorem dX10_fill_41 : decode cX10_fill 41 = .ok (.iload 6, 2) := by decide +kernel
theorem dX10_fill_43 : decode cX10_fill 43 = .ok (.iconst 0, 1) := by decide +kernel
theorem dX10_fill_44 : decode cX10_fill 44 = .ok (.iastore, 1) := by decide +kernel
theorem dX10_fill_45 : decode cX10_fill 45 = .ok (.iinc 6 1, 3) := by decide +kernel
theorem dX10_fill_48 : decode cX10_fill 48 = .ok (.goto (-21), 3) := by decide +kernel
theorem dX10_fill_51 : decode cX10_fill 51 = .ok (.aload_n 0, 1) := by decide +kernel
theorem dX10_fill_52 : decode cX10_fill 52 = .ok (.getfield 29, 3) := by decide +kernel
theorem dX10_fill_55 : decode cX10_fill 55 = .ok (.iload_n 2, 1) := by decide +kernel
theorem dX10_fill_56 : decode cX10_fill 56 = .ok (.aload 4, 2) := by decide +kernel
theorem dX10_fill_58 : decode cX10_fill 58 = .ok (.iconst 4, 1) := by decide +kernel
theorem dX10_fill_59 : decode cX10_fill 59 = .ok (.aload_n 0, 1) := by decide +kernel
theorem dX10_fill_60 : decode cX10_fill 60 = .ok (.getfield 11, 3) := by decide +kernel
theorem dX10_fill_63 : decode cX10_fill 63 = .ok (.iload 5, 2) := by decide +kernel
theorem dX10_fill_65 : decode cX10_fill 65 = .ok (.aaload, 1) := by decide +kernel
theorem dX10_fill_66 : decode cX10_fill 66 = .ok (.iload_n 3, 1) := by decide +kernel
theorem dX10_fill_67 : decode cX10_fill 67 = .ok (.iconst 4, 1) := by decide +kernel
theorem dX10_fill_68 : decode cX10_fill 68 = .ok (.imul, 1) := by decide +kernel
theorem dX10_fill_69 : decode cX10_fill 69 = .ok (.invokevirtual 37, 3) := by decide +kernel
theorem dX10_fill_72 : decode cX10_fill 72 = .ok (.iinc 5 1, 3) := by decide +kernel
theorem dX10_fill_75 : decode cX10_fill 75 = .ok (.goto (-57), 3) := by decide +kernel
theorem dX10_fill_78 : decode cX10_fill 78 = .ok (.return_, 1) := by decide +kernel
theorem dX10_copy_0 : decode cX10_copy 0 = .ok (.aload_n 0, 1) := by decide +kernel
theorem dX10_copy_1 : decode cX10_copy 1 = .ok (.aload_n 1, 1) := by decide +kernel
theorem dX10_copy_2 : decode cX10_copy 2 = .ok (.getfield 33, 3) := by decide +kernel
theorem dX10_copy_5 : decode cX10_copy 5 = .ok (.putfield 33, 3) := by decide +kernel
theorem dX10_copy_8 : decode cX10_copy 8 = .ok (.aload_n 0, 1) := by decide +kernel
theorem dX10_copy_9 : decode cX10_copy 9 = .ok (.aload_n 1, 1) := by decide +kernel
theorem dX10_copy_10 : decode cX10_copy 10 = .ok (.getfield 19, 3) := by decide +kernel
theorem dX10_copy_13 : decode cX10_copy 13 = .ok (.putfield 19, 3) := by decide +kernel
theorem dX10_copy_16 : decode cX10_copy 16 = .ok (.aload_n 0, 1) := by decide +kernel
theorem dX10_copy_17 : decode cX10_copy 17 = .ok (.aload_n 1, 1) := by decide +kernel
theorem dX10_copy_18 : decode cX10_copy 18 = .ok (.getfield 23, 3) := by decide +kernel
theorem dX10_copy_21 : decode cX10_copy 21 = .ok (.putfield 23, 3) := by decide +kernel
theorem dX10_copy_24 : decode cX10_copy 24 = .ok (.aload_n 0, 1) := by decide +kernel
theorem dX10_copy_25 : decode cX10_copy 25 = .ok (.aload_n 1, 1) := by decide +kernel
theorem dX10_copy_26 : decode cX10_copy 26 = .ok (.getfield 26, 3) := by decide +kernel
theorem dX10_copy_29 : decode cX10_copy 29 = .ok (.putfield 26, 3) := by decide +kernel
theorem dX10_copy_32 : decode cX10_copy 32 = .ok (.iconst 0, 1) := by decide +kernel
theorem dX10_copy_33 : decode cX10_copy 33 = .ok (.istore_n 2, 1) := by decide +kernel
theorem dX10_copy_34 : decode cX10_copy 34 = .ok (.iload_n 2, 1) := by decide +kernel
theorem dX10_copy_35 : decode cX10_copy 35 = .ok (.aload_n 0, 1) := by decide +kernel
theorem dX10_copy_36 : decode cX10_copy 36 = .ok (.getfield 19, 3) := by decide +kernel
theorem dX10_copy_39 : decode cX10_copy 39 = .ok (.if_icmp .ge 28, 3) := by decide +kernel
theorem dX10_copy_42 : decode cX10_copy 42 = .ok (.aload_n 1, 1) := by decide +kernel
theorem dX10_copy_43 : decode cX10_copy 43 = .ok (.getfield 11, 3) := by decide +kernel
theorem dX10_copy_46 : decode cX10_copy 46 = .ok (.iload_n 2, 1) := by decide +kernel
theorem dX10_copy_47 : decode cX10_copy 47 = .ok (.aaload, 1) := by decide +kernel
theorem dX10_copy_48 : decode cX10_copy 48 = .ok (.iconst 0, 1) := by decide +kernel
theorem dX10_copy_49 : decode cX10_copy 49 = .ok (.aload_n 0, 1) := by decide +kernel
theorem dX10_copy_50 : decode cX10_copy 50 = .ok (.getfield 11, 3) := by decide +kernel
theorem dX10_copy_53 : decode cX10_copy 53 = .ok (.iload_n 2, 1) := by decide +kernel
theorem dX10_copy_54 : decode cX10_copy 54 = .ok (.aaload, 1) := by decide +kernel
theorem dX10_copy_55 : decode cX10_copy 55 = .ok (.iconst 0, 1) := by decide +kernel
theorem dX10_copy_56 : decode cX10_copy 56 = .ok (.bipush 32, 2) := by decide +kernel
theorem dX10_copy_58 : decode cX10_copy 58 = .ok (.invokestatic 43, 3) := by decide +kernel
theorem dX10_copy_61 : decode cX10_copy 61 = .ok (.iinc 2 1, 3) := by decide +kernel
theorem dX10_copy_64 : decode cX10_copy 64 = .ok (.goto (-30), 3) := by decide +kernel
theorem dX10_copy_67 : decode cX10_copy 67 = .ok (.return_, 1) := by decide +kernel
theorem dX10_pass_0 : decode cX10_pass 0 = .ok (.aload_n 1, 1) := by decide +kernel
theorem dX10_pass_1 : decode cX10_pass 1 = .ok (.getfield 49, 3) := by decide +kernel
theorem dX10_pass_4 : decode cX10_pass 4 = .ok (.iconst 0, 1) := by decide +kernel
theorem dX10_pass_5 : decode cX10_pass 5 = .ok (.aload_n 0, 1) := by decide +kernel
theorem dX10_pass_6 : decode cX10_pass 6 = .ok (.getfield 16, 3) := by decide +kernel
theorem dX10_pass_9 : decode cX10_pass 9 = .ok (.iconst 0, 1) := by decide +kernel
theorem dX10_pass_10 : decode cX10_pass 10 = .ok (.aaload, 1) := by decide +kernel
theorem dX10_pass_11 : decode cX10_pass 11 = .ok (.iconst 0, 1) := by decide +kernel
theorem dX10_pass_12 : decode cX10_pass 12 = .ok (.bipush 32, 2) := by decide +kernel
theorem dX10_pass_14 : decode cX10_pass 14 = .ok (.invokestatic 43, 3) := by decide +kernel
theorem dX10_pass_17 : decode cX10_pass 17 = .ok (.iconst 0, 1) := by decide +kernel
theorem dX10_pass_18 : decode cX10_pass 18 = .ok (.istore_n 2, 1) := by decide +kernel
theorem dX10_pass_19 : decode cX10_pass 19 = .ok (.iload_n 2, 1) := by decide +kernel
theorem dX10_pass_20 : decode cX10_pass 20 = .ok (.aload_n 0, 1) := by decide +kernel
theorem dX10_pass_21 : decode cX10_pass 21 = .ok (.getfield 19, 3) := by decide +kernel
theorem dX10_pass_24 : decode cX10_pass 24 = .ok (.if_icmp .ge 39, 3) := by decide +kernel
theorem dX10_pass_27 : decode cX10_pass 27 = .ok (.aload_n 0, 1) := by decide +kernel
theorem dX10_pass_28 : decode cX10_pass 28 = .ok (.getfield 29, 3) := by decide +kernel
theorem dX10_pass_31 : decode cX10_pass 31 = .ok (.aload_n 0, 1) := by decide +kernel
theorem dX10_pass_32 : decode cX10_pass 32 = .ok (.getfield 26, 3) := by decide +kernel
theorem dX10_pass_35 : decode cX10_pass 35 = .ok (.aload_n 0, 1) := by decide +kernel
theorem dX10_pass_36 : decode cX10_pass 36 = .ok (.getfield 11, 3) := by decide +kernel
theorem dX10_pass_39 : decode cX10_pass 39 = .ok (.iload_n 2, 1) := by decide +kernel
theorem dX10_pass_40 : decode cX10_pass 40 = .ok (.aaload, 1) := by decide +kernel
theorem dX10_pass_41 : decode cX10_pass 41 = .ok (.aload_n 1, 1) := by decide +kernel
theorem dX10_pass_42 : decode cX10_pass 42 = .ok (.getfield 55, 3) := by decide +kernel
theorem dX10_pass_45 : decode cX10_pass 45 = .ok (.aload_n 0, 1) := by decide +kernel
theorem dX10_pass_46 : decode cX10_pass 46 = .ok (.getfield 16, 3) := by decide +kernel
theorem dX10_pass_49 : decode cX10_pass 49 = .ok (.iload_n 2, 1) := by decide +kernel
theorem dX10_pass_50 : decode cX10_pass 50 = .ok (.iconst 1, 1) := by decide +kernel
theorem dX10_pass_51 : decode cX10_pass 51 = .ok (.iadd, 1) := by decide +kernel
theorem dX10_pass_52 : decode cX10_pass 52 = .ok (.aaload, 1) := by decide +kernel
theorem dX10_pass_53 : decode cX10_pass 53 = .ok (.iconst 0, 1) := by decide +kernel
theorem dX10_pass_54 : decode cX10_pass 54 = .ok (.invokevirtual 37, 3) := by decide +kernel
theorem dX10_pass_57 : decode cX10_pass 57 = .ok (.iinc 2 1, 3) := by decide +kernel
theorem dX10_pass_60 : decode cX10_pass 60 = .ok (.goto (-41), 3) := by decide +kernel
theorem dX10_pass_63 : decode cX10_pass 63 = .ok (.aload_n 0, 1) := by decide +kernel
theorem dX10_pass_64 : decode cX10_pass 64 = .ok (.iconst 1, 1) := by decide +kernel
theorem dX10_pass_65 : decode cX10_pass 65 = .ok (.putfield 58, 3) := by decide +kernel
theorem dX10_pass_68 : decode cX10_pass 68 = .ok (.iconst 0, 1) := by decide +kernel
theorem dX10_pass_69 : decode cX10_pass 69 = .ok (.istore_n 2, 1) := by decide +kernel
theorem dX10_pass_70 : decode cX10_pass 70 = .ok (.iload_n 2, 1) := by decide +kernel
theorem dX10_pass_71 : decode cX10_pass 71 = .ok (.aload_n 0, 1) := by decide +kernel
theorem dX10_pass_72 : decode cX10_pass 72 = .ok (.getfield 19, 3) := by decide +kernel
theorem dX10_pass_75 : decode cX10_pass 75 = .ok (.if_icmp .ge 18, 3) := by decide +kernel
theorem dX10_pass_78 : decode cX10_pass 78 = .ok (.aload_n 0, 1) := by decide +kernel
theorem dX10_pass_79 : decode cX10_pass 79 = .ok (.iload_n 2, 1) := by decide +kernel
theorem dX10_pass_80 : decode cX10_pass 80 = .ok (.aload_n 1, 1) := by decide +kernel
theorem dX10_pass_81 : decode cX10_pass 81 = .ok (.getfield 55, 3) := by decide +kernel
theorem dX10_pass_84 : decode cX10_pass 84 = .ok (.invokevirtual 61, 3) := by decide +kernel
theorem dX10_pass_87 : decode cX10_pass 87 = .ok (.iinc 2 1, 3) := by decide +kernel
theorem dX10_pass_90 : decode cX10_pass 90 = .ok (.goto (-20), 3) := by decide +kernel
theorem dX10_pass_93 : decode cX10_pass 93 = .ok (.return_, 1) := by decide +kernel
theorem dX10_move_0 : decode cX10_move 0 = .ok (.iconst 0, 1) := by decide +kernel
theorem dX10_move_1 : decode cX10_move 1 = .ok (.istore_n 3, 1) := by decide +kernel
theorem dX10_move_2 : decode cX10_move 2 = .ok (.iload_n 3, 1) := by decide +kernel
theorem dX10_move_3 : decode cX10_move 3 = .ok (.iload_n 2, 1) := by decide +kernel
theorem dX10_move_4 : decode cX10_move 4 = .ok (.if_icmp .ge 53, 3) := by decide +kernel
theorem dX10_move_7 : decode cX10_move 7 = .ok (.aload_n 0, 1) := by decide +kernel
theorem dX10_move_8 : decode cX10_move 8 = .ok (.getfield 16, 3) := by decide +kernel
theorem dX10_move_11 : decode cX10_move 11 = .ok (.iload_n 1, 1) := by decide +kernel
theorem dX10_move_12 : decode cX10_move 12 = .ok (.aaload, 1) := by decide +kernel
theorem dX10_move_13 : decode cX10_move 13 = .ok (.iload_n 3, 1) := by decide +kernel
theorem dX10_move_14 : decode cX10_move 14 = .ok (.iaload, 1) := by decide +kernel
theorem dX10_move_15 : decode cX10_move 15 = .ok (.aload_n 0, 1) := by decide +kernel
theorem dX10_move_16 : decode cX10_move 16 = .ok (.getfield 16, 3) := by decide +kernel
theorem dX10_move_19 : decode cX10_move 19 = .ok (.iload_n 1, 1) := by decide +kernel
theorem dX10_move_20 : decode cX10_move 20 = .ok (.iconst 1, 1) := by decide +kernel
theorem dX10_move_21 : decode cX10_move 21 = .ok (.iadd, 1) := by decide +kernel
theorem dX10_move_22 : decode cX10_move 22 = .ok (.aaload, 1) := by decide +kernel
theorem dX10_move_23 : decode cX10_move 23 = .ok (.iload_n 3, 1) := by decide +kernel
theorem dX10_move_24 : decode cX10_move 24 = .ok (.iaload, 1) := by decide +kernel
theorem dX10_move_25 : decode cX10_move 25 = .ok (.isub, 1) := by decide +kernel
theorem dX10_move_26 : decode cX10_move 26 = .ok (.istore 4, 2) := by decide +kernel
theorem dX10_move_28 : decode cX10_move 28 = .ok (.iload 4, 2) := by decide +kernel
theorem dX10_move_30 : decode cX10_move 30 = .ok (.ifCond .eq 21, 3) := by decide +kernel
theorem dX10_move_33 : decode cX10_move 33 = .ok (.aload_n 0, 1) := by decide +kernel
theorem dX10_move_34 : decode cX10_move 34 = .ok (.getfield 11, 3) := by decide +kernel
theorem dX10_move_37 : decode cX10_move 37 = .ok (.iload_n 1, 1) := by decide +kernel
theorem dX10_move_38 : decode cX10_move 38 = .ok (.aaload, 1) := by decide +kernel
theorem dX10_move_39 : decode cX10_move 39 = .ok (.iload_n 3, 1) := by decide +kernel
theorem dX10_move_40 : decode cX10_move 40 = .ok (.dup2, 1) := by decide +kernel
theorem dX10_move_41 : decode cX10_move 41 = .ok (.iaload, 1) := by decide +kernel
theorem dX10_move_42 : decode cX10_move 42 = .ok (.iload 4, 2) := by decide +kernel
theorem dX10_move_44 : decode cX10_move 44 = .ok (.iadd, 1) := by decide +kernel
theorem dX10_move_45 : decode cX10_move 45 = .ok (.iastore, 1) := by decide +kernel
theorem dX10_move_46 : decode cX10_move 46 = .ok (.aload_n 0, 1) := by decide +kernel
theorem dX10_move_47 : decode cX10_move 47 = .ok (.iconst 0, 1) := by decide +kernel
theorem dX10_move_48 : decode cX10_move 48 = .ok (.putfield 58, 3) := by decide +kernel
theorem dX10_move_51 : decode cX10_move 51 = .ok (.iinc 3 1, 3) := by decide +kernel
theorem dX10_move_54 : decode cX10_move 54 = .ok (.goto (-52), 3) := by decide +kernel
theorem dX10_move_57 : decode cX10_move 57 = .ok (.return_, 1) := by decide +kernel
theorem dX10_outOfLast_0 : decode cX10_outOfLast 0 = .ok (.aload_n 0, 1) := by decide +kernel
theorem dX10_outOfLast_1 : decode cX10_outOfLast 1 = .ok (.getfield 16, 3) := by decide +kernel
theorem dX10_outOfLast_4 : decode cX10_outOfLast 4 = .ok (.aload_n 0, 1) := by decide +kernel
theorem dX10_outOfLast_5 : decode cX10_outOfLast 5 = .ok (.getfield 19, 3) := by decide +kernel
theorem dX10_outOfLast_8 : decode cX10_outOfLast 8 = .ok (.aaload, 1) := by decide +kernel
theorem dX10_outOfLast_9 : decode cX10_outOfLast 9 = .ok (.areturn, 1) := by decide +kernel
theorem dX10_gramsIn_0 : decode cX10_gramsIn 0 = .ok (.iconst 0, 1) := by decide +kernel
theorem dX10_gramsIn_1 : decode cX10_gramsIn 1 = .ok (.istore 4, 2) := by decide +kernel
theorem dX10_gramsIn_3 : decode cX10_gramsIn 3 = .ok (.iconst 0, 1) := by decide +kernel
theorem dX10_gramsIn_4 : decode cX10_gramsIn 4 = .ok (.istore 5, 2) := by decide +kernel
theorem dX10_gramsIn_6 : decode cX10_gramsIn 6 = .ok (.iload 5, 2) := by decide +kernel
theorem dX10_gramsIn_8 : decode cX10_gramsIn 8 = .ok (.bipush 32, 2) := by decide +kernel
theorem dX10_gramsIn_10 : decode cX10_gramsIn 10 = .ok (.if_icmp .ge 49, 3) := by decide +kernel
theorem dX10_gramsIn_13 : decode cX10_gramsIn 13 = .ok (.iload_n 2, 1) := by decide +kernel
theorem dX10_gramsIn_14 : decode cX10_gramsIn 14 = .ok (.iconst (-1), 1) := by decide +kernel
theorem dX10_gramsIn_15 : decode cX10_gramsIn 15 = .ok (.if_icmp .eq 11, 3) := by decide +kernel
theorem dX10_gramsIn_18 : decode cX10_gramsIn 18 = .ok (.iload_n 2, 1) := by decide +kernel
theorem dX10_gramsIn_19 : decode cX10_gramsIn 19 = .ok (.iload 5, 2) := by decide +kernel
theorem dX10_gramsIn_21 : decode cX10_gramsIn 21 = .ok (.iconst 4, 1) := by decide +kernel
theorem dX10_gramsIn_22 : decode cX10_gramsIn 22 = .ok (.idiv, 1) := by decide +kernel
theorem dX10_gramsIn_23 : decode cX10_gramsIn 23 = .ok (.if_icmp .ne 30, 3) := by decide +kernel
theorem dX10_gramsIn_26 : decode cX10_gramsIn 26 = .ok (.iload_n 3, 1) := by decide +kernel
theorem dX10_gramsIn_27 : decode cX10_gramsIn 27 = .ok (.iconst (-1), 1) := by decide +kernel
theorem dX10_gramsIn_28 : decode cX10_gramsIn 28 = .ok (.if_icmp .eq 11, 3) := by decide +kernel
theorem dX10_gramsIn_31 : decode cX10_gramsIn 31 = .ok (.iload_n 3, 1) := by decide +kernel
theorem dX10_gramsIn_32 : decode cX10_gramsIn 32 = .ok (.iload 5, 2) := by decide +kernel
theorem dX10_gramsIn_34 : decode cX10_gramsIn 34 = .ok (.iconst 4, 1) := by decide +kernel
theorem dX10_gramsIn_35 : decode cX10_gramsIn 35 = .ok (.irem, 1) := by decide +kernel
theorem dX10_gramsIn_36 : decode cX10_gramsIn 36 = .ok (.if_icmp .ne 17, 3) := by decide +kernel
theorem dX10_gramsIn_39 : decode cX10_gramsIn 39 = .ok (.iload 4, 2) := by decide +kernel
theorem dX10_gramsIn_41 : decode cX10_gramsIn 41 = .ok (.aload_n 0, 1) := by decide +kernel
theorem dX10_gramsIn_42 : decode cX10_gramsIn 42 = .ok (.getfield 11, 3) := by decide +kernel
theorem dX10_gramsIn_45 : decode cX10_gramsIn 45 = .ok (.iload_n 1, 1) := by decide +kernel
theorem dX10_gramsIn_46 : decode cX10_gramsIn 46 = .ok (.aaload, 1) := by decide +kernel
theorem dX10_gramsIn_47 : decode cX10_gramsIn 47 = .ok (.iload 5, 2) := by decide +kernel
theorem dX10_gramsIn_49 : decode cX10_gramsIn 49 = .ok (.iaload, 1) := by decide +kernel
theorem dX10_gramsIn_50 : decode cX10_gramsIn 50 = .ok (.iadd, 1) := by decide +kernel
theorem dX10_gramsIn_51 : decode cX10_gramsIn 51 = .ok (.istore 4, 2) := by decide +kernel
theorem dX10_gramsIn_53 : decode cX10_gramsIn 53 = .ok (.iinc 5 1, 3) := by decide +kernel
theorem dX10_gramsIn_56 : decode cX10_gramsIn 56 = .ok (.goto (-50), 3) := by decide +kernel
theorem dX10_gramsIn_59 : decode cX10_gramsIn 59 = .ok (.iload 4, 2) := by decide +kernel
theorem dX10_gramsIn_61 : decode cX10_gramsIn 61 = .ok (.ireturn, 1) := by decide +kernel
theorem dX10_allGrams_0 : decode cX10_allGrams 0 = .ok (.aload_n 0, 1) := by decide +kernel
theorem dX10_allGrams_1 : decode cX10_allGrams 1 = .ok (.getfield 33, 3) := by decide +kernel
theorem dX10_allGrams_4 : decode cX10_allGrams 4 = .ok (.ifCond .eq 15, 3) := by decide +kernel
theorem dX10_allGrams_7 : decode cX10_allGrams 7 = .ok (.aload_n 0, 1) := by decide +kernel
theorem dX10_allGrams_8 : decode cX10_allGrams 8 = .ok (.getfield 19, 3) := by decide +kernel
theorem dX10_allGrams_11 : decode cX10_allGrams 11 = .ok (.aload_n 0, 1) := by decide +kernel
theorem dX10_allGrams_12 : decode cX10_allGrams 12 = .ok (.getfield 23, 3) := by decide +kernel
theorem dX10_allGrams_15 : decode cX10_allGrams 15 = .ok (.imul, 1) := by decide +kernel
theorem dX10_allGrams_16 : decode cX10_allGrams 16 = .ok (.goto 4, 3) := by decide +kernel
theorem dX10_allGrams_19 : decode cX10_allGrams 19 = .ok (.iconst 0, 1) := by decide +kernel
theorem dX10_allGrams_20 : decode cX10_allGrams 20 = .ok (.ireturn, 1) := by decide +kernel
theorem dX11_init_0 : decode cX11_init 0 = .ok (.aload_n 0, 1) := by decide +kernel
theorem dX11_init_1 : decode cX11_init 1 = .ok (.invokespecial 3, 3) := by decide +kernel
theorem dX11_init_4 : decode cX11_init 4 = .ok (.new 9, 3) := by decide +kernel
theorem dX11_init_7 : decode cX11_init 7 = .ok (.dup, 1) := by decide +kernel
theorem dX11_init_8 : decode cX11_init 8 = .ok (.invokespecial 11, 3) := by decide +kernel
theorem dX11_init_11 : decode cX11_init 11 = .ok (.astore_n 1, 1) := by decide +kernel
theorem dX11_init_12 : decode cX11_init 12 = .ok (.aload_n 0, 1) := by decide +kernel
theorem dX11_init_13 : decode cX11_init 13 = .ok (.new 12, 3) := by decide +kernel
theorem dX11_init_16 : decode cX11_init 16 = .ok (.dup, 1) := by decide +kernel
theorem dX11_init_17 : decode cX11_init 17 = .ok (.invokespecial 14, 3) := by decide +kernel
theorem dX11_init_20 : decode cX11_init 20 = .ok (.putfield 15, 3) := by decide +kernel
theorem dX11_init_23 : decode cX11_init 23 = .ok (.aload_n 0, 1) := by decide +kernel
theorem dX11_init_24 : decode cX11_init 24 = .ok (.new 19, 3) := by decide +kernel
theorem dX11_init_27 : decode cX11_init 27 = .ok (.dup, 1) := by decide +kernel
theorem dX11_init_28 : decode cX11_init 28 = .ok (.invokespecial 21, 3) := by decide +kernel
theorem dX11_init_31 : decode cX11_init 31 = .ok (.putfield 22, 3) := by decide +kernel
theorem dX11_init_34 : decode cX11_init 34 = .ok (.aload_n 0, 1) := by decide +kernel
theorem dX11_init_35 : decode cX11_init 35 = .ok (.new 26, 3) := by decide +kernel
theorem dX11_init_38 : decode cX11_init 38 = .ok (.dup, 1) := by decide +kernel
theorem dX11_init_39 : decode cX11_init 39 = .ok (.invokespecial 28, 3) := by decide +kernel
theorem dX11_init_42 : decode cX11_init 42 = .ok (.putfield 29, 3) := by decide +kernel
theorem dX11_init_45 : decode cX11_init 45 = .ok (.aload_n 0, 1) := by decide +kernel
theorem dX11_init_46 : decode cX11_init 46 = .ok (.new 33, 3) := by decide +kernel
theorem dX11_init_49 : decode cX11_init 49 = .ok (.dup, 1) := by decide +kernel
theorem dX11_init_50 : decode cX11_init 50 = .ok (.aload_n 0, 1) := by decide +kernel
theorem dX11_init_51 : decode cX11_init 51 = .ok (.getfield 15, 3) := by decide +kernel
theorem dX11_init_54 : decode cX11_init 54 = .ok (.aload_n 0, 1) := by decide +kernel
theorem dX11_init_55 : decode cX11_init 55 = .ok (.getfield 29, 3) := by decide +kernel
theorem dX11_init_58 : decode cX11_init 58 = .ok (.invokespecial 35, 3) := by decide +kernel
theorem dX11_init_61 : decode cX11_init 61 = .ok (.putfield 38, 3) := by decide +kernel
theorem dX11_init_64 : decode cX11_init 64 = .ok (.aload_n 0, 1) := by decide +kernel
theorem dX11_init_65 : decode cX11_init 65 = .ok (.new 42, 3) := by decide +kernel
theorem dX11_init_68 : decode cX11_init 68 = .ok (.dup, 1) := by decide +kernel
theorem dX11_init_69 : decode cX11_init 69 = .ok (.aload_n 1, 1) := by decide +kernel
theorem dX11_init_70 : decode cX11_init 70 = .ok (.invokespecial 44, 3) := by decide +kernel
theorem dX11_init_73 : decode cX11_init 73 = .ok (.putfield 47, 3) := by decide +kernel
theorem dX11_init_76 : decode cX11_init 76 = .ok (.aload_n 0, 1) := by decide +kernel
theorem dX11_init_77 : decode cX11_init 77 = .ok (.new 51, 3) := by decide +kernel
theorem dX11_init_80 : decode cX11_init 80 = .ok (.dup, 1) := by decide +kernel
theorem dX11_init_81 : decode cX11_init 81 = .ok (.aload_n 0, 1) := by decide +kernel
theorem dX11_init_82 : decode cX11_init 82 = .ok (.getfield 15, 3) := by decide +kernel
theorem dX11_init_85 : decode cX11_init 85 = .ok (.aload_n 0, 1) := by decide +kernel
theorem dX11_init_86 : decode cX11_init 86 = .ok (.getfield 22, 3) := by decide +kernel
theorem dX11_init_89 : decode cX11_init 89 = .ok (.aload_n 1, 1) := by decide +kernel
theorem dX11_init_90 : decode cX11_init 90 = .ok (.invokespecial 53, 3) := by decide +kernel
theorem dX11_init_93 : decode cX11_init 93 = .ok (.putfield 56, 3) := by decide +kernel
theorem dX11_init_96 : decode cX11_init 96 = .ok (.aload_n 0, 1) := by decide +kernel
theorem dX11_init_97 : decode cX11_init 97 = .ok (.new 60, 3) := by decide +kernel
theorem dX11_init_100 : decode cX11_init 100 = .ok (.dup, 1) := by decide +kernel
theorem dX11_init_101 : decode cX11_init 101 = .ok (.invokespecial 62, 3) := by decide +kernel
theorem dX11_init_104 : decode cX11_init 104 = .ok (.putfield 63, 3) := by decide +kernel
theorem dX11_init_107 : decode cX11_init 107 = .ok (.aload_n 0, 1) := by decide +kernel
theorem dX11_init_108 : decode cX11_init 108 = .ok (.new 67, 3) := by decide +kernel
theorem dX11_init_111 : decode cX11_init 111 = .ok (.dup, 1) := by decide +kernel
theorem dX11_init_112 : decode cX11_init 112 = .ok (.invokespecial 69, 3) := by decide +kernel
theorem dX11_init_115 : decode cX11_init 115 = .ok (.putfield 70, 3) := by decide +kernel
theorem dX11_init_118 : decode cX11_init 118 = .ok (.aload_n 0, 1) := by decide +kernel
theorem dX11_init_119 : decode cX11_init 119 = .ok (.new 74, 3) := by decide +kernel
theorem dX11_init_122 : decode cX11_init 122 = .ok (.dup, 1) := by decide +kernel
theorem dX11_init_123 : decode cX11_init 123 = .ok (.aload_n 0, 1) := by decide +kernel
theorem dX11_init_124 : decode cX11_init 124 = .ok (.getfield 47, 3) := by decide +kernel
theorem dX11_init_127 : decode cX11_init 127 = .ok (.aload_n 0, 1) := by decide +kernel
theorem dX11_init_128 : decode cX11_init 128 = .ok (.getfield 29, 3) := by decide +kernel
theorem dX11_init_131 : decode cX11_init 131 = .ok (.new 51, 3) := by decide +kernel
theorem dX11_init_134 : decode cX11_init 134 = .ok (.dup, 1) := by decide +kernel
theorem dX11_init_135 : decode cX11_init 135 = .ok (.aload_n 0, 1) := by decide +kernel
theorem dX11_init_136 : decode cX11_init 136 = .ok (.getfield 15, 3) := by decide +kernel
theorem dX11_init_139 : decode cX11_init 139 = .ok (.aload_n 0, 1) := by decide +kernel
theorem dX11_init_140 : decode cX11_init 140 = .ok (.getfield 22, 3) := by decide +kernel
theorem dX11_init_143 : decode cX11_init 143 = .ok (.aload_n 1, 1) := by decide +kernel
theorem dX11_init_144 : decode cX11_init 144 = .ok (.invokespecial 53, 3) := by decide +kernel
theorem dX11_init_147 : decode cX11_init 147 = .ok (.new 51, 3) := by decide +kernel
theorem dX11_init_150 : decode cX11_init 150 = .ok (.dup, 1) := by decide +kernel
theorem dX11_init_151 : decode cX11_init 151 = .ok (.aload_n 0, 1) := by decide +kernel
theorem dX11_init_152 : decode cX11_init 152 = .ok (.getfield 15, 3) := by decide +kernel
theorem dX11_init_155 : decode cX11_init 155 = .ok (.aload_n 0, 1) := by decide +kernel
theorem dX11_init_156 : decode cX11_init 156 = .ok (.getfield 22, 3) := by decide +kernel
theorem dX11_init_159 : decode cX11_init 159 = .ok (.aload_n 1, 1) := by decide +kernel
theorem dX11_init_160 : decode cX11_init 160 = .ok (.invokespecial 53, 3) := by decide +kernel
theorem dX11_init_163 : decode cX11_init 163 = .ok (.new 42, 3) := by decide +kernel
theorem dX11_init_166 : decode cX11_init 166 = .ok (.dup, 1) := by decide +kernel
theorem dX11_init_167 : decode cX11_init 167 = .ok (.aload_n 1, 1) := by decide +kernel
theorem dX11_init_168 : decode cX11_init 168 = .ok (.invokespecial 44, 3) := by decide +kernel
theorem dX11_init_171 : decode cX11_init 171 = .ok (.invokespecial 76, 3) := by decide +kernel
theorem dX11_init_174 : decode cX11_init 174 = .ok (.putfield 79, 3) := by decide +kernel
theorem dX11_init_177 : decode cX11_init 177 = .ok (.aload_n 0, 1) := by decide +kernel
theorem dX11_init_178 : decode cX11_init 178 = .ok (.new 83, 3) := by decide +kernel
theorem dX11_init_181 : decode cX11_init 181 = .ok (.dup, 1) := by decide +kernel
theorem dX11_init_182 : decode cX11_init 182 = .ok (.invokespecial 85, 3) := by decide +kernel
theorem dX11_init_185 : decode cX11_init 185 = .ok (.putfield 86, 3) := by decide +kernel
theorem dX11_init_188 : decode cX11_init 188 = .ok (.aload_n 0, 1) := by decide +kernel
theorem dX11_init_189 : decode cX11_init 189 = .ok (.iconst (-1), 1) := by decide +kernel
theorem dX11_init_190 : decode cX11_init 190 = .ok (.putfield 90, 3) := by decide +kernel
theorem dX11_init_193 : decode cX11_init 193 = .ok (.return_, 1) := by decide +kernel
theorem dX11_feed_0 : decode cX11_feed 0 = .ok (.iload_n 1, 1) := by decide +kernel
theorem dX11_feed_1 : decode cX11_feed 1 = .ok (.iconst 0, 1) := by decide +kernel
theorem dX11_feed_2 : decode cX11_feed 2 = .ok (.iconst 3, 1) := by decide +kernel
theorem dX11_feed_3 : decode cX11_feed 3 = .ok (.invokestatic 94, 3) := by decide +kernel
theorem dX11_feed_6 : decode cX11_feed 6 = .ok (.ifCond .eq 15, 3) := by decide +kernel
theorem dX11_feed_9 : decode cX11_feed 9 = .ok (.iload_n 2, 1) := by decide +kernel
theorem dX11_feed_10 : decode cX11_feed 10 = .ok (.iload_n 3, 1) := by decide +kernel
theorem dX11_feed_11 : decode cX11_feed 11 = .ok (.iload 4, 2) := by decide +kernel
theorem dX11_feed_13 : decode cX11_feed 13 = .ok (.iload 5, 2) := by decide +kernel
theorem dX11_feed_15 : decode cX11_feed 15 = .ok (.invokestatic 98, 3) := by decide +kernel
theorem dX11_feed_18 : decode cX11_feed 18 = .ok (.ifCond .ne 6, 3) := by decide +kernel
theorem dX11_feed_21 : decode cX11_feed 21 = .ok (.ldc 102, 2) := by decide +kernel
theorem dX11_feed_23 : decode cX11_feed 23 = .ok (.ireturn, 1) := by decide +kernel
theorem dX11_feed_24 : decode cX11_feed 24 = .ok (.iload 6, 2) := by decide +kernel
theorem dX11_feed_26 : decode cX11_feed 26 = .ok (.iconst 0, 1) := by decide +kernel
theorem dX11_feed_27 : decode cX11_feed 27 = .ok (.iload_n 1, 1) := by decide +kernel
theorem dX11_feed_28 : decode cX11_feed 28 = .ok (.invokestatic 103, 3) := by decide +kernel
theorem dX11_feed_31 : decode cX11_feed 31 = .ok (.invokestatic 94, 3) := by decide +kernel
theorem dX11_feed_34 : decode cX11_feed 34 = .ok (.ifCond .eq 15, 3) := by decide +kernel
theorem dX11_feed_37 : decode cX11_feed 37 = .ok (.iload 7, 2) := by decide +kernel
theorem dX11_feed_39 : decode cX11_feed 39 = .ok (.iconst 0, 1) := by decide +kernel
theorem dX11_feed_40 : decode cX11_feed 40 = .ok (.sipush 10000, 3) := by decide +kernel
theorem dX11_feed_43 : decode cX11_feed 43 = .ok (.invokestatic 94, 3) := by decide +kernel
theorem dX11_feed_46 : decode cX11_feed 46 = .ok (.ifCond .ne 6, 3) := by decide +kernel
theorem dX11_feed_49 : decode cX11_feed 49 = .ok (.ldc 102, 2) := by decide +kernel
theorem dX11_feed_51 : decode cX11_feed 51 = .ok (.ireturn, 1) := by decide +kernel
theorem dX11_feed_52 : decode cX11_feed 52 = .ok (.aload_n 0, 1) := by decide +kernel
theorem dX11_feed_53 : decode cX11_feed 53 = .ok (.getfield 15, 3) := by decide +kernel
theorem dX11_feed_56 : decode cX11_feed 56 = .ok (.iload_n 1, 1) := by decide +kernel
theorem dX11_feed_57 : decode cX11_feed 57 = .ok (.iload_n 2, 1) := by decide +kernel
theorem dX11_feed_58 : decode cX11_feed 58 = .ok (.iload_n 3, 1) := by decide +kernel
theorem dX11_feed_59 : decode cX11_feed 59 = .ok (.iload 4, 2) := by decide +kernel
theorem dX11_feed_61 : decode cX11_feed 61 = .ok (.iload 5, 2) := by decide +kernel
theorem dX11_feed_63 : decode cX11_feed 63 = .ok (.iload 6, 2) := by decide +kernel
theorem dX11_feed_65 : decode cX11_feed 65 = .ok (.iload 7, 2) := by decide +kernel
theorem dX11_feed_67 : decode cX11_feed 67 = .ok (.invokevirtual 107, 3) := by decide +kernel
theorem dX11_feed_70 : decode cX11_feed 70 = .ok (.ireturn, 1) := by decide +kernel
theorem dX11_stock_0 : decode cX11_stock 0 = .ok (.aload_n 0, 1) := by decide +kernel
theorem dX11_stock_1 : decode cX11_stock 1 = .ok (.getfield 15, 3) := by decide +kernel
theorem dX11_stock_4 : decode cX11_stock 4 = .ok (.iload_n 1, 1) := by decide +kernel
theorem dX11_stock_5 : decode cX11_stock 5 = .ok (.invokevirtual 111, 3) := by decide +kernel
theorem dX11_stock_8 : decode cX11_stock 8 = .ok (.ifCond .eq 23, 3) := by decide +kernel
theorem dX11_stock_11 : decode cX11_stock 11 = .ok (.iload_n 2, 1) := by decide +kernel
theorem dX11_stock_12 : decode cX11_stock 12 = .ok (.ifCond .lt 19, 3) := by decide +kernel
theorem dX11_stock_15 : decode cX11_stock 15 = .ok (.iload_n 2, 1) := by decide +kernel
theorem dX11_stock_16 : decode cX11_stock 16 = .ok (.ldc 115, 2) := by decide +kernel
theorem dX11_stock_18 : decode cX11_stock 18 = .ok (.aload_n 0, 1) := by decide +kernel
theorem dX11_stock_19 : decode cX11_stock 19 = .ok (.getfield 15, 3) := by decide +kernel
theorem dX11_stock_22 : decode cX11_stock 22 = .ok (.getfield 116, 3) := by decide +kernel
theorem dX11_stock_25 : decode cX11_stock 25 = .ok (.iload_n 1, 1) := by decide +kernel
theorem dX11_stock_26 : decode cX11_stock 26 = .ok (.iaload, 1) := by decide +kernel
theorem dX11_stock_27 : decode cX11_stock 27 = .ok (.isub, 1) := by decide +kernel
theorem dX11_stock_28 : decode cX11_stock 28 = .ok (.if_icmp .le 6, 3) := by decide +kernel
theorem dX11_stock_31 : decode cX11_stock 31 = .ok (.ldc 102, 2) := by decide +kernel
theorem dX11_stock_33 : decode cX11_stock 33 = .ok (.ireturn, 1) := by decide +kernel
theorem dX11_stock_34 : decode cX11_stock 34 = .ok (.aload_n 0, 1) := by decide +kernel
theorem dX11_stock_35 : decode cX11_stock 35 = .ok (.getfield 15, 3) := by decide +kernel
theorem dX11_stock_38 : decode cX11_stock 38 = .ok (.getfield 116, 3) := by decide +kernel
theorem dX11_stock_41 : decode cX11_stock 41 = .ok (.iload_n 1, 1) := by decide +kernel
theorem dX11_stock_42 : decode cX11_stock 42 = .ok (.dup2, 1) := by decide +kernel
theorem dX11_stock_43 : decode cX11_stock 43 = .ok (.iaload, 1) := by decide +kernel
theorem dX11_stock_44 : decode cX11_stock 44 = .ok (.iload_n 2, 1) := by decide +kernel
theorem dX11_stock_45 : decode cX11_stock 45 = .ok (.iadd, 1) := by decide +kernel
theorem dX11_stock_46 : decode cX11_stock 46 = .ok (.iastore, 1) := by decide +kernel
theorem dX11_stock_47 : decode cX11_stock 47 = .ok (.aload_n 0, 1) := by decide +kernel
theorem dX11_stock_48 : decode cX11_stock 48 = .ok (.getfield 15, 3) := by decide +kernel
theorem dX11_stock_51 : decode cX11_stock 51 = .ok (.getfield 116, 3) := by decide +kernel
theorem dX11_stock_54 : decode cX11_stock 54 = .ok (.iload_n 1, 1) := by decide +kernel
theorem dX11_stock_55 : decode cX11_stock 55 = .ok (.iaload, 1) := by decide +kernel
theorem dX11_stock_56 : decode cX11_stock 56 = .ok (.ireturn, 1) := by decide +kernel
theorem dX11_of_0 : decode cX11_of 0 = .ok (.aload_n 0, 1) := by decide +kernel
theorem dX11_of_1 : decode cX11_of 1 = .ok (.getfield 15, 3) := by decide +kernel
theorem dX11_of_4 : decode cX11_of 4 = .ok (.iload_n 1, 1) := by decide +kernel
theorem dX11_of_5 : decode cX11_of 5 = .ok (.invokevirtual 111, 3) := by decide +kernel
theorem dX11_of_8 : decode cX11_of 8 = .ok (.ifCond .ne 6, 3) := by decide +kernel
theorem dX11_of_11 : decode cX11_of 11 = .ok (.ldc 102, 2) := by decide +kernel
theorem dX11_of_13 : decode cX11_of 13 = .ok (.ireturn, 1) := by decide +kernel
theorem dX11_of_14 : decode cX11_of 14 = .ok (.iload_n 2, 1) := by decide +kernel
theorem dX11_of_15 : decode cX11_of 15 = .ok (.tableswitch 111 0 8 #[49, 49, 49, 49, 61, 71, 81, 91, 101], 49) := by decide +kernel
theorem dX11_of_64 : decode cX11_of 64 = .ok (.aload_n 0, 1) := by decide +kernel
theorem dX11_of_65 : decode cX11_of 65 = .ok (.getfield 15, 3) := by decide +kernel
theorem dX11_of_68 : decode cX11_of 68 = .ok (.getfield 120, 3) := by decide +kernel
theorem dX11_of_71 : decode cX11_of 71 = .ok (.iload_n 1, 1) := by decide +kernel
theorem dX11_of_72 : decode cX11_of 72 = .ok (.aaload, 1) := by decide +kernel
theorem dX11_of_73 : decode cX11_of 73 = .ok (.iload_n 2, 1) := by decide +kernel
theorem dX11_of_74 : decode cX11_of 74 = .ok (.iaload, 1) := by decide +kernel
theorem dX11_of_75 : decode cX11_of 75 = .ok (.ireturn, 1) := by decide +kernel
theorem dX11_of_76 : decode cX11_of 76 = .ok (.aload_n 0, 1) := by decide +kernel
theorem dX11_of_77 : decode cX11_of 77 = .ok (.getfield 15, 3) := by decide +kernel
theorem dX11_of_80 : decode cX11_of 80 = .ok (.getfield 124, 3) := by decide +kernel
theorem dX11_of_83 : decode cX11_of 83 = .ok (.iload_n 1, 1) := by decide +kernel
theorem dX11_of_84 : decode cX11_of 84 = .ok (.iaload, 1) := by decide +kernel
theorem dX11_of_85 : decode cX11_of 85 = .ok (.ireturn, 1) := by decide +kernel
theorem dX11_of_86 : decode cX11_of 86 = .ok (.aload_n 0, 1) := by decide +kernel
theorem dX11_of_87 : decode cX11_of 87 = .ok (.getfield 15, 3) := by decide +kernel
theorem dX11_of_90 : decode cX11_of 90 = .ok (.getfield 127, 3) := by decide +kernel
theorem dX11_of_93 : decode cX11_of 93 = .ok (.iload_n 1, 1) := by decide +kernel
theorem dX11_of_94 : decode cX11_of 94 = .ok (.iaload, 1) := by decide +kernel
theorem dX11_of_95 : decode cX11_of 95 = .ok (.ireturn, 1) := by decide +kernel
theorem dX11_of_96 : decode cX11_of 96 = .ok (.aload_n 0, 1) := by decide +kernel
theorem dX11_of_97 : decode cX11_of 97 = .ok (.getfield 15, 3) := by decide +kernel
theorem dX11_of_100 : decode cX11_of 100 = .ok (.getfield 130, 3) := by decide +kernel
theorem dX11_of_103 : decode cX11_of 103 = .ok (.iload_n 1, 1) := by decide +kernel
theorem dX11_of_104 : decode cX11_of 104 = .ok (.iaload, 1) := by decide +kernel
theorem dX11_of_105 : decode cX11_of 105 = .ok (.ireturn, 1) := by decide +kernel
theorem dX11_of_106 : decode cX11_of 106 = .ok (.aload_n 0, 1) := by decide +kernel
theorem dX11_of_107 : decode cX11_of 107 = .ok (.getfield 15, 3) := by decide +kernel
theorem dX11_of_110 : decode cX11_of 110 = .ok (.getfield 116, 3) := by decide +kernel
theorem dX11_of_113 : decode cX11_of 113 = .ok (.iload_n 1, 1) := by decide +kernel
theorem dX11_of_114 : decode cX11_of 114 = .ok (.iaload, 1) := by decide +kernel
theorem dX11_of_115 : decode cX11_of 115 = .ok (.ireturn, 1) := by decide +kernel
theorem dX11_of_116 : decode cX11_of 116 = .ok (.aload_n 0, 1) := by decide +kernel
theorem dX11_of_117 : decode cX11_of 117 = .ok (.getfield 22, 3) := by decide +kernel
theorem dX11_of_120 : decode cX11_of 120 = .ok (.getfield 133, 3) := by decide +kernel
theorem dX11_of_123 : decode cX11_of 123 = .ok (.iload_n 1, 1) := by decide +kernel
theorem dX11_of_124 : decode cX11_of 124 = .ok (.iaload, 1) := by decide +kernel
theorem dX11_of_125 : decode cX11_of 125 = .ok (.ireturn, 1) := by decide +kernel
theorem dX11_of_126 : decode cX11_of 126 = .ok (.ldc 102, 2) := by decide +kernel
theorem dX11_of_128 : decode cX11_of 128 = .ok (.ireturn, 1) := by decide +kernel
theorem dX11_tank_0 : decode cX11_tank 0 = .ok (.iload_n 1, 1) := by decide +kernel
theorem dX11_tank_1 : decode cX11_tank 1 = .ok (.iconst 2, 1) := by decide +kernel
theorem dX11_tank_2 : decode cX11_tank 2 = .ok (.bipush 6, 2) := by decide +kernel
theorem dX11_tank_4 : decode cX11_tank 4 = .ok (.invokestatic 94, 3) := by decide +kernel
theorem dX11_tank_7 : decode cX11_tank 7 = .ok (.ifCond .eq 14, 3) := by decide +kernel
theorem dX11_tank_10 : decode cX11_tank 10 = .ok (.iload_n 2, 1) := by decide +kernel
theorem dX11_tank_11 : decode cX11_tank 11 = .ok (.bipush 100, 2) := by decide +kernel
theorem dX11_tank_13 : decode cX11_tank 13 = .ok (.ldc 136, 2) := by decide +kernel
theorem dX11_tank_15 : decode cX11_tank 15 = .ok (.invokestatic 94, 3) := by decide +kernel
theorem dX11_tank_18 : decode cX11_tank 18 = .ok (.ifCond .ne 6, 3) := by decide +kernel
theorem dX11_tank_21 : decode cX11_tank 21 = .ok (.ldc 102, 2) := by decide +kernel
theorem dX11_tank_23 : decode cX11_tank 23 = .ok (.ireturn, 1) := by decide +kernel
theorem dX11_tank_24 : decode cX11_tank 24 = .ok (.iload_n 3, 1) := by decide +kernel
theorem dX11_tank_25 : decode cX11_tank 25 = .ok (.iconst 1, 1) := by decide +kernel
theorem dX11_tank_26 : decode cX11_tank 26 = .ok (.iload_n 2, 1) := by decide +kernel
theorem dX11_tank_27 : decode cX11_tank 27 = .ok (.invokestatic 94, 3) := by decide +kernel
theorem dX11_tank_30 : decode cX11_tank 30 = .ok (.ifCond .eq 15, 3) := by decide +kernel
theorem dX11_tank_33 : decode cX11_tank 33 = .ok (.aload_n 0, 1) := by decide +kernel
theorem dX11_tank_34 : decode cX11_tank 34 = .ok (.getfield 15, 3) := by decide +kernel
theorem dX11_tank_37 : decode cX11_tank 37 = .ok (.iload 4, 2) := by decide +kernel
theorem dX11_tank_39 : decode cX11_tank 39 = .ok (.invokevirtual 111, 3) := by decide +kernel
theorem dX11_tank_42 : decode cX11_tank 42 = .ok (.ifCond .ne 6, 3) := by decide +kernel
theorem dX11_tank_45 : decode cX11_tank 45 = .ok (.ldc 102, 2) := by decide +kernel
theorem dX11_tank_47 : decode cX11_tank 47 = .ok (.ireturn, 1) := by decide +kernel
theorem dX11_tank_48 : decode cX11_tank 48 = .ok (.aload_n 0, 1) := by decide +kernel
theorem dX11_tank_49 : decode cX11_tank 49 = .ok (.getfield 47, 3) := by decide +kernel
theorem dX11_tank_52 : decode cX11_tank 52 = .ok (.iload_n 1, 1) := by decide +kernel
theorem dX11_tank_53 : decode cX11_tank 53 = .ok (.iload_n 2, 1) := by decide +kernel
theorem dX11_tank_54 : decode cX11_tank 54 = .ok (.iload 4, 2) := by decide +kernel
theorem dX11_tank_56 : decode cX11_tank 56 = .ok (.aload_n 0, 1) := by decide +kernel
theorem dX11_tank_57 : decode cX11_tank 57 = .ok (.getfield 15, 3) := by decide +kernel
theorem dX11_tank_60 : decode cX11_tank 60 = .ok (.getfield 120, 3) := by decide +kernel
theorem dX11_tank_63 : decode cX11_tank 63 = .ok (.iload 4, 2) := by decide +kernel
theorem dX11_tank_65 : decode cX11_tank 65 = .ok (.aaload, 1) := by decide +kernel
theorem dX11_tank_66 : decode cX11_tank 66 = .ok (.invokevirtual 137, 3) := by decide +kernel
theorem dX11_tank_69 : decode cX11_tank 69 = .ok (.aload_n 0, 1) := by decide +kernel
theorem dX11_tank_70 : decode cX11_tank 70 = .ok (.getfield 47, 3) := by decide +kernel
theorem dX11_tank_73 : decode cX11_tank 73 = .ok (.iload_n 3, 1) := by decide +kernel
theorem dX11_tank_74 : decode cX11_tank 74 = .ok (.putfield 141, 3) := by decide +kernel
theorem dX11_tank_77 : decode cX11_tank 77 = .ok (.aload_n 0, 1) := by decide +kernel
theorem dX11_tank_78 : decode cX11_tank 78 = .ok (.getfield 70, 3) := by decide +kernel
theorem dX11_tank_81 : decode cX11_tank 81 = .ok (.invokevirtual 144, 3) := by decide +kernel
theorem dX11_tank_84 : decode cX11_tank 84 = .ok (.iconst 1, 1) := by decide +kernel
theorem dX11_tank_85 : decode cX11_tank 85 = .ok (.ireturn, 1) := by decide +kernel
theorem dX11_pull_0 : decode cX11_pull 0 = .ok (.iload_n 1, 1) := by decide +kernel
theorem dX11_pull_1 : decode cX11_pull 1 = .ok (.iconst 1, 1) := by decide +kernel
theorem dX11_pull_2 : decode cX11_pull 2 = .ok (.aload_n 0, 1) := by decide +kernel
theorem dX11_pull_3 : decode cX11_pull 3 = .ok (.getfield 47, 3) := by decide +kernel
theorem dX11_pull_6 : decode cX11_pull 6 = .ok (.getfield 147, 3) := by decide +kernel
theorem dX11_pull_9 : decode cX11_pull 9 = .ok (.invokestatic 94, 3) := by decide +kernel
theorem dX11_pull_12 : decode cX11_pull 12 = .ok (.ifCond .ne 6, 3) := by decide +kernel
theorem dX11_pull_15 : decode cX11_pull 15 = .ok (.ldc 102, 2) := by decide +kernel
theorem dX11_pull_17 : decode cX11_pull 17 = .ok (.ireturn, 1) := by decide +kernel
theorem dX11_pull_18 : decode cX11_pull 18 = .ok (.aload_n 0, 1) := by decide +kernel
theorem dX11_pull_19 : decode cX11_pull 19 = .ok (.getfield 47, 3) := by decide +kernel
theorem dX11_pull_22 : decode cX11_pull 22 = .ok (.getfield 141, 3) := by decide +kernel
theorem dX11_pull_25 : decode cX11_pull 25 = .ok (.istore_n 2, 1) := by decide +kernel
theorem dX11_pull_26 : decode cX11_pull 26 = .ok (.aload_n 0, 1) := by decide +kernel
theorem dX11_pull_27 : decode cX11_pull 27 = .ok (.getfield 47, 3) := by decide +kernel
theorem dX11_pull_30 : decode cX11_pull 30 = .ok (.iload_n 1, 1) := by decide +kernel
theorem dX11_pull_31 : decode cX11_pull 31 = .ok (.putfield 141, 3) := by decide +kernel
theorem dX11_pull_34 : decode cX11_pull 34 = .ok (.iload_n 2, 1) := by decide +kernel
theorem dX11_pull_35 : decode cX11_pull 35 = .ok (.ireturn, 1) := by decide +kernel
theorem dX11_cell_0 : decode cX11_cell 0 = .ok (.iload_n 1, 1) := by decide +kernel
theorem dX11_cell_1 : decode cX11_cell 1 = .ok (.iconst 0, 1) := by decide +kernel
theorem dX11_cell_2 : decode cX11_cell 2 = .ok (.aload_n 0, 1) := by decide +kernel
theorem dX11_cell_3 : decode cX11_cell 3 = .ok (.getfield 47, 3) := by decide +kernel
theorem dX11_cell_6 : decode cX11_cell 6 = .ok (.getfield 150, 3) := by decide +kernel
theorem dX11_cell_9 : decode cX11_cell 9 = .ok (.iconst 1, 1) := by decide +kernel
theorem dX11_cell_10 : decode cX11_cell 10 = .ok (.isub, 1) := by decide +kernel
theorem dX11_cell_11 : decode cX11_cell 11 = .ok (.invokestatic 94, 3) := by decide +kernel
theorem dX11_cell_14 : decode cX11_cell 14 = .ok (.ifCond .eq 19, 3) := by decide +kernel
theorem dX11_cell_17 : decode cX11_cell 17 = .ok (.iload_n 2, 1) := by decide +kernel
theorem dX11_cell_18 : decode cX11_cell 18 = .ok (.iconst (-1), 1) := by decide +kernel
theorem dX11_cell_19 : decode cX11_cell 19 = .ok (.if_icmp .eq 17, 3) := by decide +kernel
theorem dX11_cell_22 : decode cX11_cell 22 = .ok (.aload_n 0, 1) := by decide +kernel
theorem dX11_cell_23 : decode cX11_cell 23 = .ok (.getfield 15, 3) := by decide +kernel
theorem dX11_cell_26 : decode cX11_cell 26 = .ok (.iload_n 2, 1) := by decide +kernel
theorem dX11_cell_27 : decode cX11_cell 27 = .ok (.invokevirtual 111, 3) := by decide +kernel
theorem dX11_cell_30 : decode cX11_cell 30 = .ok (.ifCond .ne 6, 3) := by decide +kernel
theorem dX11_cell_33 : decode cX11_cell 33 = .ok (.ldc 102, 2) := by decide +kernel
theorem dX11_cell_35 : decode cX11_cell 35 = .ok (.ireturn, 1) := by decide +kernel
theorem dX11_cell_36 : decode cX11_cell 36 = .ok (.iload_n 3, 1) := by decide +kernel
theorem dX11_cell_37 : decode cX11_cell 37 = .ok (.iconst (-1), 1) := by decide +kernel
theorem dX11_cell_38 : decode cX11_cell 38 = .ok (.if_icmp .eq 10, 3) := by decide +kernel
theorem dX11_cell_41 : decode cX11_cell 41 = .ok (.iload_n 3, 1) := by decide +kernel
theorem dX11_cell_42 : decode cX11_cell 42 = .ok (.invokestatic 153, 3) := by decide +kernel
theorem dX11_cell_45 : decode cX11_cell 45 = .ok (.ifCond .eq 13, 3) := by decide +kernel
theorem dX11_cell_48 : decode cX11_cell 48 = .ok (.aload_n 0, 1) := by decide +kernel
theorem dX11_cell_49 : decode cX11_cell 49 = .ok (.getfield 47, 3) := by decide +kernel
theorem dX11_cell_52 : decode cX11_cell 52 = .ok (.getfield 156, 3) := by decide +kernel
theorem dX11_cell_55 : decode cX11_cell 55 = .ok (.ifCond .ne 6, 3) := by decide +kernel
theorem dX11_cell_58 : decode cX11_cell 58 = .ok (.ldc 102, 2) := by decide +kernel
theorem dX11_cell_60 : decode cX11_cell 60 = .ok (.ireturn, 1) := by decide +kernel
theorem dX11_cell_61 : decode cX11_cell 61 = .ok (.aload_n 0, 1) := by decide +kernel
theorem dX11_cell_62 : decode cX11_cell 62 = .ok (.getfield 47, 3) := by decide +kernel
theorem dX11_cell_65 : decode cX11_cell 65 = .ok (.iload_n 1, 1) := by decide +kernel
theorem dX11_cell_66 : decode cX11_cell 66 = .ok (.iload_n 2, 1) := by decide +kernel
theorem dX11_cell_67 : decode cX11_cell 67 = .ok (.iload_n 3, 1) := by decide +kernel
theorem dX11_cell_68 : decode cX11_cell 68 = .ok (.invokevirtual 160, 3) := by decide +kernel
theorem dX11_cell_71 : decode cX11_cell 71 = .ok (.ireturn, 1) := by decide +kernel
theorem dX11_share_0 : decode cX11_share 0 = .ok (.aload_n 0, 1) := by decide +kernel
theorem dX11_share_1 : decode cX11_share 1 = .ok (.getfield 15, 3) := by decide +kernel
theorem dX11_share_4 : decode cX11_share 4 = .ok (.iload_n 1, 1) := by decide +kernel
theorem dX11_share_5 : decode cX11_share 5 = .ok (.invokevirtual 111, 3) := by decide +kernel
theorem dX11_share_8 : decode cX11_share 8 = .ok (.ifCond .eq 14, 3) := by decide +kernel
theorem dX11_share_11 : decode cX11_share 11 = .ok (.iload_n 2, 1) := by decide +kernel
theorem dX11_share_12 : decode cX11_share 12 = .ok (.iconst 0, 1) := by decide +kernel
theorem dX11_share_13 : decode cX11_share 13 = .ok (.sipush 1000, 3) := by decide +kernel
theorem dX11_share_16 : decode cX11_share 16 = .ok (.invokestatic 94, 3) := by decide +kernel
theorem dX11_share_19 : decode cX11_share 19 = .ok (.ifCond .ne 6, 3) := by decide +kernel
theorem dX11_share_22 : decode cX11_share 22 = .ok (.ldc 102, 2) := by decide +kernel
theorem dX11_share_24 : decode cX11_share 24 = .ok (.ireturn, 1) := by decide +kernel
theorem dX11_share_25 : decode cX11_share 25 = .ok (.aload_n 0, 1) := by decide +kernel
theorem dX11_share_26 : decode cX11_share 26 = .ok (.getfield 22, 3) := by decide +kernel
theorem dX11_share_29 : decode cX11_share 29 = .ok (.getfield 164, 3) := by decide +kernel
theorem dX11_share_32 : decode cX11_share 32 = .ok (.iload_n 1, 1) := by decide +kernel
theorem dX11_share_33 : decode cX11_share 33 = .ok (.iaload, 1) := by decide +kernel
theorem dX11_share_34 : decode cX11_share 34 = .ok (.istore_n 3, 1) := by decide +kernel
theorem dX11_share_35 : decode cX11_share 35 = .ok (.aload_n 0, 1) := by decide +kernel
theorem dX11_share_36 : decode cX11_share 36 = .ok (.getfield 22, 3) := by decide +kernel
theorem dX11_share_39 : decode cX11_share 39 = .ok (.getfield 164, 3) := by decide +kernel
theorem dX11_share_42 : decode cX11_share 42 = .ok (.iload_n 1, 1) := by decide +kernel
theorem dX11_share_43 : decode cX11_share 43 = .ok (.iload_n 2, 1) := by decide +kernel
theorem dX11_share_44 : decode cX11_share 44 = .ok (.iastore, 1) := by decide +kernel
theorem dX11_share_45 : decode cX11_share 45 = .ok (.iload_n 3, 1) := by decide +kernel
theorem dX11_share_46 : decode cX11_share 46 = .ok (.ireturn, 1) := by decide +kernel
theorem dX11_mix_0 : decode cX11_mix 0 = .ok (.aload_n 0, 1) := by decide +kernel
theorem dX11_mix_1 : decode cX11_mix 1 = .ok (.getfield 22, 3) := by decide +kernel
theorem dX11_mix_4 : decode cX11_mix 4 = .ok (.getfield 164, 3) := by decide +kernel
theorem dX11_mix_7 : decode cX11_mix 7 = .ok (.invokestatic 167, 3) := by decide +kernel
theorem dX11_mix_10 : decode cX11_mix 10 = .ok (.sipush 1000, 3) := by decide +kernel
theorem dX11_mix_13 : decode cX11_mix 13 = .ok (.if_icmp .eq 6, 3) := by decide +kernel
theorem dX11_mix_16 : decode cX11_mix 16 = .ok (.ldc 102, 2) := by decide +kernel
theorem dX11_mix_18 : decode cX11_mix 18 = .ok (.ireturn, 1) := by decide +kernel
theorem dX11_mix_19 : decode cX11_mix 19 = .ok (.aload_n 0, 1) := by decide +kernel
theorem dX11_mix_20 : decode cX11_mix 20 = .ok (.getfield 22, 3) := by decide +kernel
theorem dX11_mix_23 : decode cX11_mix 23 = .ok (.aload_n 0, 1) := by decide +kernel
theorem dX11_mix_24 : decode cX11_mix 24 = .ok (.getfield 22, 3) := by decide +kernel
theorem dX11_mix_27 : decode cX11_mix 27 = .ok (.getfield 164, 3) := by decide +kernel
theorem dX11_mix_30 : decode cX11_mix 30 = .ok (.invokevirtual 171, 3) := by decide +kernel
theorem dX11_mix_33 : decode cX11_mix 33 = .ok (.iconst 1, 1) := by decide +kernel
theorem dX11_mix_34 : decode cX11_mix 34 = .ok (.ireturn, 1) := by decide +kernel
theorem dX11_colour_0 : decode cX11_colour 0 = .ok (.aload_n 0, 1) := by decide +kernel
theorem dX11_colour_1 : decode cX11_colour 1 = .ok (.getfield 29, 3) := by decide +kernel
theorem dX11_colour_4 : decode cX11_colour 4 = .ok (.invokevirtual 175, 3) := by decide +kernel
theorem dX11_colour_7 : decode cX11_colour 7 = .ok (.ireturn, 1) := by decide +kernel
theorem dX11_span_0 : decode cX11_span 0 = .ok (.aload_n 0, 1) := by decide +kernel
theorem dX11_span_1 : decode cX11_span 1 = .ok (.getfield 29, 3) := by decide +kernel
theorem dX11_span_4 : decode cX11_span 4 = .ok (.iload_n 1, 1) := by decide +kernel
theorem dX11_span_5 : decode cX11_span 5 = .ok (.invokevirtual 178, 3) := by decide +kernel
theorem dX11_span_8 : decode cX11_span 8 = .ok (.ifCond .eq 10, 3) := by decide +kernel
theorem dX11_span_11 : decode cX11_span 11 = .ok (.iload_n 2, 1) := by decide +kernel
theorem dX11_span_12 : decode cX11_span 12 = .ok (.invokestatic 153, 3) := by decide +kernel
theorem dX11_span_15 : decode cX11_span 15 = .ok (.ifCond .ne 6, 3) := by decide +kernel
theorem dX11_span_18 : decode cX11_span 18 = .ok (.ldc 102, 2) := by decide +kernel
theorem dX11_span_20 : decode cX11_span 20 = .ok (.ireturn, 1) := by decide +kernel
theorem dX11_span_21 : decode cX11_span 21 = .ok (.iload_n 3, 1) := by decide +kernel
theorem dX11_span_22 : decode cX11_span 22 = .ok (.iconst 0, 1) := by decide +kernel
theorem dX11_span_23 : decode cX11_span 23 = .ok (.sipush 1000, 3) := by decide +kernel
theorem dX11_span_26 : decode cX11_span 26 = .ok (.invokestatic 94, 3) := by decide +kernel
theorem dX11_span_29 : decode cX11_span 29 = .ok (.ifCond .eq 21, 3) := by decide +kernel
theorem dX11_span_32 : decode cX11_span 32 = .ok (.iload 4, 2) := by decide +kernel
theorem dX11_span_34 : decode cX11_span 34 = .ok (.iconst 0, 1) := by decide +kernel
theorem dX11_span_35 : decode cX11_span 35 = .ok (.sipush 1000, 3) := by decide +kernel
theorem dX11_span_38 : decode cX11_span 38 = .ok (.invokestatic 94, 3) := by decide +kernel
theorem dX11_span_41 : decode cX11_span 41 = .ok (.ifCond .eq 9, 3) := by decide +kernel
theorem dX11_span_44 : decode cX11_span 44 = .ok (.iload_n 3, 1) := by decide +kernel
theorem dX11_span_45 : decode cX11_span 45 = .ok (.iload 4, 2) := by decide +kernel
theorem dX11_span_47 : decode cX11_span 47 = .ok (.if_icmp .le 6, 3) := by decide +kernel
theorem dX11_span_50 : decode cX11_span 50 = .ok (.ldc 102, 2) := by decide +kernel
theorem dX11_span_52 : decode cX11_span 52 = .ok (.ireturn, 1) := by decide +kernel
theorem dX11_span_53 : decode cX11_span 53 = .ok (.aload_n 0, 1) := by decide +kernel
theorem dX11_span_54 : decode cX11_span 54 = .ok (.getfield 29, 3) := by decide +kernel
theorem dX11_span_57 : decode cX11_span 57 = .ok (.getfield 179, 3) := by decide +kernel
theorem dX11_span_60 : decode cX11_span 60 = .ok (.iload_n 1, 1) := by decide +kernel
theorem dX11_span_61 : decode cX11_span 61 = .ok (.aaload, 1) := by decide +kernel
theorem dX11_span_62 : decode cX11_span 62 = .ok (.iload_n 2, 1) := by decide +kernel
theorem dX11_span_63 : decode cX11_span 63 = .ok (.iload_n 3, 1) := by decide +kernel
theorem dX11_span_64 : decode cX11_span 64 = .ok (.iastore, 1) := by decide +kernel
theorem dX11_span_65 : decode cX11_span 65 = .ok (.aload_n 0, 1) := by decide +kernel
theorem dX11_span_66 : decode cX11_span 66 = .ok (.getfield 29, 3) := by decide +kernel
theorem dX11_span_69 : decode cX11_span 69 = .ok (.getfield 182, 3) := by decide +kernel
theorem dX11_span_72 : decode cX11_span 72 = .ok (.iload_n 1, 1) := by decide +kernel
theorem dX11_span_73 : decode cX11_span 73 = .ok (.aaload, 1) := by decide +kernel
theorem dX11_span_74 : decode cX11_span 74 = .ok (.iload_n 2, 1) := by decide +kernel
theorem dX11_span_75 : decode cX11_span 75 = .ok (.iload 4, 2) := by decide +kernel
theorem dX11_span_77 : decode cX11_span 77 = .ok (.iastore, 1) := by decide +kernel
theorem dX11_span_78 : decode cX11_span 78 = .ok (.iconst 1, 1) := by decide +kernel
theorem dX11_span_79 : decode cX11_span 79 = .ok (.ireturn, 1) := by decide +kernel
theorem dX11_sure_0 : decode cX11_sure 0 = .ok (.aload_n 0, 1) := by decide +kernel
theorem dX11_sure_1 : decode cX11_sure 1 = .ok (.getfield 29, 3) := by decide +kernel
theorem dX11_sure_4 : decode cX11_sure 4 = .ok (.iload_n 1, 1) := by decide +kernel
theorem dX11_sure_5 : decode cX11_sure 5 = .ok (.invokevirtual 178, 3) := by decide +kernel
theorem dX11_sure_8 : decode cX11_sure 8 = .ok (.ifCond .eq 13, 3) := by decide +kernel
theorem dX11_sure_11 : decode cX11_sure 11 = .ok (.aload_n 0, 1) := by decide +kernel
theorem dX11_sure_12 : decode cX11_sure 12 = .ok (.getfield 22, 3) := by decide +kernel
theorem dX11_sure_15 : decode cX11_sure 15 = .ok (.getfield 185, 3) := by decide +kernel
theorem dX11_sure_18 : decode cX11_sure 18 = .ok (.ifCond .ne 6, 3) := by decide +kernel
theorem dX11_sure_21 : decode cX11_sure 21 = .ok (.ldc 102, 2) := by decide +kernel
theorem dX11_sure_23 : decode cX11_sure 23 = .ok (.ireturn, 1) := by decide +kernel
theorem dX11_sure_24 : decode cX11_sure 24 = .ok (.aload_n 0, 1) := by decide +kernel
theorem dX11_sure_25 : decode cX11_sure 25 = .ok (.getfield 29, 3) := by decide +kernel
theorem dX11_sure_28 : decode cX11_sure 28 = .ok (.iload_n 1, 1) := by decide +kernel
theorem dX11_sure_29 : decode cX11_sure 29 = .ok (.aload_n 0, 1) := by decide +kernel
theorem dX11_sure_30 : decode cX11_sure 30 = .ok (.getfield 22, 3) := by decide +kernel
theorem dX11_sure_33 : decode cX11_sure 33 = .ok (.getfield 133, 3) := by decide +kernel
theorem dX11_sure_36 : decode cX11_sure 36 = .ok (.aload_n 0, 1) := by decide +kernel
theorem dX11_sure_37 : decode cX11_sure 37 = .ok (.getfield 15, 3) := by decide +kernel
theorem dX11_sure_40 : decode cX11_sure 40 = .ok (.invokevirtual 186, 3) := by decide +kernel
theorem dX11_sure_43 : decode cX11_sure 43 = .ok (.ifCond .eq 7, 3) := by decide +kernel
theorem dX11_sure_46 : decode cX11_sure 46 = .ok (.iconst 1, 1) := by decide +kernel
theorem dX11_sure_47 : decode cX11_sure 47 = .ok (.goto 4, 3) := by decide +kernel
theorem dX11_sure_50 : decode cX11_sure 50 = .ok (.iconst 0, 1) := by decide +kernel
theorem dX11_sure_51 : decode cX11_sure 51 = .ok (.ireturn, 1) := by decide +kernel
theorem dX11_cheapest_0 : decode cX11_cheapest 0 = .ok (.aload_n 0, 1) := by decide +kernel
theorem dX11_cheapest_1 : decode cX11_cheapest 1 = .ok (.getfield 29, 3) := by decide +kernel
theorem dX11_cheapest_4 : decode cX11_cheapest 4 = .ok (.iload_n 1, 1) := by decide +kernel
theorem dX11_cheapest_5 : decode cX11_cheapest 5 = .ok (.invokevirtual 178, 3) := by decide +kernel
theorem dX11_cheapest_8 : decode cX11_cheapest 8 = .ok (.ifCond .eq 14, 3) := by decide +kernel
theorem dX11_cheapest_11 : decode cX11_cheapest 11 = .ok (.aload_n 0, 1) := by decide +kernel
theorem dX11_cheapest_12 : decode cX11_cheapest 12 = .ok (.getfield 38, 3) := by decide +kernel
theorem dX11_cheapest_15 : decode cX11_cheapest 15 = .ok (.iload_n 1, 1) := by decide +kernel
theorem dX11_cheapest_16 : decode cX11_cheapest 16 = .ok (.invokevirtual 190, 3) := by decide +kernel
theorem dX11_cheapest_19 : decode cX11_cheapest 19 = .ok (.ifCond .ne 6, 3) := by decide +kernel
theorem dX11_cheapest_22 : decode cX11_cheapest 22 = .ok (.ldc 102, 2) := by decide +kernel
theorem dX11_cheapest_24 : decode cX11_cheapest 24 = .ok (.ireturn, 1) := by decide +kernel
theorem dX11_cheapest_25 : decode cX11_cheapest 25 = .ok (.aload_n 0, 1) := by decide +kernel
theorem dX11_cheapest_26 : decode cX11_cheapest 26 = .ok (.getfield 22, 3) := by decide +kernel
theorem dX11_cheapest_29 : decode cX11_cheapest 29 = .ok (.aload_n 0, 1) := by decide +kernel
theorem dX11_cheapest_30 : decode cX11_cheapest 30 = .ok (.getfield 38, 3) := by decide +kernel
theorem dX11_cheapest_33 : decode cX11_cheapest 33 = .ok (.getfield 193, 3) := by decide +kernel
theorem dX11_cheapest_36 : decode cX11_cheapest 36 = .ok (.invokevirtual 171, 3) := by decide +kernel
theorem dX11_cheapest_39 : decode cX11_cheapest 39 = .ok (.aload_n 0, 1) := by decide +kernel
theorem dX11_cheapest_40 : decode cX11_cheapest 40 = .ok (.getfield 38, 3) := by decide +kernel
theorem dX11_cheapest_43 : decode cX11_cheapest 43 = .ok (.getfield 196, 3) := by decide +kernel
theorem dX11_cheapest_46 : decode cX11_cheapest 46 = .ok (.ireturn, 1) := by decide +kernel
theorem dX11_want_0 : decode cX11_want 0 = .ok (.iload_n 1, 1) := by decide +kernel
theorem dX11_want_1 : decode cX11_want 1 = .ok (.iconst (-1), 1) := by decide +kernel
theorem dX11_want_2 : decode cX11_want 2 = .ok (.if_icmp .eq 17, 3) := by decide +kernel
theorem dX11_want_5 : decode cX11_want 5 = .ok (.aload_n 0, 1) := by decide +kernel
theorem dX11_want_6 : decode cX11_want 6 = .ok (.getfield 29, 3) := by decide +kernel
theorem dX11_want_9 : decode cX11_want 9 = .ok (.iload_n 1, 1) := by decide +kernel
theorem dX11_want_10 : decode cX11_want 10 = .ok (.invokevirtual 178, 3) := by decide +kernel
theorem dX11_want_13 : decode cX11_want 13 = .ok (.ifCond .ne 6, 3) := by decide +kernel
theorem dX11_want_16 : decode cX11_want 16 = .ok (.ldc 102, 2) := by decide +kernel
theorem dX11_want_18 : decode cX11_want 18 = .ok (.ireturn, 1) := by decide +kernel
theorem dX11_want_19 : decode cX11_want 19 = .ok (.aload_n 0, 1) := by decide +kernel
theorem dX11_want_20 : decode cX11_want 20 = .ok (.getfield 90, 3) := by decide +kernel
theorem dX11_want_23 : decode cX11_want 23 = .ok (.istore_n 2, 1) := by decide +kernel
theorem dX11_want_24 : decode cX11_want 24 = .ok (.aload_n 0, 1) := by decide +kernel
theorem dX11_want_25 : decode cX11_want 25 = .ok (.iload_n 1, 1) := by decide +kernel
theorem dX11_want_26 : decode cX11_want 26 = .ok (.putfield 90, 3) := by decide +kernel
theorem dX11_want_29 : decode cX11_want 29 = .ok (.iload_n 2, 1) := by decide +kernel
theorem dX11_want_30 : decode cX11_want 30 = .ok (.ireturn, 1) := by decide +kernel
theorem dX11_hours_0 : decode cX11_hours 0 = .ok (.iload_n 1, 1) := by decide +kernel
theorem dX11_hours_1 : decode cX11_hours 1 = .ok (.iconst 1, 1) := by decide +kernel
theorem dX11_hours_2 : decode cX11_hours 2 = .ok (.bipush 50, 2) := by decide +kernel
theorem dX11_hours_4 : decode cX11_hours 4 = .ok (.invokestatic 94, 3) := by decide +kernel
theorem dX11_hours_7 : decode cX11_hours 7 = .ok (.ifCond .eq 25, 3) := by decide +kernel
theorem dX11_hours_10 : decode cX11_hours 10 = .ok (.aload_n 0, 1) := by decide +kernel
theorem dX11_hours_11 : decode cX11_hours 11 = .ok (.invokevirtual 199, 3) := by decide +kernel
theorem dX11_hours_14 : decode cX11_hours 14 = .ok (.ifCond .eq 18, 3) := by decide +kernel
theorem dX11_hours_17 : decode cX11_hours 17 = .ok (.aload_n 0, 1) := by decide +kernel
theorem dX11_hours_18 : decode cX11_hours 18 = .ok (.getfield 70, 3) := by decide +kernel
theorem dX11_hours_21 : decode cX11_hours 21 = .ok (.getfield 203, 3) := by decide +kernel
theorem dX11_hours_24 : decode cX11_hours 24 = .ok (.iload_n 1, 1) := by decide +kernel
theorem dX11_hours_25 : decode cX11_hours 25 = .ok (.iadd, 1) := by decide +kernel
theorem dX11_hours_26 : decode cX11_hours 26 = .ok (.sipush 400, 3) := by decide +kernel
theorem dX11_hours_29 : decode cX11_hours 29 = .ok (.if_icmp .le 6, 3) := by decide +kernel
theorem dX11_hours_32 : decode cX11_hours 32 = .ok (.ldc 102, 2) := by decide +kernel
theorem dX11_hours_34 : decode cX11_hours 34 = .ok (.ireturn, 1) := by decide +kernel
theorem dX11_hours_35 : decode cX11_hours 35 = .ok (.aload_n 0, 1) := by decide +kernel
theorem dX11_hours_36 : decode cX11_hours 36 = .ok (.getfield 56, 3) := by decide +kernel
theorem dX11_hours_39 : decode cX11_hours 39 = .ok (.aload_n 0, 1) := by decide +kernel
theorem dX11_hours_40 : decode cX11_hours 40 = .ok (.getfield 47, 3) := by decide +kernel
theorem dX11_hours_43 : decode cX11_hours 43 = .ok (.getfield 141, 3) := by decide +kernel
theorem dX11_hours_46 : decode cX11_hours 46 = .ok (.iconst (-1), 1) := by decide +kernel
theorem dX11_hours_47 : decode cX11_hours 47 = .ok (.iconst 0, 1) := by decide +kernel
theorem dX11_hours_48 : decode cX11_hours 48 = .ok (.invokevirtual 206, 3) := by decide +kernel
theorem dX11_hours_51 : decode cX11_hours 51 = .ok (.iconst 0, 1) := by decide +kernel
theorem dX11_hours_52 : decode cX11_hours 52 = .ok (.istore_n 2, 1) := by decide +kernel
theorem dX11_hours_53 : decode cX11_hours 53 = .ok (.iload_n 2, 1) := by decide +kernel
theorem dX11_hours_54 : decode cX11_hours 54 = .ok (.iload_n 1, 1) := by decide +kernel
theorem dX11_hours_55 : decode cX11_hours 55 = .ok (.if_icmp .ge 30, 3) := by decide +kernel
theorem dX11_hours_58 : decode cX11_hours 58 = .ok (.aload_n 0, 1) := by decide +kernel
theorem dX11_hours_59 : decode cX11_hours 59 = .ok (.getfield 15, 3) := by decide +kernel
theorem dX11_hours_62 : decode cX11_hours 62 = .ok (.aload_n 0, 1) := by decide +kernel
theorem dX11_hours_63 : decode cX11_hours 63 = .ok (.getfield 56, 3) := by decide +kernel
theorem dX11_hours_66 : decode cX11_hours 66 = .ok (.getfield 210, 3) := by decide +kernel
theorem dX11_hours_69 : decode cX11_hours 69 = .ok (.invokevirtual 213, 3) := by decide +kernel
theorem dX11_hours_72 : decode cX11_hours 72 = .ok (.ifCond .eq 13, 3) := by decide +kernel
theorem dX11_hours_75 : decode cX11_hours 75 = .ok (.aload_n 0, 1) := by decide +kernel
theorem dX11_hours_76 : decode cX11_hours 76 = .ok (.invokevirtual 217, 3) := by decide +kernel
theorem dX11_hours_79 : decode cX11_hours 79 = .ok (.iinc 2 1, 3) := by decide +kernel
theorem dX11_hours_82 : decode cX11_hours 82 = .ok (.goto (-29), 3) := by decide +kernel
theorem dX11_hours_85 : decode cX11_hours 85 = .ok (.iload_n 2, 1) := by decide +kernel
theorem dX11_hours_86 : decode cX11_hours 86 = .ok (.ireturn, 1) := by decide +kernel
theorem dX11_glass_0 : decode cX11_glass 0 = .ok (.aload_n 0, 1) := by decide +kernel
theorem dX11_glass_1 : decode cX11_glass 1 = .ok (.getfield 70, 3) := by decide +kernel
theorem dX11_glass_4 : decode cX11_glass 4 = .ok (.iload_n 1, 1) := by decide +kernel
theorem dX11_glass_5 : decode cX11_glass 5 = .ok (.invokevirtual 220, 3) := by decide +kernel
theorem dX11_glass_8 : decode cX11_glass 8 = .ok (.ifCond .ne 6, 3) := by decide +kernel
theorem dX11_glass_11 : decode cX11_glass 11 = .ok (.ldc 102, 2) := by decide +kernel
theorem dX11_glass_13 : decode cX11_glass 13 = .ok (.ireturn, 1) := by decide +kernel
theorem dX11_glass_14 : decode cX11_glass 14 = .ok (.iload_n 2, 1) := by decide +kernel
theorem dX11_glass_15 : decode cX11_glass 15 = .ok (.tableswitch 93 0 6 #[41, 41, 41, 41, 55, 65, 83], 41) := by decide +kernel
theorem dX11_glass_56 : decode cX11_glass 56 = .ok (.aload_n 0, 1) := by decide +kernel
theorem dX11_glass_57 : decode cX11_glass 57 = .ok (.getfield 70, 3) := by decide +kernel
theorem dX11_glass_60 : decode cX11_glass 60 = .ok (.getfield 221, 3) := by decide +kernel
theorem dX11_glass_63 : decode cX11_glass 63 = .ok (.iload_n 1, 1) := by decide +kernel
theorem dX11_glass_64 : decode cX11_glass 64 = .ok (.iconst 4, 1) := by decide +kernel
theorem dX11_glass_65 : decode cX11_glass 65 = .ok (.imul, 1) := by decide +kernel
theorem dX11_glass_66 : decode cX11_glass 66 = .ok (.iload_n 2, 1) := by decide +kernel
theorem dX11_glass_67 : decode cX11_glass 67 = .ok (.iadd, 1) := by decide +kernel
theorem dX11_glass_68 : decode cX11_glass 68 = .ok (.iaload, 1) := by decide +kernel
theorem dX11_glass_69 : decode cX11_glass 69 = .ok (.ireturn, 1) := by decide +kernel
theorem dX11_glass_70 : decode cX11_glass 70 = .ok (.aload_n 0, 1) := by decide +kernel
theorem dX11_glass_71 : decode cX11_glass 71 = .ok (.getfield 70, 3) := by decide +kernel
theorem dX11_glass_74 : decode cX11_glass 74 = .ok (.getfield 224, 3) := by decide +kernel
theorem dX11_glass_77 : decode cX11_glass 77 = .ok (.iload_n 1, 1) := by decide +kernel
theorem dX11_glass_78 : decode cX11_glass 78 = .ok (.iaload, 1) := by decide +kernel
theorem dX11_glass_79 : decode cX11_glass 79 = .ok (.ireturn, 1) := by decide +kernel
theorem dX11_glass_80 : decode cX11_glass 80 = .ok (.aload_n 0, 1) := by decide +kernel
theorem dX11_glass_81 : decode cX11_glass 81 = .ok (.getfield 70, 3) := by decide +kernel
theorem dX11_glass_84 : decode cX11_glass 84 = .ok (.getfield 227, 3) := by decide +kernel
theorem dX11_glass_87 : decode cX11_glass 87 = .ok (.iload_n 1, 1) := by decide +kernel
theorem dX11_glass_88 : decode cX11_glass 88 = .ok (.baload, 1) := by decide +kernel
theorem dX11_glass_89 : decode cX11_glass 89 = .ok (.ifCond .eq 7, 3) := by decide +kernel
theorem dX11_glass_92 : decode cX11_glass 92 = .ok (.iconst 1, 1) := by decide +kernel
theorem dX11_glass_93 : decode cX11_glass 93 = .ok (.goto 4, 3) := by decide +kernel
theorem dX11_glass_96 : decode cX11_glass 96 = .ok (.iconst 0, 1) := by decide +kernel
theorem dX11_glass_97 : decode cX11_glass 97 = .ok (.ireturn, 1) := by decide +kernel
theorem dX11_glass_98 : decode cX11_glass 98 = .ok (.aload_n 0, 1) := by decide +kernel
theorem dX11_glass_99 : decode cX11_glass 99 = .ok (.getfield 70, 3) := by decide +kernel
theorem dX11_glass_102 : decode cX11_glass 102 = .ok (.getfield 231, 3) := by decide +kernel
theorem dX11_glass_105 : decode cX11_glass 105 = .ok (.iload_n 1, 1) := by decide +kernel
theorem dX11_glass_106 : decode cX11_glass 106 = .ok (.iaload, 1) := by decide +kernel
theorem dX11_glass_107 : decode cX11_glass 107 = .ok (.ireturn, 1) := by decide +kernel
theorem dX11_glass_108 : decode cX11_glass 108 = .ok (.ldc 102, 2) := by decide +kernel
theorem dX11_glass_110 : decode cX11_glass 110 = .ok (.ireturn, 1) := by decide +kernel
theorem dX11_lead_0 : decode cX11_lead 0 = .ok (.aload_n 0, 1) := by decide +kernel
theorem dX11_lead_1 : decode cX11_lead 1 = .ok (.getfield 70, 3) := by decide +kernel
theorem dX11_lead_4 : decode cX11_lead 4 = .ok (.iload_n 1, 1) := by decide +kernel
theorem dX11_lead_5 : decode cX11_lead 5 = .ok (.invokevirtual 220, 3) := by decide +kernel
theorem dX11_lead_8 : decode cX11_lead 8 = .ok (.ifCond .eq 14, 3) := by decide +kernel
theorem dX11_lead_11 : decode cX11_lead 11 = .ok (.aload_n 0, 1) := by decide +kernel
theorem dX11_lead_12 : decode cX11_lead 12 = .ok (.getfield 15, 3) := by decide +kernel
theorem dX11_lead_15 : decode cX11_lead 15 = .ok (.iload_n 2, 1) := by decide +kernel
theorem dX11_lead_16 : decode cX11_lead 16 = .ok (.invokevirtual 111, 3) := by decide +kernel
theorem dX11_lead_19 : decode cX11_lead 19 = .ok (.ifCond .ne 6, 3) := by decide +kernel
theorem dX11_lead_22 : decode cX11_lead 22 = .ok (.ldc 102, 2) := by decide +kernel
theorem dX11_lead_24 : decode cX11_lead 24 = .ok (.ireturn, 1) := by decide +kernel
theorem dX11_lead_25 : decode cX11_lead 25 = .ok (.aload_n 0, 1) := by decide +kernel
theorem dX11_lead_26 : decode cX11_lead 26 = .ok (.getfield 70, 3) := by decide +kernel
theorem dX11_lead_29 : decode cX11_lead 29 = .ok (.getfield 234, 3) := by decide +kernel
theorem dX11_lead_32 : decode cX11_lead 32 = .ok (.iload_n 1, 1) := by decide +kernel
theorem dX11_lead_33 : decode cX11_lead 33 = .ok (.bipush 8, 2) := by decide +kernel
theorem dX11_lead_35 : decode cX11_lead 35 = .ok (.imul, 1) := by decide +kernel
theorem dX11_lead_36 : decode cX11_lead 36 = .ok (.iload_n 2, 1) := by decide +kernel
theorem dX11_lead_37 : decode cX11_lead 37 = .ok (.iadd, 1) := by decide +kernel
theorem dX11_lead_38 : decode cX11_lead 38 = .ok (.iaload, 1) := by decide +kernel
theorem dX11_lead_39 : decode cX11_lead 39 = .ok (.ireturn, 1) := by decide +kernel
theorem dX11_when_0 : decode cX11_when 0 = .ok (.aload_n 0, 1) := by decide +kernel
theorem dX11_when_1 : decode cX11_when 1 = .ok (.getfield 29, 3) := by decide +kernel
theorem dX11_when_4 : decode cX11_when 4 = .ok (.iload_n 1, 1) := by decide +kernel
theorem dX11_when_5 : decode cX11_when 5 = .ok (.invokevirtual 178, 3) := by decide +kernel
theorem dX11_when_8 : decode cX11_when 8 = .ok (.ifCond .eq 10, 3) := by decide +kernel
theorem dX11_when_11 : decode cX11_when 11 = .ok (.aload_n 0, 1) := by decide +kernel
theorem dX11_when_12 : decode cX11_when 12 = .ok (.invokevirtual 199, 3) := by decide +kernel
theorem dX11_when_15 : decode cX11_when 15 = .ok (.ifCond .ne 6, 3) := by decide +kernel
theorem dX11_when_18 : decode cX11_when 18 = .ok (.ldc 102, 2) := by decide +kernel
theorem dX11_when_20 : decode cX11_when 20 = .ok (.ireturn, 1) := by decide +kernel
theorem dX11_when_21 : decode cX11_when 21 = .ok (.aload_n 0, 1) := by decide +kernel
theorem dX11_when_22 : decode cX11_when 22 = .ok (.getfield 79, 3) := by decide +kernel
theorem dX11_when_25 : decode cX11_when 25 = .ok (.iload_n 1, 1) := by decide +kernel
theorem dX11_when_26 : decode cX11_when 26 = .ok (.invokevirtual 237, 3) := by decide +kernel
theorem dX11_when_29 : decode cX11_when 29 = .ok (.ireturn, 1) := by decide +kernel
theorem dX11_between_0 : decode cX11_between 0 = .ok (.aload_n 0, 1) := by decide +kernel
theorem dX11_between_1 : decode cX11_between 1 = .ok (.invokevirtual 199, 3) := by decide +kernel
theorem dX11_between_4 : decode cX11_between 4 = .ok (.ifCond .ne 6, 3) := by decide +kernel
theorem dX11_between_7 : decode cX11_between 7 = .ok (.ldc 102, 2) := by decide +kernel
theorem dX11_between_9 : decode cX11_between 9 = .ok (.ireturn, 1) := by decide +kernel
theorem dX11_between_10 : decode cX11_between 10 = .ok (.aload_n 0, 1) := by decide +kernel
theorem dX11_between_11 : decode cX11_between 11 = .ok (.getfield 79, 3) := by decide +kernel
theorem dX11_between_14 : decode cX11_between 14 = .ok (.invokevirtual 240, 3) := by decide +kernel
theorem dX11_between_17 : decode cX11_between 17 = .ok (.ireturn, 1) := by decide +kernel
theorem dX11_dose_0 : decode cX11_dose 0 = .ok (.aload_n 0, 1) := by decide +kernel
theorem dX11_dose_1 : decode cX11_dose 1 = .ok (.getfield 29, 3) := by decide +kernel
theorem dX11_dose_4 : decode cX11_dose 4 = .ok (.iload_n 1, 1) := by decide +kernel
theorem dX11_dose_5 : decode cX11_dose 5 = .ok (.invokevirtual 178, 3) := by decide +kernel
theorem dX11_dose_8 : decode cX11_dose 8 = .ok (.ifCond .eq 34, 3) := by decide +kernel
theorem dX11_dose_11 : decode cX11_dose 11 = .ok (.aload_n 0, 1) := by decide +kernel
theorem dX11_dose_12 : decode cX11_dose 12 = .ok (.getfield 15, 3) := by decide +kernel
theorem dX11_dose_15 : decode cX11_dose 15 = .ok (.iload_n 2, 1) := by decide +kernel
theorem dX11_dose_16 : decode cX11_dose 16 = .ok (.invokevirtual 111, 3) := by decide +kernel
theorem dX11_dose_19 : decode cX11_dose 19 = .ok (.ifCond .eq 23, 3) := by decide +kernel
theorem dX11_dose_22 : decode cX11_dose 22 = .ok (.aload_n 0, 1) := by decide +kernel
theorem dX11_dose_23 : decode cX11_dose 23 = .ok (.getfield 15, 3) := by decide +kernel
theorem dX11_dose_26 : decode cX11_dose 26 = .ok (.getfield 124, 3) := by decide +kernel
theorem dX11_dose_29 : decode cX11_dose 29 = .ok (.iload_n 2, 1) := by decide +kernel
theorem dX11_dose_30 : decode cX11_dose 30 = .ok (.iaload, 1) := by decide +kernel
theorem dX11_dose_31 : decode cX11_dose 31 = .ok (.iconst 2, 1) := by decide +kernel
theorem dX11_dose_32 : decode cX11_dose 32 = .ok (.if_icmp .ne 10, 3) := by decide +kernel
theorem dX11_dose_35 : decode cX11_dose 35 = .ok (.aload_n 0, 1) := by decide +kernel
theorem dX11_dose_36 : decode cX11_dose 36 = .ok (.invokevirtual 199, 3) := by decide +kernel
theorem dX11_dose_39 : decode cX11_dose 39 = .ok (.ifCond .ne 6, 3) := by decide +kernel
theorem dX11_dose_42 : decode cX11_dose 42 = .ok (.ldc 102, 2) := by decide +kernel
theorem dX11_dose_44 : decode cX11_dose 44 = .ok (.ireturn, 1) := by decide +kernel
theorem dX11_dose_45 : decode cX11_dose 45 = .ok (.aload_n 0, 1) := by decide +kernel
theorem dX11_dose_46 : decode cX11_dose 46 = .ok (.getfield 79, 3) := by decide +kernel
theorem dX11_dose_49 : decode cX11_dose 49 = .ok (.iload_n 1, 1) := by decide +kernel
theorem dX11_dose_50 : decode cX11_dose 50 = .ok (.iload_n 2, 1) := by decide +kernel
theorem dX11_dose_51 : decode cX11_dose 51 = .ok (.invokevirtual 243, 3) := by decide +kernel
theorem dX11_dose_54 : decode cX11_dose 54 = .ok (.ireturn, 1) := by decide +kernel
theorem dX11_change_0 : decode cX11_change 0 = .ok (.aload_n 0, 1) := by decide +kernel
theorem dX11_change_1 : decode cX11_change 1 = .ok (.getfield 29, 3) := by decide +kernel
theorem dX11_change_4 : decode cX11_change 4 = .ok (.iload_n 1, 1) := by decide +kernel
theorem dX11_change_5 : decode cX11_change 5 = .ok (.invokevirtual 178, 3) := by decide +kernel
theorem dX11_change_8 : decode cX11_change 8 = .ok (.ifCond .eq 19, 3) := by decide +kernel
theorem dX11_change_11 : decode cX11_change 11 = .ok (.aload_n 0, 1) := by decide +kernel
theorem dX11_change_12 : decode cX11_change 12 = .ok (.getfield 29, 3) := by decide +kernel
theorem dX11_change_15 : decode cX11_change 15 = .ok (.iload_n 2, 1) := by decide +kernel
theorem dX11_change_16 : decode cX11_change 16 = .ok (.invokevirtual 178, 3) := by decide +kernel
theorem dX11_change_19 : decode cX11_change 19 = .ok (.ifCond .eq 8, 3) := by decide +kernel
theorem dX11_change_22 : decode cX11_change 22 = .ok (.iload_n 1, 1) := by decide +kernel
theorem dX11_change_23 : decode cX11_change 23 = .ok (.iload_n 2, 1) := by decide +kernel
theorem dX11_change_24 : decode cX11_change 24 = .ok (.if_icmp .ne 6, 3) := by decide +kernel
theorem dX11_change_27 : decode cX11_change 27 = .ok (.ldc 102, 2) := by decide +kernel
theorem dX11_change_29 : decode cX11_change 29 = .ok (.ireturn, 1) := by decide +kernel
theorem dX11_change_30 : decode cX11_change 30 = .ok (.iload_n 3, 1) := by decide +kernel
theorem dX11_change_31 : decode cX11_change 31 = .ok (.iconst 0, 1) := by decide +kernel
theorem dX11_change_32 : decode cX11_change 32 = .ok (.sipush 1000, 3) := by decide +kernel
theorem dX11_change_35 : decode cX11_change 35 = .ok (.invokestatic 94, 3) := by decide +kernel
theorem dX11_change_38 : decode cX11_change 38 = .ok (.ifCond .ne 6, 3) := by decide +kernel
theorem dX11_change_41 : decode cX11_change 41 = .ok (.ldc 102, 2) := by decide +kernel
theorem dX11_change_43 : decode cX11_change 43 = .ok (.ireturn, 1) := by decide +kernel
theorem dX11_change_44 : decode cX11_change 44 = .ok (.aload_n 0, 1) := by decide +kernel
theorem dX11_change_45 : decode cX11_change 45 = .ok (.getfield 86, 3) := by decide +kernel
theorem dX11_change_48 : decode cX11_change 48 = .ok (.getfield 247, 3) := by decide +kernel
theorem dX11_change_51 : decode cX11_change 51 = .ok (.iload_n 1, 1) := by decide +kernel
theorem dX11_change_52 : decode cX11_change 52 = .ok (.aaload, 1) := by decide +kernel
theorem dX11_change_53 : decode cX11_change 53 = .ok (.iload_n 2, 1) := by decide +kernel
theorem dX11_change_54 : decode cX11_change 54 = .ok (.iaload, 1) := by decide +kernel
theorem dX11_change_55 : decode cX11_change 55 = .ok (.istore 4, 2) := by decide +kernel
theorem dX11_change_57 : decode cX11_change 57 = .ok (.aload_n 0, 1) := by decide +kernel
theorem dX11_change_58 : decode cX11_change 58 = .ok (.getfield 86, 3) := by decide +kernel
theorem dX11_change_61 : decode cX11_change 61 = .ok (.getfield 247, 3) := by decide +kernel
theorem dX11_change_64 : decode cX11_change 64 = .ok (.iload_n 1, 1) := by decide +kernel
theorem dX11_change_65 : decode cX11_change 65 = .ok (.aaload, 1) := by decide +kernel
theorem dX11_change_66 : decode cX11_change 66 = .ok (.iload_n 2, 1) := by decide +kernel
theorem dX11_change_67 : decode cX11_change 67 = .ok (.iload_n 3, 1) := by decide +kernel
theorem dX11_change_68 : decode cX11_change 68 = .ok (.iastore, 1) := by decide +kernel
theorem dX11_change_69 : decode cX11_change 69 = .ok (.iload 4, 2) := by decide +kernel
theorem dX11_change_71 : decode cX11_change 71 = .ok (.ireturn, 1) := by decide +kernel
theorem dX11_ring_0 : decode cX11_ring 0 = .ok (.iload_n 1, 1) := by decide +kernel
theorem dX11_ring_1 : decode cX11_ring 1 = .ok (.iconst 1, 1) := by decide +kernel
theorem dX11_ring_2 : decode cX11_ring 2 = .ok (.iconst 1, 1) := by decide +kernel
theorem dX11_ring_3 : decode cX11_ring 3 = .ok (.aload_n 0, 1) := by decide +kernel
theorem dX11_ring_4 : decode cX11_ring 4 = .ok (.getfield 29, 3) := by decide +kernel
theorem dX11_ring_7 : decode cX11_ring 7 = .ok (.getfield 250, 3) := by decide +kernel
theorem dX11_ring_10 : decode cX11_ring 10 = .ok (.ishl, 1) := by decide +kernel
theorem dX11_ring_11 : decode cX11_ring 11 = .ok (.iconst 1, 1) := by decide +kernel
theorem dX11_ring_12 : decode cX11_ring 12 = .ok (.isub, 1) := by decide +kernel
theorem dX11_ring_13 : decode cX11_ring 13 = .ok (.invokestatic 94, 3) := by decide +kernel
theorem dX11_ring_16 : decode cX11_ring 16 = .ok (.ifCond .ne 6, 3) := by decide +kernel
theorem dX11_ring_19 : decode cX11_ring 19 = .ok (.ldc 102, 2) := by decide +kernel
theorem dX11_ring_21 : decode cX11_ring 21 = .ok (.ireturn, 1) := by decide +kernel
theorem dX11_ring_22 : decode cX11_ring 22 = .ok (.aload_n 0, 1) := by decide +kernel
theorem dX11_ring_23 : decode cX11_ring 23 = .ok (.getfield 86, 3) := by decide +kernel
theorem dX11_ring_26 : decode cX11_ring 26 = .ok (.iload_n 1, 1) := by decide +kernel
theorem dX11_ring_27 : decode cX11_ring 27 = .ok (.invokevirtual 251, 3) := by decide +kernel
theorem dX11_ring_30 : decode cX11_ring 30 = .ok (.ireturn, 1) := by decide +kernel
theorem dX11_next_0 : decode cX11_next 0 = .ok (.iload_n 1, 1) := by decide +kernel
theorem dX11_next_1 : decode cX11_next 1 = .ok (.iconst 0, 1) := by decide +kernel
theorem dX11_next_2 : decode cX11_next 2 = .ok (.aload_n 0, 1) := by decide +kernel
theorem dX11_next_3 : decode cX11_next 3 = .ok (.getfield 86, 3) := by decide +kernel
theorem dX11_next_6 : decode cX11_next 6 = .ok (.getfield 254, 3) := by decide +kernel
theorem dX11_next_9 : decode cX11_next 9 = .ok (.iconst 1, 1) := by decide +kernel
theorem dX11_next_10 : decode cX11_next 10 = .ok (.isub, 1) := by decide +kernel
theorem dX11_next_11 : decode cX11_next 11 = .ok (.invokestatic 94, 3) := by decide +kernel
theorem dX11_next_14 : decode cX11_next 14 = .ok (.ifCond .ne 5, 3) := by decide +kernel
theorem dX11_next_17 : decode cX11_next 17 = .ok (.iconst (-1), 1) := by decide +kernel
theorem dX11_next_18 : decode cX11_next 18 = .ok (.ireturn, 1) := by decide +kernel
theorem dX11_next_19 : decode cX11_next 19 = .ok (.aload_n 0, 1) := by decide +kernel
theorem dX11_next_20 : decode cX11_next 20 = .ok (.getfield 86, 3) := by decide +kernel
theorem dX11_next_23 : decode cX11_next 23 = .ok (.getfield 257, 3) := by decide +kernel
theorem dX11_next_26 : decode cX11_next 26 = .ok (.iload_n 1, 1) := by decide +kernel
theorem dX11_next_27 : decode cX11_next 27 = .ok (.iaload, 1) := by decide +kernel
theorem dX11_next_28 : decode cX11_next 28 = .ok (.ireturn, 1) := by decide +kernel
theorem dX11_told_0 : decode cX11_told 0 = .ok (.iload_n 1, 1) := by decide +kernel
theorem dX11_told_1 : decode cX11_told 1 = .ok (.tableswitch 99 0 6 #[43, 51, 59, 67, 75, 83, 91], 43) := by decide +kernel
theorem dX11_told_44 : decode cX11_told 44 = .ok (.aload_n 0, 1) := by decide +kernel
theorem dX11_told_45 : decode cX11_told 45 = .ok (.getfield 15, 3) := by decide +kernel
theorem dX11_told_48 : decode cX11_told 48 = .ok (.getfield 260, 3) := by decide +kernel
theorem dX11_told_51 : decode cX11_told 51 = .ok (.ireturn, 1) := by decide +kernel
theorem dX11_told_52 : decode cX11_told 52 = .ok (.aload_n 0, 1) := by decide +kernel
theorem dX11_told_53 : decode cX11_told 53 = .ok (.getfield 47, 3) := by decide +kernel
theorem dX11_told_56 : decode cX11_told 56 = .ok (.getfield 150, 3) := by decide +kernel
theorem dX11_told_59 : decode cX11_told 59 = .ok (.ireturn, 1) := by decide +kernel
theorem dX11_told_60 : decode cX11_told 60 = .ok (.aload_n 0, 1) := by decide +kernel
theorem dX11_told_61 : decode cX11_told 61 = .ok (.getfield 29, 3) := by decide +kernel
theorem dX11_told_64 : decode cX11_told 64 = .ok (.getfield 250, 3) := by decide +kernel
theorem dX11_told_67 : decode cX11_told 67 = .ok (.ireturn, 1) := by decide +kernel
theorem dX11_told_68 : decode cX11_told 68 = .ok (.aload_n 0, 1) := by decide +kernel
theorem dX11_told_69 : decode cX11_told 69 = .ok (.getfield 70, 3) := by decide +kernel
theorem dX11_told_72 : decode cX11_told 72 = .ok (.getfield 203, 3) := by decide +kernel
theorem dX11_told_75 : decode cX11_told 75 = .ok (.ireturn, 1) := by decide +kernel
theorem dX11_told_76 : decode cX11_told 76 = .ok (.aload_n 0, 1) := by decide +kernel
theorem dX11_told_77 : decode cX11_told 77 = .ok (.getfield 70, 3) := by decide +kernel
theorem dX11_told_80 : decode cX11_told 80 = .ok (.getfield 261, 3) := by decide +kernel
theorem dX11_told_83 : decode cX11_told 83 = .ok (.ireturn, 1) := by decide +kernel
theorem dX11_told_84 : decode cX11_told 84 = .ok (.aload_n 0, 1) := by decide +kernel
theorem dX11_told_85 : decode cX11_told 85 = .ok (.getfield 70, 3) := by decide +kernel
theorem dX11_told_88 : decode cX11_told 88 = .ok (.getfield 264, 3) := by decide +kernel
theorem dX11_told_91 : decode cX11_told 91 = .ok (.ireturn, 1) := by decide +kernel
theorem dX11_told_92 : decode cX11_told 92 = .ok (.aload_n 0, 1) := by decide +kernel
theorem dX11_told_93 : decode cX11_told 93 = .ok (.getfield 47, 3) := by decide +kernel
theorem dX11_told_96 : decode cX11_told 96 = .ok (.invokevirtual 267, 3) := by decide +kernel
theorem dX11_told_99 : decode cX11_told 99 = .ok (.ireturn, 1) := by decide +kernel
theorem dX11_told_100 : decode cX11_told 100 = .ok (.ldc 102, 2) := by decide +kernel
theorem dX11_told_102 : decode cX11_told 102 = .ok (.ireturn, 1) := by decide +kernel
theorem dX11_isWithin_0 : decode cX11_isWithin 0 = .ok (.iload_n 0, 1) := by decide +kernel
theorem dX11_isWithin_1 : decode cX11_isWithin 1 = .ok (.iload_n 1, 1) := by decide +kernel
theorem dX11_isWithin_2 : decode cX11_isWithin 2 = .ok (.if_icmp .lt 12, 3) := by decide +kernel
theorem dX11_isWithin_5 : decode cX11_isWithin 5 = .ok (.iload_n 0, 1) := by decide +kernel
theorem dX11_isWithin_6 : decode cX11_isWithin 6 = .ok (.iload_n 2, 1) := by decide +kernel
theorem dX11_isWithin_7 : decode cX11_isWithin 7 = .ok (.if_icmp .gt 7, 3) := by decide +kernel
theorem dX11_isWithin_10 : decode cX11_isWithin 10 = .ok (.iconst 1, 1) := by decide +kernel
theorem dX11_isWithin_11 : decode cX11_isWithin 11 = .ok (.goto 4, 3) := by decide +kernel
theorem dX11_isWithin_14 : decode cX11_isWithin 14 = .ok (.iconst 0, 1) := by decide +kernel
theorem dX11_isWithin_15 : decode cX11_isWithin 15 = .ok (.ireturn, 1) := by decide +kernel
theorem dX11_isThing_0 : decode cX11_isThing 0 = .ok (.iload_n 0, 1) := by decide +kernel
theorem dX11_isThing_1 : decode cX11_isThing 1 = .ok (.iconst 0, 1) := by decide +kernel
theorem dX11_isThing_2 : decode cX11_isThing 2 = .ok (.iconst 3, 1) := by decide +kernel
theorem dX11_isThing_3 : decode cX11_isThing 3 = .ok (.invokestatic 94, 3) := by decide +kernel
theorem dX11_isThing_6 : decode cX11_isThing 6 = .ok (.ireturn, 1) := by decide +kernel
theorem dX11_isMakeUp_0 : decode cX11_isMakeUp 0 = .ok (.iload_n 0, 1) := by decide +kernel
theorem dX11_isMakeUp_1 : decode cX11_isMakeUp 1 = .ok (.ifCond .lt 37, 3) := by decide +kernel
theorem dX11_isMakeUp_4 : decode cX11_isMakeUp 4 = .ok (.iload_n 1, 1) := by decide +kernel
theorem dX11_isMakeUp_5 : decode cX11_isMakeUp 5 = .ok (.ifCond .lt 33, 3) := by decide +kernel
theorem dX11_isMakeUp_8 : decode cX11_isMakeUp 8 = .ok (.iload_n 2, 1) := by decide +kernel
theorem dX11_isMakeUp_9 : decode cX11_isMakeUp 9 = .ok (.ifCond .lt 29, 3) := by decide +kernel
theorem dX11_isMakeUp_12 : decode cX11_isMakeUp 12 = .ok (.iload_n 3, 1) := by decide +kernel
theorem dX11_isMakeUp_13 : decode cX11_isMakeUp 13 = .ok (.ifCond .lt 25, 3) := by decide +kernel
theorem dX11_isMakeUp_16 : decode cX11_isMakeUp 16 = .ok (.iload_n 0, 1) := by decide +kernel
theorem dX11_isMakeUp_17 : decode cX11_isMakeUp 17 = .ok (.i2l, 1) := by decide +kernel
theorem dX11_isMakeUp_18 : decode cX11_isMakeUp 18 = .ok (.iload_n 1, 1) := by decide +kernel
theorem dX11_isMakeUp_19 : decode cX11_isMakeUp 19 = .ok (.i2l, 1) := by decide +kernel
theorem dX11_isMakeUp_20 : decode cX11_isMakeUp 20 = .ok (.ladd, 1) := by decide +kernel
theorem dX11_isMakeUp_21 : decode cX11_isMakeUp 21 = .ok (.iload_n 2, 1) := by decide +kernel
theorem dX11_isMakeUp_22 : decode cX11_isMakeUp 22 = .ok (.i2l, 1) := by decide +kernel
theorem dX11_isMakeUp_23 : decode cX11_isMakeUp 23 = .ok (.ladd, 1) := by decide +kernel
theorem dX11_isMakeUp_24 : decode cX11_isMakeUp 24 = .ok (.iload_n 3, 1) := by decide +kernel
theorem dX11_isMakeUp_25 : decode cX11_isMakeUp 25 = .ok (.i2l, 1) := by decide +kernel
theorem dX11_isMakeUp_26 : decode cX11_isMakeUp 26 = .ok (.ladd, 1) := by decide +kernel
theorem dX11_isMakeUp_27 : decode cX11_isMakeUp 27 = .ok (.ldc2_w 270, 3) := by decide +kernel
theorem dX11_isMakeUp_30 : decode cX11_isMakeUp 30 = .ok (.lcmp, 1) := by decide +kernel
theorem dX11_isMakeUp_31 : decode cX11_isMakeUp 31 = .ok (.ifCond .ne 7, 3) := by decide +kernel
theorem dX11_isMakeUp_34 : decode cX11_isMakeUp 34 = .ok (.iconst 1, 1) := by decide +kernel
theorem dX11_isMakeUp_35 : decode cX11_isMakeUp 35 = .ok (.goto 4, 3) := by decide +kernel
theorem dX11_isMakeUp_38 : decode cX11_isMakeUp 38 = .ok (.iconst 0, 1) := by decide +kernel
theorem dX11_isMakeUp_39 : decode cX11_isMakeUp 39 = .ok (.ireturn, 1) := by decide +kernel
theorem dX11_mostDoubt_0 : decode cX11_mostDoubt 0 = .ok (.iload_n 0, 1) := by decide +kernel
theorem dX11_mostDoubt_1 : decode cX11_mostDoubt 1 = .ok (.ifCond .eq 8, 3) := by decide +kernel
theorem dX11_mostDoubt_4 : decode cX11_mostDoubt 4 = .ok (.iload_n 0, 1) := by decide +kernel
theorem dX11_mostDoubt_5 : decode cX11_mostDoubt 5 = .ok (.iconst 2, 1) := by decide +kernel
theorem dX11_mostDoubt_6 : decode cX11_mostDoubt 6 = .ok (.if_icmp .ne 7, 3) := by decide +kernel
theorem dX11_mostDoubt_9 : decode cX11_mostDoubt 9 = .ok (.iconst 0, 1) := by decide +kernel
theorem dX11_mostDoubt_10 : decode cX11_mostDoubt 10 = .ok (.goto 5, 3) := by decide +kernel
theorem dX11_mostDoubt_13 : decode cX11_mostDoubt 13 = .ok (.bipush 100, 2) := by decide +kernel
theorem dX11_mostDoubt_15 : decode cX11_mostDoubt 15 = .ok (.ireturn, 1) := by decide +kernel
theorem dX11_sumOf_0 : decode cX11_sumOf 0 = .ok (.iconst 0, 1) := by decide +kernel
theorem dX11_sumOf_1 : decode cX11_sumOf 1 = .ok (.istore_n 1, 1) := by decide +kernel
theorem dX11_sumOf_2 : decode cX11_sumOf 2 = .ok (.aload_n 0, 1) := by decide +kernel
theorem dX11_sumOf_3 : decode cX11_sumOf 3 = .ok (.astore_n 2, 1) := by decide +kernel
theorem dX11_sumOf_4 : decode cX11_sumOf 4 = .ok (.aload_n 2, 1) := by decide +kernel
theorem dX11_sumOf_5 : decode cX11_sumOf 5 = .ok (.arraylength, 1) := by decide +kernel
theorem dX11_sumOf_6 : decode cX11_sumOf 6 = .ok (.istore_n 3, 1) := by decide +kernel
theorem dX11_sumOf_7 : decode cX11_sumOf 7 = .ok (.iconst 0, 1) := by decide +kernel
theorem dX11_sumOf_8 : decode cX11_sumOf 8 = .ok (.istore 4, 2) := by decide +kernel
theorem dX11_sumOf_10 : decode cX11_sumOf 10 = .ok (.iload 4, 2) := by decide +kernel
theorem dX11_sumOf_12 : decode cX11_sumOf 12 = .ok (.iload_n 3, 1) := by decide +kernel
theorem dX11_sumOf_13 : decode cX11_sumOf 13 = .ok (.if_icmp .ge 20, 3) := by decide +kernel
theorem dX11_sumOf_16 : decode cX11_sumOf 16 = .ok (.aload_n 2, 1) := by decide +kernel
theorem dX11_sumOf_17 : decode cX11_sumOf 17 = .ok (.iload 4, 2) := by decide +kernel
theorem dX11_sumOf_19 : decode cX11_sumOf 19 = .ok (.iaload, 1) := by decide +kernel
theorem dX11_sumOf_20 : decode cX11_sumOf 20 = .ok (.istore 5, 2) := by decide +kernel
theorem dX11_sumOf_22 : decode cX11_sumOf 22 = .ok (.iload_n 1, 1) := by decide +kernel
theorem dX11_sumOf_23 : decode cX11_sumOf 23 = .ok (.iload 5, 2) := by decide +kernel
theorem dX11_sumOf_25 : decode cX11_sumOf 25 = .ok (.iadd, 1) := by decide +kernel
theorem dX11_sumOf_26 : decode cX11_sumOf 26 = .ok (.istore_n 1, 1) := by decide +kernel
theorem dX11_sumOf_27 : decode cX11_sumOf 27 = .ok (.iinc 4 1, 3) := by decide +kernel
theorem dX11_sumOf_30 : decode cX11_sumOf 30 = .ok (.goto (-20), 3) := by decide +kernel
theorem dX11_sumOf_33 : decode cX11_sumOf 33 = .ok (.iload_n 1, 1) := by decide +kernel
theorem dX11_sumOf_34 : decode cX11_sumOf 34 = .ok (.ireturn, 1) := by decide +kernel
theorem dX11_canRun_0 : decode cX11_canRun 0 = .ok (.aload_n 0, 1) := by decide +kernel
theorem dX11_canRun_1 : decode cX11_canRun 1 = .ok (.getfield 47, 3) := by decide +kernel
theorem dX11_canRun_4 : decode cX11_canRun 4 = .ok (.getfield 156, 3) := by decide +kernel
theorem dX11_canRun_7 : decode cX11_canRun 7 = .ok (.ifCond .eq 17, 3) := by decide +kernel
theorem dX11_canRun_10 : decode cX11_canRun 10 = .ok (.aload_n 0, 1) := by decide +kernel
theorem dX11_canRun_11 : decode cX11_canRun 11 = .ok (.getfield 22, 3) := by decide +kernel
theorem dX11_canRun_14 : decode cX11_canRun 14 = .ok (.getfield 185, 3) := by decide +kernel
theorem dX11_canRun_17 : decode cX11_canRun 17 = .ok (.ifCond .eq 7, 3) := by decide +kernel
theorem dX11_canRun_20 : decode cX11_canRun 20 = .ok (.iconst 1, 1) := by decide +kernel
theorem dX11_canRun_21 : decode cX11_canRun 21 = .ok (.goto 4, 3) := by decide +kernel
theorem dX11_canRun_24 : decode cX11_canRun 24 = .ok (.iconst 0, 1) := by decide +kernel
theorem dX11_canRun_25 : decode cX11_canRun 25 = .ok (.ireturn, 1) := by decide +kernel
theorem dX11_passHour_0 : decode cX11_passHour 0 = .ok (.aload_n 0, 1) := by decide +kernel
theorem dX11_passHour_1 : decode cX11_passHour 1 = .ok (.getfield 15, 3) := by decide +kernel
theorem dX11_passHour_4 : decode cX11_passHour 4 = .ok (.aload_n 0, 1) := by decide +kernel
theorem dX11_passHour_5 : decode cX11_passHour 5 = .ok (.getfield 56, 3) := by decide +kernel
theorem dX11_passHour_8 : decode cX11_passHour 8 = .ok (.getfield 210, 3) := by decide +kernel
theorem dX11_passHour_11 : decode cX11_passHour 11 = .ok (.invokevirtual 272, 3) := by decide +kernel
theorem dX11_passHour_14 : decode cX11_passHour 14 = .ok (.aload_n 0, 1) := by decide +kernel
theorem dX11_passHour_15 : decode cX11_passHour 15 = .ok (.getfield 47, 3) := by decide +kernel
theorem dX11_passHour_18 : decode cX11_passHour 18 = .ok (.aload_n 0, 1) := by decide +kernel
theorem dX11_passHour_19 : decode cX11_passHour 19 = .ok (.getfield 56, 3) := by decide +kernel
theorem dX11_passHour_22 : decode cX11_passHour 22 = .ok (.invokevirtual 275, 3) := by decide +kernel
theorem dX11_passHour_25 : decode cX11_passHour 25 = .ok (.aload_n 0, 1) := by decide +kernel
theorem dX11_passHour_26 : decode cX11_passHour 26 = .ok (.getfield 63, 3) := by decide +kernel
theorem dX11_passHour_29 : decode cX11_passHour 29 = .ok (.aload_n 0, 1) := by decide +kernel
theorem dX11_passHour_30 : decode cX11_passHour 30 = .ok (.getfield 47, 3) := by decide +kernel
theorem dX11_passHour_33 : decode cX11_passHour 33 = .ok (.invokevirtual 279, 3) := by decide +kernel
theorem dX11_passHour_36 : decode cX11_passHour 36 = .ok (.aload_n 0, 1) := by decide +kernel
theorem dX11_passHour_37 : decode cX11_passHour 37 = .ok (.getfield 29, 3) := by decide +kernel
theorem dX11_passHour_40 : decode cX11_passHour 40 = .ok (.aload_n 0, 1) := by decide +kernel
theorem dX11_passHour_41 : decode cX11_passHour 41 = .ok (.getfield 63, 3) := by decide +kernel
theorem dX11_passHour_44 : decode cX11_passHour 44 = .ok (.invokevirtual 283, 3) := by decide +kernel
theorem dX11_passHour_47 : decode cX11_passHour 47 = .ok (.istore_n 1, 1) := by decide +kernel
theorem dX11_passHour_48 : decode cX11_passHour 48 = .ok (.aload_n 0, 1) := by decide +kernel
theorem dX11_passHour_49 : decode cX11_passHour 49 = .ok (.getfield 90, 3) := by decide +kernel
theorem dX11_passHour_52 : decode cX11_passHour 52 = .ok (.iconst (-1), 1) := by decide +kernel
theorem dX11_passHour_53 : decode cX11_passHour 53 = .ok (.if_icmp .eq 11, 3) := by decide +kernel
theorem dX11_passHour_56 : decode cX11_passHour 56 = .ok (.iload_n 1, 1) := by decide +kernel
theorem dX11_passHour_57 : decode cX11_passHour 57 = .ok (.aload_n 0, 1) := by decide +kernel
theorem dX11_passHour_58 : decode cX11_passHour 58 = .ok (.getfield 90, 3) := by decide +kernel
theorem dX11_passHour_61 : decode cX11_passHour 61 = .ok (.if_icmp .eq 7, 3) := by decide +kernel
theorem dX11_passHour_64 : decode cX11_passHour 64 = .ok (.iconst 1, 1) := by decide +kernel
theorem dX11_passHour_65 : decode cX11_passHour 65 = .ok (.goto 4, 3) := by decide +kernel
theorem dX11_passHour_68 : decode cX11_passHour 68 = .ok (.iconst 0, 1) := by decide +kernel
theorem dX11_passHour_69 : decode cX11_passHour 69 = .ok (.istore_n 2, 1) := by decide +kernel
theorem dX11_passHour_70 : decode cX11_passHour 70 = .ok (.aload_n 0, 1) := by decide +kernel
theorem dX11_passHour_71 : decode cX11_passHour 71 = .ok (.getfield 70, 3) := by decide +kernel
theorem dX11_passHour_74 : decode cX11_passHour 74 = .ok (.aload_n 0, 1) := by decide +kernel
theorem dX11_passHour_75 : decode cX11_passHour 75 = .ok (.getfield 63, 3) := by decide +kernel
theorem dX11_passHour_78 : decode cX11_passHour 78 = .ok (.iload_n 1, 1) := by decide +kernel
theorem dX11_passHour_79 : decode cX11_passHour 79 = .ok (.iload_n 2, 1) := by decide +kernel
theorem dX11_passHour_80 : decode cX11_passHour 80 = .ok (.invokevirtual 287, 3) := by decide +kernel
theorem dX11_passHour_83 : decode cX11_passHour 83 = .ok (.iload_n 2, 1) := by decide +kernel
theorem dX11_passHour_84 : decode cX11_passHour 84 = .ok (.ifCond .eq 17, 3) := by decide +kernel
theorem dX11_passHour_87 : decode cX11_passHour 87 = .ok (.aload_n 0, 1) := by decide +kernel
theorem dX11_passHour_88 : decode cX11_passHour 88 = .ok (.getfield 15, 3) := by decide +kernel
theorem dX11_passHour_91 : decode cX11_passHour 91 = .ok (.aload_n 0, 1) := by decide +kernel
theorem dX11_passHour_92 : decode cX11_passHour 92 = .ok (.getfield 63, 3) := by decide +kernel
theorem dX11_passHour_95 : decode cX11_passHour 95 = .ok (.getfield 290, 3) := by decide +kernel
theorem dX11_passHour_98 : decode cX11_passHour 98 = .ok (.invokevirtual 292, 3) := by decide +kernel
theorem dX11_passHour_101 : decode cX11_passHour 101 = .ok (.return_, 1) := by decide +kernel
theorem dJ9_max_7cf53_0 : decode cJ9_max_7cf53 0 = .ok (.iload_n 0, 1) := by decide +kernel
theorem dJ9_max_7cf53_1 : decode cJ9_max_7cf53 1 = .ok (.iload_n 1, 1) := by decide +kernel
theorem dJ9_max_7cf53_2 : decode cJ9_max_7cf53 2 = .ok (.if_icmp .lt 7, 3) := by decide +kernel
theorem dJ9_max_7cf53_5 : decode cJ9_max_7cf53 5 = .ok (.iload_n 0, 1) := by decide +kernel
theorem dJ9_max_7cf53_6 : decode cJ9_max_7cf53 6 = .ok (.goto 4, 3) := by decide +kernel
theorem dJ9_max_7cf53_9 : decode cJ9_max_7cf53 9 = .ok (.iload_n 1, 1) := by decide +kernel
theorem dJ9_max_7cf53_10 : decode cJ9_max_7cf53 10 = .ok (.ireturn, 1) := by decide +kernel
theorem dJ9_min_7cf53_0 : decode cJ9_min_7cf53 0 = .ok (.iload_n 0, 1) := by decide +kernel
theorem dJ9_min_7cf53_1 : decode cJ9_min_7cf53 1 = .ok (.iload_n 1, 1) := by decide +kernel
theorem dJ9_min_7cf53_2 : decode cJ9_min_7cf53 2 = .ok (.if_icmp .gt 7, 3) := by decide +kernel
theorem dJ9_min_7cf53_5 : decode cJ9_min_7cf53 5 = .ok (.iload_n 0, 1) := by decide +kernel
theorem dJ9_min_7cf53_6 : decode cJ9_min_7cf53 6 = .ok (.goto 4, 3) := by decide +kernel
theorem dJ9_min_7cf53_9 : decode cJ9_min_7cf53 9 = .ok (.iload_n 1, 1) := by decide +kernel
theorem dJ9_min_7cf53_10 : decode cJ9_min_7cf53 10 = .ok (.ireturn, 1) := by decide +kernel
