/-! ===== constructors: contracts ===== -/
theorem dc_J7_fill_0 : decode cJ7_fill_53178 0 = .ok (.iconst 0, 1) := by decide +kernel
theorem dc_J7_fill_1 : decode cJ7_fill_53178 1 = .ok (.istore_n 2, 1) := by decide +kernel
theorem dc_J7_fill_2 : decode cJ7_fill_53178 2 = .ok (.aload_n 0, 1) := by decide +kernel
theorem dc_J7_fill_3 : decode cJ7_fill_53178 3 = .ok (.arraylength, 1) := by decide +kernel
theorem dc_J7_fill_4 : decode cJ7_fill_53178 4 = .ok (.istore_n 3, 1) := by decide +kernel
theorem dc_J7_fill_5 : decode cJ7_fill_53178 5 = .ok (.iload_n 2, 1) := by decide +kernel
theorem dc_J7_fill_6 : decode cJ7_fill_53178 6 = .ok (.iload_n 3, 1) := by decide +kernel
theorem dc_J7_fill_7 : decode cJ7_fill_53178 7 = .ok (.if_icmp .ge 13, 3) := by decide +kernel
theorem dc_J7_fill_10 : decode cJ7_fill_53178 10 = .ok (.aload_n 0, 1) := by decide +kernel
theorem dc_J7_fill_11 : decode cJ7_fill_53178 11 = .ok (.iload_n 2, 1) := by decide +kernel
theorem dc_J7_fill_12 : decode cJ7_fill_53178 12 = .ok (.iload_n 1, 1) := by decide +kernel
theorem dc_J7_fill_13 : decode cJ7_fill_53178 13 = .ok (.iastore, 1) := by decide +kernel
theorem dc_J7_fill_14 : decode cJ7_fill_53178 14 = .ok (.iinc 2 1, 3) := by decide +kernel
theorem dc_J7_fill_17 : decode cJ7_fill_53178 17 = .ok (.goto (-12), 3) := by decide +kernel
theorem dc_J7_fill_20 : decode cJ7_fill_53178 20 = .ok (.return_, 1) := by decide +kernel
theorem dc_X0_forgetAll_0 : decode cX0_forgetAll 0 = .ok (.aload_n 0, 1) := by decide +kernel
theorem dc_X0_forgetAll_1 : decode cX0_forgetAll 1 = .ok (.iload_n 1, 1) := by decide +kernel
theorem dc_X0_forgetAll_2 : decode cX0_forgetAll 2 = .ok (.putfield 65, 3) := by decide +kernel
theorem dc_X0_forgetAll_5 : decode cX0_forgetAll 5 = .ok (.aload_n 0, 1) := by decide +kernel
theorem dc_X0_forgetAll_6 : decode cX0_forgetAll 6 = .ok (.getfield 9, 3) := by decide +kernel
theorem dc_X0_forgetAll_9 : decode cX0_forgetAll 9 = .ok (.iconst (-1), 1) := by decide +kernel
theorem dc_X0_forgetAll_10 : decode cX0_forgetAll 10 = .ok (.invokestatic 66, 3) := by decide +kernel
theorem dc_X0_forgetAll_13 : decode cX0_forgetAll 13 = .ok (.aload_n 0, 1) := by decide +kernel
theorem dc_X0_forgetAll_14 : decode cX0_forgetAll 14 = .ok (.getfield 15, 3) := by decide +kernel
theorem dc_X0_forgetAll_17 : decode cX0_forgetAll 17 = .ok (.iconst (-1), 1) := by decide +kernel
theorem dc_X0_forgetAll_18 : decode cX0_forgetAll 18 = .ok (.invokestatic 66, 3) := by decide +kernel
theorem dc_X0_forgetAll_21 : decode cX0_forgetAll 21 = .ok (.aload_n 0, 1) := by decide +kernel
theorem dc_X0_forgetAll_22 : decode cX0_forgetAll 22 = .ok (.getfield 18, 3) := by decide +kernel
theorem dc_X0_forgetAll_25 : decode cX0_forgetAll 25 = .ok (.iconst 0, 1) := by decide +kernel
theorem dc_X0_forgetAll_26 : decode cX0_forgetAll 26 = .ok (.invokestatic 66, 3) := by decide +kernel
theorem dc_X0_forgetAll_29 : decode cX0_forgetAll 29 = .ok (.aload_n 0, 1) := by decide +kernel
theorem dc_X0_forgetAll_30 : decode cX0_forgetAll 30 = .ok (.getfield 21, 3) := by decide +kernel
theorem dc_X0_forgetAll_33 : decode cX0_forgetAll 33 = .ok (.iconst 0, 1) := by decide +kernel
theorem dc_X0_forgetAll_34 : decode cX0_forgetAll 34 = .ok (.invokestatic 66, 3) := by decide +kernel
theorem dc_X0_forgetAll_37 : decode cX0_forgetAll 37 = .ok (.aload_n 0, 1) := by decide +kernel
theorem dc_X0_forgetAll_38 : decode cX0_forgetAll 38 = .ok (.getfield 24, 3) := by decide +kernel
theorem dc_X0_forgetAll_41 : decode cX0_forgetAll 41 = .ok (.iconst 0, 1) := by decide +kernel
theorem dc_X0_forgetAll_42 : decode cX0_forgetAll 42 = .ok (.invokestatic 66, 3) := by decide +kernel
theorem dc_X0_forgetAll_45 : decode cX0_forgetAll 45 = .ok (.aload_n 0, 1) := by decide +kernel
theorem dc_X0_forgetAll_46 : decode cX0_forgetAll 46 = .ok (.getfield 27, 3) := by decide +kernel
theorem dc_X0_forgetAll_49 : decode cX0_forgetAll 49 = .ok (.iconst (-1), 1) := by decide +kernel
theorem dc_X0_forgetAll_50 : decode cX0_forgetAll 50 = .ok (.invokestatic 66, 3) := by decide +kernel
theorem dc_X0_forgetAll_53 : decode cX0_forgetAll 53 = .ok (.aload_n 0, 1) := by decide +kernel
theorem dc_X0_forgetAll_54 : decode cX0_forgetAll 54 = .ok (.getfield 30, 3) := by decide +kernel
theorem dc_X0_forgetAll_57 : decode cX0_forgetAll 57 = .ok (.iconst 0, 1) := by decide +kernel
theorem dc_X0_forgetAll_58 : decode cX0_forgetAll 58 = .ok (.invokestatic 66, 3) := by decide +kernel
theorem dc_X0_forgetAll_61 : decode cX0_forgetAll 61 = .ok (.aload_n 0, 1) := by decide +kernel
theorem dc_X0_forgetAll_62 : decode cX0_forgetAll 62 = .ok (.getfield 33, 3) := by decide +kernel
theorem dc_X0_forgetAll_65 : decode cX0_forgetAll 65 = .ok (.iconst (-1), 1) := by decide +kernel
theorem dc_X0_forgetAll_66 : decode cX0_forgetAll 66 = .ok (.invokestatic 66, 3) := by decide +kernel
theorem dc_X0_forgetAll_69 : decode cX0_forgetAll 69 = .ok (.aload_n 0, 1) := by decide +kernel
theorem dc_X0_forgetAll_70 : decode cX0_forgetAll 70 = .ok (.getfield 36, 3) := by decide +kernel
theorem dc_X0_forgetAll_73 : decode cX0_forgetAll 73 = .ok (.iconst 0, 1) := by decide +kernel
theorem dc_X0_forgetAll_74 : decode cX0_forgetAll 74 = .ok (.invokestatic 66, 3) := by decide +kernel
theorem dc_X0_forgetAll_77 : decode cX0_forgetAll 77 = .ok (.return_, 1) := by decide +kernel
theorem dc_X0_init_0 : decode cX0_init 0 = .ok (.aload_n 0, 1) := by decide +kernel
theorem dc_X0_init_1 : decode cX0_init 1 = .ok (.invokespecial 3, 3) := by decide +kernel
theorem dc_X0_init_4 : decode cX0_init 4 = .ok (.aload_n 0, 1) := by decide +kernel
theorem dc_X0_init_5 : decode cX0_init 5 = .ok (.bipush 10, 2) := by decide +kernel
theorem dc_X0_init_7 : decode cX0_init 7 = .ok (.newarray .int, 2) := by decide +kernel
theorem dc_X0_init_9 : decode cX0_init 9 = .ok (.putfield 9, 3) := by decide +kernel
theorem dc_X0_init_12 : decode cX0_init 12 = .ok (.aload_n 0, 1) := by decide +kernel
theorem dc_X0_init_13 : decode cX0_init 13 = .ok (.bipush 10, 2) := by decide +kernel
theorem dc_X0_init_15 : decode cX0_init 15 = .ok (.newarray .int, 2) := by decide +kernel
theorem dc_X0_init_17 : decode cX0_init 17 = .ok (.putfield 15, 3) := by decide +kernel
theorem dc_X0_init_20 : decode cX0_init 20 = .ok (.aload_n 0, 1) := by decide +kernel
theorem dc_X0_init_21 : decode cX0_init 21 = .ok (.bipush 10, 2) := by decide +kernel
theorem dc_X0_init_23 : decode cX0_init 23 = .ok (.newarray .int, 2) := by decide +kernel
theorem dc_X0_init_25 : decode cX0_init 25 = .ok (.putfield 18, 3) := by decide +kernel
theorem dc_X0_init_28 : decode cX0_init 28 = .ok (.aload_n 0, 1) := by decide +kernel
theorem dc_X0_init_29 : decode cX0_init 29 = .ok (.bipush 6, 2) := by decide +kernel
theorem dc_X0_init_31 : decode cX0_init 31 = .ok (.newarray .int, 2) := by decide +kernel
theorem dc_X0_init_33 : decode cX0_init 33 = .ok (.putfield 21, 3) := by decide +kernel
theorem dc_X0_init_36 : decode cX0_init 36 = .ok (.aload_n 0, 1) := by decide +kernel
theorem dc_X0_init_37 : decode cX0_init 37 = .ok (.bipush 6, 2) := by decide +kernel
theorem dc_X0_init_39 : decode cX0_init 39 = .ok (.newarray .int, 2) := by decide +kernel
theorem dc_X0_init_41 : decode cX0_init 41 = .ok (.putfield 24, 3) := by decide +kernel
theorem dc_X0_init_44 : decode cX0_init 44 = .ok (.aload_n 0, 1) := by decide +kernel
theorem dc_X0_init_45 : decode cX0_init 45 = .ok (.bipush 6, 2) := by decide +kernel
theorem dc_X0_init_47 : decode cX0_init 47 = .ok (.newarray .int, 2) := by decide +kernel
theorem dc_X0_init_49 : decode cX0_init 49 = .ok (.putfield 27, 3) := by decide +kernel
theorem dc_X0_init_52 : decode cX0_init 52 = .ok (.aload_n 0, 1) := by decide +kernel
theorem dc_X0_init_53 : decode cX0_init 53 = .ok (.bipush 6, 2) := by decide +kernel
theorem dc_X0_init_55 : decode cX0_init 55 = .ok (.newarray .int, 2) := by decide +kernel
theorem dc_X0_init_57 : decode cX0_init 57 = .ok (.putfield 30, 3) := by decide +kernel
theorem dc_X0_init_60 : decode cX0_init 60 = .ok (.aload_n 0, 1) := by decide +kernel
theorem dc_X0_init_61 : decode cX0_init 61 = .ok (.bipush 17, 2) := by decide +kernel
theorem dc_X0_init_63 : decode cX0_init 63 = .ok (.newarray .int, 2) := by decide +kernel
theorem dc_X0_init_65 : decode cX0_init 65 = .ok (.putfield 33, 3) := by decide +kernel
theorem dc_X0_init_68 : decode cX0_init 68 = .ok (.aload_n 0, 1) := by decide +kernel
theorem dc_X0_init_69 : decode cX0_init 69 = .ok (.bipush 17, 2) := by decide +kernel
theorem dc_X0_init_71 : decode cX0_init 71 = .ok (.newarray .int, 2) := by decide +kernel
theorem dc_X0_init_73 : decode cX0_init 73 = .ok (.putfield 36, 3) := by decide +kernel
theorem dc_X0_init_76 : decode cX0_init 76 = .ok (.aload_n 0, 1) := by decide +kernel
theorem dc_X0_init_77 : decode cX0_init 77 = .ok (.iconst 0, 1) := by decide +kernel
theorem dc_X0_init_78 : decode cX0_init 78 = .ok (.invokevirtual 39, 3) := by decide +kernel
theorem dc_X0_init_81 : decode cX0_init 81 = .ok (.return_, 1) := by decide +kernel
theorem dc_X1_init_0 : decode cX1_init 0 = .ok (.aload_n 0, 1) := by decide +kernel
theorem dc_X1_init_1 : decode cX1_init 1 = .ok (.invokespecial 3, 3) := by decide +kernel
theorem dc_X1_init_4 : decode cX1_init 4 = .ok (.aload_n 0, 1) := by decide +kernel
theorem dc_X1_init_5 : decode cX1_init 5 = .ok (.bipush 10, 2) := by decide +kernel
theorem dc_X1_init_7 : decode cX1_init 7 = .ok (.newarray .int, 2) := by decide +kernel
theorem dc_X1_init_9 : decode cX1_init 9 = .ok (.putfield 9, 3) := by decide +kernel
theorem dc_X1_init_12 : decode cX1_init 12 = .ok (.aload_n 0, 1) := by decide +kernel
theorem dc_X1_init_13 : decode cX1_init 13 = .ok (.bipush 10, 2) := by decide +kernel
theorem dc_X1_init_15 : decode cX1_init 15 = .ok (.newarray .int, 2) := by decide +kernel
theorem dc_X1_init_17 : decode cX1_init 17 = .ok (.putfield 15, 3) := by decide +kernel
theorem dc_X1_init_20 : decode cX1_init 20 = .ok (.aload_n 0, 1) := by decide +kernel
theorem dc_X1_init_21 : decode cX1_init 21 = .ok (.bipush 6, 2) := by decide +kernel
theorem dc_X1_init_23 : decode cX1_init 23 = .ok (.newarray .int, 2) := by decide +kernel
theorem dc_X1_init_25 : decode cX1_init 25 = .ok (.putfield 18, 3) := by decide +kernel
theorem dc_X1_init_28 : decode cX1_init 28 = .ok (.aload_n 0, 1) := by decide +kernel
theorem dc_X1_init_29 : decode cX1_init 29 = .ok (.bipush 6, 2) := by decide +kernel
theorem dc_X1_init_31 : decode cX1_init 31 = .ok (.newarray .int, 2) := by decide +kernel
theorem dc_X1_init_33 : decode cX1_init 33 = .ok (.putfield 21, 3) := by decide +kernel
theorem dc_X1_init_36 : decode cX1_init 36 = .ok (.aload_n 0, 1) := by decide +kernel
theorem dc_X1_init_37 : decode cX1_init 37 = .ok (.bipush 17, 2) := by decide +kernel
theorem dc_X1_init_39 : decode cX1_init 39 = .ok (.newarray .int, 2) := by decide +kernel
theorem dc_X1_init_41 : decode cX1_init 41 = .ok (.putfield 24, 3) := by decide +kernel
theorem dc_X1_init_44 : decode cX1_init 44 = .ok (.aload_n 0, 1) := by decide +kernel
theorem dc_X1_init_45 : decode cX1_init 45 = .ok (.bipush 17, 2) := by decide +kernel
theorem dc_X1_init_47 : decode cX1_init 47 = .ok (.newarray .int, 2) := by decide +kernel
theorem dc_X1_init_49 : decode cX1_init 49 = .ok (.putfield 27, 3) := by decide +kernel
theorem dc_X1_init_52 : decode cX1_init 52 = .ok (.aload_n 0, 1) := by decide +kernel
theorem dc_X1_init_53 : decode cX1_init 53 = .ok (.bipush 8, 2) := by decide +kernel
theorem dc_X1_init_55 : decode cX1_init 55 = .ok (.newarray .int, 2) := by decide +kernel
theorem dc_X1_init_57 : decode cX1_init 57 = .ok (.putfield 30, 3) := by decide +kernel
theorem dc_X1_init_60 : decode cX1_init 60 = .ok (.aload_n 0, 1) := by decide +kernel
theorem dc_X1_init_61 : decode cX1_init 61 = .ok (.bipush 8, 2) := by decide +kernel
theorem dc_X1_init_63 : decode cX1_init 63 = .ok (.newarray .int, 2) := by decide +kernel
theorem dc_X1_init_65 : decode cX1_init 65 = .ok (.putfield 33, 3) := by decide +kernel
theorem dc_X1_init_68 : decode cX1_init 68 = .ok (.aload_n 0, 1) := by decide +kernel
theorem dc_X1_init_69 : decode cX1_init 69 = .ok (.bipush 8, 2) := by decide +kernel
theorem dc_X1_init_71 : decode cX1_init 71 = .ok (.newarray .int, 2) := by decide +kernel
theorem dc_X1_init_73 : decode cX1_init 73 = .ok (.putfield 36, 3) := by decide +kernel
theorem dc_X1_init_76 : decode cX1_init 76 = .ok (.aload_n 0, 1) := by decide +kernel
theorem dc_X1_init_77 : decode cX1_init 77 = .ok (.bipush 12, 2) := by decide +kernel
theorem dc_X1_init_79 : decode cX1_init 79 = .ok (.putfield 39, 3) := by decide +kernel
theorem dc_X1_init_82 : decode cX1_init 82 = .ok (.return_, 1) := by decide +kernel
theorem dc_X2_init_0 : decode cX2_init 0 = .ok (.aload_n 0, 1) := by decide +kernel
theorem dc_X2_init_1 : decode cX2_init 1 = .ok (.invokespecial 3, 3) := by decide +kernel
theorem dc_X2_init_4 : decode cX2_init 4 = .ok (.aload_n 0, 1) := by decide +kernel
theorem dc_X2_init_5 : decode cX2_init 5 = .ok (.iconst 1, 1) := by decide +kernel
theorem dc_X2_init_6 : decode cX2_init 6 = .ok (.putfield 9, 3) := by decide +kernel
theorem dc_X2_init_9 : decode cX2_init 9 = .ok (.aload_n 0, 1) := by decide +kernel
theorem dc_X2_init_10 : decode cX2_init 10 = .ok (.bipush 60, 2) := by decide +kernel
theorem dc_X2_init_12 : decode cX2_init 12 = .ok (.newarray .int, 2) := by decide +kernel
theorem dc_X2_init_14 : decode cX2_init 14 = .ok (.putfield 15, 3) := by decide +kernel
theorem dc_X2_init_17 : decode cX2_init 17 = .ok (.return_, 1) := by decide +kernel
theorem dc_X3_init_0 : decode cX3_init 0 = .ok (.aload_n 0, 1) := by decide +kernel
theorem dc_X3_init_1 : decode cX3_init 1 = .ok (.invokespecial 3, 3) := by decide +kernel
theorem dc_X3_init_4 : decode cX3_init 4 = .ok (.aload_n 0, 1) := by decide +kernel
theorem dc_X3_init_5 : decode cX3_init 5 = .ok (.bipush 8, 2) := by decide +kernel
theorem dc_X3_init_7 : decode cX3_init 7 = .ok (.newarray .int, 2) := by decide +kernel
theorem dc_X3_init_9 : decode cX3_init 9 = .ok (.putfield 9, 3) := by decide +kernel
theorem dc_X3_init_12 : decode cX3_init 12 = .ok (.aload_n 0, 1) := by decide +kernel
theorem dc_X3_init_13 : decode cX3_init 13 = .ok (.bipush 8, 2) := by decide +kernel
theorem dc_X3_init_15 : decode cX3_init 15 = .ok (.newarray .int, 2) := by decide +kernel
theorem dc_X3_init_17 : decode cX3_init 17 = .ok (.putfield 15, 3) := by decide +kernel
theorem dc_X3_init_20 : decode cX3_init 20 = .ok (.aload_n 0, 1) := by decide +kernel
theorem dc_X3_init_21 : decode cX3_init 21 = .ok (.bipush 8, 2) := by decide +kernel
theorem dc_X3_init_23 : decode cX3_init 23 = .ok (.newarray .int, 2) := by decide +kernel
theorem dc_X3_init_25 : decode cX3_init 25 = .ok (.putfield 18, 3) := by decide +kernel
theorem dc_X3_init_28 : decode cX3_init 28 = .ok (.return_, 1) := by decide +kernel
theorem dc_X4_init_0 : decode cX4_init 0 = .ok (.aload_n 0, 1) := by decide +kernel
theorem dc_X4_init_1 : decode cX4_init 1 = .ok (.invokespecial 3, 3) := by decide +kernel
theorem dc_X4_init_4 : decode cX4_init 4 = .ok (.aload_n 0, 1) := by decide +kernel
theorem dc_X4_init_5 : decode cX4_init 5 = .ok (.aload_n 1, 1) := by decide +kernel
theorem dc_X4_init_6 : decode cX4_init 6 = .ok (.putfield 9, 3) := by decide +kernel
theorem dc_X4_init_9 : decode cX4_init 9 = .ok (.aload_n 0, 1) := by decide +kernel
theorem dc_X4_init_10 : decode cX4_init 10 = .ok (.iload_n 2, 1) := by decide +kernel
theorem dc_X4_init_11 : decode cX4_init 11 = .ok (.putfield 15, 3) := by decide +kernel
theorem dc_X4_init_14 : decode cX4_init 14 = .ok (.aload_n 0, 1) := by decide +kernel
theorem dc_X4_init_15 : decode cX4_init 15 = .ok (.iconst 3, 1) := by decide +kernel
theorem dc_X4_init_16 : decode cX4_init 16 = .ok (.iload_n 3, 1) := by decide +kernel
theorem dc_X4_init_17 : decode cX4_init 17 = .ok (.imul, 1) := by decide +kernel
theorem dc_X4_init_18 : decode cX4_init 18 = .ok (.iconst 1, 1) := by decide +kernel
theorem dc_X4_init_19 : decode cX4_init 19 = .ok (.isub, 1) := by decide +kernel
theorem dc_X4_init_20 : decode cX4_init 20 = .ok (.newarray .int, 2) := by decide +kernel
theorem dc_X4_init_22 : decode cX4_init 22 = .ok (.putfield 19, 3) := by decide +kernel
theorem dc_X4_init_25 : decode cX4_init 25 = .ok (.return_, 1) := by decide +kernel
theorem dc_X6_init_0 : decode cX6_init 0 = .ok (.aload_n 0, 1) := by decide +kernel
theorem dc_X6_init_1 : decode cX6_init 1 = .ok (.invokespecial 1, 3) := by decide +kernel
theorem dc_X6_init_4 : decode cX6_init 4 = .ok (.aload_n 0, 1) := by decide +kernel
theorem dc_X6_init_5 : decode cX6_init 5 = .ok (.iconst 4, 1) := by decide +kernel
theorem dc_X6_init_6 : decode cX6_init 6 = .ok (.newarray .int, 2) := by decide +kernel
theorem dc_X6_init_8 : decode cX6_init 8 = .ok (.putfield 7, 3) := by decide +kernel
theorem dc_X6_init_11 : decode cX6_init 11 = .ok (.aload_n 0, 1) := by decide +kernel
theorem dc_X6_init_12 : decode cX6_init 12 = .ok (.iconst 4, 1) := by decide +kernel
theorem dc_X6_init_13 : decode cX6_init 13 = .ok (.newarray .int, 2) := by decide +kernel
theorem dc_X6_init_15 : decode cX6_init 15 = .ok (.putfield 13, 3) := by decide +kernel
theorem dc_X6_init_18 : decode cX6_init 18 = .ok (.aload_n 0, 1) := by decide +kernel
theorem dc_X6_init_19 : decode cX6_init 19 = .ok (.sipush 240, 3) := by decide +kernel
theorem dc_X6_init_22 : decode cX6_init 22 = .ok (.newarray .int, 2) := by decide +kernel
theorem dc_X6_init_24 : decode cX6_init 24 = .ok (.putfield 16, 3) := by decide +kernel
theorem dc_X6_init_27 : decode cX6_init 27 = .ok (.aload_n 0, 1) := by decide +kernel
theorem dc_X6_init_28 : decode cX6_init 28 = .ok (.bipush 60, 2) := by decide +kernel
theorem dc_X6_init_30 : decode cX6_init 30 = .ok (.newarray .int, 2) := by decide +kernel
theorem dc_X6_init_32 : decode cX6_init 32 = .ok (.putfield 19, 3) := by decide +kernel
theorem dc_X6_init_35 : decode cX6_init 35 = .ok (.aload_n 0, 1) := by decide +kernel
theorem dc_X6_init_36 : decode cX6_init 36 = .ok (.sipush 144, 3) := by decide +kernel
theorem dc_X6_init_39 : decode cX6_init 39 = .ok (.newarray .int, 2) := by decide +kernel
theorem dc_X6_init_41 : decode cX6_init 41 = .ok (.putfield 22, 3) := by decide +kernel
theorem dc_X6_init_44 : decode cX6_init 44 = .ok (.aload_n 0, 1) := by decide +kernel
theorem dc_X6_init_45 : decode cX6_init 45 = .ok (.iconst 3, 1) := by decide +kernel
theorem dc_X6_init_46 : decode cX6_init 46 = .ok (.newarray .int, 2) := by decide +kernel
theorem dc_X6_init_48 : decode cX6_init 48 = .ok (.putfield 25, 3) := by decide +kernel
theorem dc_X6_init_51 : decode cX6_init 51 = .ok (.aload_n 0, 1) := by decide +kernel
theorem dc_X6_init_52 : decode cX6_init 52 = .ok (.bipush 20, 2) := by decide +kernel
theorem dc_X6_init_54 : decode cX6_init 54 = .ok (.newarray .int, 2) := by decide +kernel
theorem dc_X6_init_56 : decode cX6_init 56 = .ok (.putfield 28, 3) := by decide +kernel
theorem dc_X6_init_59 : decode cX6_init 59 = .ok (.aload_n 0, 1) := by decide +kernel
theorem dc_X6_init_60 : decode cX6_init 60 = .ok (.bipush 12, 2) := by decide +kernel
theorem dc_X6_init_62 : decode cX6_init 62 = .ok (.newarray .int, 2) := by decide +kernel
theorem dc_X6_init_64 : decode cX6_init 64 = .ok (.putfield 31, 3) := by decide +kernel
theorem dc_X6_init_67 : decode cX6_init 67 = .ok (.aload_n 0, 1) := by decide +kernel
theorem dc_X6_init_68 : decode cX6_init 68 = .ok (.bipush 34, 2) := by decide +kernel
theorem dc_X6_init_70 : decode cX6_init 70 = .ok (.newarray .int, 2) := by decide +kernel
theorem dc_X6_init_72 : decode cX6_init 72 = .ok (.putfield 34, 3) := by decide +kernel
theorem dc_X6_init_75 : decode cX6_init 75 = .ok (.aload_n 0, 1) := by decide +kernel
theorem dc_X6_init_76 : decode cX6_init 76 = .ok (.bipush 24, 2) := by decide +kernel
theorem dc_X6_init_78 : decode cX6_init 78 = .ok (.newarray .int, 2) := by decide +kernel
theorem dc_X6_init_80 : decode cX6_init 80 = .ok (.putfield 37, 3) := by decide +kernel
theorem dc_X6_init_83 : decode cX6_init 83 = .ok (.aload_n 0, 1) := by decide +kernel
theorem dc_X6_init_84 : decode cX6_init 84 = .ok (.bipush 17, 2) := by decide +kernel
theorem dc_X6_init_86 : decode cX6_init 86 = .ok (.newarray .int, 2) := by decide +kernel
theorem dc_X6_init_88 : decode cX6_init 88 = .ok (.putfield 40, 3) := by decide +kernel
theorem dc_X6_init_91 : decode cX6_init 91 = .ok (.aload_n 0, 1) := by decide +kernel
theorem dc_X6_init_92 : decode cX6_init 92 = .ok (.bipush 17, 2) := by decide +kernel
theorem dc_X6_init_94 : decode cX6_init 94 = .ok (.newarray .boolean, 2) := by decide +kernel
theorem dc_X6_init_96 : decode cX6_init 96 = .ok (.putfield 43, 3) := by decide +kernel
theorem dc_X6_init_99 : decode cX6_init 99 = .ok (.aload_n 0, 1) := by decide +kernel
theorem dc_X6_init_100 : decode cX6_init 100 = .ok (.bipush 6, 2) := by decide +kernel
theorem dc_X6_init_102 : decode cX6_init 102 = .ok (.newarray .int, 2) := by decide +kernel
theorem dc_X6_init_104 : decode cX6_init 104 = .ok (.putfield 47, 3) := by decide +kernel
theorem dc_X6_init_107 : decode cX6_init 107 = .ok (.aload_n 0, 1) := by decide +kernel
theorem dc_X6_init_108 : decode cX6_init 108 = .ok (.bipush 6, 2) := by decide +kernel
theorem dc_X6_init_110 : decode cX6_init 110 = .ok (.newarray .int, 2) := by decide +kernel
theorem dc_X6_init_112 : decode cX6_init 112 = .ok (.putfield 50, 3) := by decide +kernel
theorem dc_X6_init_115 : decode cX6_init 115 = .ok (.aload_n 0, 1) := by decide +kernel
theorem dc_X6_init_116 : decode cX6_init 116 = .ok (.bipush 6, 2) := by decide +kernel
theorem dc_X6_init_118 : decode cX6_init 118 = .ok (.newarray .int, 2) := by decide +kernel
theorem dc_X6_init_120 : decode cX6_init 120 = .ok (.putfield 53, 3) := by decide +kernel
theorem dc_X6_init_123 : decode cX6_init 123 = .ok (.aload_n 0, 1) := by decide +kernel
theorem dc_X6_init_124 : decode cX6_init 124 = .ok (.bipush 6, 2) := by decide +kernel
theorem dc_X6_init_126 : decode cX6_init 126 = .ok (.newarray .int, 2) := by decide +kernel
theorem dc_X6_init_128 : decode cX6_init 128 = .ok (.putfield 56, 3) := by decide +kernel
theorem dc_X6_init_131 : decode cX6_init 131 = .ok (.aload_n 0, 1) := by decide +kernel
theorem dc_X6_init_132 : decode cX6_init 132 = .ok (.bipush 6, 2) := by decide +kernel
theorem dc_X6_init_134 : decode cX6_init 134 = .ok (.newarray .int, 2) := by decide +kernel
theorem dc_X6_init_136 : decode cX6_init 136 = .ok (.putfield 59, 3) := by decide +kernel
theorem dc_X6_init_139 : decode cX6_init 139 = .ok (.aload_n 0, 1) := by decide +kernel
theorem dc_X6_init_140 : decode cX6_init 140 = .ok (.bipush 6, 2) := by decide +kernel
theorem dc_X6_init_142 : decode cX6_init 142 = .ok (.newarray .boolean, 2) := by decide +kernel
theorem dc_X6_init_144 : decode cX6_init 144 = .ok (.putfield 62, 3) := by decide +kernel
theorem dc_X6_init_147 : decode cX6_init 147 = .ok (.aload_n 0, 1) := by decide +kernel
theorem dc_X6_init_148 : decode cX6_init 148 = .ok (.bipush 10, 2) := by decide +kernel
theorem dc_X6_init_150 : decode cX6_init 150 = .ok (.newarray .int, 2) := by decide +kernel
theorem dc_X6_init_152 : decode cX6_init 152 = .ok (.putfield 65, 3) := by decide +kernel
theorem dc_X6_init_155 : decode cX6_init 155 = .ok (.aload_n 0, 1) := by decide +kernel
theorem dc_X6_init_156 : decode cX6_init 156 = .ok (.bipush 10, 2) := by decide +kernel
theorem dc_X6_init_158 : decode cX6_init 158 = .ok (.newarray .int, 2) := by decide +kernel
theorem dc_X6_init_160 : decode cX6_init 160 = .ok (.putfield 68, 3) := by decide +kernel
theorem dc_X6_init_163 : decode cX6_init 163 = .ok (.aload_n 0, 1) := by decide +kernel
theorem dc_X6_init_164 : decode cX6_init 164 = .ok (.bipush 10, 2) := by decide +kernel
theorem dc_X6_init_166 : decode cX6_init 166 = .ok (.newarray .int, 2) := by decide +kernel
theorem dc_X6_init_168 : decode cX6_init 168 = .ok (.putfield 71, 3) := by decide +kernel
theorem dc_X6_init_171 : decode cX6_init 171 = .ok (.aload_n 0, 1) := by decide +kernel
theorem dc_X6_init_172 : decode cX6_init 172 = .ok (.bipush 24, 2) := by decide +kernel
theorem dc_X6_init_174 : decode cX6_init 174 = .ok (.newarray .int, 2) := by decide +kernel
theorem dc_X6_init_176 : decode cX6_init 176 = .ok (.putfield 74, 3) := by decide +kernel
theorem dc_X6_init_179 : decode cX6_init 179 = .ok (.aload_n 0, 1) := by decide +kernel
theorem dc_X6_init_180 : decode cX6_init 180 = .ok (.sipush 240, 3) := by decide +kernel
theorem dc_X6_init_183 : decode cX6_init 183 = .ok (.newarray .int, 2) := by decide +kernel
theorem dc_X6_init_185 : decode cX6_init 185 = .ok (.putfield 77, 3) := by decide +kernel
theorem dc_X6_init_188 : decode cX6_init 188 = .ok (.iconst 0, 1) := by decide +kernel
theorem dc_X6_init_189 : decode cX6_init 189 = .ok (.istore_n 1, 1) := by decide +kernel
theorem dc_X6_init_190 : decode cX6_init 190 = .ok (.iload_n 1, 1) := by decide +kernel
theorem dc_X6_init_191 : decode cX6_init 191 = .ok (.iconst 4, 1) := by decide +kernel
theorem dc_X6_init_192 : decode cX6_init 192 = .ok (.if_icmp .ge 16, 3) := by decide +kernel
theorem dc_X6_init_195 : decode cX6_init 195 = .ok (.aload_n 0, 1) := by decide +kernel
theorem dc_X6_init_196 : decode cX6_init 196 = .ok (.getfield 7, 3) := by decide +kernel
theorem dc_X6_init_199 : decode cX6_init 199 = .ok (.iload_n 1, 1) := by decide +kernel
theorem dc_X6_init_200 : decode cX6_init 200 = .ok (.iconst (-1), 1) := by decide +kernel
theorem dc_X6_init_201 : decode cX6_init 201 = .ok (.iastore, 1) := by decide +kernel
theorem dc_X6_init_202 : decode cX6_init 202 = .ok (.iinc 1 1, 3) := by decide +kernel
theorem dc_X6_init_205 : decode cX6_init 205 = .ok (.goto (-15), 3) := by decide +kernel
theorem dc_X6_init_208 : decode cX6_init 208 = .ok (.aload_n 0, 1) := by decide +kernel
theorem dc_X6_init_209 : decode cX6_init 209 = .ok (.bipush 12, 2) := by decide +kernel
theorem dc_X6_init_211 : decode cX6_init 211 = .ok (.putfield 80, 3) := by decide +kernel
theorem dc_X6_init_214 : decode cX6_init 214 = .ok (.return_, 1) := by decide +kernel
theorem ct_wS {own : String} {index maxL : Nat} {y : MethodName} {bytes : ByteArray} {ret : Option FieldType} (h1 : Cond.methodLink own index y ∈ zT) (h2 : Cond.static y ∈ zT) (h3 : Cond.initialized y.cls ∈ zT) (h4 : Cond.code y bytes maxL ret ∈ zT) : GoodIn zT (va_wsS own index y (Cond.code y bytes maxL ret :: zT)) := zgood (fun w hw => by
  simp only [va_wsS, List.mem_append, List.mem_cons, List.not_mem_nil, or_false] at hw
  rcases hw with (rfl | rfl | rfl) | (rfl | hw)
  · exact h1
  · exact h2
  · exact h3
  · exact h4
  · exact hw)
theorem ct_wV {own C : String} {index maxL : Nat} {y : MethodName} {bytes : ByteArray} {ret : Option FieldType} (h1 : Cond.methodLink own index y ∈ zT) (h2 : Cond.instanceMethod y ∈ zT) (h5 : Cond.selects C y y ∈ zT) (h3 : Cond.initialized C ∈ zT) (h4 : Cond.code y bytes maxL ret ∈ zT) : GoodIn zT (wsV own index C y (Cond.code y bytes maxL ret :: zT)) := zgood (fun w hw => by
  simp only [wsV, List.mem_append, List.mem_cons, List.not_mem_nil, or_false] at hw
  rcases hw with (rfl | rfl | rfl | rfl) | (rfl | hw)
  · exact h1
  · exact h2
  · exact h5
  · exact h3
  · exact h4
  · exact hw)
section
variable {p : Program} {l : Launch} {e : Env} {R : Room} {s : State} {m : MethodId} {args : Array Value} {below : List Frame} {meth : Method} {c : Code} {cells slots : Nat} {Q : State → Prop} {D : va_G} {ac : Nat → ClassId} {A : Nat → Prop}
theorem fill_loop (hx : p.tables.exec = Jvm.exec) (hb : c.code = cJ7_fill_53178) (hK : va_K D zVC (ztys ac) s) {h n : Nat} (hn : n ≤ 1000) {x : Int32} (fin : ∀ (H : Heap) (locs : List Loc) (ls : Array Slot), va_P D zVC [(h, .inl (ac 0, n, .inl fun _ => x))] H → va_S A s.heap H locs → W p l e R s m args below meth c H locs cells slots Q (F0 m 20 ls [])) :
    ∀ (d i : Nat) (f : Nat → Int32) (H : Heap) (locs : List Loc) (ls : Array Slot), i + d = n → (∀ j, j < i → f j = x) → va_P D zVC [(h, .inl (ac 0, n, .inl f))] H → va_D A [(h, .inl (ac 0, n, .inl f))] → va_S A s.heap H locs → lv_has ls 4 [(2, .int (nI i)), (3, .int (nI n)), (0, .ref h), (1, .int x)] → W p l e R s m args below meth c H locs cells slots Q (F0 m 5 ls []) := by
  intro d
  induction d with
  | zero =>
    intro i f H locs ls hi hf hP hD hS hl
    refine lv_iload_n hx hb dc_J7_fill_5 rfl (lv_at hl 0 rfl) ?_
    refine lv_iload_n hx hb dc_J7_fill_6 rfl (lv_at hl 1 rfl) ?_
    refine lv_icmp_ge (tgt := 20) hx hb dc_J7_fill_7 (by decide) (fun _ => ?_) (fun q => absurd (nI_le (by omega) (by omega)) q)
    refine fin H locs ls (fun k q hq => ?_) hS
    match k, hq with
    | 0, hq =>
      cases hq
      have := hP 0 _ rfl
      show H[h]? = some (vp_cell (ac 0) (n, .inl fun _ => x))
      rw [← arr_eq (f := f) (fun j hj => hf j (by omega))]
      exact this
  | succ d ih =>
    intro i f H locs ls hi hf hP hD hS hl
    refine lv_iload_n hx hb dc_J7_fill_5 rfl (lv_at hl 0 rfl) ?_
    refine lv_iload_n hx hb dc_J7_fill_6 rfl (lv_at hl 1 rfl) ?_
    refine lv_icmp_ge (tgt := 20) hx hb dc_J7_fill_7 (by decide) (fun q => absurd ((nI_leI (by omega) (by omega)).mp q) (by omega)) (fun _ => ?_)
    refine lv_aload_n hx hb dc_J7_fill_10 rfl (lv_at hl 2 rfl) ?_
    refine lv_iload_n hx hb dc_J7_fill_11 rfl (lv_at hl 0 rfl) ?_
    refine lv_iload_n hx hb dc_J7_fill_12 rfl (lv_at hl 3 rfl) ?_
    refine va_iast hx hb hK hP hD hS 0 0 rfl rfl (i := nI i) (x := x) (nI_in (by omega) (by omega)) dc_J7_fill_13 (fun H locs hP hD hS => ?_)
    rw [nI_clamp (by omega)] at hP hD
    refine lv_iinc (k := 0) (x := nI i) (v := nI (i + 1)) hx hb dc_J7_fill_14 hl rfl (na_1 i) (by decide) rfl (fun ls hl => ?_)
    refine lv_goto (tgt := 5) hx hb dc_J7_fill_17 (by decide) ?_
    refine ih (i + 1) (upd f i x) H locs ls (by omega) (fun j hj => ?_) hP hD hS hl
    by_cases e : j = i
    · subst e; exact upd_s
    · rw [upd_n e]; exact hf j (by omega)
end
set_option maxHeartbeats 4000000 in
theorem ck_fill (l : Launch) (D : va_G) (ac : Nat → ClassId) (sz : Nat) (h n : Nat) (hn : n ≤ 1000) (f : Nat → Int32) (x : Int32) : Met l yJ7_fill_53178 (Cond.code yJ7_fill_53178 cJ7_fill_53178 4 none :: zT) ({ frames := 0, cells := 0, slots := 0, locals := 0 }) (va_Pc [.ref h, .int x] (ctPre ac D (fun _ => True) sz [(h, .inl (ac 0, n, .inl f))])) (ctQ D sz [(h, .inl (ac 0, n, .inl f))] (fun _ => [(h, .inl (ac 0, n, .inl fun _ => x))])) 0 0 (va_A [(h, .inl (ac 0, n, .inl f))] sz) := by
  refine Met.ofW (cc := cJ7_fill_53178) (maxL := 4) (ret := none) (by decide) rfl ?_
  intro p e s m args below meth c s₁ B hml hv
  obtain ⟨rfl, hsz, hP, hK, hD0, hE⟩ := hv
  have hx := B.exec
  have hb := B.bytes
  have hr := B.returns
  have hlocks := B.notSynchronized
  subst hsz
  have hD := hD0.self (sz := s.heap.size)
  unfold ctQ
  generalize hAe : va_A [(h, .inl (ac 0, n, .inl f))] s.heap.size = A at hD ⊢
  have hA : ∀ q : Nat, s.heap.size ≤ q → A q := fun q h => by rw [← hAe]; exact Or.inr h
  have hS : va_S A s.heap s.heap [] := va_S.rf
  have hP : va_P D zVC [(h, .inl (ac 0, n, .inl f))] s.heap := hP
  have hl := lv_entry ([.ref h, .int x]) (n := 4) (Nat.le_of_ble_eq_true rfl)
  rw [lg_entry_eq]
  generalize (lg_sl ([.ref h, .int x]) ++ List.replicate (4 - (lg_sl ([.ref h, .int x])).length) Slot.unset).toArray = ls at hl ⊢
  have hl : lv_has ls 4 [(0, .ref h), (1, .int x)] := hl
  refine lv_iconst (v := nI 0) hx hb dc_J7_fill_0 rfl ?_
  refine lv_istore_n hx hb dc_J7_fill_1 rfl hl (by decide) rfl (fun ls hl => ?_)
  refine lv_aload_n hx hb dc_J7_fill_2 rfl (lv_at hl 1 rfl) ?_
  refine va_alen hx hb hK hP 0 0 rfl rfl (v := nI n) rfl dc_J7_fill_3 ?_
  refine lv_istore_n hx hb dc_J7_fill_4 rfl hl (by decide) rfl (fun ls hl => ?_)
  have hl : lv_has ls 4 [(3, .int (nI n)), (2, .int (nI 0)), (0, .ref h), (1, .int x)] := hl
  have hl : lv_has ls 4 [(2, .int (nI 0)), (3, .int (nI n)), (0, .ref h), (1, .int x)] := by
    obtain ⟨z1, z2, z3⟩ := hl
    refine ⟨z1, z2, fun q hq => z3 q ?_⟩
    simp only [List.mem_cons, List.not_mem_nil, or_false] at hq
    rcases hq with rfl | rfl | rfl | rfl <;> simp
  refine fill_loop hx hb hK hn (fun H locs ls hP hS => ?_) n 0 f s.heap [] ls (by omega) (fun j hj => absurd hj (by omega)) hP hD hS hl
  have hD9 : va_D A [(h, .inl (ac 0, n, .inl fun _ => x))] := by
    refine ⟨fun i j p q hp hq _ => ?_, fun k q hq => ?_⟩
    · have h1 := (List.getElem?_eq_some_iff.mp hp).1
      have h2 := (List.getElem?_eq_some_iff.mp hq).1
      simp at h1 h2
      omega
    · match k, hq with
      | 0, hq => cases hq; exact hD.2 0 (h, .inl (ac 0, n, .inl f)) rfl
  exact W.vret hx hb hr (fun t ht hW => ⟨⟨id, rfl, trivial, by rw [ht]; exact hP, hD9⟩, hS.F ht⟩) hS.2.2 dc_J7_fill_20

theorem gk_0 : Cond.selects "ProofDay$Night" ⟨"ProofDay$Night", "forgetAll", "(I)V"⟩ ⟨"ProofDay$Night", "forgetAll", "(I)V"⟩ ∈ zT := zin 0 (by decide +kernel) (by decide +kernel)
theorem gk_64 : Cond.initialized "ProofDay$Night" ∈ zT := zin 64 (by decide +kernel) (by decide +kernel)
theorem gk_65 : Cond.initialized "java/util/Arrays" ∈ zT := zin 65 (by decide +kernel) (by decide +kernel)
theorem gk_83 : Cond.instanceMethod ⟨"java/lang/Object", "<init>", "()V"⟩ ∈ zT := zin 83 (by decide +kernel) (by decide +kernel)
theorem gk_84 : Cond.code ⟨"java/lang/Object", "<init>", "()V"⟩ object_method_1_code 1 none ∈ zT := zin 84 (by decide +kernel) (by decide +kernel)
theorem gk_92 : Cond.methodLink "ProofDay$Text" 3 ⟨"java/lang/Object", "<init>", "()V"⟩ ∈ zT := zin 92 (by decide +kernel) (by decide +kernel)
theorem gk_117 : Cond.methodLink "ProofDay$Plan" 3 ⟨"java/lang/Object", "<init>", "()V"⟩ ∈ zT := zin 117 (by decide +kernel) (by decide +kernel)
theorem gk_191 : Cond.methodLink "ProofDay$Night" 3 ⟨"java/lang/Object", "<init>", "()V"⟩ ∈ zT := zin 191 (by decide +kernel) (by decide +kernel)
theorem gk_192 : Cond.methodLink "ProofDay$Night" 39 ⟨"ProofDay$Night", "forgetAll", "(I)V"⟩ ∈ zT := zin 192 (by decide +kernel) (by decide +kernel)
theorem gk_194 : Cond.instanceMethod ⟨"ProofDay$Night", "forgetAll", "(I)V"⟩ ∈ zT := zin 194 (by decide +kernel) (by decide +kernel)
theorem gk_195 : Cond.code ⟨"ProofDay$Night", "forgetAll", "(I)V"⟩ prog_2_method_3_code 2 none ∈ zT := zin 195 (by decide +kernel) (by decide +kernel)
theorem gk_196 : Cond.methodLink "ProofDay$Night" 66 ⟨"java/util/Arrays", "fill", "([II)V"⟩ ∈ zT := zin 196 (by decide +kernel) (by decide +kernel)
theorem gk_197 : Cond.static ⟨"java/util/Arrays", "fill", "([II)V"⟩ ∈ zT := zin 197 (by decide +kernel) (by decide +kernel)
theorem gk_198 : Cond.code ⟨"java/util/Arrays", "fill", "([II)V"⟩ prog_16_method_103_code 4 none ∈ zT := zin 198 (by decide +kernel) (by decide +kernel)
theorem gk_245 : Cond.methodLink "ProofDay$Sightings" 3 ⟨"java/lang/Object", "<init>", "()V"⟩ ∈ zT := zin 245 (by decide +kernel) (by decide +kernel)
theorem gk_266 : Cond.methodLink "ProofDay$Sheet" 3 ⟨"java/lang/Object", "<init>", "()V"⟩ ∈ zT := zin 266 (by decide +kernel) (by decide +kernel)
theorem gk_808 : Cond.methodLink "ProofDayModel" 1 ⟨"java/lang/Object", "<init>", "()V"⟩ ∈ zT := zin 808 (by decide +kernel) (by decide +kernel)
set_option maxHeartbeats 4000000 in
set_option maxRecDepth 100000 in
theorem ck_forget (l : Launch) (D : va_G) (ac : Nat → ClassId) (sz : Nat) (h0 b1 b2 b3 b4 b5 b6 b7 b8 b9 : Nat) : Met l yX0_forgetAll (Cond.code yX0_forgetAll cX0_forgetAll 2 none :: zT) ({ frames := 1, cells := 0, slots := 0, locals := 40 }) (va_Pc [.ref h0, .int 0] (ctPre ac D (fun _ => True) sz [(h0, .inr (0, [.int 0, .ref b1, .ref b2, .ref b3, .ref b4, .ref b5, .ref b6, .ref b7, .ref b8, .ref b9])), (b1, .inl (ac 0, 10, .inl (fun _ => 0))), (b2, .inl (ac 0, 10, .inl (fun _ => 0))), (b3, .inl (ac 0, 10, .inl (fun _ => 0))), (b4, .inl (ac 0, 6, .inl (fun _ => 0))), (b5, .inl (ac 0, 6, .inl (fun _ => 0))), (b6, .inl (ac 0, 6, .inl (fun _ => 0))), (b7, .inl (ac 0, 6, .inl (fun _ => 0))), (b8, .inl (ac 0, 17, .inl (fun _ => 0))), (b9, .inl (ac 0, 17, .inl (fun _ => 0)))])) (ctQ D sz [(h0, .inr (0, [.int 0, .ref b1, .ref b2, .ref b3, .ref b4, .ref b5, .ref b6, .ref b7, .ref b8, .ref b9])), (b1, .inl (ac 0, 10, .inl (fun _ => 0))), (b2, .inl (ac 0, 10, .inl (fun _ => 0))), (b3, .inl (ac 0, 10, .inl (fun _ => 0))), (b4, .inl (ac 0, 6, .inl (fun _ => 0))), (b5, .inl (ac 0, 6, .inl (fun _ => 0))), (b6, .inl (ac 0, 6, .inl (fun _ => 0))), (b7, .inl (ac 0, 6, .inl (fun _ => 0))), (b8, .inl (ac 0, 17, .inl (fun _ => 0))), (b9, .inl (ac 0, 17, .inl (fun _ => 0)))] (fun a => [(h0, .inr (0, [.int 0, .ref b1, .ref b2, .ref b3, .ref b4, .ref b5, .ref b6, .ref b7, .ref b8, .ref b9])), (b1, .inl (ac 0, 10, .inl (fun _ => (-1)))), (b2, .inl (ac 0, 10, .inl (fun _ => (-1)))), (b3, .inl (ac 0, 10, .inl (fun _ => 0))), (b4, .inl (ac 0, 6, .inl (fun _ => 0))), (b5, .inl (ac 0, 6, .inl (fun _ => 0))), (b6, .inl (ac 0, 6, .inl (fun _ => (-1)))), (b7, .inl (ac 0, 6, .inl (fun _ => 0))), (b8, .inl (ac 0, 17, .inl (fun _ => (-1)))), (b9, .inl (ac 0, 17, .inl (fun _ => 0)))])) 0 0 (va_A [(h0, .inr (0, [.int 0, .ref b1, .ref b2, .ref b3, .ref b4, .ref b5, .ref b6, .ref b7, .ref b8, .ref b9])), (b1, .inl (ac 0, 10, .inl (fun _ => 0))), (b2, .inl (ac 0, 10, .inl (fun _ => 0))), (b3, .inl (ac 0, 10, .inl (fun _ => 0))), (b4, .inl (ac 0, 6, .inl (fun _ => 0))), (b5, .inl (ac 0, 6, .inl (fun _ => 0))), (b6, .inl (ac 0, 6, .inl (fun _ => 0))), (b7, .inl (ac 0, 6, .inl (fun _ => 0))), (b8, .inl (ac 0, 17, .inl (fun _ => 0))), (b9, .inl (ac 0, 17, .inl (fun _ => 0)))] sz) := by
  refine Met.ofW (cc := cX0_forgetAll) (maxL := 2) (ret := none) (by decide) rfl ?_
  intro p e s m args below meth c s₁ B hml hv
  obtain ⟨rfl, hsz, hP, hK, hD0, hE⟩ := hv
  have hx := B.exec
  have hb := B.bytes
  have hr := B.returns
  have hts0 := atoms_spec (ws := Cond.code yX0_forgetAll cX0_forgetAll 2 none :: zT) B.pre
  have hts : ∀ w ∈ zT, w.before _ s = true := fun w hw => hts0 w (List.mem_cons_of_mem _ hw)
  have hown : s.vm.findClass RX0 = some m.cls := findClass_of_methodNamed B.named
  have hlocks := B.notSynchronized
  subst hsz
  have hD := hD0.self (sz := s.heap.size)
  unfold ctQ
  generalize hAe : va_A [(h0, .inr (0, [.int 0, .ref b1, .ref b2, .ref b3, .ref b4, .ref b5, .ref b6, .ref b7, .ref b8, .ref b9])), (b1, .inl (ac 0, 10, .inl (fun _ => 0))), (b2, .inl (ac 0, 10, .inl (fun _ => 0))), (b3, .inl (ac 0, 10, .inl (fun _ => 0))), (b4, .inl (ac 0, 6, .inl (fun _ => 0))), (b5, .inl (ac 0, 6, .inl (fun _ => 0))), (b6, .inl (ac 0, 6, .inl (fun _ => 0))), (b7, .inl (ac 0, 6, .inl (fun _ => 0))), (b8, .inl (ac 0, 17, .inl (fun _ => 0))), (b9, .inl (ac 0, 17, .inl (fun _ => 0)))] s.heap.size = A at hD ⊢
  have hA : ∀ q : Nat, s.heap.size ≤ q → A q := fun q h => by rw [← hAe]; exact Or.inr h
  have hS : va_S A s.heap s.heap [] := va_S.rf
  have hP : va_P D zVC [(h0, .inr (0, [.int 0, .ref b1, .ref b2, .ref b3, .ref b4, .ref b5, .ref b6, .ref b7, .ref b8, .ref b9])), (b1, .inl (ac 0, 10, .inl (fun _ => 0))), (b2, .inl (ac 0, 10, .inl (fun _ => 0))), (b3, .inl (ac 0, 10, .inl (fun _ => 0))), (b4, .inl (ac 0, 6, .inl (fun _ => 0))), (b5, .inl (ac 0, 6, .inl (fun _ => 0))), (b6, .inl (ac 0, 6, .inl (fun _ => 0))), (b7, .inl (ac 0, 6, .inl (fun _ => 0))), (b8, .inl (ac 0, 17, .inl (fun _ => 0))), (b9, .inl (ac 0, 17, .inl (fun _ => 0)))] s.heap := hP
  have hl := lv_entry ([.ref h0, .int 0]) (n := 2) (Nat.le_of_ble_eq_true rfl)
  rw [lg_entry_eq]
  generalize (lg_sl ([.ref h0, .int 0]) ++ List.replicate (2 - (lg_sl ([.ref h0, .int 0])).length) Slot.unset).toArray = ls at hl ⊢
  have hl : lv_has ls 2 [(0, .ref h0), (1, .int 0)] := hl
  refine lv_aload_n hx hb dc_X0_forgetAll_0 rfl (lv_at hl 0 rfl) ?_
  refine lv_iload_n hx hb dc_X0_forgetAll_1 rfl (lv_at hl 1 rfl) ?_
  refine va_put (D := D) (ci := 0) (v := .int 0) hx hb hts (uws (ci := 0) (by decide)) (zTy 0) (zty_ok (by decide)) (znm (by decide)) hown hK hP hD hS 0 rfl (zcl_at (by decide)) 0 (by decide) (hts _ (fok (c := 0) (k := 65) (ci := 0) (f := 0) rfl).2.2) (fun _ h => h) rfl rfl rfl rfl (Nat.le_of_ble_eq_true rfl) dc_X0_forgetAll_2 (fun H locs hP hD hS => ?_)
  have hP : va_P D zVC [(h0, .inr (0, [.int 0, .ref b1, .ref b2, .ref b3, .ref b4, .ref b5, .ref b6, .ref b7, .ref b8, .ref b9])), (b1, .inl (ac 0, 10, .inl (fun _ => 0))), (b2, .inl (ac 0, 10, .inl (fun _ => 0))), (b3, .inl (ac 0, 10, .inl (fun _ => 0))), (b4, .inl (ac 0, 6, .inl (fun _ => 0))), (b5, .inl (ac 0, 6, .inl (fun _ => 0))), (b6, .inl (ac 0, 6, .inl (fun _ => 0))), (b7, .inl (ac 0, 6, .inl (fun _ => 0))), (b8, .inl (ac 0, 17, .inl (fun _ => 0))), (b9, .inl (ac 0, 17, .inl (fun _ => 0)))] H := hP
  have hD : va_D A [(h0, .inr (0, [.int 0, .ref b1, .ref b2, .ref b3, .ref b4, .ref b5, .ref b6, .ref b7, .ref b8, .ref b9])), (b1, .inl (ac 0, 10, .inl (fun _ => 0))), (b2, .inl (ac 0, 10, .inl (fun _ => 0))), (b3, .inl (ac 0, 10, .inl (fun _ => 0))), (b4, .inl (ac 0, 6, .inl (fun _ => 0))), (b5, .inl (ac 0, 6, .inl (fun _ => 0))), (b6, .inl (ac 0, 6, .inl (fun _ => 0))), (b7, .inl (ac 0, 6, .inl (fun _ => 0))), (b8, .inl (ac 0, 17, .inl (fun _ => 0))), (b9, .inl (ac 0, 17, .inl (fun _ => 0)))] := hD
  refine lv_aload_n hx hb dc_X0_forgetAll_5 rfl (lv_at hl 0 rfl) ?_
  refine va_get (D := D) (ci := 0) (v := .ref b1) hx hb hts (uws (ci := 0) (by decide)) hown hK hP 0 rfl (zcl_at (by decide)) 1 (by decide) (hts _ (fok (c := 0) (k := 9) (ci := 0) (f := 1) rfl).2.2) (fun _ h => h) rfl dc_X0_forgetAll_6 ?_
  refine lv_iconst (v := -1) hx hb dc_X0_forgetAll_9 (by decide) ?_
  have hPc := hP.sub (ws' := [(b1, .inl (ac 0, 10, .inl (fun _ => 0)))]) [1] rfl
  have hDc := hD.sub (ws' := [(b1, .inl (ac 0, 10, .inl (fun _ => 0)))]) [1] (by decide) rfl
  refine ct_call (w0 := [(b1, .inl (ac 0, 10, .inl (fun _ => 0)))]) (wr := [(h0, .inr (0, [.int 0, .ref b1, .ref b2, .ref b3, .ref b4, .ref b5, .ref b6, .ref b7, .ref b8, .ref b9])), (b2, .inl (ac 0, 10, .inl (fun _ => 0))), (b3, .inl (ac 0, 10, .inl (fun _ => 0))), (b4, .inl (ac 0, 6, .inl (fun _ => 0))), (b5, .inl (ac 0, 6, .inl (fun _ => 0))), (b6, .inl (ac 0, 6, .inl (fun _ => 0))), (b7, .inl (ac 0, 6, .inl (fun _ => 0))), (b8, .inl (ac 0, 17, .inl (fun _ => 0))), (b9, .inl (ac 0, 17, .inl (fun _ => 0)))]) (w1 := fun a => [(b1, .inl (ac 0, 10, .inl (fun _ => (-1))))]) (va_runS (As := [.ref b1, .int (-1)]) (rest := []) ⟨hx, hb, hml, hown, hts⟩ (ck_fill l D ac H.size b1 10 (by decide) (fun _ => 0) (-1)) (va_cwS 2 hts (ct_wS gk_196 gk_197 gk_65 gk_198) rfl rfl rfl (by decide +kernel) ⟨Nat.le_of_ble_eq_true rfl, Nat.le_of_ble_eq_true rfl⟩) (ct_pre (ac := ac) (A := A) ct_true trivial hPc hK hDc) rfl rfl hl.1 rfl (lv_room (Nat.le_of_ble_eq_true rfl)) dc_X0_forgetAll_10 ⟨Nat.le_of_ble_eq_true rfl, Nat.le_of_ble_eq_true rfl⟩) hP hD hS hA [1] [0, 2, 3, 4, 5, 6, 7, 8, 9] rfl rfl (by decide) (by decide) (fun a10 H locs hP hD hS => ?_)
  have hP : va_P D zVC [(h0, .inr (0, [.int 0, .ref b1, .ref b2, .ref b3, .ref b4, .ref b5, .ref b6, .ref b7, .ref b8, .ref b9])), (b2, .inl (ac 0, 10, .inl (fun _ => 0))), (b3, .inl (ac 0, 10, .inl (fun _ => 0))), (b4, .inl (ac 0, 6, .inl (fun _ => 0))), (b5, .inl (ac 0, 6, .inl (fun _ => 0))), (b6, .inl (ac 0, 6, .inl (fun _ => 0))), (b7, .inl (ac 0, 6, .inl (fun _ => 0))), (b8, .inl (ac 0, 17, .inl (fun _ => 0))), (b9, .inl (ac 0, 17, .inl (fun _ => 0))), (b1, .inl (ac 0, 10, .inl (fun _ => (-1))))] H := hP
  have hD : va_D A [(h0, .inr (0, [.int 0, .ref b1, .ref b2, .ref b3, .ref b4, .ref b5, .ref b6, .ref b7, .ref b8, .ref b9])), (b2, .inl (ac 0, 10, .inl (fun _ => 0))), (b3, .inl (ac 0, 10, .inl (fun _ => 0))), (b4, .inl (ac 0, 6, .inl (fun _ => 0))), (b5, .inl (ac 0, 6, .inl (fun _ => 0))), (b6, .inl (ac 0, 6, .inl (fun _ => 0))), (b7, .inl (ac 0, 6, .inl (fun _ => 0))), (b8, .inl (ac 0, 17, .inl (fun _ => 0))), (b9, .inl (ac 0, 17, .inl (fun _ => 0))), (b1, .inl (ac 0, 10, .inl (fun _ => (-1))))] := hD
  refine W.widen (k := 0) (n := 0) (Nat.le_of_ble_eq_true rfl) (Nat.le_of_ble_eq_true rfl) ?_
  refine lv_aload_n hx hb dc_X0_forgetAll_13 rfl (lv_at hl 0 rfl) ?_
  refine va_get (D := D) (ci := 0) (v := .ref b2) hx hb hts (uws (ci := 0) (by decide)) hown hK hP 0 rfl (zcl_at (by decide)) 2 (by decide) (hts _ (fok (c := 0) (k := 15) (ci := 0) (f := 2) rfl).2.2) (fun _ h => h) rfl dc_X0_forgetAll_14 ?_
  refine lv_iconst (v := -1) hx hb dc_X0_forgetAll_17 (by decide) ?_
  have hPc := hP.sub (ws' := [(b2, .inl (ac 0, 10, .inl (fun _ => 0)))]) [1] rfl
  have hDc := hD.sub (ws' := [(b2, .inl (ac 0, 10, .inl (fun _ => 0)))]) [1] (by decide) rfl
  refine ct_call (w0 := [(b2, .inl (ac 0, 10, .inl (fun _ => 0)))]) (wr := [(h0, .inr (0, [.int 0, .ref b1, .ref b2, .ref b3, .ref b4, .ref b5, .ref b6, .ref b7, .ref b8, .ref b9])), (b3, .inl (ac 0, 10, .inl (fun _ => 0))), (b4, .inl (ac 0, 6, .inl (fun _ => 0))), (b5, .inl (ac 0, 6, .inl (fun _ => 0))), (b6, .inl (ac 0, 6, .inl (fun _ => 0))), (b7, .inl (ac 0, 6, .inl (fun _ => 0))), (b8, .inl (ac 0, 17, .inl (fun _ => 0))), (b9, .inl (ac 0, 17, .inl (fun _ => 0))), (b1, .inl (ac 0, 10, .inl (fun _ => (-1))))]) (w1 := fun a => [(b2, .inl (ac 0, 10, .inl (fun _ => (-1))))]) (va_runS (As := [.ref b2, .int (-1)]) (rest := []) ⟨hx, hb, hml, hown, hts⟩ (ck_fill l D ac H.size b2 10 (by decide) (fun _ => 0) (-1)) (va_cwS 2 hts (ct_wS gk_196 gk_197 gk_65 gk_198) rfl rfl rfl (by decide +kernel) ⟨Nat.le_of_ble_eq_true rfl, Nat.le_of_ble_eq_true rfl⟩) (ct_pre (ac := ac) (A := A) ct_true trivial hPc hK hDc) rfl rfl hl.1 rfl (lv_room (Nat.le_of_ble_eq_true rfl)) dc_X0_forgetAll_18 ⟨Nat.le_of_ble_eq_true rfl, Nat.le_of_ble_eq_true rfl⟩) hP hD hS hA [1] [0, 2, 3, 4, 5, 6, 7, 8, 9] rfl rfl (by decide) (by decide) (fun a18 H locs hP hD hS => ?_)
  have hP : va_P D zVC [(h0, .inr (0, [.int 0, .ref b1, .ref b2, .ref b3, .ref b4, .ref b5, .ref b6, .ref b7, .ref b8, .ref b9])), (b3, .inl (ac 0, 10, .inl (fun _ => 0))), (b4, .inl (ac 0, 6, .inl (fun _ => 0))), (b5, .inl (ac 0, 6, .inl (fun _ => 0))), (b6, .inl (ac 0, 6, .inl (fun _ => 0))), (b7, .inl (ac 0, 6, .inl (fun _ => 0))), (b8, .inl (ac 0, 17, .inl (fun _ => 0))), (b9, .inl (ac 0, 17, .inl (fun _ => 0))), (b1, .inl (ac 0, 10, .inl (fun _ => (-1)))), (b2, .inl (ac 0, 10, .inl (fun _ => (-1))))] H := hP
  have hD : va_D A [(h0, .inr (0, [.int 0, .ref b1, .ref b2, .ref b3, .ref b4, .ref b5, .ref b6, .ref b7, .ref b8, .ref b9])), (b3, .inl (ac 0, 10, .inl (fun _ => 0))), (b4, .inl (ac 0, 6, .inl (fun _ => 0))), (b5, .inl (ac 0, 6, .inl (fun _ => 0))), (b6, .inl (ac 0, 6, .inl (fun _ => 0))), (b7, .inl (ac 0, 6, .inl (fun _ => 0))), (b8, .inl (ac 0, 17, .inl (fun _ => 0))), (b9, .inl (ac 0, 17, .inl (fun _ => 0))), (b1, .inl (ac 0, 10, .inl (fun _ => (-1)))), (b2, .inl (ac 0, 10, .inl (fun _ => (-1))))] := hD
  refine W.widen (k := 0) (n := 0) (Nat.le_of_ble_eq_true rfl) (Nat.le_of_ble_eq_true rfl) ?_
  refine lv_aload_n hx hb dc_X0_forgetAll_21 rfl (lv_at hl 0 rfl) ?_
  refine va_get (D := D) (ci := 0) (v := .ref b3) hx hb hts (uws (ci := 0) (by decide)) hown hK hP 0 rfl (zcl_at (by decide)) 3 (by decide) (hts _ (fok (c := 0) (k := 18) (ci := 0) (f := 3) rfl).2.2) (fun _ h => h) rfl dc_X0_forgetAll_22 ?_
  refine lv_iconst (v := 0) hx hb dc_X0_forgetAll_25 (by decide) ?_
  have hPc := hP.sub (ws' := [(b3, .inl (ac 0, 10, .inl (fun _ => 0)))]) [1] rfl
  have hDc := hD.sub (ws' := [(b3, .inl (ac 0, 10, .inl (fun _ => 0)))]) [1] (by decide) rfl
  refine ct_call (w0 := [(b3, .inl (ac 0, 10, .inl (fun _ => 0)))]) (wr := [(h0, .inr (0, [.int 0, .ref b1, .ref b2, .ref b3, .ref b4, .ref b5, .ref b6, .ref b7, .ref b8, .ref b9])), (b4, .inl (ac 0, 6, .inl (fun _ => 0))), (b5, .inl (ac 0, 6, .inl (fun _ => 0))), (b6, .inl (ac 0, 6, .inl (fun _ => 0))), (b7, .inl (ac 0, 6, .inl (fun _ => 0))), (b8, .inl (ac 0, 17, .inl (fun _ => 0))), (b9, .inl (ac 0, 17, .inl (fun _ => 0))), (b1, .inl (ac 0, 10, .inl (fun _ => (-1)))), (b2, .inl (ac 0, 10, .inl (fun _ => (-1))))]) (w1 := fun a => [(b3, .inl (ac 0, 10, .inl (fun _ => 0)))]) (va_runS (As := [.ref b3, .int 0]) (rest := []) ⟨hx, hb, hml, hown, hts⟩ (ck_fill l D ac H.size b3 10 (by decide) (fun _ => 0) 0) (va_cwS 2 hts (ct_wS gk_196 gk_197 gk_65 gk_198) rfl rfl rfl (by decide +kernel) ⟨Nat.le_of_ble_eq_true rfl, Nat.le_of_ble_eq_true rfl⟩) (ct_pre (ac := ac) (A := A) ct_true trivial hPc hK hDc) rfl rfl hl.1 rfl (lv_room (Nat.le_of_ble_eq_true rfl)) dc_X0_forgetAll_26 ⟨Nat.le_of_ble_eq_true rfl, Nat.le_of_ble_eq_true rfl⟩) hP hD hS hA [1] [0, 2, 3, 4, 5, 6, 7, 8, 9] rfl rfl (by decide) (by decide) (fun a26 H locs hP hD hS => ?_)
  have hP : va_P D zVC [(h0, .inr (0, [.int 0, .ref b1, .ref b2, .ref b3, .ref b4, .ref b5, .ref b6, .ref b7, .ref b8, .ref b9])), (b4, .inl (ac 0, 6, .inl (fun _ => 0))), (b5, .inl (ac 0, 6, .inl (fun _ => 0))), (b6, .inl (ac 0, 6, .inl (fun _ => 0))), (b7, .inl (ac 0, 6, .inl (fun _ => 0))), (b8, .inl (ac 0, 17, .inl (fun _ => 0))), (b9, .inl (ac 0, 17, .inl (fun _ => 0))), (b1, .inl (ac 0, 10, .inl (fun _ => (-1)))), (b2, .inl (ac 0, 10, .inl (fun _ => (-1)))), (b3, .inl (ac 0, 10, .inl (fun _ => 0)))] H := hP
  have hD : va_D A [(h0, .inr (0, [.int 0, .ref b1, .ref b2, .ref b3, .ref b4, .ref b5, .ref b6, .ref b7, .ref b8, .ref b9])), (b4, .inl (ac 0, 6, .inl (fun _ => 0))), (b5, .inl (ac 0, 6, .inl (fun _ => 0))), (b6, .inl (ac 0, 6, .inl (fun _ => 0))), (b7, .inl (ac 0, 6, .inl (fun _ => 0))), (b8, .inl (ac 0, 17, .inl (fun _ => 0))), (b9, .inl (ac 0, 17, .inl (fun _ => 0))), (b1, .inl (ac 0, 10, .inl (fun _ => (-1)))), (b2, .inl (ac 0, 10, .inl (fun _ => (-1)))), (b3, .inl (ac 0, 10, .inl (fun _ => 0)))] := hD
  refine W.widen (k := 0) (n := 0) (Nat.le_of_ble_eq_true rfl) (Nat.le_of_ble_eq_true rfl) ?_
  refine lv_aload_n hx hb dc_X0_forgetAll_29 rfl (lv_at hl 0 rfl) ?_
  refine va_get (D := D) (ci := 0) (v := .ref b4) hx hb hts (uws (ci := 0) (by decide)) hown hK hP 0 rfl (zcl_at (by decide)) 4 (by decide) (hts _ (fok (c := 0) (k := 21) (ci := 0) (f := 4) rfl).2.2) (fun _ h => h) rfl dc_X0_forgetAll_30 ?_
  refine lv_iconst (v := 0) hx hb dc_X0_forgetAll_33 (by decide) ?_
  have hPc := hP.sub (ws' := [(b4, .inl (ac 0, 6, .inl (fun _ => 0)))]) [1] rfl
  have hDc := hD.sub (ws' := [(b4, .inl (ac 0, 6, .inl (fun _ => 0)))]) [1] (by decide) rfl
  refine ct_call (w0 := [(b4, .inl (ac 0, 6, .inl (fun _ => 0)))]) (wr := [(h0, .inr (0, [.int 0, .ref b1, .ref b2, .ref b3, .ref b4, .ref b5, .ref b6, .ref b7, .ref b8, .ref b9])), (b5, .inl (ac 0, 6, .inl (fun _ => 0))), (b6, .inl (ac 0, 6, .inl (fun _ => 0))), (b7, .inl (ac 0, 6, .inl (fun _ => 0))), (b8, .inl (ac 0, 17, .inl (fun _ => 0))), (b9, .inl (ac 0, 17, .inl (fun _ => 0))), (b1, .inl (ac 0, 10, .inl (fun _ => (-1)))), (b2, .inl (ac 0, 10, .inl (fun _ => (-1)))), (b3, .inl (ac 0, 10, .inl (fun _ => 0)))]) (w1 := fun a => [(b4, .inl (ac 0, 6, .inl (fun _ => 0)))]) (va_runS (As := [.ref b4, .int 0]) (rest := []) ⟨hx, hb, hml, hown, hts⟩ (ck_fill l D ac H.size b4 6 (by decide) (fun _ => 0) 0) (va_cwS 2 hts (ct_wS gk_196 gk_197 gk_65 gk_198) rfl rfl rfl (by decide +kernel) ⟨Nat.le_of_ble_eq_true rfl, Nat.le_of_ble_eq_true rfl⟩) (ct_pre (ac := ac) (A := A) ct_true trivial hPc hK hDc) rfl rfl hl.1 rfl (lv_room (Nat.le_of_ble_eq_true rfl)) dc_X0_forgetAll_34 ⟨Nat.le_of_ble_eq_true rfl, Nat.le_of_ble_eq_true rfl⟩) hP hD hS hA [1] [0, 2, 3, 4, 5, 6, 7, 8, 9] rfl rfl (by decide) (by decide) (fun a34 H locs hP hD hS => ?_)
  have hP : va_P D zVC [(h0, .inr (0, [.int 0, .ref b1, .ref b2, .ref b3, .ref b4, .ref b5, .ref b6, .ref b7, .ref b8, .ref b9])), (b5, .inl (ac 0, 6, .inl (fun _ => 0))), (b6, .inl (ac 0, 6, .inl (fun _ => 0))), (b7, .inl (ac 0, 6, .inl (fun _ => 0))), (b8, .inl (ac 0, 17, .inl (fun _ => 0))), (b9, .inl (ac 0, 17, .inl (fun _ => 0))), (b1, .inl (ac 0, 10, .inl (fun _ => (-1)))), (b2, .inl (ac 0, 10, .inl (fun _ => (-1)))), (b3, .inl (ac 0, 10, .inl (fun _ => 0))), (b4, .inl (ac 0, 6, .inl (fun _ => 0)))] H := hP
  have hD : va_D A [(h0, .inr (0, [.int 0, .ref b1, .ref b2, .ref b3, .ref b4, .ref b5, .ref b6, .ref b7, .ref b8, .ref b9])), (b5, .inl (ac 0, 6, .inl (fun _ => 0))), (b6, .inl (ac 0, 6, .inl (fun _ => 0))), (b7, .inl (ac 0, 6, .inl (fun _ => 0))), (b8, .inl (ac 0, 17, .inl (fun _ => 0))), (b9, .inl (ac 0, 17, .inl (fun _ => 0))), (b1, .inl (ac 0, 10, .inl (fun _ => (-1)))), (b2, .inl (ac 0, 10, .inl (fun _ => (-1)))), (b3, .inl (ac 0, 10, .inl (fun _ => 0))), (b4, .inl (ac 0, 6, .inl (fun _ => 0)))] := hD
  refine W.widen (k := 0) (n := 0) (Nat.le_of_ble_eq_true rfl) (Nat.le_of_ble_eq_true rfl) ?_
  refine lv_aload_n hx hb dc_X0_forgetAll_37 rfl (lv_at hl 0 rfl) ?_
  refine va_get (D := D) (ci := 0) (v := .ref b5) hx hb hts (uws (ci := 0) (by decide)) hown hK hP 0 rfl (zcl_at (by decide)) 5 (by decide) (hts _ (fok (c := 0) (k := 24) (ci := 0) (f := 5) rfl).2.2) (fun _ h => h) rfl dc_X0_forgetAll_38 ?_
  refine lv_iconst (v := 0) hx hb dc_X0_forgetAll_41 (by decide) ?_
  have hPc := hP.sub (ws' := [(b5, .inl (ac 0, 6, .inl (fun _ => 0)))]) [1] rfl
  have hDc := hD.sub (ws' := [(b5, .inl (ac 0, 6, .inl (fun _ => 0)))]) [1] (by decide) rfl
  refine ct_call (w0 := [(b5, .inl (ac 0, 6, .inl (fun _ => 0)))]) (wr := [(h0, .inr (0, [.int 0, .ref b1, .ref b2, .ref b3, .ref b4, .ref b5, .ref b6, .ref b7, .ref b8, .ref b9])), (b6, .inl (ac 0, 6, .inl (fun _ => 0))), (b7, .inl (ac 0, 6, .inl (fun _ => 0))), (b8, .inl (ac 0, 17, .inl (fun _ => 0))), (b9, .inl (ac 0, 17, .inl (fun _ => 0))), (b1, .inl (ac 0, 10, .inl (fun _ => (-1)))), (b2, .inl (ac 0, 10, .inl (fun _ => (-1)))), (b3, .inl (ac 0, 10, .inl (fun _ => 0))), (b4, .inl (ac 0, 6, .inl (fun _ => 0)))]) (w1 := fun a => [(b5, .inl (ac 0, 6, .inl (fun _ => 0)))]) (va_runS (As := [.ref b5, .int 0]) (rest := []) ⟨hx, hb, hml, hown, hts⟩ (ck_fill l D ac H.size b5 6 (by decide) (fun _ => 0) 0) (va_cwS 2 hts (ct_wS gk_196 gk_197 gk_65 gk_198) rfl rfl rfl (by decide +kernel) ⟨Nat.le_of_ble_eq_true rfl, Nat.le_of_ble_eq_true rfl⟩) (ct_pre (ac := ac) (A := A) ct_true trivial hPc hK hDc) rfl rfl hl.1 rfl (lv_room (Nat.le_of_ble_eq_true rfl)) dc_X0_forgetAll_42 ⟨Nat.le_of_ble_eq_true rfl, Nat.le_of_ble_eq_true rfl⟩) hP hD hS hA [1] [0, 2, 3, 4, 5, 6, 7, 8, 9] rfl rfl (by decide) (by decide) (fun a42 H locs hP hD hS => ?_)
  have hP : va_P D zVC [(h0, .inr (0, [.int 0, .ref b1, .ref b2, .ref b3, .ref b4, .ref b5, .ref b6, .ref b7, .ref b8, .ref b9])), (b6, .inl (ac 0, 6, .inl (fun _ => 0))), (b7, .inl (ac 0, 6, .inl (fun _ => 0))), (b8, .inl (ac 0, 17, .inl (fun _ => 0))), (b9, .inl (ac 0, 17, .inl (fun _ => 0))), (b1, .inl (ac 0, 10, .inl (fun _ => (-1)))), (b2, .inl (ac 0, 10, .inl (fun _ => (-1)))), (b3, .inl (ac 0, 10, .inl (fun _ => 0))), (b4, .inl (ac 0, 6, .inl (fun _ => 0))), (b5, .inl (ac 0, 6, .inl (fun _ => 0)))] H := hP
  have hD : va_D A [(h0, .inr (0, [.int 0, .ref b1, .ref b2, .ref b3, .ref b4, .ref b5, .ref b6, .ref b7, .ref b8, .ref b9])), (b6, .inl (ac 0, 6, .inl (fun _ => 0))), (b7, .inl (ac 0, 6, .inl (fun _ => 0))), (b8, .inl (ac 0, 17, .inl (fun _ => 0))), (b9, .inl (ac 0, 17, .inl (fun _ => 0))), (b1, .inl (ac 0, 10, .inl (fun _ => (-1)))), (b2, .inl (ac 0, 10, .inl (fun _ => (-1)))), (b3, .inl (ac 0, 10, .inl (fun _ => 0))), (b4, .inl (ac 0, 6, .inl (fun _ => 0))), (b5, .inl (ac 0, 6, .inl (fun _ => 0)))] := hD
  refine W.widen (k := 0) (n := 0) (Nat.le_of_ble_eq_true rfl) (Nat.le_of_ble_eq_true rfl) ?_
  refine lv_aload_n hx hb dc_X0_forgetAll_45 rfl (lv_at hl 0 rfl) ?_
  refine va_get (D := D) (ci := 0) (v := .ref b6) hx hb hts (uws (ci := 0) (by decide)) hown hK hP 0 rfl (zcl_at (by decide)) 6 (by decide) (hts _ (fok (c := 0) (k := 27) (ci := 0) (f := 6) rfl).2.2) (fun _ h => h) rfl dc_X0_forgetAll_46 ?_
  refine lv_iconst (v := -1) hx hb dc_X0_forgetAll_49 (by decide) ?_
  have hPc := hP.sub (ws' := [(b6, .inl (ac 0, 6, .inl (fun _ => 0)))]) [1] rfl
  have hDc := hD.sub (ws' := [(b6, .inl (ac 0, 6, .inl (fun _ => 0)))]) [1] (by decide) rfl
  refine ct_call (w0 := [(b6, .inl (ac 0, 6, .inl (fun _ => 0)))]) (wr := [(h0, .inr (0, [.int 0, .ref b1, .ref b2, .ref b3, .ref b4, .ref b5, .ref b6, .ref b7, .ref b8, .ref b9])), (b7, .inl (ac 0, 6, .inl (fun _ => 0))), (b8, .inl (ac 0, 17, .inl (fun _ => 0))), (b9, .inl (ac 0, 17, .inl (fun _ => 0))), (b1, .inl (ac 0, 10, .inl (fun _ => (-1)))), (b2, .inl (ac 0, 10, .inl (fun _ => (-1)))), (b3, .inl (ac 0, 10, .inl (fun _ => 0))), (b4, .inl (ac 0, 6, .inl (fun _ => 0))), (b5, .inl (ac 0, 6, .inl (fun _ => 0)))]) (w1 := fun a => [(b6, .inl (ac 0, 6, .inl (fun _ => (-1))))]) (va_runS (As := [.ref b6, .int (-1)]) (rest := []) ⟨hx, hb, hml, hown, hts⟩ (ck_fill l D ac H.size b6 6 (by decide) (fun _ => 0) (-1)) (va_cwS 2 hts (ct_wS gk_196 gk_197 gk_65 gk_198) rfl rfl rfl (by decide +kernel) ⟨Nat.le_of_ble_eq_true rfl, Nat.le_of_ble_eq_true rfl⟩) (ct_pre (ac := ac) (A := A) ct_true trivial hPc hK hDc) rfl rfl hl.1 rfl (lv_room (Nat.le_of_ble_eq_true rfl)) dc_X0_forgetAll_50 ⟨Nat.le_of_ble_eq_true rfl, Nat.le_of_ble_eq_true rfl⟩) hP hD hS hA [1] [0, 2, 3, 4, 5, 6, 7, 8, 9] rfl rfl (by decide) (by decide) (fun a50 H locs hP hD hS => ?_)
  have hP : va_P D zVC [(h0, .inr (0, [.int 0, .ref b1, .ref b2, .ref b3, .ref b4, .ref b5, .ref b6, .ref b7, .ref b8, .ref b9])), (b7, .inl (ac 0, 6, .inl (fun _ => 0))), (b8, .inl (ac 0, 17, .inl (fun _ => 0))), (b9, .inl (ac 0, 17, .inl (fun _ => 0))), (b1, .inl (ac 0, 10, .inl (fun _ => (-1)))), (b2, .inl (ac 0, 10, .inl (fun _ => (-1)))), (b3, .inl (ac 0, 10, .inl (fun _ => 0))), (b4, .inl (ac 0, 6, .inl (fun _ => 0))), (b5, .inl (ac 0, 6, .inl (fun _ => 0))), (b6, .inl (ac 0, 6, .inl (fun _ => (-1))))] H := hP
  have hD : va_D A [(h0, .inr (0, [.int 0, .ref b1, .ref b2, .ref b3, .ref b4, .ref b5, .ref b6, .ref b7, .ref b8, .ref b9])), (b7, .inl (ac 0, 6, .inl (fun _ => 0))), (b8, .inl (ac 0, 17, .inl (fun _ => 0))), (b9, .inl (ac 0, 17, .inl (fun _ => 0))), (b1, .inl (ac 0, 10, .inl (fun _ => (-1)))), (b2, .inl (ac 0, 10, .inl (fun _ => (-1)))), (b3, .inl (ac 0, 10, .inl (fun _ => 0))), (b4, .inl (ac 0, 6, .inl (fun _ => 0))), (b5, .inl (ac 0, 6, .inl (fun _ => 0))), (b6, .inl (ac 0, 6, .inl (fun _ => (-1))))] := hD
  refine W.widen (k := 0) (n := 0) (Nat.le_of_ble_eq_true rfl) (Nat.le_of_ble_eq_true rfl) ?_
  refine lv_aload_n hx hb dc_X0_forgetAll_53 rfl (lv_at hl 0 rfl) ?_
  refine va_get (D := D) (ci := 0) (v := .ref b7) hx hb hts (uws (ci := 0) (by decide)) hown hK hP 0 rfl (zcl_at (by decide)) 7 (by decide) (hts _ (fok (c := 0) (k := 30) (ci := 0) (f := 7) rfl).2.2) (fun _ h => h) rfl dc_X0_forgetAll_54 ?_
  refine lv_iconst (v := 0) hx hb dc_X0_forgetAll_57 (by decide) ?_
  have hPc := hP.sub (ws' := [(b7, .inl (ac 0, 6, .inl (fun _ => 0)))]) [1] rfl
  have hDc := hD.sub (ws' := [(b7, .inl (ac 0, 6, .inl (fun _ => 0)))]) [1] (by decide) rfl
  refine ct_call (w0 := [(b7, .inl (ac 0, 6, .inl (fun _ => 0)))]) (wr := [(h0, .inr (0, [.int 0, .ref b1, .ref b2, .ref b3, .ref b4, .ref b5, .ref b6, .ref b7, .ref b8, .ref b9])), (b8, .inl (ac 0, 17, .inl (fun _ => 0))), (b9, .inl (ac 0, 17, .inl (fun _ => 0))), (b1, .inl (ac 0, 10, .inl (fun _ => (-1)))), (b2, .inl (ac 0, 10, .inl (fun _ => (-1)))), (b3, .inl (ac 0, 10, .inl (fun _ => 0))), (b4, .inl (ac 0, 6, .inl (fun _ => 0))), (b5, .inl (ac 0, 6, .inl (fun _ => 0))), (b6, .inl (ac 0, 6, .inl (fun _ => (-1))))]) (w1 := fun a => [(b7, .inl (ac 0, 6, .inl (fun _ => 0)))]) (va_runS (As := [.ref b7, .int 0]) (rest := []) ⟨hx, hb, hml, hown, hts⟩ (ck_fill l D ac H.size b7 6 (by decide) (fun _ => 0) 0) (va_cwS 2 hts (ct_wS gk_196 gk_197 gk_65 gk_198) rfl rfl rfl (by decide +kernel) ⟨Nat.le_of_ble_eq_true rfl, Nat.le_of_ble_eq_true rfl⟩) (ct_pre (ac := ac) (A := A) ct_true trivial hPc hK hDc) rfl rfl hl.1 rfl (lv_room (Nat.le_of_ble_eq_true rfl)) dc_X0_forgetAll_58 ⟨Nat.le_of_ble_eq_true rfl, Nat.le_of_ble_eq_true rfl⟩) hP hD hS hA [1] [0, 2, 3, 4, 5, 6, 7, 8, 9] rfl rfl (by decide) (by decide) (fun a58 H locs hP hD hS => ?_)
  have hP : va_P D zVC [(h0, .inr (0, [.int 0, .ref b1, .ref b2, .ref b3, .ref b4, .ref b5, .ref b6, .ref b7, .ref b8, .ref b9])), (b8, .inl (ac 0, 17, .inl (fun _ => 0))), (b9, .inl (ac 0, 17, .inl (fun _ => 0))), (b1, .inl (ac 0, 10, .inl (fun _ => (-1)))), (b2, .inl (ac 0, 10, .inl (fun _ => (-1)))), (b3, .inl (ac 0, 10, .inl (fun _ => 0))), (b4, .inl (ac 0, 6, .inl (fun _ => 0))), (b5, .inl (ac 0, 6, .inl (fun _ => 0))), (b6, .inl (ac 0, 6, .inl (fun _ => (-1)))), (b7, .inl (ac 0, 6, .inl (fun _ => 0)))] H := hP
  have hD : va_D A [(h0, .inr (0, [.int 0, .ref b1, .ref b2, .ref b3, .ref b4, .ref b5, .ref b6, .ref b7, .ref b8, .ref b9])), (b8, .inl (ac 0, 17, .inl (fun _ => 0))), (b9, .inl (ac 0, 17, .inl (fun _ => 0))), (b1, .inl (ac 0, 10, .inl (fun _ => (-1)))), (b2, .inl (ac 0, 10, .inl (fun _ => (-1)))), (b3, .inl (ac 0, 10, .inl (fun _ => 0))), (b4, .inl (ac 0, 6, .inl (fun _ => 0))), (b5, .inl (ac 0, 6, .inl (fun _ => 0))), (b6, .inl (ac 0, 6, .inl (fun _ => (-1)))), (b7, .inl (ac 0, 6, .inl (fun _ => 0)))] := hD
  refine W.widen (k := 0) (n := 0) (Nat.le_of_ble_eq_true rfl) (Nat.le_of_ble_eq_true rfl) ?_
  refine lv_aload_n hx hb dc_X0_forgetAll_61 rfl (lv_at hl 0 rfl) ?_
  refine va_get (D := D) (ci := 0) (v := .ref b8) hx hb hts (uws (ci := 0) (by decide)) hown hK hP 0 rfl (zcl_at (by decide)) 8 (by decide) (hts _ (fok (c := 0) (k := 33) (ci := 0) (f := 8) rfl).2.2) (fun _ h => h) rfl dc_X0_forgetAll_62 ?_
  refine lv_iconst (v := -1) hx hb dc_X0_forgetAll_65 (by decide) ?_
  have hPc := hP.sub (ws' := [(b8, .inl (ac 0, 17, .inl (fun _ => 0)))]) [1] rfl
  have hDc := hD.sub (ws' := [(b8, .inl (ac 0, 17, .inl (fun _ => 0)))]) [1] (by decide) rfl
  refine ct_call (w0 := [(b8, .inl (ac 0, 17, .inl (fun _ => 0)))]) (wr := [(h0, .inr (0, [.int 0, .ref b1, .ref b2, .ref b3, .ref b4, .ref b5, .ref b6, .ref b7, .ref b8, .ref b9])), (b9, .inl (ac 0, 17, .inl (fun _ => 0))), (b1, .inl (ac 0, 10, .inl (fun _ => (-1)))), (b2, .inl (ac 0, 10, .inl (fun _ => (-1)))), (b3, .inl (ac 0, 10, .inl (fun _ => 0))), (b4, .inl (ac 0, 6, .inl (fun _ => 0))), (b5, .inl (ac 0, 6, .inl (fun _ => 0))), (b6, .inl (ac 0, 6, .inl (fun _ => (-1)))), (b7, .inl (ac 0, 6, .inl (fun _ => 0)))]) (w1 := fun a => [(b8, .inl (ac 0, 17, .inl (fun _ => (-1))))]) (va_runS (As := [.ref b8, .int (-1)]) (rest := []) ⟨hx, hb, hml, hown, hts⟩ (ck_fill l D ac H.size b8 17 (by decide) (fun _ => 0) (-1)) (va_cwS 2 hts (ct_wS gk_196 gk_197 gk_65 gk_198) rfl rfl rfl (by decide +kernel) ⟨Nat.le_of_ble_eq_true rfl, Nat.le_of_ble_eq_true rfl⟩) (ct_pre (ac := ac) (A := A) ct_true trivial hPc hK hDc) rfl rfl hl.1 rfl (lv_room (Nat.le_of_ble_eq_true rfl)) dc_X0_forgetAll_66 ⟨Nat.le_of_ble_eq_true rfl, Nat.le_of_ble_eq_true rfl⟩) hP hD hS hA [1] [0, 2, 3, 4, 5, 6, 7, 8, 9] rfl rfl (by decide) (by decide) (fun a66 H locs hP hD hS => ?_)
  have hP : va_P D zVC [(h0, .inr (0, [.int 0, .ref b1, .ref b2, .ref b3, .ref b4, .ref b5, .ref b6, .ref b7, .ref b8, .ref b9])), (b9, .inl (ac 0, 17, .inl (fun _ => 0))), (b1, .inl (ac 0, 10, .inl (fun _ => (-1)))), (b2, .inl (ac 0, 10, .inl (fun _ => (-1)))), (b3, .inl (ac 0, 10, .inl (fun _ => 0))), (b4, .inl (ac 0, 6, .inl (fun _ => 0))), (b5, .inl (ac 0, 6, .inl (fun _ => 0))), (b6, .inl (ac 0, 6, .inl (fun _ => (-1)))), (b7, .inl (ac 0, 6, .inl (fun _ => 0))), (b8, .inl (ac 0, 17, .inl (fun _ => (-1))))] H := hP
  have hD : va_D A [(h0, .inr (0, [.int 0, .ref b1, .ref b2, .ref b3, .ref b4, .ref b5, .ref b6, .ref b7, .ref b8, .ref b9])), (b9, .inl (ac 0, 17, .inl (fun _ => 0))), (b1, .inl (ac 0, 10, .inl (fun _ => (-1)))), (b2, .inl (ac 0, 10, .inl (fun _ => (-1)))), (b3, .inl (ac 0, 10, .inl (fun _ => 0))), (b4, .inl (ac 0, 6, .inl (fun _ => 0))), (b5, .inl (ac 0, 6, .inl (fun _ => 0))), (b6, .inl (ac 0, 6, .inl (fun _ => (-1)))), (b7, .inl (ac 0, 6, .inl (fun _ => 0))), (b8, .inl (ac 0, 17, .inl (fun _ => (-1))))] := hD
  refine W.widen (k := 0) (n := 0) (Nat.le_of_ble_eq_true rfl) (Nat.le_of_ble_eq_true rfl) ?_
  refine lv_aload_n hx hb dc_X0_forgetAll_69 rfl (lv_at hl 0 rfl) ?_
  refine va_get (D := D) (ci := 0) (v := .ref b9) hx hb hts (uws (ci := 0) (by decide)) hown hK hP 0 rfl (zcl_at (by decide)) 9 (by decide) (hts _ (fok (c := 0) (k := 36) (ci := 0) (f := 9) rfl).2.2) (fun _ h => h) rfl dc_X0_forgetAll_70 ?_
  refine lv_iconst (v := 0) hx hb dc_X0_forgetAll_73 (by decide) ?_
  have hPc := hP.sub (ws' := [(b9, .inl (ac 0, 17, .inl (fun _ => 0)))]) [1] rfl
  have hDc := hD.sub (ws' := [(b9, .inl (ac 0, 17, .inl (fun _ => 0)))]) [1] (by decide) rfl
  refine ct_call (w0 := [(b9, .inl (ac 0, 17, .inl (fun _ => 0)))]) (wr := [(h0, .inr (0, [.int 0, .ref b1, .ref b2, .ref b3, .ref b4, .ref b5, .ref b6, .ref b7, .ref b8, .ref b9])), (b1, .inl (ac 0, 10, .inl (fun _ => (-1)))), (b2, .inl (ac 0, 10, .inl (fun _ => (-1)))), (b3, .inl (ac 0, 10, .inl (fun _ => 0))), (b4, .inl (ac 0, 6, .inl (fun _ => 0))), (b5, .inl (ac 0, 6, .inl (fun _ => 0))), (b6, .inl (ac 0, 6, .inl (fun _ => (-1)))), (b7, .inl (ac 0, 6, .inl (fun _ => 0))), (b8, .inl (ac 0, 17, .inl (fun _ => (-1))))]) (w1 := fun a => [(b9, .inl (ac 0, 17, .inl (fun _ => 0)))]) (va_runS (As := [.ref b9, .int 0]) (rest := []) ⟨hx, hb, hml, hown, hts⟩ (ck_fill l D ac H.size b9 17 (by decide) (fun _ => 0) 0) (va_cwS 2 hts (ct_wS gk_196 gk_197 gk_65 gk_198) rfl rfl rfl (by decide +kernel) ⟨Nat.le_of_ble_eq_true rfl, Nat.le_of_ble_eq_true rfl⟩) (ct_pre (ac := ac) (A := A) ct_true trivial hPc hK hDc) rfl rfl hl.1 rfl (lv_room (Nat.le_of_ble_eq_true rfl)) dc_X0_forgetAll_74 ⟨Nat.le_of_ble_eq_true rfl, Nat.le_of_ble_eq_true rfl⟩) hP hD hS hA [1] [0, 2, 3, 4, 5, 6, 7, 8, 9] rfl rfl (by decide) (by decide) (fun a74 H locs hP hD hS => ?_)
  have hP : va_P D zVC [(h0, .inr (0, [.int 0, .ref b1, .ref b2, .ref b3, .ref b4, .ref b5, .ref b6, .ref b7, .ref b8, .ref b9])), (b1, .inl (ac 0, 10, .inl (fun _ => (-1)))), (b2, .inl (ac 0, 10, .inl (fun _ => (-1)))), (b3, .inl (ac 0, 10, .inl (fun _ => 0))), (b4, .inl (ac 0, 6, .inl (fun _ => 0))), (b5, .inl (ac 0, 6, .inl (fun _ => 0))), (b6, .inl (ac 0, 6, .inl (fun _ => (-1)))), (b7, .inl (ac 0, 6, .inl (fun _ => 0))), (b8, .inl (ac 0, 17, .inl (fun _ => (-1)))), (b9, .inl (ac 0, 17, .inl (fun _ => 0)))] H := hP
  have hD : va_D A [(h0, .inr (0, [.int 0, .ref b1, .ref b2, .ref b3, .ref b4, .ref b5, .ref b6, .ref b7, .ref b8, .ref b9])), (b1, .inl (ac 0, 10, .inl (fun _ => (-1)))), (b2, .inl (ac 0, 10, .inl (fun _ => (-1)))), (b3, .inl (ac 0, 10, .inl (fun _ => 0))), (b4, .inl (ac 0, 6, .inl (fun _ => 0))), (b5, .inl (ac 0, 6, .inl (fun _ => 0))), (b6, .inl (ac 0, 6, .inl (fun _ => (-1)))), (b7, .inl (ac 0, 6, .inl (fun _ => 0))), (b8, .inl (ac 0, 17, .inl (fun _ => (-1)))), (b9, .inl (ac 0, 17, .inl (fun _ => 0)))] := hD
  refine W.widen (k := 0) (n := 0) (Nat.le_of_ble_eq_true rfl) (Nat.le_of_ble_eq_true rfl) ?_
  have hP9 := hP.sub (ws' := [(h0, .inr (0, [.int 0, .ref b1, .ref b2, .ref b3, .ref b4, .ref b5, .ref b6, .ref b7, .ref b8, .ref b9])), (b1, .inl (ac 0, 10, .inl (fun _ => (-1)))), (b2, .inl (ac 0, 10, .inl (fun _ => (-1)))), (b3, .inl (ac 0, 10, .inl (fun _ => 0))), (b4, .inl (ac 0, 6, .inl (fun _ => 0))), (b5, .inl (ac 0, 6, .inl (fun _ => 0))), (b6, .inl (ac 0, 6, .inl (fun _ => (-1)))), (b7, .inl (ac 0, 6, .inl (fun _ => 0))), (b8, .inl (ac 0, 17, .inl (fun _ => (-1)))), (b9, .inl (ac 0, 17, .inl (fun _ => 0)))]) [0, 1, 2, 3, 4, 5, 6, 7, 8, 9] rfl
  have hD9 := hD.sub (ws' := [(h0, .inr (0, [.int 0, .ref b1, .ref b2, .ref b3, .ref b4, .ref b5, .ref b6, .ref b7, .ref b8, .ref b9])), (b1, .inl (ac 0, 10, .inl (fun _ => (-1)))), (b2, .inl (ac 0, 10, .inl (fun _ => (-1)))), (b3, .inl (ac 0, 10, .inl (fun _ => 0))), (b4, .inl (ac 0, 6, .inl (fun _ => 0))), (b5, .inl (ac 0, 6, .inl (fun _ => 0))), (b6, .inl (ac 0, 6, .inl (fun _ => (-1)))), (b7, .inl (ac 0, 6, .inl (fun _ => 0))), (b8, .inl (ac 0, 17, .inl (fun _ => (-1)))), (b9, .inl (ac 0, 17, .inl (fun _ => 0)))]) [0, 1, 2, 3, 4, 5, 6, 7, 8, 9] (by decide) rfl
  exact W.vret hx hb hr (fun t ht hW => ⟨⟨(fun i => ([] : List Nat).getD i 0), rfl, trivial, by rw [ht]; exact hP9, hD9⟩, hS.F ht⟩) hS.2.2 dc_X0_forgetAll_77
set_option maxHeartbeats 4000000 in
set_option maxRecDepth 100000 in
theorem ck_X1 (l : Launch) (D : va_G) (ac : Nat → ClassId) (sz : Nat) (h0 : Nat) : Met l yX1_init (Cond.code yX1_init cX1_init 1 none :: zT) ({ frames := 2, cells := 9, slots := 90, locals := 100 }) (va_Pc [.ref h0] (ctPre ac D (fun _ => True) sz [(h0, .inr (1, [.int 0, .null, .null, .int 0, .null, .null, .int 0, .null, .null, .int 0, .null, .null, .null, .int 0, .int 0]))])) (ctQ D sz [(h0, .inr (1, [.int 0, .null, .null, .int 0, .null, .null, .int 0, .null, .null, .int 0, .null, .null, .null, .int 0, .int 0]))] (fun a => [(h0, .inr (1, [.int 0, .ref (a 0), .ref (a 1), .int 0, .ref (a 2), .ref (a 3), .int 0, .ref (a 4), .ref (a 5), .int 0, .ref (a 6), .ref (a 7), .ref (a 8), .int 0, .int 12])), ((a 0), .inl (ac 0, 10, .inl (fun _ => 0))), ((a 1), .inl (ac 0, 10, .inl (fun _ => 0))), ((a 2), .inl (ac 0, 6, .inl (fun _ => 0))), ((a 3), .inl (ac 0, 6, .inl (fun _ => 0))), ((a 4), .inl (ac 0, 17, .inl (fun _ => 0))), ((a 5), .inl (ac 0, 17, .inl (fun _ => 0))), ((a 6), .inl (ac 0, 8, .inl (fun _ => 0))), ((a 7), .inl (ac 0, 8, .inl (fun _ => 0))), ((a 8), .inl (ac 0, 8, .inl (fun _ => 0)))])) 9 90 (va_A [(h0, .inr (1, [.int 0, .null, .null, .int 0, .null, .null, .int 0, .null, .null, .int 0, .null, .null, .null, .int 0, .int 0]))] sz) := by
  refine Met.ofW (cc := cX1_init) (maxL := 1) (ret := none) (by decide) rfl ?_
  intro p e s m args below meth c s₁ B hml hv
  obtain ⟨rfl, hsz, hP, hK, hD0, hE⟩ := hv
  have hx := B.exec
  have hb := B.bytes
  have hr := B.returns
  have hts0 := atoms_spec (ws := Cond.code yX1_init cX1_init 1 none :: zT) B.pre
  have hts : ∀ w ∈ zT, w.before _ s = true := fun w hw => hts0 w (List.mem_cons_of_mem _ hw)
  have hown : s.vm.findClass RX1 = some m.cls := findClass_of_methodNamed B.named
  have hlocks := B.notSynchronized
  have hin : meth.name = "<init>" := (name_of_methodNamed B.named B.method).1
  subst hsz
  have hD := hD0.self (sz := s.heap.size)
  unfold ctQ
  generalize hAe : va_A [(h0, .inr (1, [.int 0, .null, .null, .int 0, .null, .null, .int 0, .null, .null, .int 0, .null, .null, .null, .int 0, .int 0]))] s.heap.size = A at hD ⊢
  have hA : ∀ q : Nat, s.heap.size ≤ q → A q := fun q h => by rw [← hAe]; exact Or.inr h
  have hS : va_S A s.heap s.heap [] := va_S.rf
  have hP : va_P D zVC [(h0, .inr (1, [.int 0, .null, .null, .int 0, .null, .null, .int 0, .null, .null, .int 0, .null, .null, .null, .int 0, .int 0]))] s.heap := hP
  have hl := lv_entry ([.ref h0]) (n := 1) (Nat.le_of_ble_eq_true rfl)
  rw [lg_entry_eq]
  generalize (lg_sl ([.ref h0]) ++ List.replicate (1 - (lg_sl ([.ref h0])).length) Slot.unset).toArray = ls at hl ⊢
  have hl : lv_has ls 1 [(0, .ref h0)] := hl
  refine lv_aload_n hx hb dc_X1_init_0 rfl (lv_at hl 0 rfl) ?_
  refine W.objInit hx hb hown (hts (.methodLink "ProofDay$Plan" 3 objectInit) gk_117) (hts (.instanceMethod objectInit) gk_83) (hts _ gk_84) rfl (by rw [hml]; exact hl.1) rfl dc_X1_init_1 (Nat.le_of_ble_eq_true rfl) (Nat.le_of_ble_eq_true rfl) ?_
  refine W.eq (g2 := F0 m 4 ls []) rfl ?_
  refine lv_aload_n hx hb dc_X1_init_4 rfl (lv_at hl 0 rfl) ?_
  refine lv_bipush (v := 10) hx hb dc_X1_init_5 (by decide) ?_
  refine ct_newi hx hb hts hK hP hD hS hA 10 (by decide) (by decide) (by decide) (Nat.le_of_ble_eq_true rfl) (Nat.le_of_ble_eq_true rfl) dc_X1_init_7 (fun q7 H hP hD hS => ?_)
  have hP : va_P D zVC [(h0, .inr (1, [.int 0, .null, .null, .int 0, .null, .null, .int 0, .null, .null, .int 0, .null, .null, .null, .int 0, .int 0])), (q7, .inl (ac 0, 10, .inl (fun _ => 0)))] H := hP
  have hD : va_D A [(h0, .inr (1, [.int 0, .null, .null, .int 0, .null, .null, .int 0, .null, .null, .int 0, .null, .null, .null, .int 0, .int 0])), (q7, .inl (ac 0, 10, .inl (fun _ => 0)))] := hD
  refine W.widen (k := 1) (n := 10) (Nat.le_of_ble_eq_true rfl) (Nat.le_of_ble_eq_true rfl) ?_
  refine ct_put (ac := ac) (c0 := 1) (k := 1) (v := .ref q7) hx hb hts hin hown hK hP hD hS 0 rfl rfl rfl rfl rfl rfl (Nat.le_of_ble_eq_true rfl) dc_X1_init_9 (fun H locs hP hD hS => ?_)
  have hP : va_P D zVC [(h0, .inr (1, [.int 0, .ref q7, .null, .int 0, .null, .null, .int 0, .null, .null, .int 0, .null, .null, .null, .int 0, .int 0])), (q7, .inl (ac 0, 10, .inl (fun _ => 0)))] H := hP
  have hD : va_D A [(h0, .inr (1, [.int 0, .ref q7, .null, .int 0, .null, .null, .int 0, .null, .null, .int 0, .null, .null, .null, .int 0, .int 0])), (q7, .inl (ac 0, 10, .inl (fun _ => 0)))] := hD
  refine lv_aload_n hx hb dc_X1_init_12 rfl (lv_at hl 0 rfl) ?_
  refine lv_bipush (v := 10) hx hb dc_X1_init_13 (by decide) ?_
  refine ct_newi hx hb hts hK hP hD hS hA 10 (by decide) (by decide) (by decide) (Nat.le_of_ble_eq_true rfl) (Nat.le_of_ble_eq_true rfl) dc_X1_init_15 (fun q15 H hP hD hS => ?_)
  have hP : va_P D zVC [(h0, .inr (1, [.int 0, .ref q7, .null, .int 0, .null, .null, .int 0, .null, .null, .int 0, .null, .null, .null, .int 0, .int 0])), (q7, .inl (ac 0, 10, .inl (fun _ => 0))), (q15, .inl (ac 0, 10, .inl (fun _ => 0)))] H := hP
  have hD : va_D A [(h0, .inr (1, [.int 0, .ref q7, .null, .int 0, .null, .null, .int 0, .null, .null, .int 0, .null, .null, .null, .int 0, .int 0])), (q7, .inl (ac 0, 10, .inl (fun _ => 0))), (q15, .inl (ac 0, 10, .inl (fun _ => 0)))] := hD
  refine W.widen (k := 2) (n := 20) (Nat.le_of_ble_eq_true rfl) (Nat.le_of_ble_eq_true rfl) ?_
  refine ct_put (ac := ac) (c0 := 1) (k := 2) (v := .ref q15) hx hb hts hin hown hK hP hD hS 0 rfl rfl rfl rfl rfl rfl (Nat.le_of_ble_eq_true rfl) dc_X1_init_17 (fun H locs hP hD hS => ?_)
  have hP : va_P D zVC [(h0, .inr (1, [.int 0, .ref q7, .ref q15, .int 0, .null, .null, .int 0, .null, .null, .int 0, .null, .null, .null, .int 0, .int 0])), (q7, .inl (ac 0, 10, .inl (fun _ => 0))), (q15, .inl (ac 0, 10, .inl (fun _ => 0)))] H := hP
  have hD : va_D A [(h0, .inr (1, [.int 0, .ref q7, .ref q15, .int 0, .null, .null, .int 0, .null, .null, .int 0, .null, .null, .null, .int 0, .int 0])), (q7, .inl (ac 0, 10, .inl (fun _ => 0))), (q15, .inl (ac 0, 10, .inl (fun _ => 0)))] := hD
  refine lv_aload_n hx hb dc_X1_init_20 rfl (lv_at hl 0 rfl) ?_
  refine lv_bipush (v := 6) hx hb dc_X1_init_21 (by decide) ?_
  refine ct_newi hx hb hts hK hP hD hS hA 6 (by decide) (by decide) (by decide) (Nat.le_of_ble_eq_true rfl) (Nat.le_of_ble_eq_true rfl) dc_X1_init_23 (fun q23 H hP hD hS => ?_)
  have hP : va_P D zVC [(h0, .inr (1, [.int 0, .ref q7, .ref q15, .int 0, .null, .null, .int 0, .null, .null, .int 0, .null, .null, .null, .int 0, .int 0])), (q7, .inl (ac 0, 10, .inl (fun _ => 0))), (q15, .inl (ac 0, 10, .inl (fun _ => 0))), (q23, .inl (ac 0, 6, .inl (fun _ => 0)))] H := hP
  have hD : va_D A [(h0, .inr (1, [.int 0, .ref q7, .ref q15, .int 0, .null, .null, .int 0, .null, .null, .int 0, .null, .null, .null, .int 0, .int 0])), (q7, .inl (ac 0, 10, .inl (fun _ => 0))), (q15, .inl (ac 0, 10, .inl (fun _ => 0))), (q23, .inl (ac 0, 6, .inl (fun _ => 0)))] := hD
  refine W.widen (k := 3) (n := 26) (Nat.le_of_ble_eq_true rfl) (Nat.le_of_ble_eq_true rfl) ?_
  refine ct_put (ac := ac) (c0 := 1) (k := 4) (v := .ref q23) hx hb hts hin hown hK hP hD hS 0 rfl rfl rfl rfl rfl rfl (Nat.le_of_ble_eq_true rfl) dc_X1_init_25 (fun H locs hP hD hS => ?_)
  have hP : va_P D zVC [(h0, .inr (1, [.int 0, .ref q7, .ref q15, .int 0, .ref q23, .null, .int 0, .null, .null, .int 0, .null, .null, .null, .int 0, .int 0])), (q7, .inl (ac 0, 10, .inl (fun _ => 0))), (q15, .inl (ac 0, 10, .inl (fun _ => 0))), (q23, .inl (ac 0, 6, .inl (fun _ => 0)))] H := hP
  have hD : va_D A [(h0, .inr (1, [.int 0, .ref q7, .ref q15, .int 0, .ref q23, .null, .int 0, .null, .null, .int 0, .null, .null, .null, .int 0, .int 0])), (q7, .inl (ac 0, 10, .inl (fun _ => 0))), (q15, .inl (ac 0, 10, .inl (fun _ => 0))), (q23, .inl (ac 0, 6, .inl (fun _ => 0)))] := hD
  refine lv_aload_n hx hb dc_X1_init_28 rfl (lv_at hl 0 rfl) ?_
  refine lv_bipush (v := 6) hx hb dc_X1_init_29 (by decide) ?_
  refine ct_newi hx hb hts hK hP hD hS hA 6 (by decide) (by decide) (by decide) (Nat.le_of_ble_eq_true rfl) (Nat.le_of_ble_eq_true rfl) dc_X1_init_31 (fun q31 H hP hD hS => ?_)
  have hP : va_P D zVC [(h0, .inr (1, [.int 0, .ref q7, .ref q15, .int 0, .ref q23, .null, .int 0, .null, .null, .int 0, .null, .null, .null, .int 0, .int 0])), (q7, .inl (ac 0, 10, .inl (fun _ => 0))), (q15, .inl (ac 0, 10, .inl (fun _ => 0))), (q23, .inl (ac 0, 6, .inl (fun _ => 0))), (q31, .inl (ac 0, 6, .inl (fun _ => 0)))] H := hP
  have hD : va_D A [(h0, .inr (1, [.int 0, .ref q7, .ref q15, .int 0, .ref q23, .null, .int 0, .null, .null, .int 0, .null, .null, .null, .int 0, .int 0])), (q7, .inl (ac 0, 10, .inl (fun _ => 0))), (q15, .inl (ac 0, 10, .inl (fun _ => 0))), (q23, .inl (ac 0, 6, .inl (fun _ => 0))), (q31, .inl (ac 0, 6, .inl (fun _ => 0)))] := hD
  refine W.widen (k := 4) (n := 32) (Nat.le_of_ble_eq_true rfl) (Nat.le_of_ble_eq_true rfl) ?_
  refine ct_put (ac := ac) (c0 := 1) (k := 5) (v := .ref q31) hx hb hts hin hown hK hP hD hS 0 rfl rfl rfl rfl rfl rfl (Nat.le_of_ble_eq_true rfl) dc_X1_init_33 (fun H locs hP hD hS => ?_)
  have hP : va_P D zVC [(h0, .inr (1, [.int 0, .ref q7, .ref q15, .int 0, .ref q23, .ref q31, .int 0, .null, .null, .int 0, .null, .null, .null, .int 0, .int 0])), (q7, .inl (ac 0, 10, .inl (fun _ => 0))), (q15, .inl (ac 0, 10, .inl (fun _ => 0))), (q23, .inl (ac 0, 6, .inl (fun _ => 0))), (q31, .inl (ac 0, 6, .inl (fun _ => 0)))] H := hP
  have hD : va_D A [(h0, .inr (1, [.int 0, .ref q7, .ref q15, .int 0, .ref q23, .ref q31, .int 0, .null, .null, .int 0, .null, .null, .null, .int 0, .int 0])), (q7, .inl (ac 0, 10, .inl (fun _ => 0))), (q15, .inl (ac 0, 10, .inl (fun _ => 0))), (q23, .inl (ac 0, 6, .inl (fun _ => 0))), (q31, .inl (ac 0, 6, .inl (fun _ => 0)))] := hD
  refine lv_aload_n hx hb dc_X1_init_36 rfl (lv_at hl 0 rfl) ?_
  refine lv_bipush (v := 17) hx hb dc_X1_init_37 (by decide) ?_
  refine ct_newi hx hb hts hK hP hD hS hA 17 (by decide) (by decide) (by decide) (Nat.le_of_ble_eq_true rfl) (Nat.le_of_ble_eq_true rfl) dc_X1_init_39 (fun q39 H hP hD hS => ?_)
  have hP : va_P D zVC [(h0, .inr (1, [.int 0, .ref q7, .ref q15, .int 0, .ref q23, .ref q31, .int 0, .null, .null, .int 0, .null, .null, .null, .int 0, .int 0])), (q7, .inl (ac 0, 10, .inl (fun _ => 0))), (q15, .inl (ac 0, 10, .inl (fun _ => 0))), (q23, .inl (ac 0, 6, .inl (fun _ => 0))), (q31, .inl (ac 0, 6, .inl (fun _ => 0))), (q39, .inl (ac 0, 17, .inl (fun _ => 0)))] H := hP
  have hD : va_D A [(h0, .inr (1, [.int 0, .ref q7, .ref q15, .int 0, .ref q23, .ref q31, .int 0, .null, .null, .int 0, .null, .null, .null, .int 0, .int 0])), (q7, .inl (ac 0, 10, .inl (fun _ => 0))), (q15, .inl (ac 0, 10, .inl (fun _ => 0))), (q23, .inl (ac 0, 6, .inl (fun _ => 0))), (q31, .inl (ac 0, 6, .inl (fun _ => 0))), (q39, .inl (ac 0, 17, .inl (fun _ => 0)))] := hD
  refine W.widen (k := 5) (n := 49) (Nat.le_of_ble_eq_true rfl) (Nat.le_of_ble_eq_true rfl) ?_
  refine ct_put (ac := ac) (c0 := 1) (k := 7) (v := .ref q39) hx hb hts hin hown hK hP hD hS 0 rfl rfl rfl rfl rfl rfl (Nat.le_of_ble_eq_true rfl) dc_X1_init_41 (fun H locs hP hD hS => ?_)
  have hP : va_P D zVC [(h0, .inr (1, [.int 0, .ref q7, .ref q15, .int 0, .ref q23, .ref q31, .int 0, .ref q39, .null, .int 0, .null, .null, .null, .int 0, .int 0])), (q7, .inl (ac 0, 10, .inl (fun _ => 0))), (q15, .inl (ac 0, 10, .inl (fun _ => 0))), (q23, .inl (ac 0, 6, .inl (fun _ => 0))), (q31, .inl (ac 0, 6, .inl (fun _ => 0))), (q39, .inl (ac 0, 17, .inl (fun _ => 0)))] H := hP
  have hD : va_D A [(h0, .inr (1, [.int 0, .ref q7, .ref q15, .int 0, .ref q23, .ref q31, .int 0, .ref q39, .null, .int 0, .null, .null, .null, .int 0, .int 0])), (q7, .inl (ac 0, 10, .inl (fun _ => 0))), (q15, .inl (ac 0, 10, .inl (fun _ => 0))), (q23, .inl (ac 0, 6, .inl (fun _ => 0))), (q31, .inl (ac 0, 6, .inl (fun _ => 0))), (q39, .inl (ac 0, 17, .inl (fun _ => 0)))] := hD
  refine lv_aload_n hx hb dc_X1_init_44 rfl (lv_at hl 0 rfl) ?_
  refine lv_bipush (v := 17) hx hb dc_X1_init_45 (by decide) ?_
  refine ct_newi hx hb hts hK hP hD hS hA 17 (by decide) (by decide) (by decide) (Nat.le_of_ble_eq_true rfl) (Nat.le_of_ble_eq_true rfl) dc_X1_init_47 (fun q47 H hP hD hS => ?_)
  have hP : va_P D zVC [(h0, .inr (1, [.int 0, .ref q7, .ref q15, .int 0, .ref q23, .ref q31, .int 0, .ref q39, .null, .int 0, .null, .null, .null, .int 0, .int 0])), (q7, .inl (ac 0, 10, .inl (fun _ => 0))), (q15, .inl (ac 0, 10, .inl (fun _ => 0))), (q23, .inl (ac 0, 6, .inl (fun _ => 0))), (q31, .inl (ac 0, 6, .inl (fun _ => 0))), (q39, .inl (ac 0, 17, .inl (fun _ => 0))), (q47, .inl (ac 0, 17, .inl (fun _ => 0)))] H := hP
  have hD : va_D A [(h0, .inr (1, [.int 0, .ref q7, .ref q15, .int 0, .ref q23, .ref q31, .int 0, .ref q39, .null, .int 0, .null, .null, .null, .int 0, .int 0])), (q7, .inl (ac 0, 10, .inl (fun _ => 0))), (q15, .inl (ac 0, 10, .inl (fun _ => 0))), (q23, .inl (ac 0, 6, .inl (fun _ => 0))), (q31, .inl (ac 0, 6, .inl (fun _ => 0))), (q39, .inl (ac 0, 17, .inl (fun _ => 0))), (q47, .inl (ac 0, 17, .inl (fun _ => 0)))] := hD
  refine W.widen (k := 6) (n := 66) (Nat.le_of_ble_eq_true rfl) (Nat.le_of_ble_eq_true rfl) ?_
  refine ct_put (ac := ac) (c0 := 1) (k := 8) (v := .ref q47) hx hb hts hin hown hK hP hD hS 0 rfl rfl rfl rfl rfl rfl (Nat.le_of_ble_eq_true rfl) dc_X1_init_49 (fun H locs hP hD hS => ?_)
  have hP : va_P D zVC [(h0, .inr (1, [.int 0, .ref q7, .ref q15, .int 0, .ref q23, .ref q31, .int 0, .ref q39, .ref q47, .int 0, .null, .null, .null, .int 0, .int 0])), (q7, .inl (ac 0, 10, .inl (fun _ => 0))), (q15, .inl (ac 0, 10, .inl (fun _ => 0))), (q23, .inl (ac 0, 6, .inl (fun _ => 0))), (q31, .inl (ac 0, 6, .inl (fun _ => 0))), (q39, .inl (ac 0, 17, .inl (fun _ => 0))), (q47, .inl (ac 0, 17, .inl (fun _ => 0)))] H := hP
  have hD : va_D A [(h0, .inr (1, [.int 0, .ref q7, .ref q15, .int 0, .ref q23, .ref q31, .int 0, .ref q39, .ref q47, .int 0, .null, .null, .null, .int 0, .int 0])), (q7, .inl (ac 0, 10, .inl (fun _ => 0))), (q15, .inl (ac 0, 10, .inl (fun _ => 0))), (q23, .inl (ac 0, 6, .inl (fun _ => 0))), (q31, .inl (ac 0, 6, .inl (fun _ => 0))), (q39, .inl (ac 0, 17, .inl (fun _ => 0))), (q47, .inl (ac 0, 17, .inl (fun _ => 0)))] := hD
  refine lv_aload_n hx hb dc_X1_init_52 rfl (lv_at hl 0 rfl) ?_
  refine lv_bipush (v := 8) hx hb dc_X1_init_53 (by decide) ?_
  refine ct_newi hx hb hts hK hP hD hS hA 8 (by decide) (by decide) (by decide) (Nat.le_of_ble_eq_true rfl) (Nat.le_of_ble_eq_true rfl) dc_X1_init_55 (fun q55 H hP hD hS => ?_)
  have hP : va_P D zVC [(h0, .inr (1, [.int 0, .ref q7, .ref q15, .int 0, .ref q23, .ref q31, .int 0, .ref q39, .ref q47, .int 0, .null, .null, .null, .int 0, .int 0])), (q7, .inl (ac 0, 10, .inl (fun _ => 0))), (q15, .inl (ac 0, 10, .inl (fun _ => 0))), (q23, .inl (ac 0, 6, .inl (fun _ => 0))), (q31, .inl (ac 0, 6, .inl (fun _ => 0))), (q39, .inl (ac 0, 17, .inl (fun _ => 0))), (q47, .inl (ac 0, 17, .inl (fun _ => 0))), (q55, .inl (ac 0, 8, .inl (fun _ => 0)))] H := hP
  have hD : va_D A [(h0, .inr (1, [.int 0, .ref q7, .ref q15, .int 0, .ref q23, .ref q31, .int 0, .ref q39, .ref q47, .int 0, .null, .null, .null, .int 0, .int 0])), (q7, .inl (ac 0, 10, .inl (fun _ => 0))), (q15, .inl (ac 0, 10, .inl (fun _ => 0))), (q23, .inl (ac 0, 6, .inl (fun _ => 0))), (q31, .inl (ac 0, 6, .inl (fun _ => 0))), (q39, .inl (ac 0, 17, .inl (fun _ => 0))), (q47, .inl (ac 0, 17, .inl (fun _ => 0))), (q55, .inl (ac 0, 8, .inl (fun _ => 0)))] := hD
  refine W.widen (k := 7) (n := 74) (Nat.le_of_ble_eq_true rfl) (Nat.le_of_ble_eq_true rfl) ?_
  refine ct_put (ac := ac) (c0 := 1) (k := 10) (v := .ref q55) hx hb hts hin hown hK hP hD hS 0 rfl rfl rfl rfl rfl rfl (Nat.le_of_ble_eq_true rfl) dc_X1_init_57 (fun H locs hP hD hS => ?_)
  have hP : va_P D zVC [(h0, .inr (1, [.int 0, .ref q7, .ref q15, .int 0, .ref q23, .ref q31, .int 0, .ref q39, .ref q47, .int 0, .ref q55, .null, .null, .int 0, .int 0])), (q7, .inl (ac 0, 10, .inl (fun _ => 0))), (q15, .inl (ac 0, 10, .inl (fun _ => 0))), (q23, .inl (ac 0, 6, .inl (fun _ => 0))), (q31, .inl (ac 0, 6, .inl (fun _ => 0))), (q39, .inl (ac 0, 17, .inl (fun _ => 0))), (q47, .inl (ac 0, 17, .inl (fun _ => 0))), (q55, .inl (ac 0, 8, .inl (fun _ => 0)))] H := hP
  have hD : va_D A [(h0, .inr (1, [.int 0, .ref q7, .ref q15, .int 0, .ref q23, .ref q31, .int 0, .ref q39, .ref q47, .int 0, .ref q55, .null, .null, .int 0, .int 0])), (q7, .inl (ac 0, 10, .inl (fun _ => 0))), (q15, .inl (ac 0, 10, .inl (fun _ => 0))), (q23, .inl (ac 0, 6, .inl (fun _ => 0))), (q31, .inl (ac 0, 6, .inl (fun _ => 0))), (q39, .inl (ac 0, 17, .inl (fun _ => 0))), (q47, .inl (ac 0, 17, .inl (fun _ => 0))), (q55, .inl (ac 0, 8, .inl (fun _ => 0)))] := hD
  refine lv_aload_n hx hb dc_X1_init_60 rfl (lv_at hl 0 rfl) ?_
  refine lv_bipush (v := 8) hx hb dc_X1_init_61 (by decide) ?_
  refine ct_newi hx hb hts hK hP hD hS hA 8 (by decide) (by decide) (by decide) (Nat.le_of_ble_eq_true rfl) (Nat.le_of_ble_eq_true rfl) dc_X1_init_63 (fun q63 H hP hD hS => ?_)
  have hP : va_P D zVC [(h0, .inr (1, [.int 0, .ref q7, .ref q15, .int 0, .ref q23, .ref q31, .int 0, .ref q39, .ref q47, .int 0, .ref q55, .null, .null, .int 0, .int 0])), (q7, .inl (ac 0, 10, .inl (fun _ => 0))), (q15, .inl (ac 0, 10, .inl (fun _ => 0))), (q23, .inl (ac 0, 6, .inl (fun _ => 0))), (q31, .inl (ac 0, 6, .inl (fun _ => 0))), (q39, .inl (ac 0, 17, .inl (fun _ => 0))), (q47, .inl (ac 0, 17, .inl (fun _ => 0))), (q55, .inl (ac 0, 8, .inl (fun _ => 0))), (q63, .inl (ac 0, 8, .inl (fun _ => 0)))] H := hP
  have hD : va_D A [(h0, .inr (1, [.int 0, .ref q7, .ref q15, .int 0, .ref q23, .ref q31, .int 0, .ref q39, .ref q47, .int 0, .ref q55, .null, .null, .int 0, .int 0])), (q7, .inl (ac 0, 10, .inl (fun _ => 0))), (q15, .inl (ac 0, 10, .inl (fun _ => 0))), (q23, .inl (ac 0, 6, .inl (fun _ => 0))), (q31, .inl (ac 0, 6, .inl (fun _ => 0))), (q39, .inl (ac 0, 17, .inl (fun _ => 0))), (q47, .inl (ac 0, 17, .inl (fun _ => 0))), (q55, .inl (ac 0, 8, .inl (fun _ => 0))), (q63, .inl (ac 0, 8, .inl (fun _ => 0)))] := hD
  refine W.widen (k := 8) (n := 82) (Nat.le_of_ble_eq_true rfl) (Nat.le_of_ble_eq_true rfl) ?_
  refine ct_put (ac := ac) (c0 := 1) (k := 11) (v := .ref q63) hx hb hts hin hown hK hP hD hS 0 rfl rfl rfl rfl rfl rfl (Nat.le_of_ble_eq_true rfl) dc_X1_init_65 (fun H locs hP hD hS => ?_)
  have hP : va_P D zVC [(h0, .inr (1, [.int 0, .ref q7, .ref q15, .int 0, .ref q23, .ref q31, .int 0, .ref q39, .ref q47, .int 0, .ref q55, .ref q63, .null, .int 0, .int 0])), (q7, .inl (ac 0, 10, .inl (fun _ => 0))), (q15, .inl (ac 0, 10, .inl (fun _ => 0))), (q23, .inl (ac 0, 6, .inl (fun _ => 0))), (q31, .inl (ac 0, 6, .inl (fun _ => 0))), (q39, .inl (ac 0, 17, .inl (fun _ => 0))), (q47, .inl (ac 0, 17, .inl (fun _ => 0))), (q55, .inl (ac 0, 8, .inl (fun _ => 0))), (q63, .inl (ac 0, 8, .inl (fun _ => 0)))] H := hP
  have hD : va_D A [(h0, .inr (1, [.int 0, .ref q7, .ref q15, .int 0, .ref q23, .ref q31, .int 0, .ref q39, .ref q47, .int 0, .ref q55, .ref q63, .null, .int 0, .int 0])), (q7, .inl (ac 0, 10, .inl (fun _ => 0))), (q15, .inl (ac 0, 10, .inl (fun _ => 0))), (q23, .inl (ac 0, 6, .inl (fun _ => 0))), (q31, .inl (ac 0, 6, .inl (fun _ => 0))), (q39, .inl (ac 0, 17, .inl (fun _ => 0))), (q47, .inl (ac 0, 17, .inl (fun _ => 0))), (q55, .inl (ac 0, 8, .inl (fun _ => 0))), (q63, .inl (ac 0, 8, .inl (fun _ => 0)))] := hD
  refine lv_aload_n hx hb dc_X1_init_68 rfl (lv_at hl 0 rfl) ?_
  refine lv_bipush (v := 8) hx hb dc_X1_init_69 (by decide) ?_
  refine ct_newi hx hb hts hK hP hD hS hA 8 (by decide) (by decide) (by decide) (Nat.le_of_ble_eq_true rfl) (Nat.le_of_ble_eq_true rfl) dc_X1_init_71 (fun q71 H hP hD hS => ?_)
  have hP : va_P D zVC [(h0, .inr (1, [.int 0, .ref q7, .ref q15, .int 0, .ref q23, .ref q31, .int 0, .ref q39, .ref q47, .int 0, .ref q55, .ref q63, .null, .int 0, .int 0])), (q7, .inl (ac 0, 10, .inl (fun _ => 0))), (q15, .inl (ac 0, 10, .inl (fun _ => 0))), (q23, .inl (ac 0, 6, .inl (fun _ => 0))), (q31, .inl (ac 0, 6, .inl (fun _ => 0))), (q39, .inl (ac 0, 17, .inl (fun _ => 0))), (q47, .inl (ac 0, 17, .inl (fun _ => 0))), (q55, .inl (ac 0, 8, .inl (fun _ => 0))), (q63, .inl (ac 0, 8, .inl (fun _ => 0))), (q71, .inl (ac 0, 8, .inl (fun _ => 0)))] H := hP
  have hD : va_D A [(h0, .inr (1, [.int 0, .ref q7, .ref q15, .int 0, .ref q23, .ref q31, .int 0, .ref q39, .ref q47, .int 0, .ref q55, .ref q63, .null, .int 0, .int 0])), (q7, .inl (ac 0, 10, .inl (fun _ => 0))), (q15, .inl (ac 0, 10, .inl (fun _ => 0))), (q23, .inl (ac 0, 6, .inl (fun _ => 0))), (q31, .inl (ac 0, 6, .inl (fun _ => 0))), (q39, .inl (ac 0, 17, .inl (fun _ => 0))), (q47, .inl (ac 0, 17, .inl (fun _ => 0))), (q55, .inl (ac 0, 8, .inl (fun _ => 0))), (q63, .inl (ac 0, 8, .inl (fun _ => 0))), (q71, .inl (ac 0, 8, .inl (fun _ => 0)))] := hD
  refine W.widen (k := 9) (n := 90) (Nat.le_of_ble_eq_true rfl) (Nat.le_of_ble_eq_true rfl) ?_
  refine ct_put (ac := ac) (c0 := 1) (k := 12) (v := .ref q71) hx hb hts hin hown hK hP hD hS 0 rfl rfl rfl rfl rfl rfl (Nat.le_of_ble_eq_true rfl) dc_X1_init_73 (fun H locs hP hD hS => ?_)
  have hP : va_P D zVC [(h0, .inr (1, [.int 0, .ref q7, .ref q15, .int 0, .ref q23, .ref q31, .int 0, .ref q39, .ref q47, .int 0, .ref q55, .ref q63, .ref q71, .int 0, .int 0])), (q7, .inl (ac 0, 10, .inl (fun _ => 0))), (q15, .inl (ac 0, 10, .inl (fun _ => 0))), (q23, .inl (ac 0, 6, .inl (fun _ => 0))), (q31, .inl (ac 0, 6, .inl (fun _ => 0))), (q39, .inl (ac 0, 17, .inl (fun _ => 0))), (q47, .inl (ac 0, 17, .inl (fun _ => 0))), (q55, .inl (ac 0, 8, .inl (fun _ => 0))), (q63, .inl (ac 0, 8, .inl (fun _ => 0))), (q71, .inl (ac 0, 8, .inl (fun _ => 0)))] H := hP
  have hD : va_D A [(h0, .inr (1, [.int 0, .ref q7, .ref q15, .int 0, .ref q23, .ref q31, .int 0, .ref q39, .ref q47, .int 0, .ref q55, .ref q63, .ref q71, .int 0, .int 0])), (q7, .inl (ac 0, 10, .inl (fun _ => 0))), (q15, .inl (ac 0, 10, .inl (fun _ => 0))), (q23, .inl (ac 0, 6, .inl (fun _ => 0))), (q31, .inl (ac 0, 6, .inl (fun _ => 0))), (q39, .inl (ac 0, 17, .inl (fun _ => 0))), (q47, .inl (ac 0, 17, .inl (fun _ => 0))), (q55, .inl (ac 0, 8, .inl (fun _ => 0))), (q63, .inl (ac 0, 8, .inl (fun _ => 0))), (q71, .inl (ac 0, 8, .inl (fun _ => 0)))] := hD
  refine lv_aload_n hx hb dc_X1_init_76 rfl (lv_at hl 0 rfl) ?_
  refine lv_bipush (v := 12) hx hb dc_X1_init_77 (by decide) ?_
  refine ct_put (ac := ac) (c0 := 1) (k := 14) (v := .int 12) hx hb hts hin hown hK hP hD hS 0 rfl rfl rfl rfl rfl rfl (Nat.le_of_ble_eq_true rfl) dc_X1_init_79 (fun H locs hP hD hS => ?_)
  have hP : va_P D zVC [(h0, .inr (1, [.int 0, .ref q7, .ref q15, .int 0, .ref q23, .ref q31, .int 0, .ref q39, .ref q47, .int 0, .ref q55, .ref q63, .ref q71, .int 0, .int 12])), (q7, .inl (ac 0, 10, .inl (fun _ => 0))), (q15, .inl (ac 0, 10, .inl (fun _ => 0))), (q23, .inl (ac 0, 6, .inl (fun _ => 0))), (q31, .inl (ac 0, 6, .inl (fun _ => 0))), (q39, .inl (ac 0, 17, .inl (fun _ => 0))), (q47, .inl (ac 0, 17, .inl (fun _ => 0))), (q55, .inl (ac 0, 8, .inl (fun _ => 0))), (q63, .inl (ac 0, 8, .inl (fun _ => 0))), (q71, .inl (ac 0, 8, .inl (fun _ => 0)))] H := hP
  have hD : va_D A [(h0, .inr (1, [.int 0, .ref q7, .ref q15, .int 0, .ref q23, .ref q31, .int 0, .ref q39, .ref q47, .int 0, .ref q55, .ref q63, .ref q71, .int 0, .int 12])), (q7, .inl (ac 0, 10, .inl (fun _ => 0))), (q15, .inl (ac 0, 10, .inl (fun _ => 0))), (q23, .inl (ac 0, 6, .inl (fun _ => 0))), (q31, .inl (ac 0, 6, .inl (fun _ => 0))), (q39, .inl (ac 0, 17, .inl (fun _ => 0))), (q47, .inl (ac 0, 17, .inl (fun _ => 0))), (q55, .inl (ac 0, 8, .inl (fun _ => 0))), (q63, .inl (ac 0, 8, .inl (fun _ => 0))), (q71, .inl (ac 0, 8, .inl (fun _ => 0)))] := hD
  have hP9 := hP.sub (ws' := [(h0, .inr (1, [.int 0, .ref q7, .ref q15, .int 0, .ref q23, .ref q31, .int 0, .ref q39, .ref q47, .int 0, .ref q55, .ref q63, .ref q71, .int 0, .int 12])), (q7, .inl (ac 0, 10, .inl (fun _ => 0))), (q15, .inl (ac 0, 10, .inl (fun _ => 0))), (q23, .inl (ac 0, 6, .inl (fun _ => 0))), (q31, .inl (ac 0, 6, .inl (fun _ => 0))), (q39, .inl (ac 0, 17, .inl (fun _ => 0))), (q47, .inl (ac 0, 17, .inl (fun _ => 0))), (q55, .inl (ac 0, 8, .inl (fun _ => 0))), (q63, .inl (ac 0, 8, .inl (fun _ => 0))), (q71, .inl (ac 0, 8, .inl (fun _ => 0)))]) [0, 1, 2, 3, 4, 5, 6, 7, 8, 9] rfl
  have hD9 := hD.sub (ws' := [(h0, .inr (1, [.int 0, .ref q7, .ref q15, .int 0, .ref q23, .ref q31, .int 0, .ref q39, .ref q47, .int 0, .ref q55, .ref q63, .ref q71, .int 0, .int 12])), (q7, .inl (ac 0, 10, .inl (fun _ => 0))), (q15, .inl (ac 0, 10, .inl (fun _ => 0))), (q23, .inl (ac 0, 6, .inl (fun _ => 0))), (q31, .inl (ac 0, 6, .inl (fun _ => 0))), (q39, .inl (ac 0, 17, .inl (fun _ => 0))), (q47, .inl (ac 0, 17, .inl (fun _ => 0))), (q55, .inl (ac 0, 8, .inl (fun _ => 0))), (q63, .inl (ac 0, 8, .inl (fun _ => 0))), (q71, .inl (ac 0, 8, .inl (fun _ => 0)))]) [0, 1, 2, 3, 4, 5, 6, 7, 8, 9] (by decide) rfl
  exact W.vret hx hb hr (fun t ht hW => ⟨⟨(fun i => ([q7, q15, q23, q31, q39, q47, q55, q63, q71] : List Nat).getD i 0), rfl, trivial, by rw [ht]; exact hP9, hD9⟩, hS.F ht⟩) hS.2.2 dc_X1_init_82
set_option maxHeartbeats 4000000 in
set_option maxRecDepth 100000 in
theorem ck_X0 (l : Launch) (D : va_G) (ac : Nat → ClassId) (sz : Nat) (h0 : Nat) : Met l yX0_init (Cond.code yX0_init cX0_init 1 none :: zT) ({ frames := 2, cells := 9, slots := 88, locals := 100 }) (va_Pc [.ref h0] (ctPre ac D (fun _ => True) sz [(h0, .inr (0, [.int 0, .null, .null, .null, .null, .null, .null, .null, .null, .null]))])) (ctQ D sz [(h0, .inr (0, [.int 0, .null, .null, .null, .null, .null, .null, .null, .null, .null]))] (fun a => [(h0, .inr (0, [.int 0, .ref (a 0), .ref (a 1), .ref (a 2), .ref (a 3), .ref (a 4), .ref (a 5), .ref (a 6), .ref (a 7), .ref (a 8)])), ((a 0), .inl (ac 0, 10, .inl (fun _ => (-1)))), ((a 1), .inl (ac 0, 10, .inl (fun _ => (-1)))), ((a 2), .inl (ac 0, 10, .inl (fun _ => 0))), ((a 3), .inl (ac 0, 6, .inl (fun _ => 0))), ((a 4), .inl (ac 0, 6, .inl (fun _ => 0))), ((a 5), .inl (ac 0, 6, .inl (fun _ => (-1)))), ((a 6), .inl (ac 0, 6, .inl (fun _ => 0))), ((a 7), .inl (ac 0, 17, .inl (fun _ => (-1)))), ((a 8), .inl (ac 0, 17, .inl (fun _ => 0)))])) 9 88 (va_A [(h0, .inr (0, [.int 0, .null, .null, .null, .null, .null, .null, .null, .null, .null]))] sz) := by
  refine Met.ofW (cc := cX0_init) (maxL := 1) (ret := none) (by decide) rfl ?_
  intro p e s m args below meth c s₁ B hml hv
  obtain ⟨rfl, hsz, hP, hK, hD0, hE⟩ := hv
  have hx := B.exec
  have hb := B.bytes
  have hr := B.returns
  have hts0 := atoms_spec (ws := Cond.code yX0_init cX0_init 1 none :: zT) B.pre
  have hts : ∀ w ∈ zT, w.before _ s = true := fun w hw => hts0 w (List.mem_cons_of_mem _ hw)
  have hown : s.vm.findClass RX0 = some m.cls := findClass_of_methodNamed B.named
  have hlocks := B.notSynchronized
  have hin : meth.name = "<init>" := (name_of_methodNamed B.named B.method).1
  subst hsz
  have hD := hD0.self (sz := s.heap.size)
  unfold ctQ
  generalize hAe : va_A [(h0, .inr (0, [.int 0, .null, .null, .null, .null, .null, .null, .null, .null, .null]))] s.heap.size = A at hD ⊢
  have hA : ∀ q : Nat, s.heap.size ≤ q → A q := fun q h => by rw [← hAe]; exact Or.inr h
  have hS : va_S A s.heap s.heap [] := va_S.rf
  have hP : va_P D zVC [(h0, .inr (0, [.int 0, .null, .null, .null, .null, .null, .null, .null, .null, .null]))] s.heap := hP
  have hl := lv_entry ([.ref h0]) (n := 1) (Nat.le_of_ble_eq_true rfl)
  rw [lg_entry_eq]
  generalize (lg_sl ([.ref h0]) ++ List.replicate (1 - (lg_sl ([.ref h0])).length) Slot.unset).toArray = ls at hl ⊢
  have hl : lv_has ls 1 [(0, .ref h0)] := hl
  refine lv_aload_n hx hb dc_X0_init_0 rfl (lv_at hl 0 rfl) ?_
  refine W.objInit hx hb hown (hts (.methodLink "ProofDay$Night" 3 objectInit) gk_191) (hts (.instanceMethod objectInit) gk_83) (hts _ gk_84) rfl (by rw [hml]; exact hl.1) rfl dc_X0_init_1 (Nat.le_of_ble_eq_true rfl) (Nat.le_of_ble_eq_true rfl) ?_
  refine W.eq (g2 := F0 m 4 ls []) rfl ?_
  refine lv_aload_n hx hb dc_X0_init_4 rfl (lv_at hl 0 rfl) ?_
  refine lv_bipush (v := 10) hx hb dc_X0_init_5 (by decide) ?_
  refine ct_newi hx hb hts hK hP hD hS hA 10 (by decide) (by decide) (by decide) (Nat.le_of_ble_eq_true rfl) (Nat.le_of_ble_eq_true rfl) dc_X0_init_7 (fun q7 H hP hD hS => ?_)
  have hP : va_P D zVC [(h0, .inr (0, [.int 0, .null, .null, .null, .null, .null, .null, .null, .null, .null])), (q7, .inl (ac 0, 10, .inl (fun _ => 0)))] H := hP
  have hD : va_D A [(h0, .inr (0, [.int 0, .null, .null, .null, .null, .null, .null, .null, .null, .null])), (q7, .inl (ac 0, 10, .inl (fun _ => 0)))] := hD
  refine W.widen (k := 1) (n := 10) (Nat.le_of_ble_eq_true rfl) (Nat.le_of_ble_eq_true rfl) ?_
  refine ct_put (ac := ac) (c0 := 0) (k := 1) (v := .ref q7) hx hb hts hin hown hK hP hD hS 0 rfl rfl rfl rfl rfl rfl (Nat.le_of_ble_eq_true rfl) dc_X0_init_9 (fun H locs hP hD hS => ?_)
  have hP : va_P D zVC [(h0, .inr (0, [.int 0, .ref q7, .null, .null, .null, .null, .null, .null, .null, .null])), (q7, .inl (ac 0, 10, .inl (fun _ => 0)))] H := hP
  have hD : va_D A [(h0, .inr (0, [.int 0, .ref q7, .null, .null, .null, .null, .null, .null, .null, .null])), (q7, .inl (ac 0, 10, .inl (fun _ => 0)))] := hD
  refine lv_aload_n hx hb dc_X0_init_12 rfl (lv_at hl 0 rfl) ?_
  refine lv_bipush (v := 10) hx hb dc_X0_init_13 (by decide) ?_
  refine ct_newi hx hb hts hK hP hD hS hA 10 (by decide) (by decide) (by decide) (Nat.le_of_ble_eq_true rfl) (Nat.le_of_ble_eq_true rfl) dc_X0_init_15 (fun q15 H hP hD hS => ?_)
  have hP : va_P D zVC [(h0, .inr (0, [.int 0, .ref q7, .null, .null, .null, .null, .null, .null, .null, .null])), (q7, .inl (ac 0, 10, .inl (fun _ => 0))), (q15, .inl (ac 0, 10, .inl (fun _ => 0)))] H := hP
  have hD : va_D A [(h0, .inr (0, [.int 0, .ref q7, .null, .null, .null, .null, .null, .null, .null, .null])), (q7, .inl (ac 0, 10, .inl (fun _ => 0))), (q15, .inl (ac 0, 10, .inl (fun _ => 0)))] := hD
  refine W.widen (k := 2) (n := 20) (Nat.le_of_ble_eq_true rfl) (Nat.le_of_ble_eq_true rfl) ?_
  refine ct_put (ac := ac) (c0 := 0) (k := 2) (v := .ref q15) hx hb hts hin hown hK hP hD hS 0 rfl rfl rfl rfl rfl rfl (Nat.le_of_ble_eq_true rfl) dc_X0_init_17 (fun H locs hP hD hS => ?_)
  have hP : va_P D zVC [(h0, .inr (0, [.int 0, .ref q7, .ref q15, .null, .null, .null, .null, .null, .null, .null])), (q7, .inl (ac 0, 10, .inl (fun _ => 0))), (q15, .inl (ac 0, 10, .inl (fun _ => 0)))] H := hP
  have hD : va_D A [(h0, .inr (0, [.int 0, .ref q7, .ref q15, .null, .null, .null, .null, .null, .null, .null])), (q7, .inl (ac 0, 10, .inl (fun _ => 0))), (q15, .inl (ac 0, 10, .inl (fun _ => 0)))] := hD
  refine lv_aload_n hx hb dc_X0_init_20 rfl (lv_at hl 0 rfl) ?_
  refine lv_bipush (v := 10) hx hb dc_X0_init_21 (by decide) ?_
  refine ct_newi hx hb hts hK hP hD hS hA 10 (by decide) (by decide) (by decide) (Nat.le_of_ble_eq_true rfl) (Nat.le_of_ble_eq_true rfl) dc_X0_init_23 (fun q23 H hP hD hS => ?_)
  have hP : va_P D zVC [(h0, .inr (0, [.int 0, .ref q7, .ref q15, .null, .null, .null, .null, .null, .null, .null])), (q7, .inl (ac 0, 10, .inl (fun _ => 0))), (q15, .inl (ac 0, 10, .inl (fun _ => 0))), (q23, .inl (ac 0, 10, .inl (fun _ => 0)))] H := hP
  have hD : va_D A [(h0, .inr (0, [.int 0, .ref q7, .ref q15, .null, .null, .null, .null, .null, .null, .null])), (q7, .inl (ac 0, 10, .inl (fun _ => 0))), (q15, .inl (ac 0, 10, .inl (fun _ => 0))), (q23, .inl (ac 0, 10, .inl (fun _ => 0)))] := hD
  refine W.widen (k := 3) (n := 30) (Nat.le_of_ble_eq_true rfl) (Nat.le_of_ble_eq_true rfl) ?_
  refine ct_put (ac := ac) (c0 := 0) (k := 3) (v := .ref q23) hx hb hts hin hown hK hP hD hS 0 rfl rfl rfl rfl rfl rfl (Nat.le_of_ble_eq_true rfl) dc_X0_init_25 (fun H locs hP hD hS => ?_)
  have hP : va_P D zVC [(h0, .inr (0, [.int 0, .ref q7, .ref q15, .ref q23, .null, .null, .null, .null, .null, .null])), (q7, .inl (ac 0, 10, .inl (fun _ => 0))), (q15, .inl (ac 0, 10, .inl (fun _ => 0))), (q23, .inl (ac 0, 10, .inl (fun _ => 0)))] H := hP
  have hD : va_D A [(h0, .inr (0, [.int 0, .ref q7, .ref q15, .ref q23, .null, .null, .null, .null, .null, .null])), (q7, .inl (ac 0, 10, .inl (fun _ => 0))), (q15, .inl (ac 0, 10, .inl (fun _ => 0))), (q23, .inl (ac 0, 10, .inl (fun _ => 0)))] := hD
  refine lv_aload_n hx hb dc_X0_init_28 rfl (lv_at hl 0 rfl) ?_
  refine lv_bipush (v := 6) hx hb dc_X0_init_29 (by decide) ?_
  refine ct_newi hx hb hts hK hP hD hS hA 6 (by decide) (by decide) (by decide) (Nat.le_of_ble_eq_true rfl) (Nat.le_of_ble_eq_true rfl) dc_X0_init_31 (fun q31 H hP hD hS => ?_)
  have hP : va_P D zVC [(h0, .inr (0, [.int 0, .ref q7, .ref q15, .ref q23, .null, .null, .null, .null, .null, .null])), (q7, .inl (ac 0, 10, .inl (fun _ => 0))), (q15, .inl (ac 0, 10, .inl (fun _ => 0))), (q23, .inl (ac 0, 10, .inl (fun _ => 0))), (q31, .inl (ac 0, 6, .inl (fun _ => 0)))] H := hP
  have hD : va_D A [(h0, .inr (0, [.int 0, .ref q7, .ref q15, .ref q23, .null, .null, .null, .null, .null, .null])), (q7, .inl (ac 0, 10, .inl (fun _ => 0))), (q15, .inl (ac 0, 10, .inl (fun _ => 0))), (q23, .inl (ac 0, 10, .inl (fun _ => 0))), (q31, .inl (ac 0, 6, .inl (fun _ => 0)))] := hD
  refine W.widen (k := 4) (n := 36) (Nat.le_of_ble_eq_true rfl) (Nat.le_of_ble_eq_true rfl) ?_
  refine ct_put (ac := ac) (c0 := 0) (k := 4) (v := .ref q31) hx hb hts hin hown hK hP hD hS 0 rfl rfl rfl rfl rfl rfl (Nat.le_of_ble_eq_true rfl) dc_X0_init_33 (fun H locs hP hD hS => ?_)
  have hP : va_P D zVC [(h0, .inr (0, [.int 0, .ref q7, .ref q15, .ref q23, .ref q31, .null, .null, .null, .null, .null])), (q7, .inl (ac 0, 10, .inl (fun _ => 0))), (q15, .inl (ac 0, 10, .inl (fun _ => 0))), (q23, .inl (ac 0, 10, .inl (fun _ => 0))), (q31, .inl (ac 0, 6, .inl (fun _ => 0)))] H := hP
  have hD : va_D A [(h0, .inr (0, [.int 0, .ref q7, .ref q15, .ref q23, .ref q31, .null, .null, .null, .null, .null])), (q7, .inl (ac 0, 10, .inl (fun _ => 0))), (q15, .inl (ac 0, 10, .inl (fun _ => 0))), (q23, .inl (ac 0, 10, .inl (fun _ => 0))), (q31, .inl (ac 0, 6, .inl (fun _ => 0)))] := hD
  refine lv_aload_n hx hb dc_X0_init_36 rfl (lv_at hl 0 rfl) ?_
  refine lv_bipush (v := 6) hx hb dc_X0_init_37 (by decide) ?_
  refine ct_newi hx hb hts hK hP hD hS hA 6 (by decide) (by decide) (by decide) (Nat.le_of_ble_eq_true rfl) (Nat.le_of_ble_eq_true rfl) dc_X0_init_39 (fun q39 H hP hD hS => ?_)
  have hP : va_P D zVC [(h0, .inr (0, [.int 0, .ref q7, .ref q15, .ref q23, .ref q31, .null, .null, .null, .null, .null])), (q7, .inl (ac 0, 10, .inl (fun _ => 0))), (q15, .inl (ac 0, 10, .inl (fun _ => 0))), (q23, .inl (ac 0, 10, .inl (fun _ => 0))), (q31, .inl (ac 0, 6, .inl (fun _ => 0))), (q39, .inl (ac 0, 6, .inl (fun _ => 0)))] H := hP
  have hD : va_D A [(h0, .inr (0, [.int 0, .ref q7, .ref q15, .ref q23, .ref q31, .null, .null, .null, .null, .null])), (q7, .inl (ac 0, 10, .inl (fun _ => 0))), (q15, .inl (ac 0, 10, .inl (fun _ => 0))), (q23, .inl (ac 0, 10, .inl (fun _ => 0))), (q31, .inl (ac 0, 6, .inl (fun _ => 0))), (q39, .inl (ac 0, 6, .inl (fun _ => 0)))] := hD
  refine W.widen (k := 5) (n := 42) (Nat.le_of_ble_eq_true rfl) (Nat.le_of_ble_eq_true rfl) ?_
  refine ct_put (ac := ac) (c0 := 0) (k := 5) (v := .ref q39) hx hb hts hin hown hK hP hD hS 0 rfl rfl rfl rfl rfl rfl (Nat.le_of_ble_eq_true rfl) dc_X0_init_41 (fun H locs hP hD hS => ?_)
  have hP : va_P D zVC [(h0, .inr (0, [.int 0, .ref q7, .ref q15, .ref q23, .ref q31, .ref q39, .null, .null, .null, .null])), (q7, .inl (ac 0, 10, .inl (fun _ => 0))), (q15, .inl (ac 0, 10, .inl (fun _ => 0))), (q23, .inl (ac 0, 10, .inl (fun _ => 0))), (q31, .inl (ac 0, 6, .inl (fun _ => 0))), (q39, .inl (ac 0, 6, .inl (fun _ => 0)))] H := hP
  have hD : va_D A [(h0, .inr (0, [.int 0, .ref q7, .ref q15, .ref q23, .ref q31, .ref q39, .null, .null, .null, .null])), (q7, .inl (ac 0, 10, .inl (fun _ => 0))), (q15, .inl (ac 0, 10, .inl (fun _ => 0))), (q23, .inl (ac 0, 10, .inl (fun _ => 0))), (q31, .inl (ac 0, 6, .inl (fun _ => 0))), (q39, .inl (ac 0, 6, .inl (fun _ => 0)))] := hD
  refine lv_aload_n hx hb dc_X0_init_44 rfl (lv_at hl 0 rfl) ?_
  refine lv_bipush (v := 6) hx hb dc_X0_init_45 (by decide) ?_
  refine ct_newi hx hb hts hK hP hD hS hA 6 (by decide) (by decide) (by decide) (Nat.le_of_ble_eq_true rfl) (Nat.le_of_ble_eq_true rfl) dc_X0_init_47 (fun q47 H hP hD hS => ?_)
  have hP : va_P D zVC [(h0, .inr (0, [.int 0, .ref q7, .ref q15, .ref q23, .ref q31, .ref q39, .null, .null, .null, .null])), (q7, .inl (ac 0, 10, .inl (fun _ => 0))), (q15, .inl (ac 0, 10, .inl (fun _ => 0))), (q23, .inl (ac 0, 10, .inl (fun _ => 0))), (q31, .inl (ac 0, 6, .inl (fun _ => 0))), (q39, .inl (ac 0, 6, .inl (fun _ => 0))), (q47, .inl (ac 0, 6, .inl (fun _ => 0)))] H := hP
  have hD : va_D A [(h0, .inr (0, [.int 0, .ref q7, .ref q15, .ref q23, .ref q31, .ref q39, .null, .null, .null, .null])), (q7, .inl (ac 0, 10, .inl (fun _ => 0))), (q15, .inl (ac 0, 10, .inl (fun _ => 0))), (q23, .inl (ac 0, 10, .inl (fun _ => 0))), (q31, .inl (ac 0, 6, .inl (fun _ => 0))), (q39, .inl (ac 0, 6, .inl (fun _ => 0))), (q47, .inl (ac 0, 6, .inl (fun _ => 0)))] := hD
  refine W.widen (k := 6) (n := 48) (Nat.le_of_ble_eq_true rfl) (Nat.le_of_ble_eq_true rfl) ?_
  refine ct_put (ac := ac) (c0 := 0) (k := 6) (v := .ref q47) hx hb hts hin hown hK hP hD hS 0 rfl rfl rfl rfl rfl rfl (Nat.le_of_ble_eq_true rfl) dc_X0_init_49 (fun H locs hP hD hS => ?_)
  have hP : va_P D zVC [(h0, .inr (0, [.int 0, .ref q7, .ref q15, .ref q23, .ref q31, .ref q39, .ref q47, .null, .null, .null])), (q7, .inl (ac 0, 10, .inl (fun _ => 0))), (q15, .inl (ac 0, 10, .inl (fun _ => 0))), (q23, .inl (ac 0, 10, .inl (fun _ => 0))), (q31, .inl (ac 0, 6, .inl (fun _ => 0))), (q39, .inl (ac 0, 6, .inl (fun _ => 0))), (q47, .inl (ac 0, 6, .inl (fun _ => 0)))] H := hP
  have hD : va_D A [(h0, .inr (0, [.int 0, .ref q7, .ref q15, .ref q23, .ref q31, .ref q39, .ref q47, .null, .null, .null])), (q7, .inl (ac 0, 10, .inl (fun _ => 0))), (q15, .inl (ac 0, 10, .inl (fun _ => 0))), (q23, .inl (ac 0, 10, .inl (fun _ => 0))), (q31, .inl (ac 0, 6, .inl (fun _ => 0))), (q39, .inl (ac 0, 6, .inl (fun _ => 0))), (q47, .inl (ac 0, 6, .inl (fun _ => 0)))] := hD
  refine lv_aload_n hx hb dc_X0_init_52 rfl (lv_at hl 0 rfl) ?_
  refine lv_bipush (v := 6) hx hb dc_X0_init_53 (by decide) ?_
  refine ct_newi hx hb hts hK hP hD hS hA 6 (by decide) (by decide) (by decide) (Nat.le_of_ble_eq_true rfl) (Nat.le_of_ble_eq_true rfl) dc_X0_init_55 (fun q55 H hP hD hS => ?_)
  have hP : va_P D zVC [(h0, .inr (0, [.int 0, .ref q7, .ref q15, .ref q23, .ref q31, .ref q39, .ref q47, .null, .null, .null])), (q7, .inl (ac 0, 10, .inl (fun _ => 0))), (q15, .inl (ac 0, 10, .inl (fun _ => 0))), (q23, .inl (ac 0, 10, .inl (fun _ => 0))), (q31, .inl (ac 0, 6, .inl (fun _ => 0))), (q39, .inl (ac 0, 6, .inl (fun _ => 0))), (q47, .inl (ac 0, 6, .inl (fun _ => 0))), (q55, .inl (ac 0, 6, .inl (fun _ => 0)))] H := hP
  have hD : va_D A [(h0, .inr (0, [.int 0, .ref q7, .ref q15, .ref q23, .ref q31, .ref q39, .ref q47, .null, .null, .null])), (q7, .inl (ac 0, 10, .inl (fun _ => 0))), (q15, .inl (ac 0, 10, .inl (fun _ => 0))), (q23, .inl (ac 0, 10, .inl (fun _ => 0))), (q31, .inl (ac 0, 6, .inl (fun _ => 0))), (q39, .inl (ac 0, 6, .inl (fun _ => 0))), (q47, .inl (ac 0, 6, .inl (fun _ => 0))), (q55, .inl (ac 0, 6, .inl (fun _ => 0)))] := hD
  refine W.widen (k := 7) (n := 54) (Nat.le_of_ble_eq_true rfl) (Nat.le_of_ble_eq_true rfl) ?_
  refine ct_put (ac := ac) (c0 := 0) (k := 7) (v := .ref q55) hx hb hts hin hown hK hP hD hS 0 rfl rfl rfl rfl rfl rfl (Nat.le_of_ble_eq_true rfl) dc_X0_init_57 (fun H locs hP hD hS => ?_)
  have hP : va_P D zVC [(h0, .inr (0, [.int 0, .ref q7, .ref q15, .ref q23, .ref q31, .ref q39, .ref q47, .ref q55, .null, .null])), (q7, .inl (ac 0, 10, .inl (fun _ => 0))), (q15, .inl (ac 0, 10, .inl (fun _ => 0))), (q23, .inl (ac 0, 10, .inl (fun _ => 0))), (q31, .inl (ac 0, 6, .inl (fun _ => 0))), (q39, .inl (ac 0, 6, .inl (fun _ => 0))), (q47, .inl (ac 0, 6, .inl (fun _ => 0))), (q55, .inl (ac 0, 6, .inl (fun _ => 0)))] H := hP
  have hD : va_D A [(h0, .inr (0, [.int 0, .ref q7, .ref q15, .ref q23, .ref q31, .ref q39, .ref q47, .ref q55, .null, .null])), (q7, .inl (ac 0, 10, .inl (fun _ => 0))), (q15, .inl (ac 0, 10, .inl (fun _ => 0))), (q23, .inl (ac 0, 10, .inl (fun _ => 0))), (q31, .inl (ac 0, 6, .inl (fun _ => 0))), (q39, .inl (ac 0, 6, .inl (fun _ => 0))), (q47, .inl (ac 0, 6, .inl (fun _ => 0))), (q55, .inl (ac 0, 6, .inl (fun _ => 0)))] := hD
  refine lv_aload_n hx hb dc_X0_init_60 rfl (lv_at hl 0 rfl) ?_
  refine lv_bipush (v := 17) hx hb dc_X0_init_61 (by decide) ?_
  refine ct_newi hx hb hts hK hP hD hS hA 17 (by decide) (by decide) (by decide) (Nat.le_of_ble_eq_true rfl) (Nat.le_of_ble_eq_true rfl) dc_X0_init_63 (fun q63 H hP hD hS => ?_)
  have hP : va_P D zVC [(h0, .inr (0, [.int 0, .ref q7, .ref q15, .ref q23, .ref q31, .ref q39, .ref q47, .ref q55, .null, .null])), (q7, .inl (ac 0, 10, .inl (fun _ => 0))), (q15, .inl (ac 0, 10, .inl (fun _ => 0))), (q23, .inl (ac 0, 10, .inl (fun _ => 0))), (q31, .inl (ac 0, 6, .inl (fun _ => 0))), (q39, .inl (ac 0, 6, .inl (fun _ => 0))), (q47, .inl (ac 0, 6, .inl (fun _ => 0))), (q55, .inl (ac 0, 6, .inl (fun _ => 0))), (q63, .inl (ac 0, 17, .inl (fun _ => 0)))] H := hP
  have hD : va_D A [(h0, .inr (0, [.int 0, .ref q7, .ref q15, .ref q23, .ref q31, .ref q39, .ref q47, .ref q55, .null, .null])), (q7, .inl (ac 0, 10, .inl (fun _ => 0))), (q15, .inl (ac 0, 10, .inl (fun _ => 0))), (q23, .inl (ac 0, 10, .inl (fun _ => 0))), (q31, .inl (ac 0, 6, .inl (fun _ => 0))), (q39, .inl (ac 0, 6, .inl (fun _ => 0))), (q47, .inl (ac 0, 6, .inl (fun _ => 0))), (q55, .inl (ac 0, 6, .inl (fun _ => 0))), (q63, .inl (ac 0, 17, .inl (fun _ => 0)))] := hD
  refine W.widen (k := 8) (n := 71) (Nat.le_of_ble_eq_true rfl) (Nat.le_of_ble_eq_true rfl) ?_
  refine ct_put (ac := ac) (c0 := 0) (k := 8) (v := .ref q63) hx hb hts hin hown hK hP hD hS 0 rfl rfl rfl rfl rfl rfl (Nat.le_of_ble_eq_true rfl) dc_X0_init_65 (fun H locs hP hD hS => ?_)
  have hP : va_P D zVC [(h0, .inr (0, [.int 0, .ref q7, .ref q15, .ref q23, .ref q31, .ref q39, .ref q47, .ref q55, .ref q63, .null])), (q7, .inl (ac 0, 10, .inl (fun _ => 0))), (q15, .inl (ac 0, 10, .inl (fun _ => 0))), (q23, .inl (ac 0, 10, .inl (fun _ => 0))), (q31, .inl (ac 0, 6, .inl (fun _ => 0))), (q39, .inl (ac 0, 6, .inl (fun _ => 0))), (q47, .inl (ac 0, 6, .inl (fun _ => 0))), (q55, .inl (ac 0, 6, .inl (fun _ => 0))), (q63, .inl (ac 0, 17, .inl (fun _ => 0)))] H := hP
  have hD : va_D A [(h0, .inr (0, [.int 0, .ref q7, .ref q15, .ref q23, .ref q31, .ref q39, .ref q47, .ref q55, .ref q63, .null])), (q7, .inl (ac 0, 10, .inl (fun _ => 0))), (q15, .inl (ac 0, 10, .inl (fun _ => 0))), (q23, .inl (ac 0, 10, .inl (fun _ => 0))), (q31, .inl (ac 0, 6, .inl (fun _ => 0))), (q39, .inl (ac 0, 6, .inl (fun _ => 0))), (q47, .inl (ac 0, 6, .inl (fun _ => 0))), (q55, .inl (ac 0, 6, .inl (fun _ => 0))), (q63, .inl (ac 0, 17, .inl (fun _ => 0)))] := hD
  refine lv_aload_n hx hb dc_X0_init_68 rfl (lv_at hl 0 rfl) ?_
  refine lv_bipush (v := 17) hx hb dc_X0_init_69 (by decide) ?_
  refine ct_newi hx hb hts hK hP hD hS hA 17 (by decide) (by decide) (by decide) (Nat.le_of_ble_eq_true rfl) (Nat.le_of_ble_eq_true rfl) dc_X0_init_71 (fun q71 H hP hD hS => ?_)
  have hP : va_P D zVC [(h0, .inr (0, [.int 0, .ref q7, .ref q15, .ref q23, .ref q31, .ref q39, .ref q47, .ref q55, .ref q63, .null])), (q7, .inl (ac 0, 10, .inl (fun _ => 0))), (q15, .inl (ac 0, 10, .inl (fun _ => 0))), (q23, .inl (ac 0, 10, .inl (fun _ => 0))), (q31, .inl (ac 0, 6, .inl (fun _ => 0))), (q39, .inl (ac 0, 6, .inl (fun _ => 0))), (q47, .inl (ac 0, 6, .inl (fun _ => 0))), (q55, .inl (ac 0, 6, .inl (fun _ => 0))), (q63, .inl (ac 0, 17, .inl (fun _ => 0))), (q71, .inl (ac 0, 17, .inl (fun _ => 0)))] H := hP
  have hD : va_D A [(h0, .inr (0, [.int 0, .ref q7, .ref q15, .ref q23, .ref q31, .ref q39, .ref q47, .ref q55, .ref q63, .null])), (q7, .inl (ac 0, 10, .inl (fun _ => 0))), (q15, .inl (ac 0, 10, .inl (fun _ => 0))), (q23, .inl (ac 0, 10, .inl (fun _ => 0))), (q31, .inl (ac 0, 6, .inl (fun _ => 0))), (q39, .inl (ac 0, 6, .inl (fun _ => 0))), (q47, .inl (ac 0, 6, .inl (fun _ => 0))), (q55, .inl (ac 0, 6, .inl (fun _ => 0))), (q63, .inl (ac 0, 17, .inl (fun _ => 0))), (q71, .inl (ac 0, 17, .inl (fun _ => 0)))] := hD
  refine W.widen (k := 9) (n := 88) (Nat.le_of_ble_eq_true rfl) (Nat.le_of_ble_eq_true rfl) ?_
  refine ct_put (ac := ac) (c0 := 0) (k := 9) (v := .ref q71) hx hb hts hin hown hK hP hD hS 0 rfl rfl rfl rfl rfl rfl (Nat.le_of_ble_eq_true rfl) dc_X0_init_73 (fun H locs hP hD hS => ?_)
  have hP : va_P D zVC [(h0, .inr (0, [.int 0, .ref q7, .ref q15, .ref q23, .ref q31, .ref q39, .ref q47, .ref q55, .ref q63, .ref q71])), (q7, .inl (ac 0, 10, .inl (fun _ => 0))), (q15, .inl (ac 0, 10, .inl (fun _ => 0))), (q23, .inl (ac 0, 10, .inl (fun _ => 0))), (q31, .inl (ac 0, 6, .inl (fun _ => 0))), (q39, .inl (ac 0, 6, .inl (fun _ => 0))), (q47, .inl (ac 0, 6, .inl (fun _ => 0))), (q55, .inl (ac 0, 6, .inl (fun _ => 0))), (q63, .inl (ac 0, 17, .inl (fun _ => 0))), (q71, .inl (ac 0, 17, .inl (fun _ => 0)))] H := hP
  have hD : va_D A [(h0, .inr (0, [.int 0, .ref q7, .ref q15, .ref q23, .ref q31, .ref q39, .ref q47, .ref q55, .ref q63, .ref q71])), (q7, .inl (ac 0, 10, .inl (fun _ => 0))), (q15, .inl (ac 0, 10, .inl (fun _ => 0))), (q23, .inl (ac 0, 10, .inl (fun _ => 0))), (q31, .inl (ac 0, 6, .inl (fun _ => 0))), (q39, .inl (ac 0, 6, .inl (fun _ => 0))), (q47, .inl (ac 0, 6, .inl (fun _ => 0))), (q55, .inl (ac 0, 6, .inl (fun _ => 0))), (q63, .inl (ac 0, 17, .inl (fun _ => 0))), (q71, .inl (ac 0, 17, .inl (fun _ => 0)))] := hD
  refine lv_aload_n hx hb dc_X0_init_76 rfl (lv_at hl 0 rfl) ?_
  refine lv_iconst (v := 0) hx hb dc_X0_init_77 (by decide) ?_
  have hPc := hP.sub (ws' := [(h0, .inr (0, [.int 0, .ref q7, .ref q15, .ref q23, .ref q31, .ref q39, .ref q47, .ref q55, .ref q63, .ref q71])), (q7, .inl (ac 0, 10, .inl (fun _ => 0))), (q15, .inl (ac 0, 10, .inl (fun _ => 0))), (q23, .inl (ac 0, 10, .inl (fun _ => 0))), (q31, .inl (ac 0, 6, .inl (fun _ => 0))), (q39, .inl (ac 0, 6, .inl (fun _ => 0))), (q47, .inl (ac 0, 6, .inl (fun _ => 0))), (q55, .inl (ac 0, 6, .inl (fun _ => 0))), (q63, .inl (ac 0, 17, .inl (fun _ => 0))), (q71, .inl (ac 0, 17, .inl (fun _ => 0)))]) [0, 1, 2, 3, 4, 5, 6, 7, 8, 9] rfl
  have hDc := hD.sub (ws' := [(h0, .inr (0, [.int 0, .ref q7, .ref q15, .ref q23, .ref q31, .ref q39, .ref q47, .ref q55, .ref q63, .ref q71])), (q7, .inl (ac 0, 10, .inl (fun _ => 0))), (q15, .inl (ac 0, 10, .inl (fun _ => 0))), (q23, .inl (ac 0, 10, .inl (fun _ => 0))), (q31, .inl (ac 0, 6, .inl (fun _ => 0))), (q39, .inl (ac 0, 6, .inl (fun _ => 0))), (q47, .inl (ac 0, 6, .inl (fun _ => 0))), (q55, .inl (ac 0, 6, .inl (fun _ => 0))), (q63, .inl (ac 0, 17, .inl (fun _ => 0))), (q71, .inl (ac 0, 17, .inl (fun _ => 0)))]) [0, 1, 2, 3, 4, 5, 6, 7, 8, 9] (by decide) rfl
  refine ct_call (w0 := [(h0, .inr (0, [.int 0, .ref q7, .ref q15, .ref q23, .ref q31, .ref q39, .ref q47, .ref q55, .ref q63, .ref q71])), (q7, .inl (ac 0, 10, .inl (fun _ => 0))), (q15, .inl (ac 0, 10, .inl (fun _ => 0))), (q23, .inl (ac 0, 10, .inl (fun _ => 0))), (q31, .inl (ac 0, 6, .inl (fun _ => 0))), (q39, .inl (ac 0, 6, .inl (fun _ => 0))), (q47, .inl (ac 0, 6, .inl (fun _ => 0))), (q55, .inl (ac 0, 6, .inl (fun _ => 0))), (q63, .inl (ac 0, 17, .inl (fun _ => 0))), (q71, .inl (ac 0, 17, .inl (fun _ => 0)))]) (wr := []) (w1 := fun a => [(h0, .inr (0, [.int 0, .ref q7, .ref q15, .ref q23, .ref q31, .ref q39, .ref q47, .ref q55, .ref q63, .ref q71])), (q7, .inl (ac 0, 10, .inl (fun _ => (-1)))), (q15, .inl (ac 0, 10, .inl (fun _ => (-1)))), (q23, .inl (ac 0, 10, .inl (fun _ => 0))), (q31, .inl (ac 0, 6, .inl (fun _ => 0))), (q39, .inl (ac 0, 6, .inl (fun _ => 0))), (q47, .inl (ac 0, 6, .inl (fun _ => (-1)))), (q55, .inl (ac 0, 6, .inl (fun _ => 0))), (q63, .inl (ac 0, 17, .inl (fun _ => (-1)))), (q71, .inl (ac 0, 17, .inl (fun _ => 0)))]) (va_runV (C := RX0) (As := [.int 0]) (rest := []) ⟨hx, hb, hml, hown, hts⟩ (ck_forget l D ac H.size h0 q7 q15 q23 q31 q39 q47 q55 q63 q71) (cwV 1 hts (ct_wV gk_192 gk_194 gk_0 gk_64 gk_195) rfl rfl rfl (by decide +kernel) ⟨Nat.le_of_ble_eq_true rfl, Nat.le_of_ble_eq_true rfl⟩) ⟨((ct_pre (ac := ac) (A := A) ct_true trivial hPc hK hDc)).1, va_recv hK hP (ci := 0) (q0 := 0) (zcl_at (by decide)) rfl, ((ct_pre (ac := ac) (A := A) ct_true trivial hPc hK hDc)).2⟩ rfl rfl hl.1 rfl (lv_room (Nat.le_of_ble_eq_true rfl)) dc_X0_init_78 ⟨Nat.le_of_ble_eq_true rfl, Nat.le_of_ble_eq_true rfl⟩) hP hD hS hA [0, 1, 2, 3, 4, 5, 6, 7, 8, 9] [] rfl rfl (by decide) (by decide) (fun a78 H locs hP hD hS => ?_)
  have hP : va_P D zVC [(h0, .inr (0, [.int 0, .ref q7, .ref q15, .ref q23, .ref q31, .ref q39, .ref q47, .ref q55, .ref q63, .ref q71])), (q7, .inl (ac 0, 10, .inl (fun _ => (-1)))), (q15, .inl (ac 0, 10, .inl (fun _ => (-1)))), (q23, .inl (ac 0, 10, .inl (fun _ => 0))), (q31, .inl (ac 0, 6, .inl (fun _ => 0))), (q39, .inl (ac 0, 6, .inl (fun _ => 0))), (q47, .inl (ac 0, 6, .inl (fun _ => (-1)))), (q55, .inl (ac 0, 6, .inl (fun _ => 0))), (q63, .inl (ac 0, 17, .inl (fun _ => (-1)))), (q71, .inl (ac 0, 17, .inl (fun _ => 0)))] H := hP
  have hD : va_D A [(h0, .inr (0, [.int 0, .ref q7, .ref q15, .ref q23, .ref q31, .ref q39, .ref q47, .ref q55, .ref q63, .ref q71])), (q7, .inl (ac 0, 10, .inl (fun _ => (-1)))), (q15, .inl (ac 0, 10, .inl (fun _ => (-1)))), (q23, .inl (ac 0, 10, .inl (fun _ => 0))), (q31, .inl (ac 0, 6, .inl (fun _ => 0))), (q39, .inl (ac 0, 6, .inl (fun _ => 0))), (q47, .inl (ac 0, 6, .inl (fun _ => (-1)))), (q55, .inl (ac 0, 6, .inl (fun _ => 0))), (q63, .inl (ac 0, 17, .inl (fun _ => (-1)))), (q71, .inl (ac 0, 17, .inl (fun _ => 0)))] := hD
  refine W.widen (k := 9) (n := 88) (Nat.le_of_ble_eq_true rfl) (Nat.le_of_ble_eq_true rfl) ?_
  have hP9 := hP.sub (ws' := [(h0, .inr (0, [.int 0, .ref q7, .ref q15, .ref q23, .ref q31, .ref q39, .ref q47, .ref q55, .ref q63, .ref q71])), (q7, .inl (ac 0, 10, .inl (fun _ => (-1)))), (q15, .inl (ac 0, 10, .inl (fun _ => (-1)))), (q23, .inl (ac 0, 10, .inl (fun _ => 0))), (q31, .inl (ac 0, 6, .inl (fun _ => 0))), (q39, .inl (ac 0, 6, .inl (fun _ => 0))), (q47, .inl (ac 0, 6, .inl (fun _ => (-1)))), (q55, .inl (ac 0, 6, .inl (fun _ => 0))), (q63, .inl (ac 0, 17, .inl (fun _ => (-1)))), (q71, .inl (ac 0, 17, .inl (fun _ => 0)))]) [0, 1, 2, 3, 4, 5, 6, 7, 8, 9] rfl
  have hD9 := hD.sub (ws' := [(h0, .inr (0, [.int 0, .ref q7, .ref q15, .ref q23, .ref q31, .ref q39, .ref q47, .ref q55, .ref q63, .ref q71])), (q7, .inl (ac 0, 10, .inl (fun _ => (-1)))), (q15, .inl (ac 0, 10, .inl (fun _ => (-1)))), (q23, .inl (ac 0, 10, .inl (fun _ => 0))), (q31, .inl (ac 0, 6, .inl (fun _ => 0))), (q39, .inl (ac 0, 6, .inl (fun _ => 0))), (q47, .inl (ac 0, 6, .inl (fun _ => (-1)))), (q55, .inl (ac 0, 6, .inl (fun _ => 0))), (q63, .inl (ac 0, 17, .inl (fun _ => (-1)))), (q71, .inl (ac 0, 17, .inl (fun _ => 0)))]) [0, 1, 2, 3, 4, 5, 6, 7, 8, 9] (by decide) rfl
  exact W.vret hx hb hr (fun t ht hW => ⟨⟨(fun i => ([q7, q15, q23, q31, q39, q47, q55, q63, q71] : List Nat).getD i 0), rfl, trivial, by rw [ht]; exact hP9, hD9⟩, hS.F ht⟩) hS.2.2 dc_X0_init_81
set_option maxHeartbeats 4000000 in
set_option maxRecDepth 100000 in
theorem ck_X2 (l : Launch) (D : va_G) (ac : Nat → ClassId) (sz : Nat) (h0 : Nat) : Met l yX2_init (Cond.code yX2_init cX2_init 1 none :: zT) ({ frames := 2, cells := 1, slots := 60, locals := 100 }) (va_Pc [.ref h0] (ctPre ac D (fun _ => True) sz [(h0, .inr (2, [.int 0, .int 0, .int 0, .null]))])) (ctQ D sz [(h0, .inr (2, [.int 0, .int 0, .int 0, .null]))] (fun a => [(h0, .inr (2, [.int 1, .int 0, .int 0, .ref (a 0)])), ((a 0), .inl (ac 0, 60, .inl (fun _ => 0)))])) 1 60 (va_A [(h0, .inr (2, [.int 0, .int 0, .int 0, .null]))] sz) := by
  refine Met.ofW (cc := cX2_init) (maxL := 1) (ret := none) (by decide) rfl ?_
  intro p e s m args below meth c s₁ B hml hv
  obtain ⟨rfl, hsz, hP, hK, hD0, hE⟩ := hv
  have hx := B.exec
  have hb := B.bytes
  have hr := B.returns
  have hts0 := atoms_spec (ws := Cond.code yX2_init cX2_init 1 none :: zT) B.pre
  have hts : ∀ w ∈ zT, w.before _ s = true := fun w hw => hts0 w (List.mem_cons_of_mem _ hw)
  have hown : s.vm.findClass RX2 = some m.cls := findClass_of_methodNamed B.named
  have hlocks := B.notSynchronized
  have hin : meth.name = "<init>" := (name_of_methodNamed B.named B.method).1
  subst hsz
  have hD := hD0.self (sz := s.heap.size)
  unfold ctQ
  generalize hAe : va_A [(h0, .inr (2, [.int 0, .int 0, .int 0, .null]))] s.heap.size = A at hD ⊢
  have hA : ∀ q : Nat, s.heap.size ≤ q → A q := fun q h => by rw [← hAe]; exact Or.inr h
  have hS : va_S A s.heap s.heap [] := va_S.rf
  have hP : va_P D zVC [(h0, .inr (2, [.int 0, .int 0, .int 0, .null]))] s.heap := hP
  have hl := lv_entry ([.ref h0]) (n := 1) (Nat.le_of_ble_eq_true rfl)
  rw [lg_entry_eq]
  generalize (lg_sl ([.ref h0]) ++ List.replicate (1 - (lg_sl ([.ref h0])).length) Slot.unset).toArray = ls at hl ⊢
  have hl : lv_has ls 1 [(0, .ref h0)] := hl
  refine lv_aload_n hx hb dc_X2_init_0 rfl (lv_at hl 0 rfl) ?_
  refine W.objInit hx hb hown (hts (.methodLink "ProofDay$Sheet" 3 objectInit) gk_266) (hts (.instanceMethod objectInit) gk_83) (hts _ gk_84) rfl (by rw [hml]; exact hl.1) rfl dc_X2_init_1 (Nat.le_of_ble_eq_true rfl) (Nat.le_of_ble_eq_true rfl) ?_
  refine W.eq (g2 := F0 m 4 ls []) rfl ?_
  refine lv_aload_n hx hb dc_X2_init_4 rfl (lv_at hl 0 rfl) ?_
  refine lv_iconst (v := 1) hx hb dc_X2_init_5 (by decide) ?_
  refine ct_put (ac := ac) (c0 := 2) (k := 0) (v := .int 1) hx hb hts hin hown hK hP hD hS 0 rfl rfl rfl rfl rfl rfl (Nat.le_of_ble_eq_true rfl) dc_X2_init_6 (fun H locs hP hD hS => ?_)
  have hP : va_P D zVC [(h0, .inr (2, [.int 1, .int 0, .int 0, .null]))] H := hP
  have hD : va_D A [(h0, .inr (2, [.int 1, .int 0, .int 0, .null]))] := hD
  refine lv_aload_n hx hb dc_X2_init_9 rfl (lv_at hl 0 rfl) ?_
  refine lv_bipush (v := 60) hx hb dc_X2_init_10 (by decide) ?_
  refine ct_newi hx hb hts hK hP hD hS hA 60 (by decide) (by decide) (by decide) (Nat.le_of_ble_eq_true rfl) (Nat.le_of_ble_eq_true rfl) dc_X2_init_12 (fun q12 H hP hD hS => ?_)
  have hP : va_P D zVC [(h0, .inr (2, [.int 1, .int 0, .int 0, .null])), (q12, .inl (ac 0, 60, .inl (fun _ => 0)))] H := hP
  have hD : va_D A [(h0, .inr (2, [.int 1, .int 0, .int 0, .null])), (q12, .inl (ac 0, 60, .inl (fun _ => 0)))] := hD
  refine W.widen (k := 1) (n := 60) (Nat.le_of_ble_eq_true rfl) (Nat.le_of_ble_eq_true rfl) ?_
  refine ct_put (ac := ac) (c0 := 2) (k := 3) (v := .ref q12) hx hb hts hin hown hK hP hD hS 0 rfl rfl rfl rfl rfl rfl (Nat.le_of_ble_eq_true rfl) dc_X2_init_14 (fun H locs hP hD hS => ?_)
  have hP : va_P D zVC [(h0, .inr (2, [.int 1, .int 0, .int 0, .ref q12])), (q12, .inl (ac 0, 60, .inl (fun _ => 0)))] H := hP
  have hD : va_D A [(h0, .inr (2, [.int 1, .int 0, .int 0, .ref q12])), (q12, .inl (ac 0, 60, .inl (fun _ => 0)))] := hD
  have hP9 := hP.sub (ws' := [(h0, .inr (2, [.int 1, .int 0, .int 0, .ref q12])), (q12, .inl (ac 0, 60, .inl (fun _ => 0)))]) [0, 1] rfl
  have hD9 := hD.sub (ws' := [(h0, .inr (2, [.int 1, .int 0, .int 0, .ref q12])), (q12, .inl (ac 0, 60, .inl (fun _ => 0)))]) [0, 1] (by decide) rfl
  exact W.vret hx hb hr (fun t ht hW => ⟨⟨(fun i => ([q12] : List Nat).getD i 0), rfl, trivial, by rw [ht]; exact hP9, hD9⟩, hS.F ht⟩) hS.2.2 dc_X2_init_17
set_option maxHeartbeats 4000000 in
set_option maxRecDepth 100000 in
theorem ck_X3 (l : Launch) (D : va_G) (ac : Nat → ClassId) (sz : Nat) (h0 : Nat) : Met l yX3_init (Cond.code yX3_init cX3_init 1 none :: zT) ({ frames := 2, cells := 3, slots := 24, locals := 100 }) (va_Pc [.ref h0] (ctPre ac D (fun _ => True) sz [(h0, .inr (3, [.int 0, .null, .null, .null]))])) (ctQ D sz [(h0, .inr (3, [.int 0, .null, .null, .null]))] (fun a => [(h0, .inr (3, [.int 0, .ref (a 0), .ref (a 1), .ref (a 2)])), ((a 0), .inl (ac 0, 8, .inl (fun _ => 0))), ((a 1), .inl (ac 0, 8, .inl (fun _ => 0))), ((a 2), .inl (ac 0, 8, .inl (fun _ => 0)))])) 3 24 (va_A [(h0, .inr (3, [.int 0, .null, .null, .null]))] sz) := by
  refine Met.ofW (cc := cX3_init) (maxL := 1) (ret := none) (by decide) rfl ?_
  intro p e s m args below meth c s₁ B hml hv
  obtain ⟨rfl, hsz, hP, hK, hD0, hE⟩ := hv
  have hx := B.exec
  have hb := B.bytes
  have hr := B.returns
  have hts0 := atoms_spec (ws := Cond.code yX3_init cX3_init 1 none :: zT) B.pre
  have hts : ∀ w ∈ zT, w.before _ s = true := fun w hw => hts0 w (List.mem_cons_of_mem _ hw)
  have hown : s.vm.findClass RX3 = some m.cls := findClass_of_methodNamed B.named
  have hlocks := B.notSynchronized
  have hin : meth.name = "<init>" := (name_of_methodNamed B.named B.method).1
  subst hsz
  have hD := hD0.self (sz := s.heap.size)
  unfold ctQ
  generalize hAe : va_A [(h0, .inr (3, [.int 0, .null, .null, .null]))] s.heap.size = A at hD ⊢
  have hA : ∀ q : Nat, s.heap.size ≤ q → A q := fun q h => by rw [← hAe]; exact Or.inr h
  have hS : va_S A s.heap s.heap [] := va_S.rf
  have hP : va_P D zVC [(h0, .inr (3, [.int 0, .null, .null, .null]))] s.heap := hP
  have hl := lv_entry ([.ref h0]) (n := 1) (Nat.le_of_ble_eq_true rfl)
  rw [lg_entry_eq]
  generalize (lg_sl ([.ref h0]) ++ List.replicate (1 - (lg_sl ([.ref h0])).length) Slot.unset).toArray = ls at hl ⊢
  have hl : lv_has ls 1 [(0, .ref h0)] := hl
  refine lv_aload_n hx hb dc_X3_init_0 rfl (lv_at hl 0 rfl) ?_
  refine W.objInit hx hb hown (hts (.methodLink "ProofDay$Sightings" 3 objectInit) gk_245) (hts (.instanceMethod objectInit) gk_83) (hts _ gk_84) rfl (by rw [hml]; exact hl.1) rfl dc_X3_init_1 (Nat.le_of_ble_eq_true rfl) (Nat.le_of_ble_eq_true rfl) ?_
  refine W.eq (g2 := F0 m 4 ls []) rfl ?_
  refine lv_aload_n hx hb dc_X3_init_4 rfl (lv_at hl 0 rfl) ?_
  refine lv_bipush (v := 8) hx hb dc_X3_init_5 (by decide) ?_
  refine ct_newi hx hb hts hK hP hD hS hA 8 (by decide) (by decide) (by decide) (Nat.le_of_ble_eq_true rfl) (Nat.le_of_ble_eq_true rfl) dc_X3_init_7 (fun q7 H hP hD hS => ?_)
  have hP : va_P D zVC [(h0, .inr (3, [.int 0, .null, .null, .null])), (q7, .inl (ac 0, 8, .inl (fun _ => 0)))] H := hP
  have hD : va_D A [(h0, .inr (3, [.int 0, .null, .null, .null])), (q7, .inl (ac 0, 8, .inl (fun _ => 0)))] := hD
  refine W.widen (k := 1) (n := 8) (Nat.le_of_ble_eq_true rfl) (Nat.le_of_ble_eq_true rfl) ?_
  refine ct_put (ac := ac) (c0 := 3) (k := 1) (v := .ref q7) hx hb hts hin hown hK hP hD hS 0 rfl rfl rfl rfl rfl rfl (Nat.le_of_ble_eq_true rfl) dc_X3_init_9 (fun H locs hP hD hS => ?_)
  have hP : va_P D zVC [(h0, .inr (3, [.int 0, .ref q7, .null, .null])), (q7, .inl (ac 0, 8, .inl (fun _ => 0)))] H := hP
  have hD : va_D A [(h0, .inr (3, [.int 0, .ref q7, .null, .null])), (q7, .inl (ac 0, 8, .inl (fun _ => 0)))] := hD
  refine lv_aload_n hx hb dc_X3_init_12 rfl (lv_at hl 0 rfl) ?_
  refine lv_bipush (v := 8) hx hb dc_X3_init_13 (by decide) ?_
  refine ct_newi hx hb hts hK hP hD hS hA 8 (by decide) (by decide) (by decide) (Nat.le_of_ble_eq_true rfl) (Nat.le_of_ble_eq_true rfl) dc_X3_init_15 (fun q15 H hP hD hS => ?_)
  have hP : va_P D zVC [(h0, .inr (3, [.int 0, .ref q7, .null, .null])), (q7, .inl (ac 0, 8, .inl (fun _ => 0))), (q15, .inl (ac 0, 8, .inl (fun _ => 0)))] H := hP
  have hD : va_D A [(h0, .inr (3, [.int 0, .ref q7, .null, .null])), (q7, .inl (ac 0, 8, .inl (fun _ => 0))), (q15, .inl (ac 0, 8, .inl (fun _ => 0)))] := hD
  refine W.widen (k := 2) (n := 16) (Nat.le_of_ble_eq_true rfl) (Nat.le_of_ble_eq_true rfl) ?_
  refine ct_put (ac := ac) (c0 := 3) (k := 2) (v := .ref q15) hx hb hts hin hown hK hP hD hS 0 rfl rfl rfl rfl rfl rfl (Nat.le_of_ble_eq_true rfl) dc_X3_init_17 (fun H locs hP hD hS => ?_)
  have hP : va_P D zVC [(h0, .inr (3, [.int 0, .ref q7, .ref q15, .null])), (q7, .inl (ac 0, 8, .inl (fun _ => 0))), (q15, .inl (ac 0, 8, .inl (fun _ => 0)))] H := hP
  have hD : va_D A [(h0, .inr (3, [.int 0, .ref q7, .ref q15, .null])), (q7, .inl (ac 0, 8, .inl (fun _ => 0))), (q15, .inl (ac 0, 8, .inl (fun _ => 0)))] := hD
  refine lv_aload_n hx hb dc_X3_init_20 rfl (lv_at hl 0 rfl) ?_
  refine lv_bipush (v := 8) hx hb dc_X3_init_21 (by decide) ?_
  refine ct_newi hx hb hts hK hP hD hS hA 8 (by decide) (by decide) (by decide) (Nat.le_of_ble_eq_true rfl) (Nat.le_of_ble_eq_true rfl) dc_X3_init_23 (fun q23 H hP hD hS => ?_)
  have hP : va_P D zVC [(h0, .inr (3, [.int 0, .ref q7, .ref q15, .null])), (q7, .inl (ac 0, 8, .inl (fun _ => 0))), (q15, .inl (ac 0, 8, .inl (fun _ => 0))), (q23, .inl (ac 0, 8, .inl (fun _ => 0)))] H := hP
  have hD : va_D A [(h0, .inr (3, [.int 0, .ref q7, .ref q15, .null])), (q7, .inl (ac 0, 8, .inl (fun _ => 0))), (q15, .inl (ac 0, 8, .inl (fun _ => 0))), (q23, .inl (ac 0, 8, .inl (fun _ => 0)))] := hD
  refine W.widen (k := 3) (n := 24) (Nat.le_of_ble_eq_true rfl) (Nat.le_of_ble_eq_true rfl) ?_
  refine ct_put (ac := ac) (c0 := 3) (k := 3) (v := .ref q23) hx hb hts hin hown hK hP hD hS 0 rfl rfl rfl rfl rfl rfl (Nat.le_of_ble_eq_true rfl) dc_X3_init_25 (fun H locs hP hD hS => ?_)
  have hP : va_P D zVC [(h0, .inr (3, [.int 0, .ref q7, .ref q15, .ref q23])), (q7, .inl (ac 0, 8, .inl (fun _ => 0))), (q15, .inl (ac 0, 8, .inl (fun _ => 0))), (q23, .inl (ac 0, 8, .inl (fun _ => 0)))] H := hP
  have hD : va_D A [(h0, .inr (3, [.int 0, .ref q7, .ref q15, .ref q23])), (q7, .inl (ac 0, 8, .inl (fun _ => 0))), (q15, .inl (ac 0, 8, .inl (fun _ => 0))), (q23, .inl (ac 0, 8, .inl (fun _ => 0)))] := hD
  have hP9 := hP.sub (ws' := [(h0, .inr (3, [.int 0, .ref q7, .ref q15, .ref q23])), (q7, .inl (ac 0, 8, .inl (fun _ => 0))), (q15, .inl (ac 0, 8, .inl (fun _ => 0))), (q23, .inl (ac 0, 8, .inl (fun _ => 0)))]) [0, 1, 2, 3] rfl
  have hD9 := hD.sub (ws' := [(h0, .inr (3, [.int 0, .ref q7, .ref q15, .ref q23])), (q7, .inl (ac 0, 8, .inl (fun _ => 0))), (q15, .inl (ac 0, 8, .inl (fun _ => 0))), (q23, .inl (ac 0, 8, .inl (fun _ => 0)))]) [0, 1, 2, 3] (by decide) rfl
  exact W.vret hx hb hr (fun t ht hW => ⟨⟨(fun i => ([q7, q15, q23] : List Nat).getD i 0), rfl, trivial, by rw [ht]; exact hP9, hD9⟩, hS.F ht⟩) hS.2.2 dc_X3_init_28
set_option maxHeartbeats 4000000 in
set_option maxRecDepth 100000 in
theorem ck_X6 (l : Launch) (D : va_G) (ac : Nat → ClassId) (sz : Nat) (h0 : Nat) : Met l yX6_init (Cond.code yX6_init cX6_init 2 none :: zT) ({ frames := 2, cells := 23, slots := 909, locals := 100 }) (va_Pc [.ref h0] (ctPre ac D (fun _ => True) sz [(h0, .inr (6, [.null, .null, .null, .null, .int 0, .null, .null, .int 0, .null, .int 0, .null, .int 0, .null, .int 0, .int 0, .null, .int 0, .null, .null, .null, .null, .null, .null, .null, .null, .null, .null, .null, .int 0, .null, .null, .int 0]))])) (ctQ D sz [(h0, .inr (6, [.null, .null, .null, .null, .int 0, .null, .null, .int 0, .null, .int 0, .null, .int 0, .null, .int 0, .int 0, .null, .int 0, .null, .null, .null, .null, .null, .null, .null, .null, .null, .null, .null, .int 0, .null, .null, .int 0]))] (fun a => [(h0, .inr (6, [.ref (a 0), .ref (a 1), .ref (a 2), .ref (a 3), .int 0, .ref (a 4), .ref (a 5), .int 0, .ref (a 6), .int 0, .ref (a 7), .int 0, .ref (a 8), .int 12, .int 0, .ref (a 9), .int 0, .ref (a 10), .ref (a 11), .ref (a 12), .ref (a 13), .ref (a 14), .ref (a 15), .ref (a 16), .ref (a 17), .ref (a 18), .ref (a 19), .ref (a 20), .int 0, .ref (a 21), .ref (a 22), .int 0])), ((a 0), .inl (ac 0, 4, .inl (upd (upd (upd (upd (fun _ => 0) 0 (-1)) 1 (-1)) 2 (-1)) 3 (-1)))), ((a 1), .inl (ac 0, 4, .inl (fun _ => 0))), ((a 2), .inl (ac 0, 240, .inl (fun _ => 0))), ((a 3), .inl (ac 0, 60, .inl (fun _ => 0))), ((a 4), .inl (ac 0, 144, .inl (fun _ => 0))), ((a 5), .inl (ac 0, 3, .inl (fun _ => 0))), ((a 6), .inl (ac 0, 20, .inl (fun _ => 0))), ((a 7), .inl (ac 0, 12, .inl (fun _ => 0))), ((a 8), .inl (ac 0, 34, .inl (fun _ => 0))), ((a 9), .inl (ac 0, 24, .inl (fun _ => 0))), ((a 10), .inl (ac 0, 17, .inl (fun _ => 0))), ((a 11), .inl (ac 2, 17, .inl (fun _ => 0))), ((a 12), .inl (ac 0, 6, .inl (fun _ => 0))), ((a 13), .inl (ac 0, 6, .inl (fun _ => 0))), ((a 14), .inl (ac 0, 6, .inl (fun _ => 0))), ((a 15), .inl (ac 0, 6, .inl (fun _ => 0))), ((a 16), .inl (ac 0, 6, .inl (fun _ => 0))), ((a 17), .inl (ac 2, 6, .inl (fun _ => 0))), ((a 18), .inl (ac 0, 10, .inl (fun _ => 0))), ((a 19), .inl (ac 0, 10, .inl (fun _ => 0))), ((a 20), .inl (ac 0, 10, .inl (fun _ => 0))), ((a 21), .inl (ac 0, 24, .inl (fun _ => 0))), ((a 22), .inl (ac 0, 240, .inl (fun _ => 0)))])) 23 909 (va_A [(h0, .inr (6, [.null, .null, .null, .null, .int 0, .null, .null, .int 0, .null, .int 0, .null, .int 0, .null, .int 0, .int 0, .null, .int 0, .null, .null, .null, .null, .null, .null, .null, .null, .null, .null, .null, .int 0, .null, .null, .int 0]))] sz) := by
  refine Met.ofW (cc := cX6_init) (maxL := 2) (ret := none) (by decide) rfl ?_
  intro p e s m args below meth c s₁ B hml hv
  obtain ⟨rfl, hsz, hP, hK, hD0, hE⟩ := hv
  have hx := B.exec
  have hb := B.bytes
  have hr := B.returns
  have hts0 := atoms_spec (ws := Cond.code yX6_init cX6_init 2 none :: zT) B.pre
  have hts : ∀ w ∈ zT, w.before _ s = true := fun w hw => hts0 w (List.mem_cons_of_mem _ hw)
  have hown : s.vm.findClass RX6 = some m.cls := findClass_of_methodNamed B.named
  have hlocks := B.notSynchronized
  have hin : meth.name = "<init>" := (name_of_methodNamed B.named B.method).1
  subst hsz
  have hD := hD0.self (sz := s.heap.size)
  unfold ctQ
  generalize hAe : va_A [(h0, .inr (6, [.null, .null, .null, .null, .int 0, .null, .null, .int 0, .null, .int 0, .null, .int 0, .null, .int 0, .int 0, .null, .int 0, .null, .null, .null, .null, .null, .null, .null, .null, .null, .null, .null, .int 0, .null, .null, .int 0]))] s.heap.size = A at hD ⊢
  have hA : ∀ q : Nat, s.heap.size ≤ q → A q := fun q h => by rw [← hAe]; exact Or.inr h
  have hS : va_S A s.heap s.heap [] := va_S.rf
  have hP : va_P D zVC [(h0, .inr (6, [.null, .null, .null, .null, .int 0, .null, .null, .int 0, .null, .int 0, .null, .int 0, .null, .int 0, .int 0, .null, .int 0, .null, .null, .null, .null, .null, .null, .null, .null, .null, .null, .null, .int 0, .null, .null, .int 0]))] s.heap := hP
  have hl := lv_entry ([.ref h0]) (n := 2) (Nat.le_of_ble_eq_true rfl)
  rw [lg_entry_eq]
  generalize (lg_sl ([.ref h0]) ++ List.replicate (2 - (lg_sl ([.ref h0])).length) Slot.unset).toArray = ls at hl ⊢
  have hl : lv_has ls 2 [(0, .ref h0)] := hl
  refine lv_aload_n hx hb dc_X6_init_0 rfl (lv_at hl 0 rfl) ?_
  refine W.objInit hx hb hown (hts (.methodLink "ProofDayModel" 1 objectInit) gk_808) (hts (.instanceMethod objectInit) gk_83) (hts _ gk_84) rfl (by rw [hml]; exact hl.1) rfl dc_X6_init_1 (Nat.le_of_ble_eq_true rfl) (Nat.le_of_ble_eq_true rfl) ?_
  refine W.eq (g2 := F0 m 4 ls []) rfl ?_
  refine lv_aload_n hx hb dc_X6_init_4 rfl (lv_at hl 0 rfl) ?_
  refine lv_iconst (v := 4) hx hb dc_X6_init_5 (by decide) ?_
  refine ct_newi hx hb hts hK hP hD hS hA 4 (by decide) (by decide) (by decide) (Nat.le_of_ble_eq_true rfl) (Nat.le_of_ble_eq_true rfl) dc_X6_init_6 (fun q6 H hP hD hS => ?_)
  have hP : va_P D zVC [(h0, .inr (6, [.null, .null, .null, .null, .int 0, .null, .null, .int 0, .null, .int 0, .null, .int 0, .null, .int 0, .int 0, .null, .int 0, .null, .null, .null, .null, .null, .null, .null, .null, .null, .null, .null, .int 0, .null, .null, .int 0])), (q6, .inl (ac 0, 4, .inl (fun _ => 0)))] H := hP
  have hD : va_D A [(h0, .inr (6, [.null, .null, .null, .null, .int 0, .null, .null, .int 0, .null, .int 0, .null, .int 0, .null, .int 0, .int 0, .null, .int 0, .null, .null, .null, .null, .null, .null, .null, .null, .null, .null, .null, .int 0, .null, .null, .int 0])), (q6, .inl (ac 0, 4, .inl (fun _ => 0)))] := hD
  refine W.widen (k := 1) (n := 4) (Nat.le_of_ble_eq_true rfl) (Nat.le_of_ble_eq_true rfl) ?_
  refine ct_put (ac := ac) (c0 := 6) (k := 0) (v := .ref q6) hx hb hts hin hown hK hP hD hS 0 rfl rfl rfl rfl rfl rfl (Nat.le_of_ble_eq_true rfl) dc_X6_init_8 (fun H locs hP hD hS => ?_)
  have hP : va_P D zVC [(h0, .inr (6, [.ref q6, .null, .null, .null, .int 0, .null, .null, .int 0, .null, .int 0, .null, .int 0, .null, .int 0, .int 0, .null, .int 0, .null, .null, .null, .null, .null, .null, .null, .null, .null, .null, .null, .int 0, .null, .null, .int 0])), (q6, .inl (ac 0, 4, .inl (fun _ => 0)))] H := hP
  have hD : va_D A [(h0, .inr (6, [.ref q6, .null, .null, .null, .int 0, .null, .null, .int 0, .null, .int 0, .null, .int 0, .null, .int 0, .int 0, .null, .int 0, .null, .null, .null, .null, .null, .null, .null, .null, .null, .null, .null, .int 0, .null, .null, .int 0])), (q6, .inl (ac 0, 4, .inl (fun _ => 0)))] := hD
  refine lv_aload_n hx hb dc_X6_init_11 rfl (lv_at hl 0 rfl) ?_
  refine lv_iconst (v := 4) hx hb dc_X6_init_12 (by decide) ?_
  refine ct_newi hx hb hts hK hP hD hS hA 4 (by decide) (by decide) (by decide) (Nat.le_of_ble_eq_true rfl) (Nat.le_of_ble_eq_true rfl) dc_X6_init_13 (fun q13 H hP hD hS => ?_)
  have hP : va_P D zVC [(h0, .inr (6, [.ref q6, .null, .null, .null, .int 0, .null, .null, .int 0, .null, .int 0, .null, .int 0, .null, .int 0, .int 0, .null, .int 0, .null, .null, .null, .null, .null, .null, .null, .null, .null, .null, .null, .int 0, .null, .null, .int 0])), (q6, .inl (ac 0, 4, .inl (fun _ => 0))), (q13, .inl (ac 0, 4, .inl (fun _ => 0)))] H := hP
  have hD : va_D A [(h0, .inr (6, [.ref q6, .null, .null, .null, .int 0, .null, .null, .int 0, .null, .int 0, .null, .int 0, .null, .int 0, .int 0, .null, .int 0, .null, .null, .null, .null, .null, .null, .null, .null, .null, .null, .null, .int 0, .null, .null, .int 0])), (q6, .inl (ac 0, 4, .inl (fun _ => 0))), (q13, .inl (ac 0, 4, .inl (fun _ => 0)))] := hD
  refine W.widen (k := 2) (n := 8) (Nat.le_of_ble_eq_true rfl) (Nat.le_of_ble_eq_true rfl) ?_
  refine ct_put (ac := ac) (c0 := 6) (k := 1) (v := .ref q13) hx hb hts hin hown hK hP hD hS 0 rfl rfl rfl rfl rfl rfl (Nat.le_of_ble_eq_true rfl) dc_X6_init_15 (fun H locs hP hD hS => ?_)
  have hP : va_P D zVC [(h0, .inr (6, [.ref q6, .ref q13, .null, .null, .int 0, .null, .null, .int 0, .null, .int 0, .null, .int 0, .null, .int 0, .int 0, .null, .int 0, .null, .null, .null, .null, .null, .null, .null, .null, .null, .null, .null, .int 0, .null, .null, .int 0])), (q6, .inl (ac 0, 4, .inl (fun _ => 0))), (q13, .inl (ac 0, 4, .inl (fun _ => 0)))] H := hP
  have hD : va_D A [(h0, .inr (6, [.ref q6, .ref q13, .null, .null, .int 0, .null, .null, .int 0, .null, .int 0, .null, .int 0, .null, .int 0, .int 0, .null, .int 0, .null, .null, .null, .null, .null, .null, .null, .null, .null, .null, .null, .int 0, .null, .null, .int 0])), (q6, .inl (ac 0, 4, .inl (fun _ => 0))), (q13, .inl (ac 0, 4, .inl (fun _ => 0)))] := hD
  refine lv_aload_n hx hb dc_X6_init_18 rfl (lv_at hl 0 rfl) ?_
  refine lv_sipush (v := 240) hx hb dc_X6_init_19 (by decide) ?_
  refine ct_newi hx hb hts hK hP hD hS hA 240 (by decide) (by decide) (by decide) (Nat.le_of_ble_eq_true rfl) (Nat.le_of_ble_eq_true rfl) dc_X6_init_22 (fun q22 H hP hD hS => ?_)
  have hP : va_P D zVC [(h0, .inr (6, [.ref q6, .ref q13, .null, .null, .int 0, .null, .null, .int 0, .null, .int 0, .null, .int 0, .null, .int 0, .int 0, .null, .int 0, .null, .null, .null, .null, .null, .null, .null, .null, .null, .null, .null, .int 0, .null, .null, .int 0])), (q6, .inl (ac 0, 4, .inl (fun _ => 0))), (q13, .inl (ac 0, 4, .inl (fun _ => 0))), (q22, .inl (ac 0, 240, .inl (fun _ => 0)))] H := hP
  have hD : va_D A [(h0, .inr (6, [.ref q6, .ref q13, .null, .null, .int 0, .null, .null, .int 0, .null, .int 0, .null, .int 0, .null, .int 0, .int 0, .null, .int 0, .null, .null, .null, .null, .null, .null, .null, .null, .null, .null, .null, .int 0, .null, .null, .int 0])), (q6, .inl (ac 0, 4, .inl (fun _ => 0))), (q13, .inl (ac 0, 4, .inl (fun _ => 0))), (q22, .inl (ac 0, 240, .inl (fun _ => 0)))] := hD
  refine W.widen (k := 3) (n := 248) (Nat.le_of_ble_eq_true rfl) (Nat.le_of_ble_eq_true rfl) ?_
  refine ct_put (ac := ac) (c0 := 6) (k := 2) (v := .ref q22) hx hb hts hin hown hK hP hD hS 0 rfl rfl rfl rfl rfl rfl (Nat.le_of_ble_eq_true rfl) dc_X6_init_24 (fun H locs hP hD hS => ?_)
  have hP : va_P D zVC [(h0, .inr (6, [.ref q6, .ref q13, .ref q22, .null, .int 0, .null, .null, .int 0, .null, .int 0, .null, .int 0, .null, .int 0, .int 0, .null, .int 0, .null, .null, .null, .null, .null, .null, .null, .null, .null, .null, .null, .int 0, .null, .null, .int 0])), (q6, .inl (ac 0, 4, .inl (fun _ => 0))), (q13, .inl (ac 0, 4, .inl (fun _ => 0))), (q22, .inl (ac 0, 240, .inl (fun _ => 0)))] H := hP
  have hD : va_D A [(h0, .inr (6, [.ref q6, .ref q13, .ref q22, .null, .int 0, .null, .null, .int 0, .null, .int 0, .null, .int 0, .null, .int 0, .int 0, .null, .int 0, .null, .null, .null, .null, .null, .null, .null, .null, .null, .null, .null, .int 0, .null, .null, .int 0])), (q6, .inl (ac 0, 4, .inl (fun _ => 0))), (q13, .inl (ac 0, 4, .inl (fun _ => 0))), (q22, .inl (ac 0, 240, .inl (fun _ => 0)))] := hD
  refine lv_aload_n hx hb dc_X6_init_27 rfl (lv_at hl 0 rfl) ?_
  refine lv_bipush (v := 60) hx hb dc_X6_init_28 (by decide) ?_
  refine ct_newi hx hb hts hK hP hD hS hA 60 (by decide) (by decide) (by decide) (Nat.le_of_ble_eq_true rfl) (Nat.le_of_ble_eq_true rfl) dc_X6_init_30 (fun q30 H hP hD hS => ?_)
  have hP : va_P D zVC [(h0, .inr (6, [.ref q6, .ref q13, .ref q22, .null, .int 0, .null, .null, .int 0, .null, .int 0, .null, .int 0, .null, .int 0, .int 0, .null, .int 0, .null, .null, .null, .null, .null, .null, .null, .null, .null, .null, .null, .int 0, .null, .null, .int 0])), (q6, .inl (ac 0, 4, .inl (fun _ => 0))), (q13, .inl (ac 0, 4, .inl (fun _ => 0))), (q22, .inl (ac 0, 240, .inl (fun _ => 0))), (q30, .inl (ac 0, 60, .inl (fun _ => 0)))] H := hP
  have hD : va_D A [(h0, .inr (6, [.ref q6, .ref q13, .ref q22, .null, .int 0, .null, .null, .int 0, .null, .int 0, .null, .int 0, .null, .int 0, .int 0, .null, .int 0, .null, .null, .null, .null, .null, .null, .null, .null, .null, .null, .null, .int 0, .null, .null, .int 0])), (q6, .inl (ac 0, 4, .inl (fun _ => 0))), (q13, .inl (ac 0, 4, .inl (fun _ => 0))), (q22, .inl (ac 0, 240, .inl (fun _ => 0))), (q30, .inl (ac 0, 60, .inl (fun _ => 0)))] := hD
  refine W.widen (k := 4) (n := 308) (Nat.le_of_ble_eq_true rfl) (Nat.le_of_ble_eq_true rfl) ?_
  refine ct_put (ac := ac) (c0 := 6) (k := 3) (v := .ref q30) hx hb hts hin hown hK hP hD hS 0 rfl rfl rfl rfl rfl rfl (Nat.le_of_ble_eq_true rfl) dc_X6_init_32 (fun H locs hP hD hS => ?_)
  have hP : va_P D zVC [(h0, .inr (6, [.ref q6, .ref q13, .ref q22, .ref q30, .int 0, .null, .null, .int 0, .null, .int 0, .null, .int 0, .null, .int 0, .int 0, .null, .int 0, .null, .null, .null, .null, .null, .null, .null, .null, .null, .null, .null, .int 0, .null, .null, .int 0])), (q6, .inl (ac 0, 4, .inl (fun _ => 0))), (q13, .inl (ac 0, 4, .inl (fun _ => 0))), (q22, .inl (ac 0, 240, .inl (fun _ => 0))), (q30, .inl (ac 0, 60, .inl (fun _ => 0)))] H := hP
  have hD : va_D A [(h0, .inr (6, [.ref q6, .ref q13, .ref q22, .ref q30, .int 0, .null, .null, .int 0, .null, .int 0, .null, .int 0, .null, .int 0, .int 0, .null, .int 0, .null, .null, .null, .null, .null, .null, .null, .null, .null, .null, .null, .int 0, .null, .null, .int 0])), (q6, .inl (ac 0, 4, .inl (fun _ => 0))), (q13, .inl (ac 0, 4, .inl (fun _ => 0))), (q22, .inl (ac 0, 240, .inl (fun _ => 0))), (q30, .inl (ac 0, 60, .inl (fun _ => 0)))] := hD
  refine lv_aload_n hx hb dc_X6_init_35 rfl (lv_at hl 0 rfl) ?_
  refine lv_sipush (v := 144) hx hb dc_X6_init_36 (by decide) ?_
  refine ct_newi hx hb hts hK hP hD hS hA 144 (by decide) (by decide) (by decide) (Nat.le_of_ble_eq_true rfl) (Nat.le_of_ble_eq_true rfl) dc_X6_init_39 (fun q39 H hP hD hS => ?_)
  have hP : va_P D zVC [(h0, .inr (6, [.ref q6, .ref q13, .ref q22, .ref q30, .int 0, .null, .null, .int 0, .null, .int 0, .null, .int 0, .null, .int 0, .int 0, .null, .int 0, .null, .null, .null, .null, .null, .null, .null, .null, .null, .null, .null, .int 0, .null, .null, .int 0])), (q6, .inl (ac 0, 4, .inl (fun _ => 0))), (q13, .inl (ac 0, 4, .inl (fun _ => 0))), (q22, .inl (ac 0, 240, .inl (fun _ => 0))), (q30, .inl (ac 0, 60, .inl (fun _ => 0))), (q39, .inl (ac 0, 144, .inl (fun _ => 0)))] H := hP
  have hD : va_D A [(h0, .inr (6, [.ref q6, .ref q13, .ref q22, .ref q30, .int 0, .null, .null, .int 0, .null, .int 0, .null, .int 0, .null, .int 0, .int 0, .null, .int 0, .null, .null, .null, .null, .null, .null, .null, .null, .null, .null, .null, .int 0, .null, .null, .int 0])), (q6, .inl (ac 0, 4, .inl (fun _ => 0))), (q13, .inl (ac 0, 4, .inl (fun _ => 0))), (q22, .inl (ac 0, 240, .inl (fun _ => 0))), (q30, .inl (ac 0, 60, .inl (fun _ => 0))), (q39, .inl (ac 0, 144, .inl (fun _ => 0)))] := hD
  refine W.widen (k := 5) (n := 452) (Nat.le_of_ble_eq_true rfl) (Nat.le_of_ble_eq_true rfl) ?_
  refine ct_put (ac := ac) (c0 := 6) (k := 5) (v := .ref q39) hx hb hts hin hown hK hP hD hS 0 rfl rfl rfl rfl rfl rfl (Nat.le_of_ble_eq_true rfl) dc_X6_init_41 (fun H locs hP hD hS => ?_)
  have hP : va_P D zVC [(h0, .inr (6, [.ref q6, .ref q13, .ref q22, .ref q30, .int 0, .ref q39, .null, .int 0, .null, .int 0, .null, .int 0, .null, .int 0, .int 0, .null, .int 0, .null, .null, .null, .null, .null, .null, .null, .null, .null, .null, .null, .int 0, .null, .null, .int 0])), (q6, .inl (ac 0, 4, .inl (fun _ => 0))), (q13, .inl (ac 0, 4, .inl (fun _ => 0))), (q22, .inl (ac 0, 240, .inl (fun _ => 0))), (q30, .inl (ac 0, 60, .inl (fun _ => 0))), (q39, .inl (ac 0, 144, .inl (fun _ => 0)))] H := hP
  have hD : va_D A [(h0, .inr (6, [.ref q6, .ref q13, .ref q22, .ref q30, .int 0, .ref q39, .null, .int 0, .null, .int 0, .null, .int 0, .null, .int 0, .int 0, .null, .int 0, .null, .null, .null, .null, .null, .null, .null, .null, .null, .null, .null, .int 0, .null, .null, .int 0])), (q6, .inl (ac 0, 4, .inl (fun _ => 0))), (q13, .inl (ac 0, 4, .inl (fun _ => 0))), (q22, .inl (ac 0, 240, .inl (fun _ => 0))), (q30, .inl (ac 0, 60, .inl (fun _ => 0))), (q39, .inl (ac 0, 144, .inl (fun _ => 0)))] := hD
  refine lv_aload_n hx hb dc_X6_init_44 rfl (lv_at hl 0 rfl) ?_
  refine lv_iconst (v := 3) hx hb dc_X6_init_45 (by decide) ?_
  refine ct_newi hx hb hts hK hP hD hS hA 3 (by decide) (by decide) (by decide) (Nat.le_of_ble_eq_true rfl) (Nat.le_of_ble_eq_true rfl) dc_X6_init_46 (fun q46 H hP hD hS => ?_)
  have hP : va_P D zVC [(h0, .inr (6, [.ref q6, .ref q13, .ref q22, .ref q30, .int 0, .ref q39, .null, .int 0, .null, .int 0, .null, .int 0, .null, .int 0, .int 0, .null, .int 0, .null, .null, .null, .null, .null, .null, .null, .null, .null, .null, .null, .int 0, .null, .null, .int 0])), (q6, .inl (ac 0, 4, .inl (fun _ => 0))), (q13, .inl (ac 0, 4, .inl (fun _ => 0))), (q22, .inl (ac 0, 240, .inl (fun _ => 0))), (q30, .inl (ac 0, 60, .inl (fun _ => 0))), (q39, .inl (ac 0, 144, .inl (fun _ => 0))), (q46, .inl (ac 0, 3, .inl (fun _ => 0)))] H := hP
  have hD : va_D A [(h0, .inr (6, [.ref q6, .ref q13, .ref q22, .ref q30, .int 0, .ref q39, .null, .int 0, .null, .int 0, .null, .int 0, .null, .int 0, .int 0, .null, .int 0, .null, .null, .null, .null, .null, .null, .null, .null, .null, .null, .null, .int 0, .null, .null, .int 0])), (q6, .inl (ac 0, 4, .inl (fun _ => 0))), (q13, .inl (ac 0, 4, .inl (fun _ => 0))), (q22, .inl (ac 0, 240, .inl (fun _ => 0))), (q30, .inl (ac 0, 60, .inl (fun _ => 0))), (q39, .inl (ac 0, 144, .inl (fun _ => 0))), (q46, .inl (ac 0, 3, .inl (fun _ => 0)))] := hD
  refine W.widen (k := 6) (n := 455) (Nat.le_of_ble_eq_true rfl) (Nat.le_of_ble_eq_true rfl) ?_
  refine ct_put (ac := ac) (c0 := 6) (k := 6) (v := .ref q46) hx hb hts hin hown hK hP hD hS 0 rfl rfl rfl rfl rfl rfl (Nat.le_of_ble_eq_true rfl) dc_X6_init_48 (fun H locs hP hD hS => ?_)
  have hP : va_P D zVC [(h0, .inr (6, [.ref q6, .ref q13, .ref q22, .ref q30, .int 0, .ref q39, .ref q46, .int 0, .null, .int 0, .null, .int 0, .null, .int 0, .int 0, .null, .int 0, .null, .null, .null, .null, .null, .null, .null, .null, .null, .null, .null, .int 0, .null, .null, .int 0])), (q6, .inl (ac 0, 4, .inl (fun _ => 0))), (q13, .inl (ac 0, 4, .inl (fun _ => 0))), (q22, .inl (ac 0, 240, .inl (fun _ => 0))), (q30, .inl (ac 0, 60, .inl (fun _ => 0))), (q39, .inl (ac 0, 144, .inl (fun _ => 0))), (q46, .inl (ac 0, 3, .inl (fun _ => 0)))] H := hP
  have hD : va_D A [(h0, .inr (6, [.ref q6, .ref q13, .ref q22, .ref q30, .int 0, .ref q39, .ref q46, .int 0, .null, .int 0, .null, .int 0, .null, .int 0, .int 0, .null, .int 0, .null, .null, .null, .null, .null, .null, .null, .null, .null, .null, .null, .int 0, .null, .null, .int 0])), (q6, .inl (ac 0, 4, .inl (fun _ => 0))), (q13, .inl (ac 0, 4, .inl (fun _ => 0))), (q22, .inl (ac 0, 240, .inl (fun _ => 0))), (q30, .inl (ac 0, 60, .inl (fun _ => 0))), (q39, .inl (ac 0, 144, .inl (fun _ => 0))), (q46, .inl (ac 0, 3, .inl (fun _ => 0)))] := hD
  refine lv_aload_n hx hb dc_X6_init_51 rfl (lv_at hl 0 rfl) ?_
  refine lv_bipush (v := 20) hx hb dc_X6_init_52 (by decide) ?_
  refine ct_newi hx hb hts hK hP hD hS hA 20 (by decide) (by decide) (by decide) (Nat.le_of_ble_eq_true rfl) (Nat.le_of_ble_eq_true rfl) dc_X6_init_54 (fun q54 H hP hD hS => ?_)
  have hP : va_P D zVC [(h0, .inr (6, [.ref q6, .ref q13, .ref q22, .ref q30, .int 0, .ref q39, .ref q46, .int 0, .null, .int 0, .null, .int 0, .null, .int 0, .int 0, .null, .int 0, .null, .null, .null, .null, .null, .null, .null, .null, .null, .null, .null, .int 0, .null, .null, .int 0])), (q6, .inl (ac 0, 4, .inl (fun _ => 0))), (q13, .inl (ac 0, 4, .inl (fun _ => 0))), (q22, .inl (ac 0, 240, .inl (fun _ => 0))), (q30, .inl (ac 0, 60, .inl (fun _ => 0))), (q39, .inl (ac 0, 144, .inl (fun _ => 0))), (q46, .inl (ac 0, 3, .inl (fun _ => 0))), (q54, .inl (ac 0, 20, .inl (fun _ => 0)))] H := hP
  have hD : va_D A [(h0, .inr (6, [.ref q6, .ref q13, .ref q22, .ref q30, .int 0, .ref q39, .ref q46, .int 0, .null, .int 0, .null, .int 0, .null, .int 0, .int 0, .null, .int 0, .null, .null, .null, .null, .null, .null, .null, .null, .null, .null, .null, .int 0, .null, .null, .int 0])), (q6, .inl (ac 0, 4, .inl (fun _ => 0))), (q13, .inl (ac 0, 4, .inl (fun _ => 0))), (q22, .inl (ac 0, 240, .inl (fun _ => 0))), (q30, .inl (ac 0, 60, .inl (fun _ => 0))), (q39, .inl (ac 0, 144, .inl (fun _ => 0))), (q46, .inl (ac 0, 3, .inl (fun _ => 0))), (q54, .inl (ac 0, 20, .inl (fun _ => 0)))] := hD
  refine W.widen (k := 7) (n := 475) (Nat.le_of_ble_eq_true rfl) (Nat.le_of_ble_eq_true rfl) ?_
  refine ct_put (ac := ac) (c0 := 6) (k := 8) (v := .ref q54) hx hb hts hin hown hK hP hD hS 0 rfl rfl rfl rfl rfl rfl (Nat.le_of_ble_eq_true rfl) dc_X6_init_56 (fun H locs hP hD hS => ?_)
  have hP : va_P D zVC [(h0, .inr (6, [.ref q6, .ref q13, .ref q22, .ref q30, .int 0, .ref q39, .ref q46, .int 0, .ref q54, .int 0, .null, .int 0, .null, .int 0, .int 0, .null, .int 0, .null, .null, .null, .null, .null, .null, .null, .null, .null, .null, .null, .int 0, .null, .null, .int 0])), (q6, .inl (ac 0, 4, .inl (fun _ => 0))), (q13, .inl (ac 0, 4, .inl (fun _ => 0))), (q22, .inl (ac 0, 240, .inl (fun _ => 0))), (q30, .inl (ac 0, 60, .inl (fun _ => 0))), (q39, .inl (ac 0, 144, .inl (fun _ => 0))), (q46, .inl (ac 0, 3, .inl (fun _ => 0))), (q54, .inl (ac 0, 20, .inl (fun _ => 0)))] H := hP
  have hD : va_D A [(h0, .inr (6, [.ref q6, .ref q13, .ref q22, .ref q30, .int 0, .ref q39, .ref q46, .int 0, .ref q54, .int 0, .null, .int 0, .null, .int 0, .int 0, .null, .int 0, .null, .null, .null, .null, .null, .null, .null, .null, .null, .null, .null, .int 0, .null, .null, .int 0])), (q6, .inl (ac 0, 4, .inl (fun _ => 0))), (q13, .inl (ac 0, 4, .inl (fun _ => 0))), (q22, .inl (ac 0, 240, .inl (fun _ => 0))), (q30, .inl (ac 0, 60, .inl (fun _ => 0))), (q39, .inl (ac 0, 144, .inl (fun _ => 0))), (q46, .inl (ac 0, 3, .inl (fun _ => 0))), (q54, .inl (ac 0, 20, .inl (fun _ => 0)))] := hD
  refine lv_aload_n hx hb dc_X6_init_59 rfl (lv_at hl 0 rfl) ?_
  refine lv_bipush (v := 12) hx hb dc_X6_init_60 (by decide) ?_
  refine ct_newi hx hb hts hK hP hD hS hA 12 (by decide) (by decide) (by decide) (Nat.le_of_ble_eq_true rfl) (Nat.le_of_ble_eq_true rfl) dc_X6_init_62 (fun q62 H hP hD hS => ?_)
  have hP : va_P D zVC [(h0, .inr (6, [.ref q6, .ref q13, .ref q22, .ref q30, .int 0, .ref q39, .ref q46, .int 0, .ref q54, .int 0, .null, .int 0, .null, .int 0, .int 0, .null, .int 0, .null, .null, .null, .null, .null, .null, .null, .null, .null, .null, .null, .int 0, .null, .null, .int 0])), (q6, .inl (ac 0, 4, .inl (fun _ => 0))), (q13, .inl (ac 0, 4, .inl (fun _ => 0))), (q22, .inl (ac 0, 240, .inl (fun _ => 0))), (q30, .inl (ac 0, 60, .inl (fun _ => 0))), (q39, .inl (ac 0, 144, .inl (fun _ => 0))), (q46, .inl (ac 0, 3, .inl (fun _ => 0))), (q54, .inl (ac 0, 20, .inl (fun _ => 0))), (q62, .inl (ac 0, 12, .inl (fun _ => 0)))] H := hP
  have hD : va_D A [(h0, .inr (6, [.ref q6, .ref q13, .ref q22, .ref q30, .int 0, .ref q39, .ref q46, .int 0, .ref q54, .int 0, .null, .int 0, .null, .int 0, .int 0, .null, .int 0, .null, .null, .null, .null, .null, .null, .null, .null, .null, .null, .null, .int 0, .null, .null, .int 0])), (q6, .inl (ac 0, 4, .inl (fun _ => 0))), (q13, .inl (ac 0, 4, .inl (fun _ => 0))), (q22, .inl (ac 0, 240, .inl (fun _ => 0))), (q30, .inl (ac 0, 60, .inl (fun _ => 0))), (q39, .inl (ac 0, 144, .inl (fun _ => 0))), (q46, .inl (ac 0, 3, .inl (fun _ => 0))), (q54, .inl (ac 0, 20, .inl (fun _ => 0))), (q62, .inl (ac 0, 12, .inl (fun _ => 0)))] := hD
  refine W.widen (k := 8) (n := 487) (Nat.le_of_ble_eq_true rfl) (Nat.le_of_ble_eq_true rfl) ?_
  refine ct_put (ac := ac) (c0 := 6) (k := 10) (v := .ref q62) hx hb hts hin hown hK hP hD hS 0 rfl rfl rfl rfl rfl rfl (Nat.le_of_ble_eq_true rfl) dc_X6_init_64 (fun H locs hP hD hS => ?_)
  have hP : va_P D zVC [(h0, .inr (6, [.ref q6, .ref q13, .ref q22, .ref q30, .int 0, .ref q39, .ref q46, .int 0, .ref q54, .int 0, .ref q62, .int 0, .null, .int 0, .int 0, .null, .int 0, .null, .null, .null, .null, .null, .null, .null, .null, .null, .null, .null, .int 0, .null, .null, .int 0])), (q6, .inl (ac 0, 4, .inl (fun _ => 0))), (q13, .inl (ac 0, 4, .inl (fun _ => 0))), (q22, .inl (ac 0, 240, .inl (fun _ => 0))), (q30, .inl (ac 0, 60, .inl (fun _ => 0))), (q39, .inl (ac 0, 144, .inl (fun _ => 0))), (q46, .inl (ac 0, 3, .inl (fun _ => 0))), (q54, .inl (ac 0, 20, .inl (fun _ => 0))), (q62, .inl (ac 0, 12, .inl (fun _ => 0)))] H := hP
  have hD : va_D A [(h0, .inr (6, [.ref q6, .ref q13, .ref q22, .ref q30, .int 0, .ref q39, .ref q46, .int 0, .ref q54, .int 0, .ref q62, .int 0, .null, .int 0, .int 0, .null, .int 0, .null, .null, .null, .null, .null, .null, .null, .null, .null, .null, .null, .int 0, .null, .null, .int 0])), (q6, .inl (ac 0, 4, .inl (fun _ => 0))), (q13, .inl (ac 0, 4, .inl (fun _ => 0))), (q22, .inl (ac 0, 240, .inl (fun _ => 0))), (q30, .inl (ac 0, 60, .inl (fun _ => 0))), (q39, .inl (ac 0, 144, .inl (fun _ => 0))), (q46, .inl (ac 0, 3, .inl (fun _ => 0))), (q54, .inl (ac 0, 20, .inl (fun _ => 0))), (q62, .inl (ac 0, 12, .inl (fun _ => 0)))] := hD
  refine lv_aload_n hx hb dc_X6_init_67 rfl (lv_at hl 0 rfl) ?_
  refine lv_bipush (v := 34) hx hb dc_X6_init_68 (by decide) ?_
  refine ct_newi hx hb hts hK hP hD hS hA 34 (by decide) (by decide) (by decide) (Nat.le_of_ble_eq_true rfl) (Nat.le_of_ble_eq_true rfl) dc_X6_init_70 (fun q70 H hP hD hS => ?_)
  have hP : va_P D zVC [(h0, .inr (6, [.ref q6, .ref q13, .ref q22, .ref q30, .int 0, .ref q39, .ref q46, .int 0, .ref q54, .int 0, .ref q62, .int 0, .null, .int 0, .int 0, .null, .int 0, .null, .null, .null, .null, .null, .null, .null, .null, .null, .null, .null, .int 0, .null, .null, .int 0])), (q6, .inl (ac 0, 4, .inl (fun _ => 0))), (q13, .inl (ac 0, 4, .inl (fun _ => 0))), (q22, .inl (ac 0, 240, .inl (fun _ => 0))), (q30, .inl (ac 0, 60, .inl (fun _ => 0))), (q39, .inl (ac 0, 144, .inl (fun _ => 0))), (q46, .inl (ac 0, 3, .inl (fun _ => 0))), (q54, .inl (ac 0, 20, .inl (fun _ => 0))), (q62, .inl (ac 0, 12, .inl (fun _ => 0))), (q70, .inl (ac 0, 34, .inl (fun _ => 0)))] H := hP
  have hD : va_D A [(h0, .inr (6, [.ref q6, .ref q13, .ref q22, .ref q30, .int 0, .ref q39, .ref q46, .int 0, .ref q54, .int 0, .ref q62, .int 0, .null, .int 0, .int 0, .null, .int 0, .null, .null, .null, .null, .null, .null, .null, .null, .null, .null, .null, .int 0, .null, .null, .int 0])), (q6, .inl (ac 0, 4, .inl (fun _ => 0))), (q13, .inl (ac 0, 4, .inl (fun _ => 0))), (q22, .inl (ac 0, 240, .inl (fun _ => 0))), (q30, .inl (ac 0, 60, .inl (fun _ => 0))), (q39, .inl (ac 0, 144, .inl (fun _ => 0))), (q46, .inl (ac 0, 3, .inl (fun _ => 0))), (q54, .inl (ac 0, 20, .inl (fun _ => 0))), (q62, .inl (ac 0, 12, .inl (fun _ => 0))), (q70, .inl (ac 0, 34, .inl (fun _ => 0)))] := hD
  refine W.widen (k := 9) (n := 521) (Nat.le_of_ble_eq_true rfl) (Nat.le_of_ble_eq_true rfl) ?_
  refine ct_put (ac := ac) (c0 := 6) (k := 12) (v := .ref q70) hx hb hts hin hown hK hP hD hS 0 rfl rfl rfl rfl rfl rfl (Nat.le_of_ble_eq_true rfl) dc_X6_init_72 (fun H locs hP hD hS => ?_)
  have hP : va_P D zVC [(h0, .inr (6, [.ref q6, .ref q13, .ref q22, .ref q30, .int 0, .ref q39, .ref q46, .int 0, .ref q54, .int 0, .ref q62, .int 0, .ref q70, .int 0, .int 0, .null, .int 0, .null, .null, .null, .null, .null, .null, .null, .null, .null, .null, .null, .int 0, .null, .null, .int 0])), (q6, .inl (ac 0, 4, .inl (fun _ => 0))), (q13, .inl (ac 0, 4, .inl (fun _ => 0))), (q22, .inl (ac 0, 240, .inl (fun _ => 0))), (q30, .inl (ac 0, 60, .inl (fun _ => 0))), (q39, .inl (ac 0, 144, .inl (fun _ => 0))), (q46, .inl (ac 0, 3, .inl (fun _ => 0))), (q54, .inl (ac 0, 20, .inl (fun _ => 0))), (q62, .inl (ac 0, 12, .inl (fun _ => 0))), (q70, .inl (ac 0, 34, .inl (fun _ => 0)))] H := hP
  have hD : va_D A [(h0, .inr (6, [.ref q6, .ref q13, .ref q22, .ref q30, .int 0, .ref q39, .ref q46, .int 0, .ref q54, .int 0, .ref q62, .int 0, .ref q70, .int 0, .int 0, .null, .int 0, .null, .null, .null, .null, .null, .null, .null, .null, .null, .null, .null, .int 0, .null, .null, .int 0])), (q6, .inl (ac 0, 4, .inl (fun _ => 0))), (q13, .inl (ac 0, 4, .inl (fun _ => 0))), (q22, .inl (ac 0, 240, .inl (fun _ => 0))), (q30, .inl (ac 0, 60, .inl (fun _ => 0))), (q39, .inl (ac 0, 144, .inl (fun _ => 0))), (q46, .inl (ac 0, 3, .inl (fun _ => 0))), (q54, .inl (ac 0, 20, .inl (fun _ => 0))), (q62, .inl (ac 0, 12, .inl (fun _ => 0))), (q70, .inl (ac 0, 34, .inl (fun _ => 0)))] := hD
  refine lv_aload_n hx hb dc_X6_init_75 rfl (lv_at hl 0 rfl) ?_
  refine lv_bipush (v := 24) hx hb dc_X6_init_76 (by decide) ?_
  refine ct_newi hx hb hts hK hP hD hS hA 24 (by decide) (by decide) (by decide) (Nat.le_of_ble_eq_true rfl) (Nat.le_of_ble_eq_true rfl) dc_X6_init_78 (fun q78 H hP hD hS => ?_)
  have hP : va_P D zVC [(h0, .inr (6, [.ref q6, .ref q13, .ref q22, .ref q30, .int 0, .ref q39, .ref q46, .int 0, .ref q54, .int 0, .ref q62, .int 0, .ref q70, .int 0, .int 0, .null, .int 0, .null, .null, .null, .null, .null, .null, .null, .null, .null, .null, .null, .int 0, .null, .null, .int 0])), (q6, .inl (ac 0, 4, .inl (fun _ => 0))), (q13, .inl (ac 0, 4, .inl (fun _ => 0))), (q22, .inl (ac 0, 240, .inl (fun _ => 0))), (q30, .inl (ac 0, 60, .inl (fun _ => 0))), (q39, .inl (ac 0, 144, .inl (fun _ => 0))), (q46, .inl (ac 0, 3, .inl (fun _ => 0))), (q54, .inl (ac 0, 20, .inl (fun _ => 0))), (q62, .inl (ac 0, 12, .inl (fun _ => 0))), (q70, .inl (ac 0, 34, .inl (fun _ => 0))), (q78, .inl (ac 0, 24, .inl (fun _ => 0)))] H := hP
  have hD : va_D A [(h0, .inr (6, [.ref q6, .ref q13, .ref q22, .ref q30, .int 0, .ref q39, .ref q46, .int 0, .ref q54, .int 0, .ref q62, .int 0, .ref q70, .int 0, .int 0, .null, .int 0, .null, .null, .null, .null, .null, .null, .null, .null, .null, .null, .null, .int 0, .null, .null, .int 0])), (q6, .inl (ac 0, 4, .inl (fun _ => 0))), (q13, .inl (ac 0, 4, .inl (fun _ => 0))), (q22, .inl (ac 0, 240, .inl (fun _ => 0))), (q30, .inl (ac 0, 60, .inl (fun _ => 0))), (q39, .inl (ac 0, 144, .inl (fun _ => 0))), (q46, .inl (ac 0, 3, .inl (fun _ => 0))), (q54, .inl (ac 0, 20, .inl (fun _ => 0))), (q62, .inl (ac 0, 12, .inl (fun _ => 0))), (q70, .inl (ac 0, 34, .inl (fun _ => 0))), (q78, .inl (ac 0, 24, .inl (fun _ => 0)))] := hD
  refine W.widen (k := 10) (n := 545) (Nat.le_of_ble_eq_true rfl) (Nat.le_of_ble_eq_true rfl) ?_
  refine ct_put (ac := ac) (c0 := 6) (k := 15) (v := .ref q78) hx hb hts hin hown hK hP hD hS 0 rfl rfl rfl rfl rfl rfl (Nat.le_of_ble_eq_true rfl) dc_X6_init_80 (fun H locs hP hD hS => ?_)
  have hP : va_P D zVC [(h0, .inr (6, [.ref q6, .ref q13, .ref q22, .ref q30, .int 0, .ref q39, .ref q46, .int 0, .ref q54, .int 0, .ref q62, .int 0, .ref q70, .int 0, .int 0, .ref q78, .int 0, .null, .null, .null, .null, .null, .null, .null, .null, .null, .null, .null, .int 0, .null, .null, .int 0])), (q6, .inl (ac 0, 4, .inl (fun _ => 0))), (q13, .inl (ac 0, 4, .inl (fun _ => 0))), (q22, .inl (ac 0, 240, .inl (fun _ => 0))), (q30, .inl (ac 0, 60, .inl (fun _ => 0))), (q39, .inl (ac 0, 144, .inl (fun _ => 0))), (q46, .inl (ac 0, 3, .inl (fun _ => 0))), (q54, .inl (ac 0, 20, .inl (fun _ => 0))), (q62, .inl (ac 0, 12, .inl (fun _ => 0))), (q70, .inl (ac 0, 34, .inl (fun _ => 0))), (q78, .inl (ac 0, 24, .inl (fun _ => 0)))] H := hP
  have hD : va_D A [(h0, .inr (6, [.ref q6, .ref q13, .ref q22, .ref q30, .int 0, .ref q39, .ref q46, .int 0, .ref q54, .int 0, .ref q62, .int 0, .ref q70, .int 0, .int 0, .ref q78, .int 0, .null, .null, .null, .null, .null, .null, .null, .null, .null, .null, .null, .int 0, .null, .null, .int 0])), (q6, .inl (ac 0, 4, .inl (fun _ => 0))), (q13, .inl (ac 0, 4, .inl (fun _ => 0))), (q22, .inl (ac 0, 240, .inl (fun _ => 0))), (q30, .inl (ac 0, 60, .inl (fun _ => 0))), (q39, .inl (ac 0, 144, .inl (fun _ => 0))), (q46, .inl (ac 0, 3, .inl (fun _ => 0))), (q54, .inl (ac 0, 20, .inl (fun _ => 0))), (q62, .inl (ac 0, 12, .inl (fun _ => 0))), (q70, .inl (ac 0, 34, .inl (fun _ => 0))), (q78, .inl (ac 0, 24, .inl (fun _ => 0)))] := hD
  refine lv_aload_n hx hb dc_X6_init_83 rfl (lv_at hl 0 rfl) ?_
  refine lv_bipush (v := 17) hx hb dc_X6_init_84 (by decide) ?_
  refine ct_newi hx hb hts hK hP hD hS hA 17 (by decide) (by decide) (by decide) (Nat.le_of_ble_eq_true rfl) (Nat.le_of_ble_eq_true rfl) dc_X6_init_86 (fun q86 H hP hD hS => ?_)
  have hP : va_P D zVC [(h0, .inr (6, [.ref q6, .ref q13, .ref q22, .ref q30, .int 0, .ref q39, .ref q46, .int 0, .ref q54, .int 0, .ref q62, .int 0, .ref q70, .int 0, .int 0, .ref q78, .int 0, .null, .null, .null, .null, .null, .null, .null, .null, .null, .null, .null, .int 0, .null, .null, .int 0])), (q6, .inl (ac 0, 4, .inl (fun _ => 0))), (q13, .inl (ac 0, 4, .inl (fun _ => 0))), (q22, .inl (ac 0, 240, .inl (fun _ => 0))), (q30, .inl (ac 0, 60, .inl (fun _ => 0))), (q39, .inl (ac 0, 144, .inl (fun _ => 0))), (q46, .inl (ac 0, 3, .inl (fun _ => 0))), (q54, .inl (ac 0, 20, .inl (fun _ => 0))), (q62, .inl (ac 0, 12, .inl (fun _ => 0))), (q70, .inl (ac 0, 34, .inl (fun _ => 0))), (q78, .inl (ac 0, 24, .inl (fun _ => 0))), (q86, .inl (ac 0, 17, .inl (fun _ => 0)))] H := hP
  have hD : va_D A [(h0, .inr (6, [.ref q6, .ref q13, .ref q22, .ref q30, .int 0, .ref q39, .ref q46, .int 0, .ref q54, .int 0, .ref q62, .int 0, .ref q70, .int 0, .int 0, .ref q78, .int 0, .null, .null, .null, .null, .null, .null, .null, .null, .null, .null, .null, .int 0, .null, .null, .int 0])), (q6, .inl (ac 0, 4, .inl (fun _ => 0))), (q13, .inl (ac 0, 4, .inl (fun _ => 0))), (q22, .inl (ac 0, 240, .inl (fun _ => 0))), (q30, .inl (ac 0, 60, .inl (fun _ => 0))), (q39, .inl (ac 0, 144, .inl (fun _ => 0))), (q46, .inl (ac 0, 3, .inl (fun _ => 0))), (q54, .inl (ac 0, 20, .inl (fun _ => 0))), (q62, .inl (ac 0, 12, .inl (fun _ => 0))), (q70, .inl (ac 0, 34, .inl (fun _ => 0))), (q78, .inl (ac 0, 24, .inl (fun _ => 0))), (q86, .inl (ac 0, 17, .inl (fun _ => 0)))] := hD
  refine W.widen (k := 11) (n := 562) (Nat.le_of_ble_eq_true rfl) (Nat.le_of_ble_eq_true rfl) ?_
  refine ct_put (ac := ac) (c0 := 6) (k := 17) (v := .ref q86) hx hb hts hin hown hK hP hD hS 0 rfl rfl rfl rfl rfl rfl (Nat.le_of_ble_eq_true rfl) dc_X6_init_88 (fun H locs hP hD hS => ?_)
  have hP : va_P D zVC [(h0, .inr (6, [.ref q6, .ref q13, .ref q22, .ref q30, .int 0, .ref q39, .ref q46, .int 0, .ref q54, .int 0, .ref q62, .int 0, .ref q70, .int 0, .int 0, .ref q78, .int 0, .ref q86, .null, .null, .null, .null, .null, .null, .null, .null, .null, .null, .int 0, .null, .null, .int 0])), (q6, .inl (ac 0, 4, .inl (fun _ => 0))), (q13, .inl (ac 0, 4, .inl (fun _ => 0))), (q22, .inl (ac 0, 240, .inl (fun _ => 0))), (q30, .inl (ac 0, 60, .inl (fun _ => 0))), (q39, .inl (ac 0, 144, .inl (fun _ => 0))), (q46, .inl (ac 0, 3, .inl (fun _ => 0))), (q54, .inl (ac 0, 20, .inl (fun _ => 0))), (q62, .inl (ac 0, 12, .inl (fun _ => 0))), (q70, .inl (ac 0, 34, .inl (fun _ => 0))), (q78, .inl (ac 0, 24, .inl (fun _ => 0))), (q86, .inl (ac 0, 17, .inl (fun _ => 0)))] H := hP
  have hD : va_D A [(h0, .inr (6, [.ref q6, .ref q13, .ref q22, .ref q30, .int 0, .ref q39, .ref q46, .int 0, .ref q54, .int 0, .ref q62, .int 0, .ref q70, .int 0, .int 0, .ref q78, .int 0, .ref q86, .null, .null, .null, .null, .null, .null, .null, .null, .null, .null, .int 0, .null, .null, .int 0])), (q6, .inl (ac 0, 4, .inl (fun _ => 0))), (q13, .inl (ac 0, 4, .inl (fun _ => 0))), (q22, .inl (ac 0, 240, .inl (fun _ => 0))), (q30, .inl (ac 0, 60, .inl (fun _ => 0))), (q39, .inl (ac 0, 144, .inl (fun _ => 0))), (q46, .inl (ac 0, 3, .inl (fun _ => 0))), (q54, .inl (ac 0, 20, .inl (fun _ => 0))), (q62, .inl (ac 0, 12, .inl (fun _ => 0))), (q70, .inl (ac 0, 34, .inl (fun _ => 0))), (q78, .inl (ac 0, 24, .inl (fun _ => 0))), (q86, .inl (ac 0, 17, .inl (fun _ => 0)))] := hD
  refine lv_aload_n hx hb dc_X6_init_91 rfl (lv_at hl 0 rfl) ?_
  refine lv_bipush (v := 17) hx hb dc_X6_init_92 (by decide) ?_
  refine ct_newz hx hb hts hK hP hD hS hA 17 (by decide) (by decide) (by decide) (Nat.le_of_ble_eq_true rfl) (Nat.le_of_ble_eq_true rfl) dc_X6_init_94 (fun q94 H hP hD hS => ?_)
  have hP : va_P D zVC [(h0, .inr (6, [.ref q6, .ref q13, .ref q22, .ref q30, .int 0, .ref q39, .ref q46, .int 0, .ref q54, .int 0, .ref q62, .int 0, .ref q70, .int 0, .int 0, .ref q78, .int 0, .ref q86, .null, .null, .null, .null, .null, .null, .null, .null, .null, .null, .int 0, .null, .null, .int 0])), (q6, .inl (ac 0, 4, .inl (fun _ => 0))), (q13, .inl (ac 0, 4, .inl (fun _ => 0))), (q22, .inl (ac 0, 240, .inl (fun _ => 0))), (q30, .inl (ac 0, 60, .inl (fun _ => 0))), (q39, .inl (ac 0, 144, .inl (fun _ => 0))), (q46, .inl (ac 0, 3, .inl (fun _ => 0))), (q54, .inl (ac 0, 20, .inl (fun _ => 0))), (q62, .inl (ac 0, 12, .inl (fun _ => 0))), (q70, .inl (ac 0, 34, .inl (fun _ => 0))), (q78, .inl (ac 0, 24, .inl (fun _ => 0))), (q86, .inl (ac 0, 17, .inl (fun _ => 0))), (q94, .inl (ac 2, 17, .inl (fun _ => 0)))] H := hP
  have hD : va_D A [(h0, .inr (6, [.ref q6, .ref q13, .ref q22, .ref q30, .int 0, .ref q39, .ref q46, .int 0, .ref q54, .int 0, .ref q62, .int 0, .ref q70, .int 0, .int 0, .ref q78, .int 0, .ref q86, .null, .null, .null, .null, .null, .null, .null, .null, .null, .null, .int 0, .null, .null, .int 0])), (q6, .inl (ac 0, 4, .inl (fun _ => 0))), (q13, .inl (ac 0, 4, .inl (fun _ => 0))), (q22, .inl (ac 0, 240, .inl (fun _ => 0))), (q30, .inl (ac 0, 60, .inl (fun _ => 0))), (q39, .inl (ac 0, 144, .inl (fun _ => 0))), (q46, .inl (ac 0, 3, .inl (fun _ => 0))), (q54, .inl (ac 0, 20, .inl (fun _ => 0))), (q62, .inl (ac 0, 12, .inl (fun _ => 0))), (q70, .inl (ac 0, 34, .inl (fun _ => 0))), (q78, .inl (ac 0, 24, .inl (fun _ => 0))), (q86, .inl (ac 0, 17, .inl (fun _ => 0))), (q94, .inl (ac 2, 17, .inl (fun _ => 0)))] := hD
  refine W.widen (k := 12) (n := 579) (Nat.le_of_ble_eq_true rfl) (Nat.le_of_ble_eq_true rfl) ?_
  refine ct_put (ac := ac) (c0 := 6) (k := 18) (v := .ref q94) hx hb hts hin hown hK hP hD hS 0 rfl rfl rfl rfl rfl rfl (Nat.le_of_ble_eq_true rfl) dc_X6_init_96 (fun H locs hP hD hS => ?_)
  have hP : va_P D zVC [(h0, .inr (6, [.ref q6, .ref q13, .ref q22, .ref q30, .int 0, .ref q39, .ref q46, .int 0, .ref q54, .int 0, .ref q62, .int 0, .ref q70, .int 0, .int 0, .ref q78, .int 0, .ref q86, .ref q94, .null, .null, .null, .null, .null, .null, .null, .null, .null, .int 0, .null, .null, .int 0])), (q6, .inl (ac 0, 4, .inl (fun _ => 0))), (q13, .inl (ac 0, 4, .inl (fun _ => 0))), (q22, .inl (ac 0, 240, .inl (fun _ => 0))), (q30, .inl (ac 0, 60, .inl (fun _ => 0))), (q39, .inl (ac 0, 144, .inl (fun _ => 0))), (q46, .inl (ac 0, 3, .inl (fun _ => 0))), (q54, .inl (ac 0, 20, .inl (fun _ => 0))), (q62, .inl (ac 0, 12, .inl (fun _ => 0))), (q70, .inl (ac 0, 34, .inl (fun _ => 0))), (q78, .inl (ac 0, 24, .inl (fun _ => 0))), (q86, .inl (ac 0, 17, .inl (fun _ => 0))), (q94, .inl (ac 2, 17, .inl (fun _ => 0)))] H := hP
  have hD : va_D A [(h0, .inr (6, [.ref q6, .ref q13, .ref q22, .ref q30, .int 0, .ref q39, .ref q46, .int 0, .ref q54, .int 0, .ref q62, .int 0, .ref q70, .int 0, .int 0, .ref q78, .int 0, .ref q86, .ref q94, .null, .null, .null, .null, .null, .null, .null, .null, .null, .int 0, .null, .null, .int 0])), (q6, .inl (ac 0, 4, .inl (fun _ => 0))), (q13, .inl (ac 0, 4, .inl (fun _ => 0))), (q22, .inl (ac 0, 240, .inl (fun _ => 0))), (q30, .inl (ac 0, 60, .inl (fun _ => 0))), (q39, .inl (ac 0, 144, .inl (fun _ => 0))), (q46, .inl (ac 0, 3, .inl (fun _ => 0))), (q54, .inl (ac 0, 20, .inl (fun _ => 0))), (q62, .inl (ac 0, 12, .inl (fun _ => 0))), (q70, .inl (ac 0, 34, .inl (fun _ => 0))), (q78, .inl (ac 0, 24, .inl (fun _ => 0))), (q86, .inl (ac 0, 17, .inl (fun _ => 0))), (q94, .inl (ac 2, 17, .inl (fun _ => 0)))] := hD
  refine lv_aload_n hx hb dc_X6_init_99 rfl (lv_at hl 0 rfl) ?_
  refine lv_bipush (v := 6) hx hb dc_X6_init_100 (by decide) ?_
  refine ct_newi hx hb hts hK hP hD hS hA 6 (by decide) (by decide) (by decide) (Nat.le_of_ble_eq_true rfl) (Nat.le_of_ble_eq_true rfl) dc_X6_init_102 (fun q102 H hP hD hS => ?_)
  have hP : va_P D zVC [(h0, .inr (6, [.ref q6, .ref q13, .ref q22, .ref q30, .int 0, .ref q39, .ref q46, .int 0, .ref q54, .int 0, .ref q62, .int 0, .ref q70, .int 0, .int 0, .ref q78, .int 0, .ref q86, .ref q94, .null, .null, .null, .null, .null, .null, .null, .null, .null, .int 0, .null, .null, .int 0])), (q6, .inl (ac 0, 4, .inl (fun _ => 0))), (q13, .inl (ac 0, 4, .inl (fun _ => 0))), (q22, .inl (ac 0, 240, .inl (fun _ => 0))), (q30, .inl (ac 0, 60, .inl (fun _ => 0))), (q39, .inl (ac 0, 144, .inl (fun _ => 0))), (q46, .inl (ac 0, 3, .inl (fun _ => 0))), (q54, .inl (ac 0, 20, .inl (fun _ => 0))), (q62, .inl (ac 0, 12, .inl (fun _ => 0))), (q70, .inl (ac 0, 34, .inl (fun _ => 0))), (q78, .inl (ac 0, 24, .inl (fun _ => 0))), (q86, .inl (ac 0, 17, .inl (fun _ => 0))), (q94, .inl (ac 2, 17, .inl (fun _ => 0))), (q102, .inl (ac 0, 6, .inl (fun _ => 0)))] H := hP
  have hD : va_D A [(h0, .inr (6, [.ref q6, .ref q13, .ref q22, .ref q30, .int 0, .ref q39, .ref q46, .int 0, .ref q54, .int 0, .ref q62, .int 0, .ref q70, .int 0, .int 0, .ref q78, .int 0, .ref q86, .ref q94, .null, .null, .null, .null, .null, .null, .null, .null, .null, .int 0, .null, .null, .int 0])), (q6, .inl (ac 0, 4, .inl (fun _ => 0))), (q13, .inl (ac 0, 4, .inl (fun _ => 0))), (q22, .inl (ac 0, 240, .inl (fun _ => 0))), (q30, .inl (ac 0, 60, .inl (fun _ => 0))), (q39, .inl (ac 0, 144, .inl (fun _ => 0))), (q46, .inl (ac 0, 3, .inl (fun _ => 0))), (q54, .inl (ac 0, 20, .inl (fun _ => 0))), (q62, .inl (ac 0, 12, .inl (fun _ => 0))), (q70, .inl (ac 0, 34, .inl (fun _ => 0))), (q78, .inl (ac 0, 24, .inl (fun _ => 0))), (q86, .inl (ac 0, 17, .inl (fun _ => 0))), (q94, .inl (ac 2, 17, .inl (fun _ => 0))), (q102, .inl (ac 0, 6, .inl (fun _ => 0)))] := hD
  refine W.widen (k := 13) (n := 585) (Nat.le_of_ble_eq_true rfl) (Nat.le_of_ble_eq_true rfl) ?_
  refine ct_put (ac := ac) (c0 := 6) (k := 19) (v := .ref q102) hx hb hts hin hown hK hP hD hS 0 rfl rfl rfl rfl rfl rfl (Nat.le_of_ble_eq_true rfl) dc_X6_init_104 (fun H locs hP hD hS => ?_)
  have hP : va_P D zVC [(h0, .inr (6, [.ref q6, .ref q13, .ref q22, .ref q30, .int 0, .ref q39, .ref q46, .int 0, .ref q54, .int 0, .ref q62, .int 0, .ref q70, .int 0, .int 0, .ref q78, .int 0, .ref q86, .ref q94, .ref q102, .null, .null, .null, .null, .null, .null, .null, .null, .int 0, .null, .null, .int 0])), (q6, .inl (ac 0, 4, .inl (fun _ => 0))), (q13, .inl (ac 0, 4, .inl (fun _ => 0))), (q22, .inl (ac 0, 240, .inl (fun _ => 0))), (q30, .inl (ac 0, 60, .inl (fun _ => 0))), (q39, .inl (ac 0, 144, .inl (fun _ => 0))), (q46, .inl (ac 0, 3, .inl (fun _ => 0))), (q54, .inl (ac 0, 20, .inl (fun _ => 0))), (q62, .inl (ac 0, 12, .inl (fun _ => 0))), (q70, .inl (ac 0, 34, .inl (fun _ => 0))), (q78, .inl (ac 0, 24, .inl (fun _ => 0))), (q86, .inl (ac 0, 17, .inl (fun _ => 0))), (q94, .inl (ac 2, 17, .inl (fun _ => 0))), (q102, .inl (ac 0, 6, .inl (fun _ => 0)))] H := hP
  have hD : va_D A [(h0, .inr (6, [.ref q6, .ref q13, .ref q22, .ref q30, .int 0, .ref q39, .ref q46, .int 0, .ref q54, .int 0, .ref q62, .int 0, .ref q70, .int 0, .int 0, .ref q78, .int 0, .ref q86, .ref q94, .ref q102, .null, .null, .null, .null, .null, .null, .null, .null, .int 0, .null, .null, .int 0])), (q6, .inl (ac 0, 4, .inl (fun _ => 0))), (q13, .inl (ac 0, 4, .inl (fun _ => 0))), (q22, .inl (ac 0, 240, .inl (fun _ => 0))), (q30, .inl (ac 0, 60, .inl (fun _ => 0))), (q39, .inl (ac 0, 144, .inl (fun _ => 0))), (q46, .inl (ac 0, 3, .inl (fun _ => 0))), (q54, .inl (ac 0, 20, .inl (fun _ => 0))), (q62, .inl (ac 0, 12, .inl (fun _ => 0))), (q70, .inl (ac 0, 34, .inl (fun _ => 0))), (q78, .inl (ac 0, 24, .inl (fun _ => 0))), (q86, .inl (ac 0, 17, .inl (fun _ => 0))), (q94, .inl (ac 2, 17, .inl (fun _ => 0))), (q102, .inl (ac 0, 6, .inl (fun _ => 0)))] := hD
  refine lv_aload_n hx hb dc_X6_init_107 rfl (lv_at hl 0 rfl) ?_
  refine lv_bipush (v := 6) hx hb dc_X6_init_108 (by decide) ?_
  refine ct_newi hx hb hts hK hP hD hS hA 6 (by decide) (by decide) (by decide) (Nat.le_of_ble_eq_true rfl) (Nat.le_of_ble_eq_true rfl) dc_X6_init_110 (fun q110 H hP hD hS => ?_)
  have hP : va_P D zVC [(h0, .inr (6, [.ref q6, .ref q13, .ref q22, .ref q30, .int 0, .ref q39, .ref q46, .int 0, .ref q54, .int 0, .ref q62, .int 0, .ref q70, .int 0, .int 0, .ref q78, .int 0, .ref q86, .ref q94, .ref q102, .null, .null, .null, .null, .null, .null, .null, .null, .int 0, .null, .null, .int 0])), (q6, .inl (ac 0, 4, .inl (fun _ => 0))), (q13, .inl (ac 0, 4, .inl (fun _ => 0))), (q22, .inl (ac 0, 240, .inl (fun _ => 0))), (q30, .inl (ac 0, 60, .inl (fun _ => 0))), (q39, .inl (ac 0, 144, .inl (fun _ => 0))), (q46, .inl (ac 0, 3, .inl (fun _ => 0))), (q54, .inl (ac 0, 20, .inl (fun _ => 0))), (q62, .inl (ac 0, 12, .inl (fun _ => 0))), (q70, .inl (ac 0, 34, .inl (fun _ => 0))), (q78, .inl (ac 0, 24, .inl (fun _ => 0))), (q86, .inl (ac 0, 17, .inl (fun _ => 0))), (q94, .inl (ac 2, 17, .inl (fun _ => 0))), (q102, .inl (ac 0, 6, .inl (fun _ => 0))), (q110, .inl (ac 0, 6, .inl (fun _ => 0)))] H := hP
  have hD : va_D A [(h0, .inr (6, [.ref q6, .ref q13, .ref q22, .ref q30, .int 0, .ref q39, .ref q46, .int 0, .ref q54, .int 0, .ref q62, .int 0, .ref q70, .int 0, .int 0, .ref q78, .int 0, .ref q86, .ref q94, .ref q102, .null, .null, .null, .null, .null, .null, .null, .null, .int 0, .null, .null, .int 0])), (q6, .inl (ac 0, 4, .inl (fun _ => 0))), (q13, .inl (ac 0, 4, .inl (fun _ => 0))), (q22, .inl (ac 0, 240, .inl (fun _ => 0))), (q30, .inl (ac 0, 60, .inl (fun _ => 0))), (q39, .inl (ac 0, 144, .inl (fun _ => 0))), (q46, .inl (ac 0, 3, .inl (fun _ => 0))), (q54, .inl (ac 0, 20, .inl (fun _ => 0))), (q62, .inl (ac 0, 12, .inl (fun _ => 0))), (q70, .inl (ac 0, 34, .inl (fun _ => 0))), (q78, .inl (ac 0, 24, .inl (fun _ => 0))), (q86, .inl (ac 0, 17, .inl (fun _ => 0))), (q94, .inl (ac 2, 17, .inl (fun _ => 0))), (q102, .inl (ac 0, 6, .inl (fun _ => 0))), (q110, .inl (ac 0, 6, .inl (fun _ => 0)))] := hD
  refine W.widen (k := 14) (n := 591) (Nat.le_of_ble_eq_true rfl) (Nat.le_of_ble_eq_true rfl) ?_
  refine ct_put (ac := ac) (c0 := 6) (k := 20) (v := .ref q110) hx hb hts hin hown hK hP hD hS 0 rfl rfl rfl rfl rfl rfl (Nat.le_of_ble_eq_true rfl) dc_X6_init_112 (fun H locs hP hD hS => ?_)
  have hP : va_P D zVC [(h0, .inr (6, [.ref q6, .ref q13, .ref q22, .ref q30, .int 0, .ref q39, .ref q46, .int 0, .ref q54, .int 0, .ref q62, .int 0, .ref q70, .int 0, .int 0, .ref q78, .int 0, .ref q86, .ref q94, .ref q102, .ref q110, .null, .null, .null, .null, .null, .null, .null, .int 0, .null, .null, .int 0])), (q6, .inl (ac 0, 4, .inl (fun _ => 0))), (q13, .inl (ac 0, 4, .inl (fun _ => 0))), (q22, .inl (ac 0, 240, .inl (fun _ => 0))), (q30, .inl (ac 0, 60, .inl (fun _ => 0))), (q39, .inl (ac 0, 144, .inl (fun _ => 0))), (q46, .inl (ac 0, 3, .inl (fun _ => 0))), (q54, .inl (ac 0, 20, .inl (fun _ => 0))), (q62, .inl (ac 0, 12, .inl (fun _ => 0))), (q70, .inl (ac 0, 34, .inl (fun _ => 0))), (q78, .inl (ac 0, 24, .inl (fun _ => 0))), (q86, .inl (ac 0, 17, .inl (fun _ => 0))), (q94, .inl (ac 2, 17, .inl (fun _ => 0))), (q102, .inl (ac 0, 6, .inl (fun _ => 0))), (q110, .inl (ac 0, 6, .inl (fun _ => 0)))] H := hP
  have hD : va_D A [(h0, .inr (6, [.ref q6, .ref q13, .ref q22, .ref q30, .int 0, .ref q39, .ref q46, .int 0, .ref q54, .int 0, .ref q62, .int 0, .ref q70, .int 0, .int 0, .ref q78, .int 0, .ref q86, .ref q94, .ref q102, .ref q110, .null, .null, .null, .null, .null, .null, .null, .int 0, .null, .null, .int 0])), (q6, .inl (ac 0, 4, .inl (fun _ => 0))), (q13, .inl (ac 0, 4, .inl (fun _ => 0))), (q22, .inl (ac 0, 240, .inl (fun _ => 0))), (q30, .inl (ac 0, 60, .inl (fun _ => 0))), (q39, .inl (ac 0, 144, .inl (fun _ => 0))), (q46, .inl (ac 0, 3, .inl (fun _ => 0))), (q54, .inl (ac 0, 20, .inl (fun _ => 0))), (q62, .inl (ac 0, 12, .inl (fun _ => 0))), (q70, .inl (ac 0, 34, .inl (fun _ => 0))), (q78, .inl (ac 0, 24, .inl (fun _ => 0))), (q86, .inl (ac 0, 17, .inl (fun _ => 0))), (q94, .inl (ac 2, 17, .inl (fun _ => 0))), (q102, .inl (ac 0, 6, .inl (fun _ => 0))), (q110, .inl (ac 0, 6, .inl (fun _ => 0)))] := hD
  refine lv_aload_n hx hb dc_X6_init_115 rfl (lv_at hl 0 rfl) ?_
  refine lv_bipush (v := 6) hx hb dc_X6_init_116 (by decide) ?_
  refine ct_newi hx hb hts hK hP hD hS hA 6 (by decide) (by decide) (by decide) (Nat.le_of_ble_eq_true rfl) (Nat.le_of_ble_eq_true rfl) dc_X6_init_118 (fun q118 H hP hD hS => ?_)
  have hP : va_P D zVC [(h0, .inr (6, [.ref q6, .ref q13, .ref q22, .ref q30, .int 0, .ref q39, .ref q46, .int 0, .ref q54, .int 0, .ref q62, .int 0, .ref q70, .int 0, .int 0, .ref q78, .int 0, .ref q86, .ref q94, .ref q102, .ref q110, .null, .null, .null, .null, .null, .null, .null, .int 0, .null, .null, .int 0])), (q6, .inl (ac 0, 4, .inl (fun _ => 0))), (q13, .inl (ac 0, 4, .inl (fun _ => 0))), (q22, .inl (ac 0, 240, .inl (fun _ => 0))), (q30, .inl (ac 0, 60, .inl (fun _ => 0))), (q39, .inl (ac 0, 144, .inl (fun _ => 0))), (q46, .inl (ac 0, 3, .inl (fun _ => 0))), (q54, .inl (ac 0, 20, .inl (fun _ => 0))), (q62, .inl (ac 0, 12, .inl (fun _ => 0))), (q70, .inl (ac 0, 34, .inl (fun _ => 0))), (q78, .inl (ac 0, 24, .inl (fun _ => 0))), (q86, .inl (ac 0, 17, .inl (fun _ => 0))), (q94, .inl (ac 2, 17, .inl (fun _ => 0))), (q102, .inl (ac 0, 6, .inl (fun _ => 0))), (q110, .inl (ac 0, 6, .inl (fun _ => 0))), (q118, .inl (ac 0, 6, .inl (fun _ => 0)))] H := hP
  have hD : va_D A [(h0, .inr (6, [.ref q6, .ref q13, .ref q22, .ref q30, .int 0, .ref q39, .ref q46, .int 0, .ref q54, .int 0, .ref q62, .int 0, .ref q70, .int 0, .int 0, .ref q78, .int 0, .ref q86, .ref q94, .ref q102, .ref q110, .null, .null, .null, .null, .null, .null, .null, .int 0, .null, .null, .int 0])), (q6, .inl (ac 0, 4, .inl (fun _ => 0))), (q13, .inl (ac 0, 4, .inl (fun _ => 0))), (q22, .inl (ac 0, 240, .inl (fun _ => 0))), (q30, .inl (ac 0, 60, .inl (fun _ => 0))), (q39, .inl (ac 0, 144, .inl (fun _ => 0))), (q46, .inl (ac 0, 3, .inl (fun _ => 0))), (q54, .inl (ac 0, 20, .inl (fun _ => 0))), (q62, .inl (ac 0, 12, .inl (fun _ => 0))), (q70, .inl (ac 0, 34, .inl (fun _ => 0))), (q78, .inl (ac 0, 24, .inl (fun _ => 0))), (q86, .inl (ac 0, 17, .inl (fun _ => 0))), (q94, .inl (ac 2, 17, .inl (fun _ => 0))), (q102, .inl (ac 0, 6, .inl (fun _ => 0))), (q110, .inl (ac 0, 6, .inl (fun _ => 0))), (q118, .inl (ac 0, 6, .inl (fun _ => 0)))] := hD
  refine W.widen (k := 15) (n := 597) (Nat.le_of_ble_eq_true rfl) (Nat.le_of_ble_eq_true rfl) ?_
  refine ct_put (ac := ac) (c0 := 6) (k := 21) (v := .ref q118) hx hb hts hin hown hK hP hD hS 0 rfl rfl rfl rfl rfl rfl (Nat.le_of_ble_eq_true rfl) dc_X6_init_120 (fun H locs hP hD hS => ?_)
  have hP : va_P D zVC [(h0, .inr (6, [.ref q6, .ref q13, .ref q22, .ref q30, .int 0, .ref q39, .ref q46, .int 0, .ref q54, .int 0, .ref q62, .int 0, .ref q70, .int 0, .int 0, .ref q78, .int 0, .ref q86, .ref q94, .ref q102, .ref q110, .ref q118, .null, .null, .null, .null, .null, .null, .int 0, .null, .null, .int 0])), (q6, .inl (ac 0, 4, .inl (fun _ => 0))), (q13, .inl (ac 0, 4, .inl (fun _ => 0))), (q22, .inl (ac 0, 240, .inl (fun _ => 0))), (q30, .inl (ac 0, 60, .inl (fun _ => 0))), (q39, .inl (ac 0, 144, .inl (fun _ => 0))), (q46, .inl (ac 0, 3, .inl (fun _ => 0))), (q54, .inl (ac 0, 20, .inl (fun _ => 0))), (q62, .inl (ac 0, 12, .inl (fun _ => 0))), (q70, .inl (ac 0, 34, .inl (fun _ => 0))), (q78, .inl (ac 0, 24, .inl (fun _ => 0))), (q86, .inl (ac 0, 17, .inl (fun _ => 0))), (q94, .inl (ac 2, 17, .inl (fun _ => 0))), (q102, .inl (ac 0, 6, .inl (fun _ => 0))), (q110, .inl (ac 0, 6, .inl (fun _ => 0))), (q118, .inl (ac 0, 6, .inl (fun _ => 0)))] H := hP
  have hD : va_D A [(h0, .inr (6, [.ref q6, .ref q13, .ref q22, .ref q30, .int 0, .ref q39, .ref q46, .int 0, .ref q54, .int 0, .ref q62, .int 0, .ref q70, .int 0, .int 0, .ref q78, .int 0, .ref q86, .ref q94, .ref q102, .ref q110, .ref q118, .null, .null, .null, .null, .null, .null, .int 0, .null, .null, .int 0])), (q6, .inl (ac 0, 4, .inl (fun _ => 0))), (q13, .inl (ac 0, 4, .inl (fun _ => 0))), (q22, .inl (ac 0, 240, .inl (fun _ => 0))), (q30, .inl (ac 0, 60, .inl (fun _ => 0))), (q39, .inl (ac 0, 144, .inl (fun _ => 0))), (q46, .inl (ac 0, 3, .inl (fun _ => 0))), (q54, .inl (ac 0, 20, .inl (fun _ => 0))), (q62, .inl (ac 0, 12, .inl (fun _ => 0))), (q70, .inl (ac 0, 34, .inl (fun _ => 0))), (q78, .inl (ac 0, 24, .inl (fun _ => 0))), (q86, .inl (ac 0, 17, .inl (fun _ => 0))), (q94, .inl (ac 2, 17, .inl (fun _ => 0))), (q102, .inl (ac 0, 6, .inl (fun _ => 0))), (q110, .inl (ac 0, 6, .inl (fun _ => 0))), (q118, .inl (ac 0, 6, .inl (fun _ => 0)))] := hD
  refine lv_aload_n hx hb dc_X6_init_123 rfl (lv_at hl 0 rfl) ?_
  refine lv_bipush (v := 6) hx hb dc_X6_init_124 (by decide) ?_
  refine ct_newi hx hb hts hK hP hD hS hA 6 (by decide) (by decide) (by decide) (Nat.le_of_ble_eq_true rfl) (Nat.le_of_ble_eq_true rfl) dc_X6_init_126 (fun q126 H hP hD hS => ?_)
  have hP : va_P D zVC [(h0, .inr (6, [.ref q6, .ref q13, .ref q22, .ref q30, .int 0, .ref q39, .ref q46, .int 0, .ref q54, .int 0, .ref q62, .int 0, .ref q70, .int 0, .int 0, .ref q78, .int 0, .ref q86, .ref q94, .ref q102, .ref q110, .ref q118, .null, .null, .null, .null, .null, .null, .int 0, .null, .null, .int 0])), (q6, .inl (ac 0, 4, .inl (fun _ => 0))), (q13, .inl (ac 0, 4, .inl (fun _ => 0))), (q22, .inl (ac 0, 240, .inl (fun _ => 0))), (q30, .inl (ac 0, 60, .inl (fun _ => 0))), (q39, .inl (ac 0, 144, .inl (fun _ => 0))), (q46, .inl (ac 0, 3, .inl (fun _ => 0))), (q54, .inl (ac 0, 20, .inl (fun _ => 0))), (q62, .inl (ac 0, 12, .inl (fun _ => 0))), (q70, .inl (ac 0, 34, .inl (fun _ => 0))), (q78, .inl (ac 0, 24, .inl (fun _ => 0))), (q86, .inl (ac 0, 17, .inl (fun _ => 0))), (q94, .inl (ac 2, 17, .inl (fun _ => 0))), (q102, .inl (ac 0, 6, .inl (fun _ => 0))), (q110, .inl (ac 0, 6, .inl (fun _ => 0))), (q118, .inl (ac 0, 6, .inl (fun _ => 0))), (q126, .inl (ac 0, 6, .inl (fun _ => 0)))] H := hP
  have hD : va_D A [(h0, .inr (6, [.ref q6, .ref q13, .ref q22, .ref q30, .int 0, .ref q39, .ref q46, .int 0, .ref q54, .int 0, .ref q62, .int 0, .ref q70, .int 0, .int 0, .ref q78, .int 0, .ref q86, .ref q94, .ref q102, .ref q110, .ref q118, .null, .null, .null, .null, .null, .null, .int 0, .null, .null, .int 0])), (q6, .inl (ac 0, 4, .inl (fun _ => 0))), (q13, .inl (ac 0, 4, .inl (fun _ => 0))), (q22, .inl (ac 0, 240, .inl (fun _ => 0))), (q30, .inl (ac 0, 60, .inl (fun _ => 0))), (q39, .inl (ac 0, 144, .inl (fun _ => 0))), (q46, .inl (ac 0, 3, .inl (fun _ => 0))), (q54, .inl (ac 0, 20, .inl (fun _ => 0))), (q62, .inl (ac 0, 12, .inl (fun _ => 0))), (q70, .inl (ac 0, 34, .inl (fun _ => 0))), (q78, .inl (ac 0, 24, .inl (fun _ => 0))), (q86, .inl (ac 0, 17, .inl (fun _ => 0))), (q94, .inl (ac 2, 17, .inl (fun _ => 0))), (q102, .inl (ac 0, 6, .inl (fun _ => 0))), (q110, .inl (ac 0, 6, .inl (fun _ => 0))), (q118, .inl (ac 0, 6, .inl (fun _ => 0))), (q126, .inl (ac 0, 6, .inl (fun _ => 0)))] := hD
  refine W.widen (k := 16) (n := 603) (Nat.le_of_ble_eq_true rfl) (Nat.le_of_ble_eq_true rfl) ?_
  refine ct_put (ac := ac) (c0 := 6) (k := 22) (v := .ref q126) hx hb hts hin hown hK hP hD hS 0 rfl rfl rfl rfl rfl rfl (Nat.le_of_ble_eq_true rfl) dc_X6_init_128 (fun H locs hP hD hS => ?_)
  have hP : va_P D zVC [(h0, .inr (6, [.ref q6, .ref q13, .ref q22, .ref q30, .int 0, .ref q39, .ref q46, .int 0, .ref q54, .int 0, .ref q62, .int 0, .ref q70, .int 0, .int 0, .ref q78, .int 0, .ref q86, .ref q94, .ref q102, .ref q110, .ref q118, .ref q126, .null, .null, .null, .null, .null, .int 0, .null, .null, .int 0])), (q6, .inl (ac 0, 4, .inl (fun _ => 0))), (q13, .inl (ac 0, 4, .inl (fun _ => 0))), (q22, .inl (ac 0, 240, .inl (fun _ => 0))), (q30, .inl (ac 0, 60, .inl (fun _ => 0))), (q39, .inl (ac 0, 144, .inl (fun _ => 0))), (q46, .inl (ac 0, 3, .inl (fun _ => 0))), (q54, .inl (ac 0, 20, .inl (fun _ => 0))), (q62, .inl (ac 0, 12, .inl (fun _ => 0))), (q70, .inl (ac 0, 34, .inl (fun _ => 0))), (q78, .inl (ac 0, 24, .inl (fun _ => 0))), (q86, .inl (ac 0, 17, .inl (fun _ => 0))), (q94, .inl (ac 2, 17, .inl (fun _ => 0))), (q102, .inl (ac 0, 6, .inl (fun _ => 0))), (q110, .inl (ac 0, 6, .inl (fun _ => 0))), (q118, .inl (ac 0, 6, .inl (fun _ => 0))), (q126, .inl (ac 0, 6, .inl (fun _ => 0)))] H := hP
  have hD : va_D A [(h0, .inr (6, [.ref q6, .ref q13, .ref q22, .ref q30, .int 0, .ref q39, .ref q46, .int 0, .ref q54, .int 0, .ref q62, .int 0, .ref q70, .int 0, .int 0, .ref q78, .int 0, .ref q86, .ref q94, .ref q102, .ref q110, .ref q118, .ref q126, .null, .null, .null, .null, .null, .int 0, .null, .null, .int 0])), (q6, .inl (ac 0, 4, .inl (fun _ => 0))), (q13, .inl (ac 0, 4, .inl (fun _ => 0))), (q22, .inl (ac 0, 240, .inl (fun _ => 0))), (q30, .inl (ac 0, 60, .inl (fun _ => 0))), (q39, .inl (ac 0, 144, .inl (fun _ => 0))), (q46, .inl (ac 0, 3, .inl (fun _ => 0))), (q54, .inl (ac 0, 20, .inl (fun _ => 0))), (q62, .inl (ac 0, 12, .inl (fun _ => 0))), (q70, .inl (ac 0, 34, .inl (fun _ => 0))), (q78, .inl (ac 0, 24, .inl (fun _ => 0))), (q86, .inl (ac 0, 17, .inl (fun _ => 0))), (q94, .inl (ac 2, 17, .inl (fun _ => 0))), (q102, .inl (ac 0, 6, .inl (fun _ => 0))), (q110, .inl (ac 0, 6, .inl (fun _ => 0))), (q118, .inl (ac 0, 6, .inl (fun _ => 0))), (q126, .inl (ac 0, 6, .inl (fun _ => 0)))] := hD
  refine lv_aload_n hx hb dc_X6_init_131 rfl (lv_at hl 0 rfl) ?_
  refine lv_bipush (v := 6) hx hb dc_X6_init_132 (by decide) ?_
  refine ct_newi hx hb hts hK hP hD hS hA 6 (by decide) (by decide) (by decide) (Nat.le_of_ble_eq_true rfl) (Nat.le_of_ble_eq_true rfl) dc_X6_init_134 (fun q134 H hP hD hS => ?_)
  have hP : va_P D zVC [(h0, .inr (6, [.ref q6, .ref q13, .ref q22, .ref q30, .int 0, .ref q39, .ref q46, .int 0, .ref q54, .int 0, .ref q62, .int 0, .ref q70, .int 0, .int 0, .ref q78, .int 0, .ref q86, .ref q94, .ref q102, .ref q110, .ref q118, .ref q126, .null, .null, .null, .null, .null, .int 0, .null, .null, .int 0])), (q6, .inl (ac 0, 4, .inl (fun _ => 0))), (q13, .inl (ac 0, 4, .inl (fun _ => 0))), (q22, .inl (ac 0, 240, .inl (fun _ => 0))), (q30, .inl (ac 0, 60, .inl (fun _ => 0))), (q39, .inl (ac 0, 144, .inl (fun _ => 0))), (q46, .inl (ac 0, 3, .inl (fun _ => 0))), (q54, .inl (ac 0, 20, .inl (fun _ => 0))), (q62, .inl (ac 0, 12, .inl (fun _ => 0))), (q70, .inl (ac 0, 34, .inl (fun _ => 0))), (q78, .inl (ac 0, 24, .inl (fun _ => 0))), (q86, .inl (ac 0, 17, .inl (fun _ => 0))), (q94, .inl (ac 2, 17, .inl (fun _ => 0))), (q102, .inl (ac 0, 6, .inl (fun _ => 0))), (q110, .inl (ac 0, 6, .inl (fun _ => 0))), (q118, .inl (ac 0, 6, .inl (fun _ => 0))), (q126, .inl (ac 0, 6, .inl (fun _ => 0))), (q134, .inl (ac 0, 6, .inl (fun _ => 0)))] H := hP
  have hD : va_D A [(h0, .inr (6, [.ref q6, .ref q13, .ref q22, .ref q30, .int 0, .ref q39, .ref q46, .int 0, .ref q54, .int 0, .ref q62, .int 0, .ref q70, .int 0, .int 0, .ref q78, .int 0, .ref q86, .ref q94, .ref q102, .ref q110, .ref q118, .ref q126, .null, .null, .null, .null, .null, .int 0, .null, .null, .int 0])), (q6, .inl (ac 0, 4, .inl (fun _ => 0))), (q13, .inl (ac 0, 4, .inl (fun _ => 0))), (q22, .inl (ac 0, 240, .inl (fun _ => 0))), (q30, .inl (ac 0, 60, .inl (fun _ => 0))), (q39, .inl (ac 0, 144, .inl (fun _ => 0))), (q46, .inl (ac 0, 3, .inl (fun _ => 0))), (q54, .inl (ac 0, 20, .inl (fun _ => 0))), (q62, .inl (ac 0, 12, .inl (fun _ => 0))), (q70, .inl (ac 0, 34, .inl (fun _ => 0))), (q78, .inl (ac 0, 24, .inl (fun _ => 0))), (q86, .inl (ac 0, 17, .inl (fun _ => 0))), (q94, .inl (ac 2, 17, .inl (fun _ => 0))), (q102, .inl (ac 0, 6, .inl (fun _ => 0))), (q110, .inl (ac 0, 6, .inl (fun _ => 0))), (q118, .inl (ac 0, 6, .inl (fun _ => 0))), (q126, .inl (ac 0, 6, .inl (fun _ => 0))), (q134, .inl (ac 0, 6, .inl (fun _ => 0)))] := hD
  refine W.widen (k := 17) (n := 609) (Nat.le_of_ble_eq_true rfl) (Nat.le_of_ble_eq_true rfl) ?_
  refine ct_put (ac := ac) (c0 := 6) (k := 23) (v := .ref q134) hx hb hts hin hown hK hP hD hS 0 rfl rfl rfl rfl rfl rfl (Nat.le_of_ble_eq_true rfl) dc_X6_init_136 (fun H locs hP hD hS => ?_)
  have hP : va_P D zVC [(h0, .inr (6, [.ref q6, .ref q13, .ref q22, .ref q30, .int 0, .ref q39, .ref q46, .int 0, .ref q54, .int 0, .ref q62, .int 0, .ref q70, .int 0, .int 0, .ref q78, .int 0, .ref q86, .ref q94, .ref q102, .ref q110, .ref q118, .ref q126, .ref q134, .null, .null, .null, .null, .int 0, .null, .null, .int 0])), (q6, .inl (ac 0, 4, .inl (fun _ => 0))), (q13, .inl (ac 0, 4, .inl (fun _ => 0))), (q22, .inl (ac 0, 240, .inl (fun _ => 0))), (q30, .inl (ac 0, 60, .inl (fun _ => 0))), (q39, .inl (ac 0, 144, .inl (fun _ => 0))), (q46, .inl (ac 0, 3, .inl (fun _ => 0))), (q54, .inl (ac 0, 20, .inl (fun _ => 0))), (q62, .inl (ac 0, 12, .inl (fun _ => 0))), (q70, .inl (ac 0, 34, .inl (fun _ => 0))), (q78, .inl (ac 0, 24, .inl (fun _ => 0))), (q86, .inl (ac 0, 17, .inl (fun _ => 0))), (q94, .inl (ac 2, 17, .inl (fun _ => 0))), (q102, .inl (ac 0, 6, .inl (fun _ => 0))), (q110, .inl (ac 0, 6, .inl (fun _ => 0))), (q118, .inl (ac 0, 6, .inl (fun _ => 0))), (q126, .inl (ac 0, 6, .inl (fun _ => 0))), (q134, .inl (ac 0, 6, .inl (fun _ => 0)))] H := hP
  have hD : va_D A [(h0, .inr (6, [.ref q6, .ref q13, .ref q22, .ref q30, .int 0, .ref q39, .ref q46, .int 0, .ref q54, .int 0, .ref q62, .int 0, .ref q70, .int 0, .int 0, .ref q78, .int 0, .ref q86, .ref q94, .ref q102, .ref q110, .ref q118, .ref q126, .ref q134, .null, .null, .null, .null, .int 0, .null, .null, .int 0])), (q6, .inl (ac 0, 4, .inl (fun _ => 0))), (q13, .inl (ac 0, 4, .inl (fun _ => 0))), (q22, .inl (ac 0, 240, .inl (fun _ => 0))), (q30, .inl (ac 0, 60, .inl (fun _ => 0))), (q39, .inl (ac 0, 144, .inl (fun _ => 0))), (q46, .inl (ac 0, 3, .inl (fun _ => 0))), (q54, .inl (ac 0, 20, .inl (fun _ => 0))), (q62, .inl (ac 0, 12, .inl (fun _ => 0))), (q70, .inl (ac 0, 34, .inl (fun _ => 0))), (q78, .inl (ac 0, 24, .inl (fun _ => 0))), (q86, .inl (ac 0, 17, .inl (fun _ => 0))), (q94, .inl (ac 2, 17, .inl (fun _ => 0))), (q102, .inl (ac 0, 6, .inl (fun _ => 0))), (q110, .inl (ac 0, 6, .inl (fun _ => 0))), (q118, .inl (ac 0, 6, .inl (fun _ => 0))), (q126, .inl (ac 0, 6, .inl (fun _ => 0))), (q134, .inl (ac 0, 6, .inl (fun _ => 0)))] := hD
  refine lv_aload_n hx hb dc_X6_init_139 rfl (lv_at hl 0 rfl) ?_
  refine lv_bipush (v := 6) hx hb dc_X6_init_140 (by decide) ?_
  refine ct_newz hx hb hts hK hP hD hS hA 6 (by decide) (by decide) (by decide) (Nat.le_of_ble_eq_true rfl) (Nat.le_of_ble_eq_true rfl) dc_X6_init_142 (fun q142 H hP hD hS => ?_)
  have hP : va_P D zVC [(h0, .inr (6, [.ref q6, .ref q13, .ref q22, .ref q30, .int 0, .ref q39, .ref q46, .int 0, .ref q54, .int 0, .ref q62, .int 0, .ref q70, .int 0, .int 0, .ref q78, .int 0, .ref q86, .ref q94, .ref q102, .ref q110, .ref q118, .ref q126, .ref q134, .null, .null, .null, .null, .int 0, .null, .null, .int 0])), (q6, .inl (ac 0, 4, .inl (fun _ => 0))), (q13, .inl (ac 0, 4, .inl (fun _ => 0))), (q22, .inl (ac 0, 240, .inl (fun _ => 0))), (q30, .inl (ac 0, 60, .inl (fun _ => 0))), (q39, .inl (ac 0, 144, .inl (fun _ => 0))), (q46, .inl (ac 0, 3, .inl (fun _ => 0))), (q54, .inl (ac 0, 20, .inl (fun _ => 0))), (q62, .inl (ac 0, 12, .inl (fun _ => 0))), (q70, .inl (ac 0, 34, .inl (fun _ => 0))), (q78, .inl (ac 0, 24, .inl (fun _ => 0))), (q86, .inl (ac 0, 17, .inl (fun _ => 0))), (q94, .inl (ac 2, 17, .inl (fun _ => 0))), (q102, .inl (ac 0, 6, .inl (fun _ => 0))), (q110, .inl (ac 0, 6, .inl (fun _ => 0))), (q118, .inl (ac 0, 6, .inl (fun _ => 0))), (q126, .inl (ac 0, 6, .inl (fun _ => 0))), (q134, .inl (ac 0, 6, .inl (fun _ => 0))), (q142, .inl (ac 2, 6, .inl (fun _ => 0)))] H := hP
  have hD : va_D A [(h0, .inr (6, [.ref q6, .ref q13, .ref q22, .ref q30, .int 0, .ref q39, .ref q46, .int 0, .ref q54, .int 0, .ref q62, .int 0, .ref q70, .int 0, .int 0, .ref q78, .int 0, .ref q86, .ref q94, .ref q102, .ref q110, .ref q118, .ref q126, .ref q134, .null, .null, .null, .null, .int 0, .null, .null, .int 0])), (q6, .inl (ac 0, 4, .inl (fun _ => 0))), (q13, .inl (ac 0, 4, .inl (fun _ => 0))), (q22, .inl (ac 0, 240, .inl (fun _ => 0))), (q30, .inl (ac 0, 60, .inl (fun _ => 0))), (q39, .inl (ac 0, 144, .inl (fun _ => 0))), (q46, .inl (ac 0, 3, .inl (fun _ => 0))), (q54, .inl (ac 0, 20, .inl (fun _ => 0))), (q62, .inl (ac 0, 12, .inl (fun _ => 0))), (q70, .inl (ac 0, 34, .inl (fun _ => 0))), (q78, .inl (ac 0, 24, .inl (fun _ => 0))), (q86, .inl (ac 0, 17, .inl (fun _ => 0))), (q94, .inl (ac 2, 17, .inl (fun _ => 0))), (q102, .inl (ac 0, 6, .inl (fun _ => 0))), (q110, .inl (ac 0, 6, .inl (fun _ => 0))), (q118, .inl (ac 0, 6, .inl (fun _ => 0))), (q126, .inl (ac 0, 6, .inl (fun _ => 0))), (q134, .inl (ac 0, 6, .inl (fun _ => 0))), (q142, .inl (ac 2, 6, .inl (fun _ => 0)))] := hD
  refine W.widen (k := 18) (n := 615) (Nat.le_of_ble_eq_true rfl) (Nat.le_of_ble_eq_true rfl) ?_
  refine ct_put (ac := ac) (c0 := 6) (k := 24) (v := .ref q142) hx hb hts hin hown hK hP hD hS 0 rfl rfl rfl rfl rfl rfl (Nat.le_of_ble_eq_true rfl) dc_X6_init_144 (fun H locs hP hD hS => ?_)
  have hP : va_P D zVC [(h0, .inr (6, [.ref q6, .ref q13, .ref q22, .ref q30, .int 0, .ref q39, .ref q46, .int 0, .ref q54, .int 0, .ref q62, .int 0, .ref q70, .int 0, .int 0, .ref q78, .int 0, .ref q86, .ref q94, .ref q102, .ref q110, .ref q118, .ref q126, .ref q134, .ref q142, .null, .null, .null, .int 0, .null, .null, .int 0])), (q6, .inl (ac 0, 4, .inl (fun _ => 0))), (q13, .inl (ac 0, 4, .inl (fun _ => 0))), (q22, .inl (ac 0, 240, .inl (fun _ => 0))), (q30, .inl (ac 0, 60, .inl (fun _ => 0))), (q39, .inl (ac 0, 144, .inl (fun _ => 0))), (q46, .inl (ac 0, 3, .inl (fun _ => 0))), (q54, .inl (ac 0, 20, .inl (fun _ => 0))), (q62, .inl (ac 0, 12, .inl (fun _ => 0))), (q70, .inl (ac 0, 34, .inl (fun _ => 0))), (q78, .inl (ac 0, 24, .inl (fun _ => 0))), (q86, .inl (ac 0, 17, .inl (fun _ => 0))), (q94, .inl (ac 2, 17, .inl (fun _ => 0))), (q102, .inl (ac 0, 6, .inl (fun _ => 0))), (q110, .inl (ac 0, 6, .inl (fun _ => 0))), (q118, .inl (ac 0, 6, .inl (fun _ => 0))), (q126, .inl (ac 0, 6, .inl (fun _ => 0))), (q134, .inl (ac 0, 6, .inl (fun _ => 0))), (q142, .inl (ac 2, 6, .inl (fun _ => 0)))] H := hP
  have hD : va_D A [(h0, .inr (6, [.ref q6, .ref q13, .ref q22, .ref q30, .int 0, .ref q39, .ref q46, .int 0, .ref q54, .int 0, .ref q62, .int 0, .ref q70, .int 0, .int 0, .ref q78, .int 0, .ref q86, .ref q94, .ref q102, .ref q110, .ref q118, .ref q126, .ref q134, .ref q142, .null, .null, .null, .int 0, .null, .null, .int 0])), (q6, .inl (ac 0, 4, .inl (fun _ => 0))), (q13, .inl (ac 0, 4, .inl (fun _ => 0))), (q22, .inl (ac 0, 240, .inl (fun _ => 0))), (q30, .inl (ac 0, 60, .inl (fun _ => 0))), (q39, .inl (ac 0, 144, .inl (fun _ => 0))), (q46, .inl (ac 0, 3, .inl (fun _ => 0))), (q54, .inl (ac 0, 20, .inl (fun _ => 0))), (q62, .inl (ac 0, 12, .inl (fun _ => 0))), (q70, .inl (ac 0, 34, .inl (fun _ => 0))), (q78, .inl (ac 0, 24, .inl (fun _ => 0))), (q86, .inl (ac 0, 17, .inl (fun _ => 0))), (q94, .inl (ac 2, 17, .inl (fun _ => 0))), (q102, .inl (ac 0, 6, .inl (fun _ => 0))), (q110, .inl (ac 0, 6, .inl (fun _ => 0))), (q118, .inl (ac 0, 6, .inl (fun _ => 0))), (q126, .inl (ac 0, 6, .inl (fun _ => 0))), (q134, .inl (ac 0, 6, .inl (fun _ => 0))), (q142, .inl (ac 2, 6, .inl (fun _ => 0)))] := hD
  refine lv_aload_n hx hb dc_X6_init_147 rfl (lv_at hl 0 rfl) ?_
  refine lv_bipush (v := 10) hx hb dc_X6_init_148 (by decide) ?_
  refine ct_newi hx hb hts hK hP hD hS hA 10 (by decide) (by decide) (by decide) (Nat.le_of_ble_eq_true rfl) (Nat.le_of_ble_eq_true rfl) dc_X6_init_150 (fun q150 H hP hD hS => ?_)
  have hP : va_P D zVC [(h0, .inr (6, [.ref q6, .ref q13, .ref q22, .ref q30, .int 0, .ref q39, .ref q46, .int 0, .ref q54, .int 0, .ref q62, .int 0, .ref q70, .int 0, .int 0, .ref q78, .int 0, .ref q86, .ref q94, .ref q102, .ref q110, .ref q118, .ref q126, .ref q134, .ref q142, .null, .null, .null, .int 0, .null, .null, .int 0])), (q6, .inl (ac 0, 4, .inl (fun _ => 0))), (q13, .inl (ac 0, 4, .inl (fun _ => 0))), (q22, .inl (ac 0, 240, .inl (fun _ => 0))), (q30, .inl (ac 0, 60, .inl (fun _ => 0))), (q39, .inl (ac 0, 144, .inl (fun _ => 0))), (q46, .inl (ac 0, 3, .inl (fun _ => 0))), (q54, .inl (ac 0, 20, .inl (fun _ => 0))), (q62, .inl (ac 0, 12, .inl (fun _ => 0))), (q70, .inl (ac 0, 34, .inl (fun _ => 0))), (q78, .inl (ac 0, 24, .inl (fun _ => 0))), (q86, .inl (ac 0, 17, .inl (fun _ => 0))), (q94, .inl (ac 2, 17, .inl (fun _ => 0))), (q102, .inl (ac 0, 6, .inl (fun _ => 0))), (q110, .inl (ac 0, 6, .inl (fun _ => 0))), (q118, .inl (ac 0, 6, .inl (fun _ => 0))), (q126, .inl (ac 0, 6, .inl (fun _ => 0))), (q134, .inl (ac 0, 6, .inl (fun _ => 0))), (q142, .inl (ac 2, 6, .inl (fun _ => 0))), (q150, .inl (ac 0, 10, .inl (fun _ => 0)))] H := hP
  have hD : va_D A [(h0, .inr (6, [.ref q6, .ref q13, .ref q22, .ref q30, .int 0, .ref q39, .ref q46, .int 0, .ref q54, .int 0, .ref q62, .int 0, .ref q70, .int 0, .int 0, .ref q78, .int 0, .ref q86, .ref q94, .ref q102, .ref q110, .ref q118, .ref q126, .ref q134, .ref q142, .null, .null, .null, .int 0, .null, .null, .int 0])), (q6, .inl (ac 0, 4, .inl (fun _ => 0))), (q13, .inl (ac 0, 4, .inl (fun _ => 0))), (q22, .inl (ac 0, 240, .inl (fun _ => 0))), (q30, .inl (ac 0, 60, .inl (fun _ => 0))), (q39, .inl (ac 0, 144, .inl (fun _ => 0))), (q46, .inl (ac 0, 3, .inl (fun _ => 0))), (q54, .inl (ac 0, 20, .inl (fun _ => 0))), (q62, .inl (ac 0, 12, .inl (fun _ => 0))), (q70, .inl (ac 0, 34, .inl (fun _ => 0))), (q78, .inl (ac 0, 24, .inl (fun _ => 0))), (q86, .inl (ac 0, 17, .inl (fun _ => 0))), (q94, .inl (ac 2, 17, .inl (fun _ => 0))), (q102, .inl (ac 0, 6, .inl (fun _ => 0))), (q110, .inl (ac 0, 6, .inl (fun _ => 0))), (q118, .inl (ac 0, 6, .inl (fun _ => 0))), (q126, .inl (ac 0, 6, .inl (fun _ => 0))), (q134, .inl (ac 0, 6, .inl (fun _ => 0))), (q142, .inl (ac 2, 6, .inl (fun _ => 0))), (q150, .inl (ac 0, 10, .inl (fun _ => 0)))] := hD
  refine W.widen (k := 19) (n := 625) (Nat.le_of_ble_eq_true rfl) (Nat.le_of_ble_eq_true rfl) ?_
  refine ct_put (ac := ac) (c0 := 6) (k := 25) (v := .ref q150) hx hb hts hin hown hK hP hD hS 0 rfl rfl rfl rfl rfl rfl (Nat.le_of_ble_eq_true rfl) dc_X6_init_152 (fun H locs hP hD hS => ?_)
  have hP : va_P D zVC [(h0, .inr (6, [.ref q6, .ref q13, .ref q22, .ref q30, .int 0, .ref q39, .ref q46, .int 0, .ref q54, .int 0, .ref q62, .int 0, .ref q70, .int 0, .int 0, .ref q78, .int 0, .ref q86, .ref q94, .ref q102, .ref q110, .ref q118, .ref q126, .ref q134, .ref q142, .ref q150, .null, .null, .int 0, .null, .null, .int 0])), (q6, .inl (ac 0, 4, .inl (fun _ => 0))), (q13, .inl (ac 0, 4, .inl (fun _ => 0))), (q22, .inl (ac 0, 240, .inl (fun _ => 0))), (q30, .inl (ac 0, 60, .inl (fun _ => 0))), (q39, .inl (ac 0, 144, .inl (fun _ => 0))), (q46, .inl (ac 0, 3, .inl (fun _ => 0))), (q54, .inl (ac 0, 20, .inl (fun _ => 0))), (q62, .inl (ac 0, 12, .inl (fun _ => 0))), (q70, .inl (ac 0, 34, .inl (fun _ => 0))), (q78, .inl (ac 0, 24, .inl (fun _ => 0))), (q86, .inl (ac 0, 17, .inl (fun _ => 0))), (q94, .inl (ac 2, 17, .inl (fun _ => 0))), (q102, .inl (ac 0, 6, .inl (fun _ => 0))), (q110, .inl (ac 0, 6, .inl (fun _ => 0))), (q118, .inl (ac 0, 6, .inl (fun _ => 0))), (q126, .inl (ac 0, 6, .inl (fun _ => 0))), (q134, .inl (ac 0, 6, .inl (fun _ => 0))), (q142, .inl (ac 2, 6, .inl (fun _ => 0))), (q150, .inl (ac 0, 10, .inl (fun _ => 0)))] H := hP
  have hD : va_D A [(h0, .inr (6, [.ref q6, .ref q13, .ref q22, .ref q30, .int 0, .ref q39, .ref q46, .int 0, .ref q54, .int 0, .ref q62, .int 0, .ref q70, .int 0, .int 0, .ref q78, .int 0, .ref q86, .ref q94, .ref q102, .ref q110, .ref q118, .ref q126, .ref q134, .ref q142, .ref q150, .null, .null, .int 0, .null, .null, .int 0])), (q6, .inl (ac 0, 4, .inl (fun _ => 0))), (q13, .inl (ac 0, 4, .inl (fun _ => 0))), (q22, .inl (ac 0, 240, .inl (fun _ => 0))), (q30, .inl (ac 0, 60, .inl (fun _ => 0))), (q39, .inl (ac 0, 144, .inl (fun _ => 0))), (q46, .inl (ac 0, 3, .inl (fun _ => 0))), (q54, .inl (ac 0, 20, .inl (fun _ => 0))), (q62, .inl (ac 0, 12, .inl (fun _ => 0))), (q70, .inl (ac 0, 34, .inl (fun _ => 0))), (q78, .inl (ac 0, 24, .inl (fun _ => 0))), (q86, .inl (ac 0, 17, .inl (fun _ => 0))), (q94, .inl (ac 2, 17, .inl (fun _ => 0))), (q102, .inl (ac 0, 6, .inl (fun _ => 0))), (q110, .inl (ac 0, 6, .inl (fun _ => 0))), (q118, .inl (ac 0, 6, .inl (fun _ => 0))), (q126, .inl (ac 0, 6, .inl (fun _ => 0))), (q134, .inl (ac 0, 6, .inl (fun _ => 0))), (q142, .inl (ac 2, 6, .inl (fun _ => 0))), (q150, .inl (ac 0, 10, .inl (fun _ => 0)))] := hD
  refine lv_aload_n hx hb dc_X6_init_155 rfl (lv_at hl 0 rfl) ?_
  refine lv_bipush (v := 10) hx hb dc_X6_init_156 (by decide) ?_
  refine ct_newi hx hb hts hK hP hD hS hA 10 (by decide) (by decide) (by decide) (Nat.le_of_ble_eq_true rfl) (Nat.le_of_ble_eq_true rfl) dc_X6_init_158 (fun q158 H hP hD hS => ?_)
  have hP : va_P D zVC [(h0, .inr (6, [.ref q6, .ref q13, .ref q22, .ref q30, .int 0, .ref q39, .ref q46, .int 0, .ref q54, .int 0, .ref q62, .int 0, .ref q70, .int 0, .int 0, .ref q78, .int 0, .ref q86, .ref q94, .ref q102, .ref q110, .ref q118, .ref q126, .ref q134, .ref q142, .ref q150, .null, .null, .int 0, .null, .null, .int 0])), (q6, .inl (ac 0, 4, .inl (fun _ => 0))), (q13, .inl (ac 0, 4, .inl (fun _ => 0))), (q22, .inl (ac 0, 240, .inl (fun _ => 0))), (q30, .inl (ac 0, 60, .inl (fun _ => 0))), (q39, .inl (ac 0, 144, .inl (fun _ => 0))), (q46, .inl (ac 0, 3, .inl (fun _ => 0))), (q54, .inl (ac 0, 20, .inl (fun _ => 0))), (q62, .inl (ac 0, 12, .inl (fun _ => 0))), (q70, .inl (ac 0, 34, .inl (fun _ => 0))), (q78, .inl (ac 0, 24, .inl (fun _ => 0))), (q86, .inl (ac 0, 17, .inl (fun _ => 0))), (q94, .inl (ac 2, 17, .inl (fun _ => 0))), (q102, .inl (ac 0, 6, .inl (fun _ => 0))), (q110, .inl (ac 0, 6, .inl (fun _ => 0))), (q118, .inl (ac 0, 6, .inl (fun _ => 0))), (q126, .inl (ac 0, 6, .inl (fun _ => 0))), (q134, .inl (ac 0, 6, .inl (fun _ => 0))), (q142, .inl (ac 2, 6, .inl (fun _ => 0))), (q150, .inl (ac 0, 10, .inl (fun _ => 0))), (q158, .inl (ac 0, 10, .inl (fun _ => 0)))] H := hP
  have hD : va_D A [(h0, .inr (6, [.ref q6, .ref q13, .ref q22, .ref q30, .int 0, .ref q39, .ref q46, .int 0, .ref q54, .int 0, .ref q62, .int 0, .ref q70, .int 0, .int 0, .ref q78, .int 0, .ref q86, .ref q94, .ref q102, .ref q110, .ref q118, .ref q126, .ref q134, .ref q142, .ref q150, .null, .null, .int 0, .null, .null, .int 0])), (q6, .inl (ac 0, 4, .inl (fun _ => 0))), (q13, .inl (ac 0, 4, .inl (fun _ => 0))), (q22, .inl (ac 0, 240, .inl (fun _ => 0))), (q30, .inl (ac 0, 60, .inl (fun _ => 0))), (q39, .inl (ac 0, 144, .inl (fun _ => 0))), (q46, .inl (ac 0, 3, .inl (fun _ => 0))), (q54, .inl (ac 0, 20, .inl (fun _ => 0))), (q62, .inl (ac 0, 12, .inl (fun _ => 0))), (q70, .inl (ac 0, 34, .inl (fun _ => 0))), (q78, .inl (ac 0, 24, .inl (fun _ => 0))), (q86, .inl (ac 0, 17, .inl (fun _ => 0))), (q94, .inl (ac 2, 17, .inl (fun _ => 0))), (q102, .inl (ac 0, 6, .inl (fun _ => 0))), (q110, .inl (ac 0, 6, .inl (fun _ => 0))), (q118, .inl (ac 0, 6, .inl (fun _ => 0))), (q126, .inl (ac 0, 6, .inl (fun _ => 0))), (q134, .inl (ac 0, 6, .inl (fun _ => 0))), (q142, .inl (ac 2, 6, .inl (fun _ => 0))), (q150, .inl (ac 0, 10, .inl (fun _ => 0))), (q158, .inl (ac 0, 10, .inl (fun _ => 0)))] := hD
  refine W.widen (k := 20) (n := 635) (Nat.le_of_ble_eq_true rfl) (Nat.le_of_ble_eq_true rfl) ?_
  refine ct_put (ac := ac) (c0 := 6) (k := 26) (v := .ref q158) hx hb hts hin hown hK hP hD hS 0 rfl rfl rfl rfl rfl rfl (Nat.le_of_ble_eq_true rfl) dc_X6_init_160 (fun H locs hP hD hS => ?_)
  have hP : va_P D zVC [(h0, .inr (6, [.ref q6, .ref q13, .ref q22, .ref q30, .int 0, .ref q39, .ref q46, .int 0, .ref q54, .int 0, .ref q62, .int 0, .ref q70, .int 0, .int 0, .ref q78, .int 0, .ref q86, .ref q94, .ref q102, .ref q110, .ref q118, .ref q126, .ref q134, .ref q142, .ref q150, .ref q158, .null, .int 0, .null, .null, .int 0])), (q6, .inl (ac 0, 4, .inl (fun _ => 0))), (q13, .inl (ac 0, 4, .inl (fun _ => 0))), (q22, .inl (ac 0, 240, .inl (fun _ => 0))), (q30, .inl (ac 0, 60, .inl (fun _ => 0))), (q39, .inl (ac 0, 144, .inl (fun _ => 0))), (q46, .inl (ac 0, 3, .inl (fun _ => 0))), (q54, .inl (ac 0, 20, .inl (fun _ => 0))), (q62, .inl (ac 0, 12, .inl (fun _ => 0))), (q70, .inl (ac 0, 34, .inl (fun _ => 0))), (q78, .inl (ac 0, 24, .inl (fun _ => 0))), (q86, .inl (ac 0, 17, .inl (fun _ => 0))), (q94, .inl (ac 2, 17, .inl (fun _ => 0))), (q102, .inl (ac 0, 6, .inl (fun _ => 0))), (q110, .inl (ac 0, 6, .inl (fun _ => 0))), (q118, .inl (ac 0, 6, .inl (fun _ => 0))), (q126, .inl (ac 0, 6, .inl (fun _ => 0))), (q134, .inl (ac 0, 6, .inl (fun _ => 0))), (q142, .inl (ac 2, 6, .inl (fun _ => 0))), (q150, .inl (ac 0, 10, .inl (fun _ => 0))), (q158, .inl (ac 0, 10, .inl (fun _ => 0)))] H := hP
  have hD : va_D A [(h0, .inr (6, [.ref q6, .ref q13, .ref q22, .ref q30, .int 0, .ref q39, .ref q46, .int 0, .ref q54, .int 0, .ref q62, .int 0, .ref q70, .int 0, .int 0, .ref q78, .int 0, .ref q86, .ref q94, .ref q102, .ref q110, .ref q118, .ref q126, .ref q134, .ref q142, .ref q150, .ref q158, .null, .int 0, .null, .null, .int 0])), (q6, .inl (ac 0, 4, .inl (fun _ => 0))), (q13, .inl (ac 0, 4, .inl (fun _ => 0))), (q22, .inl (ac 0, 240, .inl (fun _ => 0))), (q30, .inl (ac 0, 60, .inl (fun _ => 0))), (q39, .inl (ac 0, 144, .inl (fun _ => 0))), (q46, .inl (ac 0, 3, .inl (fun _ => 0))), (q54, .inl (ac 0, 20, .inl (fun _ => 0))), (q62, .inl (ac 0, 12, .inl (fun _ => 0))), (q70, .inl (ac 0, 34, .inl (fun _ => 0))), (q78, .inl (ac 0, 24, .inl (fun _ => 0))), (q86, .inl (ac 0, 17, .inl (fun _ => 0))), (q94, .inl (ac 2, 17, .inl (fun _ => 0))), (q102, .inl (ac 0, 6, .inl (fun _ => 0))), (q110, .inl (ac 0, 6, .inl (fun _ => 0))), (q118, .inl (ac 0, 6, .inl (fun _ => 0))), (q126, .inl (ac 0, 6, .inl (fun _ => 0))), (q134, .inl (ac 0, 6, .inl (fun _ => 0))), (q142, .inl (ac 2, 6, .inl (fun _ => 0))), (q150, .inl (ac 0, 10, .inl (fun _ => 0))), (q158, .inl (ac 0, 10, .inl (fun _ => 0)))] := hD
  refine lv_aload_n hx hb dc_X6_init_163 rfl (lv_at hl 0 rfl) ?_
  refine lv_bipush (v := 10) hx hb dc_X6_init_164 (by decide) ?_
  refine ct_newi hx hb hts hK hP hD hS hA 10 (by decide) (by decide) (by decide) (Nat.le_of_ble_eq_true rfl) (Nat.le_of_ble_eq_true rfl) dc_X6_init_166 (fun q166 H hP hD hS => ?_)
  have hP : va_P D zVC [(h0, .inr (6, [.ref q6, .ref q13, .ref q22, .ref q30, .int 0, .ref q39, .ref q46, .int 0, .ref q54, .int 0, .ref q62, .int 0, .ref q70, .int 0, .int 0, .ref q78, .int 0, .ref q86, .ref q94, .ref q102, .ref q110, .ref q118, .ref q126, .ref q134, .ref q142, .ref q150, .ref q158, .null, .int 0, .null, .null, .int 0])), (q6, .inl (ac 0, 4, .inl (fun _ => 0))), (q13, .inl (ac 0, 4, .inl (fun _ => 0))), (q22, .inl (ac 0, 240, .inl (fun _ => 0))), (q30, .inl (ac 0, 60, .inl (fun _ => 0))), (q39, .inl (ac 0, 144, .inl (fun _ => 0))), (q46, .inl (ac 0, 3, .inl (fun _ => 0))), (q54, .inl (ac 0, 20, .inl (fun _ => 0))), (q62, .inl (ac 0, 12, .inl (fun _ => 0))), (q70, .inl (ac 0, 34, .inl (fun _ => 0))), (q78, .inl (ac 0, 24, .inl (fun _ => 0))), (q86, .inl (ac 0, 17, .inl (fun _ => 0))), (q94, .inl (ac 2, 17, .inl (fun _ => 0))), (q102, .inl (ac 0, 6, .inl (fun _ => 0))), (q110, .inl (ac 0, 6, .inl (fun _ => 0))), (q118, .inl (ac 0, 6, .inl (fun _ => 0))), (q126, .inl (ac 0, 6, .inl (fun _ => 0))), (q134, .inl (ac 0, 6, .inl (fun _ => 0))), (q142, .inl (ac 2, 6, .inl (fun _ => 0))), (q150, .inl (ac 0, 10, .inl (fun _ => 0))), (q158, .inl (ac 0, 10, .inl (fun _ => 0))), (q166, .inl (ac 0, 10, .inl (fun _ => 0)))] H := hP
  have hD : va_D A [(h0, .inr (6, [.ref q6, .ref q13, .ref q22, .ref q30, .int 0, .ref q39, .ref q46, .int 0, .ref q54, .int 0, .ref q62, .int 0, .ref q70, .int 0, .int 0, .ref q78, .int 0, .ref q86, .ref q94, .ref q102, .ref q110, .ref q118, .ref q126, .ref q134, .ref q142, .ref q150, .ref q158, .null, .int 0, .null, .null, .int 0])), (q6, .inl (ac 0, 4, .inl (fun _ => 0))), (q13, .inl (ac 0, 4, .inl (fun _ => 0))), (q22, .inl (ac 0, 240, .inl (fun _ => 0))), (q30, .inl (ac 0, 60, .inl (fun _ => 0))), (q39, .inl (ac 0, 144, .inl (fun _ => 0))), (q46, .inl (ac 0, 3, .inl (fun _ => 0))), (q54, .inl (ac 0, 20, .inl (fun _ => 0))), (q62, .inl (ac 0, 12, .inl (fun _ => 0))), (q70, .inl (ac 0, 34, .inl (fun _ => 0))), (q78, .inl (ac 0, 24, .inl (fun _ => 0))), (q86, .inl (ac 0, 17, .inl (fun _ => 0))), (q94, .inl (ac 2, 17, .inl (fun _ => 0))), (q102, .inl (ac 0, 6, .inl (fun _ => 0))), (q110, .inl (ac 0, 6, .inl (fun _ => 0))), (q118, .inl (ac 0, 6, .inl (fun _ => 0))), (q126, .inl (ac 0, 6, .inl (fun _ => 0))), (q134, .inl (ac 0, 6, .inl (fun _ => 0))), (q142, .inl (ac 2, 6, .inl (fun _ => 0))), (q150, .inl (ac 0, 10, .inl (fun _ => 0))), (q158, .inl (ac 0, 10, .inl (fun _ => 0))), (q166, .inl (ac 0, 10, .inl (fun _ => 0)))] := hD
  refine W.widen (k := 21) (n := 645) (Nat.le_of_ble_eq_true rfl) (Nat.le_of_ble_eq_true rfl) ?_
  refine ct_put (ac := ac) (c0 := 6) (k := 27) (v := .ref q166) hx hb hts hin hown hK hP hD hS 0 rfl rfl rfl rfl rfl rfl (Nat.le_of_ble_eq_true rfl) dc_X6_init_168 (fun H locs hP hD hS => ?_)
  have hP : va_P D zVC [(h0, .inr (6, [.ref q6, .ref q13, .ref q22, .ref q30, .int 0, .ref q39, .ref q46, .int 0, .ref q54, .int 0, .ref q62, .int 0, .ref q70, .int 0, .int 0, .ref q78, .int 0, .ref q86, .ref q94, .ref q102, .ref q110, .ref q118, .ref q126, .ref q134, .ref q142, .ref q150, .ref q158, .ref q166, .int 0, .null, .null, .int 0])), (q6, .inl (ac 0, 4, .inl (fun _ => 0))), (q13, .inl (ac 0, 4, .inl (fun _ => 0))), (q22, .inl (ac 0, 240, .inl (fun _ => 0))), (q30, .inl (ac 0, 60, .inl (fun _ => 0))), (q39, .inl (ac 0, 144, .inl (fun _ => 0))), (q46, .inl (ac 0, 3, .inl (fun _ => 0))), (q54, .inl (ac 0, 20, .inl (fun _ => 0))), (q62, .inl (ac 0, 12, .inl (fun _ => 0))), (q70, .inl (ac 0, 34, .inl (fun _ => 0))), (q78, .inl (ac 0, 24, .inl (fun _ => 0))), (q86, .inl (ac 0, 17, .inl (fun _ => 0))), (q94, .inl (ac 2, 17, .inl (fun _ => 0))), (q102, .inl (ac 0, 6, .inl (fun _ => 0))), (q110, .inl (ac 0, 6, .inl (fun _ => 0))), (q118, .inl (ac 0, 6, .inl (fun _ => 0))), (q126, .inl (ac 0, 6, .inl (fun _ => 0))), (q134, .inl (ac 0, 6, .inl (fun _ => 0))), (q142, .inl (ac 2, 6, .inl (fun _ => 0))), (q150, .inl (ac 0, 10, .inl (fun _ => 0))), (q158, .inl (ac 0, 10, .inl (fun _ => 0))), (q166, .inl (ac 0, 10, .inl (fun _ => 0)))] H := hP
  have hD : va_D A [(h0, .inr (6, [.ref q6, .ref q13, .ref q22, .ref q30, .int 0, .ref q39, .ref q46, .int 0, .ref q54, .int 0, .ref q62, .int 0, .ref q70, .int 0, .int 0, .ref q78, .int 0, .ref q86, .ref q94, .ref q102, .ref q110, .ref q118, .ref q126, .ref q134, .ref q142, .ref q150, .ref q158, .ref q166, .int 0, .null, .null, .int 0])), (q6, .inl (ac 0, 4, .inl (fun _ => 0))), (q13, .inl (ac 0, 4, .inl (fun _ => 0))), (q22, .inl (ac 0, 240, .inl (fun _ => 0))), (q30, .inl (ac 0, 60, .inl (fun _ => 0))), (q39, .inl (ac 0, 144, .inl (fun _ => 0))), (q46, .inl (ac 0, 3, .inl (fun _ => 0))), (q54, .inl (ac 0, 20, .inl (fun _ => 0))), (q62, .inl (ac 0, 12, .inl (fun _ => 0))), (q70, .inl (ac 0, 34, .inl (fun _ => 0))), (q78, .inl (ac 0, 24, .inl (fun _ => 0))), (q86, .inl (ac 0, 17, .inl (fun _ => 0))), (q94, .inl (ac 2, 17, .inl (fun _ => 0))), (q102, .inl (ac 0, 6, .inl (fun _ => 0))), (q110, .inl (ac 0, 6, .inl (fun _ => 0))), (q118, .inl (ac 0, 6, .inl (fun _ => 0))), (q126, .inl (ac 0, 6, .inl (fun _ => 0))), (q134, .inl (ac 0, 6, .inl (fun _ => 0))), (q142, .inl (ac 2, 6, .inl (fun _ => 0))), (q150, .inl (ac 0, 10, .inl (fun _ => 0))), (q158, .inl (ac 0, 10, .inl (fun _ => 0))), (q166, .inl (ac 0, 10, .inl (fun _ => 0)))] := hD
  refine lv_aload_n hx hb dc_X6_init_171 rfl (lv_at hl 0 rfl) ?_
  refine lv_bipush (v := 24) hx hb dc_X6_init_172 (by decide) ?_
  refine ct_newi hx hb hts hK hP hD hS hA 24 (by decide) (by decide) (by decide) (Nat.le_of_ble_eq_true rfl) (Nat.le_of_ble_eq_true rfl) dc_X6_init_174 (fun q174 H hP hD hS => ?_)
  have hP : va_P D zVC [(h0, .inr (6, [.ref q6, .ref q13, .ref q22, .ref q30, .int 0, .ref q39, .ref q46, .int 0, .ref q54, .int 0, .ref q62, .int 0, .ref q70, .int 0, .int 0, .ref q78, .int 0, .ref q86, .ref q94, .ref q102, .ref q110, .ref q118, .ref q126, .ref q134, .ref q142, .ref q150, .ref q158, .ref q166, .int 0, .null, .null, .int 0])), (q6, .inl (ac 0, 4, .inl (fun _ => 0))), (q13, .inl (ac 0, 4, .inl (fun _ => 0))), (q22, .inl (ac 0, 240, .inl (fun _ => 0))), (q30, .inl (ac 0, 60, .inl (fun _ => 0))), (q39, .inl (ac 0, 144, .inl (fun _ => 0))), (q46, .inl (ac 0, 3, .inl (fun _ => 0))), (q54, .inl (ac 0, 20, .inl (fun _ => 0))), (q62, .inl (ac 0, 12, .inl (fun _ => 0))), (q70, .inl (ac 0, 34, .inl (fun _ => 0))), (q78, .inl (ac 0, 24, .inl (fun _ => 0))), (q86, .inl (ac 0, 17, .inl (fun _ => 0))), (q94, .inl (ac 2, 17, .inl (fun _ => 0))), (q102, .inl (ac 0, 6, .inl (fun _ => 0))), (q110, .inl (ac 0, 6, .inl (fun _ => 0))), (q118, .inl (ac 0, 6, .inl (fun _ => 0))), (q126, .inl (ac 0, 6, .inl (fun _ => 0))), (q134, .inl (ac 0, 6, .inl (fun _ => 0))), (q142, .inl (ac 2, 6, .inl (fun _ => 0))), (q150, .inl (ac 0, 10, .inl (fun _ => 0))), (q158, .inl (ac 0, 10, .inl (fun _ => 0))), (q166, .inl (ac 0, 10, .inl (fun _ => 0))), (q174, .inl (ac 0, 24, .inl (fun _ => 0)))] H := hP
  have hD : va_D A [(h0, .inr (6, [.ref q6, .ref q13, .ref q22, .ref q30, .int 0, .ref q39, .ref q46, .int 0, .ref q54, .int 0, .ref q62, .int 0, .ref q70, .int 0, .int 0, .ref q78, .int 0, .ref q86, .ref q94, .ref q102, .ref q110, .ref q118, .ref q126, .ref q134, .ref q142, .ref q150, .ref q158, .ref q166, .int 0, .null, .null, .int 0])), (q6, .inl (ac 0, 4, .inl (fun _ => 0))), (q13, .inl (ac 0, 4, .inl (fun _ => 0))), (q22, .inl (ac 0, 240, .inl (fun _ => 0))), (q30, .inl (ac 0, 60, .inl (fun _ => 0))), (q39, .inl (ac 0, 144, .inl (fun _ => 0))), (q46, .inl (ac 0, 3, .inl (fun _ => 0))), (q54, .inl (ac 0, 20, .inl (fun _ => 0))), (q62, .inl (ac 0, 12, .inl (fun _ => 0))), (q70, .inl (ac 0, 34, .inl (fun _ => 0))), (q78, .inl (ac 0, 24, .inl (fun _ => 0))), (q86, .inl (ac 0, 17, .inl (fun _ => 0))), (q94, .inl (ac 2, 17, .inl (fun _ => 0))), (q102, .inl (ac 0, 6, .inl (fun _ => 0))), (q110, .inl (ac 0, 6, .inl (fun _ => 0))), (q118, .inl (ac 0, 6, .inl (fun _ => 0))), (q126, .inl (ac 0, 6, .inl (fun _ => 0))), (q134, .inl (ac 0, 6, .inl (fun _ => 0))), (q142, .inl (ac 2, 6, .inl (fun _ => 0))), (q150, .inl (ac 0, 10, .inl (fun _ => 0))), (q158, .inl (ac 0, 10, .inl (fun _ => 0))), (q166, .inl (ac 0, 10, .inl (fun _ => 0))), (q174, .inl (ac 0, 24, .inl (fun _ => 0)))] := hD
  refine W.widen (k := 22) (n := 669) (Nat.le_of_ble_eq_true rfl) (Nat.le_of_ble_eq_true rfl) ?_
  refine ct_put (ac := ac) (c0 := 6) (k := 29) (v := .ref q174) hx hb hts hin hown hK hP hD hS 0 rfl rfl rfl rfl rfl rfl (Nat.le_of_ble_eq_true rfl) dc_X6_init_176 (fun H locs hP hD hS => ?_)
  have hP : va_P D zVC [(h0, .inr (6, [.ref q6, .ref q13, .ref q22, .ref q30, .int 0, .ref q39, .ref q46, .int 0, .ref q54, .int 0, .ref q62, .int 0, .ref q70, .int 0, .int 0, .ref q78, .int 0, .ref q86, .ref q94, .ref q102, .ref q110, .ref q118, .ref q126, .ref q134, .ref q142, .ref q150, .ref q158, .ref q166, .int 0, .ref q174, .null, .int 0])), (q6, .inl (ac 0, 4, .inl (fun _ => 0))), (q13, .inl (ac 0, 4, .inl (fun _ => 0))), (q22, .inl (ac 0, 240, .inl (fun _ => 0))), (q30, .inl (ac 0, 60, .inl (fun _ => 0))), (q39, .inl (ac 0, 144, .inl (fun _ => 0))), (q46, .inl (ac 0, 3, .inl (fun _ => 0))), (q54, .inl (ac 0, 20, .inl (fun _ => 0))), (q62, .inl (ac 0, 12, .inl (fun _ => 0))), (q70, .inl (ac 0, 34, .inl (fun _ => 0))), (q78, .inl (ac 0, 24, .inl (fun _ => 0))), (q86, .inl (ac 0, 17, .inl (fun _ => 0))), (q94, .inl (ac 2, 17, .inl (fun _ => 0))), (q102, .inl (ac 0, 6, .inl (fun _ => 0))), (q110, .inl (ac 0, 6, .inl (fun _ => 0))), (q118, .inl (ac 0, 6, .inl (fun _ => 0))), (q126, .inl (ac 0, 6, .inl (fun _ => 0))), (q134, .inl (ac 0, 6, .inl (fun _ => 0))), (q142, .inl (ac 2, 6, .inl (fun _ => 0))), (q150, .inl (ac 0, 10, .inl (fun _ => 0))), (q158, .inl (ac 0, 10, .inl (fun _ => 0))), (q166, .inl (ac 0, 10, .inl (fun _ => 0))), (q174, .inl (ac 0, 24, .inl (fun _ => 0)))] H := hP
  have hD : va_D A [(h0, .inr (6, [.ref q6, .ref q13, .ref q22, .ref q30, .int 0, .ref q39, .ref q46, .int 0, .ref q54, .int 0, .ref q62, .int 0, .ref q70, .int 0, .int 0, .ref q78, .int 0, .ref q86, .ref q94, .ref q102, .ref q110, .ref q118, .ref q126, .ref q134, .ref q142, .ref q150, .ref q158, .ref q166, .int 0, .ref q174, .null, .int 0])), (q6, .inl (ac 0, 4, .inl (fun _ => 0))), (q13, .inl (ac 0, 4, .inl (fun _ => 0))), (q22, .inl (ac 0, 240, .inl (fun _ => 0))), (q30, .inl (ac 0, 60, .inl (fun _ => 0))), (q39, .inl (ac 0, 144, .inl (fun _ => 0))), (q46, .inl (ac 0, 3, .inl (fun _ => 0))), (q54, .inl (ac 0, 20, .inl (fun _ => 0))), (q62, .inl (ac 0, 12, .inl (fun _ => 0))), (q70, .inl (ac 0, 34, .inl (fun _ => 0))), (q78, .inl (ac 0, 24, .inl (fun _ => 0))), (q86, .inl (ac 0, 17, .inl (fun _ => 0))), (q94, .inl (ac 2, 17, .inl (fun _ => 0))), (q102, .inl (ac 0, 6, .inl (fun _ => 0))), (q110, .inl (ac 0, 6, .inl (fun _ => 0))), (q118, .inl (ac 0, 6, .inl (fun _ => 0))), (q126, .inl (ac 0, 6, .inl (fun _ => 0))), (q134, .inl (ac 0, 6, .inl (fun _ => 0))), (q142, .inl (ac 2, 6, .inl (fun _ => 0))), (q150, .inl (ac 0, 10, .inl (fun _ => 0))), (q158, .inl (ac 0, 10, .inl (fun _ => 0))), (q166, .inl (ac 0, 10, .inl (fun _ => 0))), (q174, .inl (ac 0, 24, .inl (fun _ => 0)))] := hD
  refine lv_aload_n hx hb dc_X6_init_179 rfl (lv_at hl 0 rfl) ?_
  refine lv_sipush (v := 240) hx hb dc_X6_init_180 (by decide) ?_
  refine ct_newi hx hb hts hK hP hD hS hA 240 (by decide) (by decide) (by decide) (Nat.le_of_ble_eq_true rfl) (Nat.le_of_ble_eq_true rfl) dc_X6_init_183 (fun q183 H hP hD hS => ?_)
  have hP : va_P D zVC [(h0, .inr (6, [.ref q6, .ref q13, .ref q22, .ref q30, .int 0, .ref q39, .ref q46, .int 0, .ref q54, .int 0, .ref q62, .int 0, .ref q70, .int 0, .int 0, .ref q78, .int 0, .ref q86, .ref q94, .ref q102, .ref q110, .ref q118, .ref q126, .ref q134, .ref q142, .ref q150, .ref q158, .ref q166, .int 0, .ref q174, .null, .int 0])), (q6, .inl (ac 0, 4, .inl (fun _ => 0))), (q13, .inl (ac 0, 4, .inl (fun _ => 0))), (q22, .inl (ac 0, 240, .inl (fun _ => 0))), (q30, .inl (ac 0, 60, .inl (fun _ => 0))), (q39, .inl (ac 0, 144, .inl (fun _ => 0))), (q46, .inl (ac 0, 3, .inl (fun _ => 0))), (q54, .inl (ac 0, 20, .inl (fun _ => 0))), (q62, .inl (ac 0, 12, .inl (fun _ => 0))), (q70, .inl (ac 0, 34, .inl (fun _ => 0))), (q78, .inl (ac 0, 24, .inl (fun _ => 0))), (q86, .inl (ac 0, 17, .inl (fun _ => 0))), (q94, .inl (ac 2, 17, .inl (fun _ => 0))), (q102, .inl (ac 0, 6, .inl (fun _ => 0))), (q110, .inl (ac 0, 6, .inl (fun _ => 0))), (q118, .inl (ac 0, 6, .inl (fun _ => 0))), (q126, .inl (ac 0, 6, .inl (fun _ => 0))), (q134, .inl (ac 0, 6, .inl (fun _ => 0))), (q142, .inl (ac 2, 6, .inl (fun _ => 0))), (q150, .inl (ac 0, 10, .inl (fun _ => 0))), (q158, .inl (ac 0, 10, .inl (fun _ => 0))), (q166, .inl (ac 0, 10, .inl (fun _ => 0))), (q174, .inl (ac 0, 24, .inl (fun _ => 0))), (q183, .inl (ac 0, 240, .inl (fun _ => 0)))] H := hP
  have hD : va_D A [(h0, .inr (6, [.ref q6, .ref q13, .ref q22, .ref q30, .int 0, .ref q39, .ref q46, .int 0, .ref q54, .int 0, .ref q62, .int 0, .ref q70, .int 0, .int 0, .ref q78, .int 0, .ref q86, .ref q94, .ref q102, .ref q110, .ref q118, .ref q126, .ref q134, .ref q142, .ref q150, .ref q158, .ref q166, .int 0, .ref q174, .null, .int 0])), (q6, .inl (ac 0, 4, .inl (fun _ => 0))), (q13, .inl (ac 0, 4, .inl (fun _ => 0))), (q22, .inl (ac 0, 240, .inl (fun _ => 0))), (q30, .inl (ac 0, 60, .inl (fun _ => 0))), (q39, .inl (ac 0, 144, .inl (fun _ => 0))), (q46, .inl (ac 0, 3, .inl (fun _ => 0))), (q54, .inl (ac 0, 20, .inl (fun _ => 0))), (q62, .inl (ac 0, 12, .inl (fun _ => 0))), (q70, .inl (ac 0, 34, .inl (fun _ => 0))), (q78, .inl (ac 0, 24, .inl (fun _ => 0))), (q86, .inl (ac 0, 17, .inl (fun _ => 0))), (q94, .inl (ac 2, 17, .inl (fun _ => 0))), (q102, .inl (ac 0, 6, .inl (fun _ => 0))), (q110, .inl (ac 0, 6, .inl (fun _ => 0))), (q118, .inl (ac 0, 6, .inl (fun _ => 0))), (q126, .inl (ac 0, 6, .inl (fun _ => 0))), (q134, .inl (ac 0, 6, .inl (fun _ => 0))), (q142, .inl (ac 2, 6, .inl (fun _ => 0))), (q150, .inl (ac 0, 10, .inl (fun _ => 0))), (q158, .inl (ac 0, 10, .inl (fun _ => 0))), (q166, .inl (ac 0, 10, .inl (fun _ => 0))), (q174, .inl (ac 0, 24, .inl (fun _ => 0))), (q183, .inl (ac 0, 240, .inl (fun _ => 0)))] := hD
  refine W.widen (k := 23) (n := 909) (Nat.le_of_ble_eq_true rfl) (Nat.le_of_ble_eq_true rfl) ?_
  refine ct_put (ac := ac) (c0 := 6) (k := 30) (v := .ref q183) hx hb hts hin hown hK hP hD hS 0 rfl rfl rfl rfl rfl rfl (Nat.le_of_ble_eq_true rfl) dc_X6_init_185 (fun H locs hP hD hS => ?_)
  have hP : va_P D zVC [(h0, .inr (6, [.ref q6, .ref q13, .ref q22, .ref q30, .int 0, .ref q39, .ref q46, .int 0, .ref q54, .int 0, .ref q62, .int 0, .ref q70, .int 0, .int 0, .ref q78, .int 0, .ref q86, .ref q94, .ref q102, .ref q110, .ref q118, .ref q126, .ref q134, .ref q142, .ref q150, .ref q158, .ref q166, .int 0, .ref q174, .ref q183, .int 0])), (q6, .inl (ac 0, 4, .inl (fun _ => 0))), (q13, .inl (ac 0, 4, .inl (fun _ => 0))), (q22, .inl (ac 0, 240, .inl (fun _ => 0))), (q30, .inl (ac 0, 60, .inl (fun _ => 0))), (q39, .inl (ac 0, 144, .inl (fun _ => 0))), (q46, .inl (ac 0, 3, .inl (fun _ => 0))), (q54, .inl (ac 0, 20, .inl (fun _ => 0))), (q62, .inl (ac 0, 12, .inl (fun _ => 0))), (q70, .inl (ac 0, 34, .inl (fun _ => 0))), (q78, .inl (ac 0, 24, .inl (fun _ => 0))), (q86, .inl (ac 0, 17, .inl (fun _ => 0))), (q94, .inl (ac 2, 17, .inl (fun _ => 0))), (q102, .inl (ac 0, 6, .inl (fun _ => 0))), (q110, .inl (ac 0, 6, .inl (fun _ => 0))), (q118, .inl (ac 0, 6, .inl (fun _ => 0))), (q126, .inl (ac 0, 6, .inl (fun _ => 0))), (q134, .inl (ac 0, 6, .inl (fun _ => 0))), (q142, .inl (ac 2, 6, .inl (fun _ => 0))), (q150, .inl (ac 0, 10, .inl (fun _ => 0))), (q158, .inl (ac 0, 10, .inl (fun _ => 0))), (q166, .inl (ac 0, 10, .inl (fun _ => 0))), (q174, .inl (ac 0, 24, .inl (fun _ => 0))), (q183, .inl (ac 0, 240, .inl (fun _ => 0)))] H := hP
  have hD : va_D A [(h0, .inr (6, [.ref q6, .ref q13, .ref q22, .ref q30, .int 0, .ref q39, .ref q46, .int 0, .ref q54, .int 0, .ref q62, .int 0, .ref q70, .int 0, .int 0, .ref q78, .int 0, .ref q86, .ref q94, .ref q102, .ref q110, .ref q118, .ref q126, .ref q134, .ref q142, .ref q150, .ref q158, .ref q166, .int 0, .ref q174, .ref q183, .int 0])), (q6, .inl (ac 0, 4, .inl (fun _ => 0))), (q13, .inl (ac 0, 4, .inl (fun _ => 0))), (q22, .inl (ac 0, 240, .inl (fun _ => 0))), (q30, .inl (ac 0, 60, .inl (fun _ => 0))), (q39, .inl (ac 0, 144, .inl (fun _ => 0))), (q46, .inl (ac 0, 3, .inl (fun _ => 0))), (q54, .inl (ac 0, 20, .inl (fun _ => 0))), (q62, .inl (ac 0, 12, .inl (fun _ => 0))), (q70, .inl (ac 0, 34, .inl (fun _ => 0))), (q78, .inl (ac 0, 24, .inl (fun _ => 0))), (q86, .inl (ac 0, 17, .inl (fun _ => 0))), (q94, .inl (ac 2, 17, .inl (fun _ => 0))), (q102, .inl (ac 0, 6, .inl (fun _ => 0))), (q110, .inl (ac 0, 6, .inl (fun _ => 0))), (q118, .inl (ac 0, 6, .inl (fun _ => 0))), (q126, .inl (ac 0, 6, .inl (fun _ => 0))), (q134, .inl (ac 0, 6, .inl (fun _ => 0))), (q142, .inl (ac 2, 6, .inl (fun _ => 0))), (q150, .inl (ac 0, 10, .inl (fun _ => 0))), (q158, .inl (ac 0, 10, .inl (fun _ => 0))), (q166, .inl (ac 0, 10, .inl (fun _ => 0))), (q174, .inl (ac 0, 24, .inl (fun _ => 0))), (q183, .inl (ac 0, 240, .inl (fun _ => 0)))] := hD
  refine lv_iconst (v := 0) hx hb dc_X6_init_188 (by decide) ?_
  refine lv_istore_n hx hb dc_X6_init_189 rfl hl (by decide) rfl (fun ls hl => ?_)
  have hl : lv_has ls 2 [(1, .int 0), (0, .ref h0)] := hl
  refine lv_iload_n hx hb dc_X6_init_190 rfl (lv_at hl 0 rfl) ?_
  refine lv_iconst (v := 4) hx hb dc_X6_init_191 (by decide) ?_
  refine lv_icmp_ge (tgt := 208) hx hb dc_X6_init_192 (by decide) (fun h => absurd h (by decide)) (fun _ => ?_)
  refine lv_aload_n hx hb dc_X6_init_195 rfl (lv_at hl 1 rfl) ?_
  refine va_get (D := D) (ci := 6) (v := .ref q6) hx hb hts (uws (ci := 6) (by decide)) hown hK hP 0 rfl (zcl_at (by decide)) 0 (by decide) (hts _ (fok (c := 6) (k := 7) (ci := 6) (f := 0) rfl).2.2) (fun _ h => h) rfl dc_X6_init_196 ?_
  refine lv_iload_n hx hb dc_X6_init_199 rfl (lv_at hl 0 rfl) ?_
  refine lv_iconst (v := -1) hx hb dc_X6_init_200 (by decide) ?_
  refine va_iast hx hb hK hP hD hS 1 0 rfl rfl (i := 0) (x := (-1)) (show vp_in 0 4 by unfold vp_in; decide) dc_X6_init_201 (fun H locs hP hD hS => ?_)
  rw [show ((0 : Int32).toNatClampNeg) = 0 by decide] at hP hD
  have hP : va_P D zVC [(h0, .inr (6, [.ref q6, .ref q13, .ref q22, .ref q30, .int 0, .ref q39, .ref q46, .int 0, .ref q54, .int 0, .ref q62, .int 0, .ref q70, .int 0, .int 0, .ref q78, .int 0, .ref q86, .ref q94, .ref q102, .ref q110, .ref q118, .ref q126, .ref q134, .ref q142, .ref q150, .ref q158, .ref q166, .int 0, .ref q174, .ref q183, .int 0])), (q6, .inl (ac 0, 4, .inl (upd (fun _ => 0) 0 (-1)))), (q13, .inl (ac 0, 4, .inl (fun _ => 0))), (q22, .inl (ac 0, 240, .inl (fun _ => 0))), (q30, .inl (ac 0, 60, .inl (fun _ => 0))), (q39, .inl (ac 0, 144, .inl (fun _ => 0))), (q46, .inl (ac 0, 3, .inl (fun _ => 0))), (q54, .inl (ac 0, 20, .inl (fun _ => 0))), (q62, .inl (ac 0, 12, .inl (fun _ => 0))), (q70, .inl (ac 0, 34, .inl (fun _ => 0))), (q78, .inl (ac 0, 24, .inl (fun _ => 0))), (q86, .inl (ac 0, 17, .inl (fun _ => 0))), (q94, .inl (ac 2, 17, .inl (fun _ => 0))), (q102, .inl (ac 0, 6, .inl (fun _ => 0))), (q110, .inl (ac 0, 6, .inl (fun _ => 0))), (q118, .inl (ac 0, 6, .inl (fun _ => 0))), (q126, .inl (ac 0, 6, .inl (fun _ => 0))), (q134, .inl (ac 0, 6, .inl (fun _ => 0))), (q142, .inl (ac 2, 6, .inl (fun _ => 0))), (q150, .inl (ac 0, 10, .inl (fun _ => 0))), (q158, .inl (ac 0, 10, .inl (fun _ => 0))), (q166, .inl (ac 0, 10, .inl (fun _ => 0))), (q174, .inl (ac 0, 24, .inl (fun _ => 0))), (q183, .inl (ac 0, 240, .inl (fun _ => 0)))] H := hP
  have hD : va_D A [(h0, .inr (6, [.ref q6, .ref q13, .ref q22, .ref q30, .int 0, .ref q39, .ref q46, .int 0, .ref q54, .int 0, .ref q62, .int 0, .ref q70, .int 0, .int 0, .ref q78, .int 0, .ref q86, .ref q94, .ref q102, .ref q110, .ref q118, .ref q126, .ref q134, .ref q142, .ref q150, .ref q158, .ref q166, .int 0, .ref q174, .ref q183, .int 0])), (q6, .inl (ac 0, 4, .inl (upd (fun _ => 0) 0 (-1)))), (q13, .inl (ac 0, 4, .inl (fun _ => 0))), (q22, .inl (ac 0, 240, .inl (fun _ => 0))), (q30, .inl (ac 0, 60, .inl (fun _ => 0))), (q39, .inl (ac 0, 144, .inl (fun _ => 0))), (q46, .inl (ac 0, 3, .inl (fun _ => 0))), (q54, .inl (ac 0, 20, .inl (fun _ => 0))), (q62, .inl (ac 0, 12, .inl (fun _ => 0))), (q70, .inl (ac 0, 34, .inl (fun _ => 0))), (q78, .inl (ac 0, 24, .inl (fun _ => 0))), (q86, .inl (ac 0, 17, .inl (fun _ => 0))), (q94, .inl (ac 2, 17, .inl (fun _ => 0))), (q102, .inl (ac 0, 6, .inl (fun _ => 0))), (q110, .inl (ac 0, 6, .inl (fun _ => 0))), (q118, .inl (ac 0, 6, .inl (fun _ => 0))), (q126, .inl (ac 0, 6, .inl (fun _ => 0))), (q134, .inl (ac 0, 6, .inl (fun _ => 0))), (q142, .inl (ac 2, 6, .inl (fun _ => 0))), (q150, .inl (ac 0, 10, .inl (fun _ => 0))), (q158, .inl (ac 0, 10, .inl (fun _ => 0))), (q166, .inl (ac 0, 10, .inl (fun _ => 0))), (q174, .inl (ac 0, 24, .inl (fun _ => 0))), (q183, .inl (ac 0, 240, .inl (fun _ => 0)))] := hD
  refine lv_iinc (k := 0) (x := 0) (v := 1) hx hb dc_X6_init_202 hl rfl (by decide) (by decide) rfl (fun ls hl => ?_)
  have hl : lv_has ls 2 [(1, .int 1), (0, .ref h0)] := hl
  refine lv_goto (tgt := 190) hx hb dc_X6_init_205 (by decide) ?_
  refine lv_iload_n hx hb dc_X6_init_190 rfl (lv_at hl 0 rfl) ?_
  refine lv_iconst (v := 4) hx hb dc_X6_init_191 (by decide) ?_
  refine lv_icmp_ge (tgt := 208) hx hb dc_X6_init_192 (by decide) (fun h => absurd h (by decide)) (fun _ => ?_)
  refine lv_aload_n hx hb dc_X6_init_195 rfl (lv_at hl 1 rfl) ?_
  refine va_get (D := D) (ci := 6) (v := .ref q6) hx hb hts (uws (ci := 6) (by decide)) hown hK hP 0 rfl (zcl_at (by decide)) 0 (by decide) (hts _ (fok (c := 6) (k := 7) (ci := 6) (f := 0) rfl).2.2) (fun _ h => h) rfl dc_X6_init_196 ?_
  refine lv_iload_n hx hb dc_X6_init_199 rfl (lv_at hl 0 rfl) ?_
  refine lv_iconst (v := -1) hx hb dc_X6_init_200 (by decide) ?_
  refine va_iast hx hb hK hP hD hS 1 0 rfl rfl (i := 1) (x := (-1)) (show vp_in 1 4 by unfold vp_in; decide) dc_X6_init_201 (fun H locs hP hD hS => ?_)
  rw [show ((1 : Int32).toNatClampNeg) = 1 by decide] at hP hD
  have hP : va_P D zVC [(h0, .inr (6, [.ref q6, .ref q13, .ref q22, .ref q30, .int 0, .ref q39, .ref q46, .int 0, .ref q54, .int 0, .ref q62, .int 0, .ref q70, .int 0, .int 0, .ref q78, .int 0, .ref q86, .ref q94, .ref q102, .ref q110, .ref q118, .ref q126, .ref q134, .ref q142, .ref q150, .ref q158, .ref q166, .int 0, .ref q174, .ref q183, .int 0])), (q6, .inl (ac 0, 4, .inl (upd (upd (fun _ => 0) 0 (-1)) 1 (-1)))), (q13, .inl (ac 0, 4, .inl (fun _ => 0))), (q22, .inl (ac 0, 240, .inl (fun _ => 0))), (q30, .inl (ac 0, 60, .inl (fun _ => 0))), (q39, .inl (ac 0, 144, .inl (fun _ => 0))), (q46, .inl (ac 0, 3, .inl (fun _ => 0))), (q54, .inl (ac 0, 20, .inl (fun _ => 0))), (q62, .inl (ac 0, 12, .inl (fun _ => 0))), (q70, .inl (ac 0, 34, .inl (fun _ => 0))), (q78, .inl (ac 0, 24, .inl (fun _ => 0))), (q86, .inl (ac 0, 17, .inl (fun _ => 0))), (q94, .inl (ac 2, 17, .inl (fun _ => 0))), (q102, .inl (ac 0, 6, .inl (fun _ => 0))), (q110, .inl (ac 0, 6, .inl (fun _ => 0))), (q118, .inl (ac 0, 6, .inl (fun _ => 0))), (q126, .inl (ac 0, 6, .inl (fun _ => 0))), (q134, .inl (ac 0, 6, .inl (fun _ => 0))), (q142, .inl (ac 2, 6, .inl (fun _ => 0))), (q150, .inl (ac 0, 10, .inl (fun _ => 0))), (q158, .inl (ac 0, 10, .inl (fun _ => 0))), (q166, .inl (ac 0, 10, .inl (fun _ => 0))), (q174, .inl (ac 0, 24, .inl (fun _ => 0))), (q183, .inl (ac 0, 240, .inl (fun _ => 0)))] H := hP
  have hD : va_D A [(h0, .inr (6, [.ref q6, .ref q13, .ref q22, .ref q30, .int 0, .ref q39, .ref q46, .int 0, .ref q54, .int 0, .ref q62, .int 0, .ref q70, .int 0, .int 0, .ref q78, .int 0, .ref q86, .ref q94, .ref q102, .ref q110, .ref q118, .ref q126, .ref q134, .ref q142, .ref q150, .ref q158, .ref q166, .int 0, .ref q174, .ref q183, .int 0])), (q6, .inl (ac 0, 4, .inl (upd (upd (fun _ => 0) 0 (-1)) 1 (-1)))), (q13, .inl (ac 0, 4, .inl (fun _ => 0))), (q22, .inl (ac 0, 240, .inl (fun _ => 0))), (q30, .inl (ac 0, 60, .inl (fun _ => 0))), (q39, .inl (ac 0, 144, .inl (fun _ => 0))), (q46, .inl (ac 0, 3, .inl (fun _ => 0))), (q54, .inl (ac 0, 20, .inl (fun _ => 0))), (q62, .inl (ac 0, 12, .inl (fun _ => 0))), (q70, .inl (ac 0, 34, .inl (fun _ => 0))), (q78, .inl (ac 0, 24, .inl (fun _ => 0))), (q86, .inl (ac 0, 17, .inl (fun _ => 0))), (q94, .inl (ac 2, 17, .inl (fun _ => 0))), (q102, .inl (ac 0, 6, .inl (fun _ => 0))), (q110, .inl (ac 0, 6, .inl (fun _ => 0))), (q118, .inl (ac 0, 6, .inl (fun _ => 0))), (q126, .inl (ac 0, 6, .inl (fun _ => 0))), (q134, .inl (ac 0, 6, .inl (fun _ => 0))), (q142, .inl (ac 2, 6, .inl (fun _ => 0))), (q150, .inl (ac 0, 10, .inl (fun _ => 0))), (q158, .inl (ac 0, 10, .inl (fun _ => 0))), (q166, .inl (ac 0, 10, .inl (fun _ => 0))), (q174, .inl (ac 0, 24, .inl (fun _ => 0))), (q183, .inl (ac 0, 240, .inl (fun _ => 0)))] := hD
  refine lv_iinc (k := 0) (x := 1) (v := 2) hx hb dc_X6_init_202 hl rfl (by decide) (by decide) rfl (fun ls hl => ?_)
  have hl : lv_has ls 2 [(1, .int 2), (0, .ref h0)] := hl
  refine lv_goto (tgt := 190) hx hb dc_X6_init_205 (by decide) ?_
  refine lv_iload_n hx hb dc_X6_init_190 rfl (lv_at hl 0 rfl) ?_
  refine lv_iconst (v := 4) hx hb dc_X6_init_191 (by decide) ?_
  refine lv_icmp_ge (tgt := 208) hx hb dc_X6_init_192 (by decide) (fun h => absurd h (by decide)) (fun _ => ?_)
  refine lv_aload_n hx hb dc_X6_init_195 rfl (lv_at hl 1 rfl) ?_
  refine va_get (D := D) (ci := 6) (v := .ref q6) hx hb hts (uws (ci := 6) (by decide)) hown hK hP 0 rfl (zcl_at (by decide)) 0 (by decide) (hts _ (fok (c := 6) (k := 7) (ci := 6) (f := 0) rfl).2.2) (fun _ h => h) rfl dc_X6_init_196 ?_
  refine lv_iload_n hx hb dc_X6_init_199 rfl (lv_at hl 0 rfl) ?_
  refine lv_iconst (v := -1) hx hb dc_X6_init_200 (by decide) ?_
  refine va_iast hx hb hK hP hD hS 1 0 rfl rfl (i := 2) (x := (-1)) (show vp_in 2 4 by unfold vp_in; decide) dc_X6_init_201 (fun H locs hP hD hS => ?_)
  rw [show ((2 : Int32).toNatClampNeg) = 2 by decide] at hP hD
  have hP : va_P D zVC [(h0, .inr (6, [.ref q6, .ref q13, .ref q22, .ref q30, .int 0, .ref q39, .ref q46, .int 0, .ref q54, .int 0, .ref q62, .int 0, .ref q70, .int 0, .int 0, .ref q78, .int 0, .ref q86, .ref q94, .ref q102, .ref q110, .ref q118, .ref q126, .ref q134, .ref q142, .ref q150, .ref q158, .ref q166, .int 0, .ref q174, .ref q183, .int 0])), (q6, .inl (ac 0, 4, .inl (upd (upd (upd (fun _ => 0) 0 (-1)) 1 (-1)) 2 (-1)))), (q13, .inl (ac 0, 4, .inl (fun _ => 0))), (q22, .inl (ac 0, 240, .inl (fun _ => 0))), (q30, .inl (ac 0, 60, .inl (fun _ => 0))), (q39, .inl (ac 0, 144, .inl (fun _ => 0))), (q46, .inl (ac 0, 3, .inl (fun _ => 0))), (q54, .inl (ac 0, 20, .inl (fun _ => 0))), (q62, .inl (ac 0, 12, .inl (fun _ => 0))), (q70, .inl (ac 0, 34, .inl (fun _ => 0))), (q78, .inl (ac 0, 24, .inl (fun _ => 0))), (q86, .inl (ac 0, 17, .inl (fun _ => 0))), (q94, .inl (ac 2, 17, .inl (fun _ => 0))), (q102, .inl (ac 0, 6, .inl (fun _ => 0))), (q110, .inl (ac 0, 6, .inl (fun _ => 0))), (q118, .inl (ac 0, 6, .inl (fun _ => 0))), (q126, .inl (ac 0, 6, .inl (fun _ => 0))), (q134, .inl (ac 0, 6, .inl (fun _ => 0))), (q142, .inl (ac 2, 6, .inl (fun _ => 0))), (q150, .inl (ac 0, 10, .inl (fun _ => 0))), (q158, .inl (ac 0, 10, .inl (fun _ => 0))), (q166, .inl (ac 0, 10, .inl (fun _ => 0))), (q174, .inl (ac 0, 24, .inl (fun _ => 0))), (q183, .inl (ac 0, 240, .inl (fun _ => 0)))] H := hP
  have hD : va_D A [(h0, .inr (6, [.ref q6, .ref q13, .ref q22, .ref q30, .int 0, .ref q39, .ref q46, .int 0, .ref q54, .int 0, .ref q62, .int 0, .ref q70, .int 0, .int 0, .ref q78, .int 0, .ref q86, .ref q94, .ref q102, .ref q110, .ref q118, .ref q126, .ref q134, .ref q142, .ref q150, .ref q158, .ref q166, .int 0, .ref q174, .ref q183, .int 0])), (q6, .inl (ac 0, 4, .inl (upd (upd (upd (fun _ => 0) 0 (-1)) 1 (-1)) 2 (-1)))), (q13, .inl (ac 0, 4, .inl (fun _ => 0))), (q22, .inl (ac 0, 240, .inl (fun _ => 0))), (q30, .inl (ac 0, 60, .inl (fun _ => 0))), (q39, .inl (ac 0, 144, .inl (fun _ => 0))), (q46, .inl (ac 0, 3, .inl (fun _ => 0))), (q54, .inl (ac 0, 20, .inl (fun _ => 0))), (q62, .inl (ac 0, 12, .inl (fun _ => 0))), (q70, .inl (ac 0, 34, .inl (fun _ => 0))), (q78, .inl (ac 0, 24, .inl (fun _ => 0))), (q86, .inl (ac 0, 17, .inl (fun _ => 0))), (q94, .inl (ac 2, 17, .inl (fun _ => 0))), (q102, .inl (ac 0, 6, .inl (fun _ => 0))), (q110, .inl (ac 0, 6, .inl (fun _ => 0))), (q118, .inl (ac 0, 6, .inl (fun _ => 0))), (q126, .inl (ac 0, 6, .inl (fun _ => 0))), (q134, .inl (ac 0, 6, .inl (fun _ => 0))), (q142, .inl (ac 2, 6, .inl (fun _ => 0))), (q150, .inl (ac 0, 10, .inl (fun _ => 0))), (q158, .inl (ac 0, 10, .inl (fun _ => 0))), (q166, .inl (ac 0, 10, .inl (fun _ => 0))), (q174, .inl (ac 0, 24, .inl (fun _ => 0))), (q183, .inl (ac 0, 240, .inl (fun _ => 0)))] := hD
  refine lv_iinc (k := 0) (x := 2) (v := 3) hx hb dc_X6_init_202 hl rfl (by decide) (by decide) rfl (fun ls hl => ?_)
  have hl : lv_has ls 2 [(1, .int 3), (0, .ref h0)] := hl
  refine lv_goto (tgt := 190) hx hb dc_X6_init_205 (by decide) ?_
  refine lv_iload_n hx hb dc_X6_init_190 rfl (lv_at hl 0 rfl) ?_
  refine lv_iconst (v := 4) hx hb dc_X6_init_191 (by decide) ?_
  refine lv_icmp_ge (tgt := 208) hx hb dc_X6_init_192 (by decide) (fun h => absurd h (by decide)) (fun _ => ?_)
  refine lv_aload_n hx hb dc_X6_init_195 rfl (lv_at hl 1 rfl) ?_
  refine va_get (D := D) (ci := 6) (v := .ref q6) hx hb hts (uws (ci := 6) (by decide)) hown hK hP 0 rfl (zcl_at (by decide)) 0 (by decide) (hts _ (fok (c := 6) (k := 7) (ci := 6) (f := 0) rfl).2.2) (fun _ h => h) rfl dc_X6_init_196 ?_
  refine lv_iload_n hx hb dc_X6_init_199 rfl (lv_at hl 0 rfl) ?_
  refine lv_iconst (v := -1) hx hb dc_X6_init_200 (by decide) ?_
  refine va_iast hx hb hK hP hD hS 1 0 rfl rfl (i := 3) (x := (-1)) (show vp_in 3 4 by unfold vp_in; decide) dc_X6_init_201 (fun H locs hP hD hS => ?_)
  rw [show ((3 : Int32).toNatClampNeg) = 3 by decide] at hP hD
  have hP : va_P D zVC [(h0, .inr (6, [.ref q6, .ref q13, .ref q22, .ref q30, .int 0, .ref q39, .ref q46, .int 0, .ref q54, .int 0, .ref q62, .int 0, .ref q70, .int 0, .int 0, .ref q78, .int 0, .ref q86, .ref q94, .ref q102, .ref q110, .ref q118, .ref q126, .ref q134, .ref q142, .ref q150, .ref q158, .ref q166, .int 0, .ref q174, .ref q183, .int 0])), (q6, .inl (ac 0, 4, .inl (upd (upd (upd (upd (fun _ => 0) 0 (-1)) 1 (-1)) 2 (-1)) 3 (-1)))), (q13, .inl (ac 0, 4, .inl (fun _ => 0))), (q22, .inl (ac 0, 240, .inl (fun _ => 0))), (q30, .inl (ac 0, 60, .inl (fun _ => 0))), (q39, .inl (ac 0, 144, .inl (fun _ => 0))), (q46, .inl (ac 0, 3, .inl (fun _ => 0))), (q54, .inl (ac 0, 20, .inl (fun _ => 0))), (q62, .inl (ac 0, 12, .inl (fun _ => 0))), (q70, .inl (ac 0, 34, .inl (fun _ => 0))), (q78, .inl (ac 0, 24, .inl (fun _ => 0))), (q86, .inl (ac 0, 17, .inl (fun _ => 0))), (q94, .inl (ac 2, 17, .inl (fun _ => 0))), (q102, .inl (ac 0, 6, .inl (fun _ => 0))), (q110, .inl (ac 0, 6, .inl (fun _ => 0))), (q118, .inl (ac 0, 6, .inl (fun _ => 0))), (q126, .inl (ac 0, 6, .inl (fun _ => 0))), (q134, .inl (ac 0, 6, .inl (fun _ => 0))), (q142, .inl (ac 2, 6, .inl (fun _ => 0))), (q150, .inl (ac 0, 10, .inl (fun _ => 0))), (q158, .inl (ac 0, 10, .inl (fun _ => 0))), (q166, .inl (ac 0, 10, .inl (fun _ => 0))), (q174, .inl (ac 0, 24, .inl (fun _ => 0))), (q183, .inl (ac 0, 240, .inl (fun _ => 0)))] H := hP
  have hD : va_D A [(h0, .inr (6, [.ref q6, .ref q13, .ref q22, .ref q30, .int 0, .ref q39, .ref q46, .int 0, .ref q54, .int 0, .ref q62, .int 0, .ref q70, .int 0, .int 0, .ref q78, .int 0, .ref q86, .ref q94, .ref q102, .ref q110, .ref q118, .ref q126, .ref q134, .ref q142, .ref q150, .ref q158, .ref q166, .int 0, .ref q174, .ref q183, .int 0])), (q6, .inl (ac 0, 4, .inl (upd (upd (upd (upd (fun _ => 0) 0 (-1)) 1 (-1)) 2 (-1)) 3 (-1)))), (q13, .inl (ac 0, 4, .inl (fun _ => 0))), (q22, .inl (ac 0, 240, .inl (fun _ => 0))), (q30, .inl (ac 0, 60, .inl (fun _ => 0))), (q39, .inl (ac 0, 144, .inl (fun _ => 0))), (q46, .inl (ac 0, 3, .inl (fun _ => 0))), (q54, .inl (ac 0, 20, .inl (fun _ => 0))), (q62, .inl (ac 0, 12, .inl (fun _ => 0))), (q70, .inl (ac 0, 34, .inl (fun _ => 0))), (q78, .inl (ac 0, 24, .inl (fun _ => 0))), (q86, .inl (ac 0, 17, .inl (fun _ => 0))), (q94, .inl (ac 2, 17, .inl (fun _ => 0))), (q102, .inl (ac 0, 6, .inl (fun _ => 0))), (q110, .inl (ac 0, 6, .inl (fun _ => 0))), (q118, .inl (ac 0, 6, .inl (fun _ => 0))), (q126, .inl (ac 0, 6, .inl (fun _ => 0))), (q134, .inl (ac 0, 6, .inl (fun _ => 0))), (q142, .inl (ac 2, 6, .inl (fun _ => 0))), (q150, .inl (ac 0, 10, .inl (fun _ => 0))), (q158, .inl (ac 0, 10, .inl (fun _ => 0))), (q166, .inl (ac 0, 10, .inl (fun _ => 0))), (q174, .inl (ac 0, 24, .inl (fun _ => 0))), (q183, .inl (ac 0, 240, .inl (fun _ => 0)))] := hD
  refine lv_iinc (k := 0) (x := 3) (v := 4) hx hb dc_X6_init_202 hl rfl (by decide) (by decide) rfl (fun ls hl => ?_)
  have hl : lv_has ls 2 [(1, .int 4), (0, .ref h0)] := hl
  refine lv_goto (tgt := 190) hx hb dc_X6_init_205 (by decide) ?_
  refine lv_iload_n hx hb dc_X6_init_190 rfl (lv_at hl 0 rfl) ?_
  refine lv_iconst (v := 4) hx hb dc_X6_init_191 (by decide) ?_
  refine lv_icmp_ge (tgt := 208) hx hb dc_X6_init_192 (by decide) (fun _ => ?_) (fun h => absurd (by decide) h)
  refine lv_aload_n hx hb dc_X6_init_208 rfl (lv_at hl 1 rfl) ?_
  refine lv_bipush (v := 12) hx hb dc_X6_init_209 (by decide) ?_
  refine ct_put (ac := ac) (c0 := 6) (k := 13) (v := .int 12) hx hb hts hin hown hK hP hD hS 0 rfl rfl rfl rfl rfl rfl (Nat.le_of_ble_eq_true rfl) dc_X6_init_211 (fun H locs hP hD hS => ?_)
  have hP : va_P D zVC [(h0, .inr (6, [.ref q6, .ref q13, .ref q22, .ref q30, .int 0, .ref q39, .ref q46, .int 0, .ref q54, .int 0, .ref q62, .int 0, .ref q70, .int 12, .int 0, .ref q78, .int 0, .ref q86, .ref q94, .ref q102, .ref q110, .ref q118, .ref q126, .ref q134, .ref q142, .ref q150, .ref q158, .ref q166, .int 0, .ref q174, .ref q183, .int 0])), (q6, .inl (ac 0, 4, .inl (upd (upd (upd (upd (fun _ => 0) 0 (-1)) 1 (-1)) 2 (-1)) 3 (-1)))), (q13, .inl (ac 0, 4, .inl (fun _ => 0))), (q22, .inl (ac 0, 240, .inl (fun _ => 0))), (q30, .inl (ac 0, 60, .inl (fun _ => 0))), (q39, .inl (ac 0, 144, .inl (fun _ => 0))), (q46, .inl (ac 0, 3, .inl (fun _ => 0))), (q54, .inl (ac 0, 20, .inl (fun _ => 0))), (q62, .inl (ac 0, 12, .inl (fun _ => 0))), (q70, .inl (ac 0, 34, .inl (fun _ => 0))), (q78, .inl (ac 0, 24, .inl (fun _ => 0))), (q86, .inl (ac 0, 17, .inl (fun _ => 0))), (q94, .inl (ac 2, 17, .inl (fun _ => 0))), (q102, .inl (ac 0, 6, .inl (fun _ => 0))), (q110, .inl (ac 0, 6, .inl (fun _ => 0))), (q118, .inl (ac 0, 6, .inl (fun _ => 0))), (q126, .inl (ac 0, 6, .inl (fun _ => 0))), (q134, .inl (ac 0, 6, .inl (fun _ => 0))), (q142, .inl (ac 2, 6, .inl (fun _ => 0))), (q150, .inl (ac 0, 10, .inl (fun _ => 0))), (q158, .inl (ac 0, 10, .inl (fun _ => 0))), (q166, .inl (ac 0, 10, .inl (fun _ => 0))), (q174, .inl (ac 0, 24, .inl (fun _ => 0))), (q183, .inl (ac 0, 240, .inl (fun _ => 0)))] H := hP
  have hD : va_D A [(h0, .inr (6, [.ref q6, .ref q13, .ref q22, .ref q30, .int 0, .ref q39, .ref q46, .int 0, .ref q54, .int 0, .ref q62, .int 0, .ref q70, .int 12, .int 0, .ref q78, .int 0, .ref q86, .ref q94, .ref q102, .ref q110, .ref q118, .ref q126, .ref q134, .ref q142, .ref q150, .ref q158, .ref q166, .int 0, .ref q174, .ref q183, .int 0])), (q6, .inl (ac 0, 4, .inl (upd (upd (upd (upd (fun _ => 0) 0 (-1)) 1 (-1)) 2 (-1)) 3 (-1)))), (q13, .inl (ac 0, 4, .inl (fun _ => 0))), (q22, .inl (ac 0, 240, .inl (fun _ => 0))), (q30, .inl (ac 0, 60, .inl (fun _ => 0))), (q39, .inl (ac 0, 144, .inl (fun _ => 0))), (q46, .inl (ac 0, 3, .inl (fun _ => 0))), (q54, .inl (ac 0, 20, .inl (fun _ => 0))), (q62, .inl (ac 0, 12, .inl (fun _ => 0))), (q70, .inl (ac 0, 34, .inl (fun _ => 0))), (q78, .inl (ac 0, 24, .inl (fun _ => 0))), (q86, .inl (ac 0, 17, .inl (fun _ => 0))), (q94, .inl (ac 2, 17, .inl (fun _ => 0))), (q102, .inl (ac 0, 6, .inl (fun _ => 0))), (q110, .inl (ac 0, 6, .inl (fun _ => 0))), (q118, .inl (ac 0, 6, .inl (fun _ => 0))), (q126, .inl (ac 0, 6, .inl (fun _ => 0))), (q134, .inl (ac 0, 6, .inl (fun _ => 0))), (q142, .inl (ac 2, 6, .inl (fun _ => 0))), (q150, .inl (ac 0, 10, .inl (fun _ => 0))), (q158, .inl (ac 0, 10, .inl (fun _ => 0))), (q166, .inl (ac 0, 10, .inl (fun _ => 0))), (q174, .inl (ac 0, 24, .inl (fun _ => 0))), (q183, .inl (ac 0, 240, .inl (fun _ => 0)))] := hD
  have hP9 := hP.sub (ws' := [(h0, .inr (6, [.ref q6, .ref q13, .ref q22, .ref q30, .int 0, .ref q39, .ref q46, .int 0, .ref q54, .int 0, .ref q62, .int 0, .ref q70, .int 12, .int 0, .ref q78, .int 0, .ref q86, .ref q94, .ref q102, .ref q110, .ref q118, .ref q126, .ref q134, .ref q142, .ref q150, .ref q158, .ref q166, .int 0, .ref q174, .ref q183, .int 0])), (q6, .inl (ac 0, 4, .inl (upd (upd (upd (upd (fun _ => 0) 0 (-1)) 1 (-1)) 2 (-1)) 3 (-1)))), (q13, .inl (ac 0, 4, .inl (fun _ => 0))), (q22, .inl (ac 0, 240, .inl (fun _ => 0))), (q30, .inl (ac 0, 60, .inl (fun _ => 0))), (q39, .inl (ac 0, 144, .inl (fun _ => 0))), (q46, .inl (ac 0, 3, .inl (fun _ => 0))), (q54, .inl (ac 0, 20, .inl (fun _ => 0))), (q62, .inl (ac 0, 12, .inl (fun _ => 0))), (q70, .inl (ac 0, 34, .inl (fun _ => 0))), (q78, .inl (ac 0, 24, .inl (fun _ => 0))), (q86, .inl (ac 0, 17, .inl (fun _ => 0))), (q94, .inl (ac 2, 17, .inl (fun _ => 0))), (q102, .inl (ac 0, 6, .inl (fun _ => 0))), (q110, .inl (ac 0, 6, .inl (fun _ => 0))), (q118, .inl (ac 0, 6, .inl (fun _ => 0))), (q126, .inl (ac 0, 6, .inl (fun _ => 0))), (q134, .inl (ac 0, 6, .inl (fun _ => 0))), (q142, .inl (ac 2, 6, .inl (fun _ => 0))), (q150, .inl (ac 0, 10, .inl (fun _ => 0))), (q158, .inl (ac 0, 10, .inl (fun _ => 0))), (q166, .inl (ac 0, 10, .inl (fun _ => 0))), (q174, .inl (ac 0, 24, .inl (fun _ => 0))), (q183, .inl (ac 0, 240, .inl (fun _ => 0)))]) [0, 1, 2, 3, 4, 5, 6, 7, 8, 9, 10, 11, 12, 13, 14, 15, 16, 17, 18, 19, 20, 21, 22, 23] rfl
  have hD9 := hD.sub (ws' := [(h0, .inr (6, [.ref q6, .ref q13, .ref q22, .ref q30, .int 0, .ref q39, .ref q46, .int 0, .ref q54, .int 0, .ref q62, .int 0, .ref q70, .int 12, .int 0, .ref q78, .int 0, .ref q86, .ref q94, .ref q102, .ref q110, .ref q118, .ref q126, .ref q134, .ref q142, .ref q150, .ref q158, .ref q166, .int 0, .ref q174, .ref q183, .int 0])), (q6, .inl (ac 0, 4, .inl (upd (upd (upd (upd (fun _ => 0) 0 (-1)) 1 (-1)) 2 (-1)) 3 (-1)))), (q13, .inl (ac 0, 4, .inl (fun _ => 0))), (q22, .inl (ac 0, 240, .inl (fun _ => 0))), (q30, .inl (ac 0, 60, .inl (fun _ => 0))), (q39, .inl (ac 0, 144, .inl (fun _ => 0))), (q46, .inl (ac 0, 3, .inl (fun _ => 0))), (q54, .inl (ac 0, 20, .inl (fun _ => 0))), (q62, .inl (ac 0, 12, .inl (fun _ => 0))), (q70, .inl (ac 0, 34, .inl (fun _ => 0))), (q78, .inl (ac 0, 24, .inl (fun _ => 0))), (q86, .inl (ac 0, 17, .inl (fun _ => 0))), (q94, .inl (ac 2, 17, .inl (fun _ => 0))), (q102, .inl (ac 0, 6, .inl (fun _ => 0))), (q110, .inl (ac 0, 6, .inl (fun _ => 0))), (q118, .inl (ac 0, 6, .inl (fun _ => 0))), (q126, .inl (ac 0, 6, .inl (fun _ => 0))), (q134, .inl (ac 0, 6, .inl (fun _ => 0))), (q142, .inl (ac 2, 6, .inl (fun _ => 0))), (q150, .inl (ac 0, 10, .inl (fun _ => 0))), (q158, .inl (ac 0, 10, .inl (fun _ => 0))), (q166, .inl (ac 0, 10, .inl (fun _ => 0))), (q174, .inl (ac 0, 24, .inl (fun _ => 0))), (q183, .inl (ac 0, 240, .inl (fun _ => 0)))]) [0, 1, 2, 3, 4, 5, 6, 7, 8, 9, 10, 11, 12, 13, 14, 15, 16, 17, 18, 19, 20, 21, 22, 23] (by decide) rfl
  exact W.vret hx hb hr (fun t ht hW => ⟨⟨(fun i => ([q6, q13, q22, q30, q39, q46, q54, q62, q70, q78, q86, q94, q102, q110, q118, q126, q134, q142, q150, q158, q166, q174, q183] : List Nat).getD i 0), rfl, trivial, by rw [ht]; exact hP9, hD9⟩, hS.F ht⟩) hS.2.2 dc_X6_init_214
set_option maxHeartbeats 4000000 in
set_option maxRecDepth 100000 in
theorem ck_X4_0 (l : Launch) (D : va_G) (ac : Nat → ClassId) (sz : Nat) (h0 r : Nat) : Met l yX4_init (Cond.code yX4_init cX4_init 4 none :: zT) ({ frames := 2, cells := 1, slots := 29, locals := 100 }) (va_Pc [.ref h0, .ref r, .int 1, .int 10] (ctPre ac D (fun _ => True) sz [(h0, .inr (4, [.null, .int 0, .null, .int 0]))])) (ctQ D sz [(h0, .inr (4, [.null, .int 0, .null, .int 0]))] (fun a => [(h0, .inr (4, [.ref r, .int 1, .ref (a 0), .int 0])), ((a 0), .inl (ac 0, 29, .inl (fun _ => 0)))])) 1 29 (va_A [(h0, .inr (4, [.null, .int 0, .null, .int 0]))] sz) := by
  refine Met.ofW (cc := cX4_init) (maxL := 4) (ret := none) (by decide) rfl ?_
  intro p e s m args below meth c s₁ B hml hv
  obtain ⟨rfl, hsz, hP, hK, hD0, hE⟩ := hv
  have hx := B.exec
  have hb := B.bytes
  have hr := B.returns
  have hts0 := atoms_spec (ws := Cond.code yX4_init cX4_init 4 none :: zT) B.pre
  have hts : ∀ w ∈ zT, w.before _ s = true := fun w hw => hts0 w (List.mem_cons_of_mem _ hw)
  have hown : s.vm.findClass RX4 = some m.cls := findClass_of_methodNamed B.named
  have hlocks := B.notSynchronized
  have hin : meth.name = "<init>" := (name_of_methodNamed B.named B.method).1
  subst hsz
  have hD := hD0.self (sz := s.heap.size)
  unfold ctQ
  generalize hAe : va_A [(h0, .inr (4, [.null, .int 0, .null, .int 0]))] s.heap.size = A at hD ⊢
  have hA : ∀ q : Nat, s.heap.size ≤ q → A q := fun q h => by rw [← hAe]; exact Or.inr h
  have hS : va_S A s.heap s.heap [] := va_S.rf
  have hP : va_P D zVC [(h0, .inr (4, [.null, .int 0, .null, .int 0]))] s.heap := hP
  have hl := lv_entry ([.ref h0, .ref r, .int 1, .int 10]) (n := 4) (Nat.le_of_ble_eq_true rfl)
  rw [lg_entry_eq]
  generalize (lg_sl ([.ref h0, .ref r, .int 1, .int 10]) ++ List.replicate (4 - (lg_sl ([.ref h0, .ref r, .int 1, .int 10])).length) Slot.unset).toArray = ls at hl ⊢
  have hl : lv_has ls 4 [(0, .ref h0), (1, .ref r), (2, .int 1), (3, .int 10)] := hl
  refine lv_aload_n hx hb dc_X4_init_0 rfl (lv_at hl 0 rfl) ?_
  refine W.objInit hx hb hown (hts (.methodLink "ProofDay$Text" 3 objectInit) gk_92) (hts (.instanceMethod objectInit) gk_83) (hts _ gk_84) rfl (by rw [hml]; exact hl.1) rfl dc_X4_init_1 (Nat.le_of_ble_eq_true rfl) (Nat.le_of_ble_eq_true rfl) ?_
  refine W.eq (g2 := F0 m 4 ls []) rfl ?_
  refine lv_aload_n hx hb dc_X4_init_4 rfl (lv_at hl 0 rfl) ?_
  refine lv_aload_n hx hb dc_X4_init_5 rfl (lv_at hl 1 rfl) ?_
  refine ct_put (ac := ac) (c0 := 4) (k := 0) (v := .ref r) hx hb hts hin hown hK hP hD hS 0 rfl rfl rfl rfl rfl rfl (Nat.le_of_ble_eq_true rfl) dc_X4_init_6 (fun H locs hP hD hS => ?_)
  have hP : va_P D zVC [(h0, .inr (4, [.ref r, .int 0, .null, .int 0]))] H := hP
  have hD : va_D A [(h0, .inr (4, [.ref r, .int 0, .null, .int 0]))] := hD
  refine lv_aload_n hx hb dc_X4_init_9 rfl (lv_at hl 0 rfl) ?_
  refine lv_iload_n hx hb dc_X4_init_10 rfl (lv_at hl 2 rfl) ?_
  refine ct_put (ac := ac) (c0 := 4) (k := 1) (v := .int 1) hx hb hts hin hown hK hP hD hS 0 rfl rfl rfl rfl rfl rfl (Nat.le_of_ble_eq_true rfl) dc_X4_init_11 (fun H locs hP hD hS => ?_)
  have hP : va_P D zVC [(h0, .inr (4, [.ref r, .int 1, .null, .int 0]))] H := hP
  have hD : va_D A [(h0, .inr (4, [.ref r, .int 1, .null, .int 0]))] := hD
  refine lv_aload_n hx hb dc_X4_init_14 rfl (lv_at hl 0 rfl) ?_
  refine lv_iconst (v := 3) hx hb dc_X4_init_15 (by decide) ?_
  refine lv_iload_n hx hb dc_X4_init_16 rfl (lv_at hl 3 rfl) ?_
  refine lv_imul hx hb dc_X4_init_17 ?_
  rw [show ((3 : Int32) * 10) = 30 by decide]
  refine lv_iconst (v := 1) hx hb dc_X4_init_18 (by decide) ?_
  refine lv_isub hx hb dc_X4_init_19 ?_
  rw [show ((30 : Int32) - 1) = 29 by decide]
  refine ct_newi hx hb hts hK hP hD hS hA 29 (by decide) (by decide) (by decide) (Nat.le_of_ble_eq_true rfl) (Nat.le_of_ble_eq_true rfl) dc_X4_init_20 (fun q20 H hP hD hS => ?_)
  have hP : va_P D zVC [(h0, .inr (4, [.ref r, .int 1, .null, .int 0])), (q20, .inl (ac 0, 29, .inl (fun _ => 0)))] H := hP
  have hD : va_D A [(h0, .inr (4, [.ref r, .int 1, .null, .int 0])), (q20, .inl (ac 0, 29, .inl (fun _ => 0)))] := hD
  refine W.widen (k := 1) (n := 29) (Nat.le_of_ble_eq_true rfl) (Nat.le_of_ble_eq_true rfl) ?_
  refine ct_put (ac := ac) (c0 := 4) (k := 2) (v := .ref q20) hx hb hts hin hown hK hP hD hS 0 rfl rfl rfl rfl rfl rfl (Nat.le_of_ble_eq_true rfl) dc_X4_init_22 (fun H locs hP hD hS => ?_)
  have hP : va_P D zVC [(h0, .inr (4, [.ref r, .int 1, .ref q20, .int 0])), (q20, .inl (ac 0, 29, .inl (fun _ => 0)))] H := hP
  have hD : va_D A [(h0, .inr (4, [.ref r, .int 1, .ref q20, .int 0])), (q20, .inl (ac 0, 29, .inl (fun _ => 0)))] := hD
  have hP9 := hP.sub (ws' := [(h0, .inr (4, [.ref r, .int 1, .ref q20, .int 0])), (q20, .inl (ac 0, 29, .inl (fun _ => 0)))]) [0, 1] rfl
  have hD9 := hD.sub (ws' := [(h0, .inr (4, [.ref r, .int 1, .ref q20, .int 0])), (q20, .inl (ac 0, 29, .inl (fun _ => 0)))]) [0, 1] (by decide) rfl
  exact W.vret hx hb hr (fun t ht hW => ⟨⟨(fun i => ([q20] : List Nat).getD i 0), rfl, trivial, by rw [ht]; exact hP9, hD9⟩, hS.F ht⟩) hS.2.2 dc_X4_init_25
set_option maxHeartbeats 4000000 in
set_option maxRecDepth 100000 in
theorem ck_X4_1 (l : Launch) (D : va_G) (ac : Nat → ClassId) (sz : Nat) (h0 r : Nat) : Met l yX4_init (Cond.code yX4_init cX4_init 4 none :: zT) ({ frames := 2, cells := 1, slots := 17, locals := 100 }) (va_Pc [.ref h0, .ref r, .int 1, .int 6] (ctPre ac D (fun _ => True) sz [(h0, .inr (4, [.null, .int 0, .null, .int 0]))])) (ctQ D sz [(h0, .inr (4, [.null, .int 0, .null, .int 0]))] (fun a => [(h0, .inr (4, [.ref r, .int 1, .ref (a 0), .int 0])), ((a 0), .inl (ac 0, 17, .inl (fun _ => 0)))])) 1 17 (va_A [(h0, .inr (4, [.null, .int 0, .null, .int 0]))] sz) := by
  refine Met.ofW (cc := cX4_init) (maxL := 4) (ret := none) (by decide) rfl ?_
  intro p e s m args below meth c s₁ B hml hv
  obtain ⟨rfl, hsz, hP, hK, hD0, hE⟩ := hv
  have hx := B.exec
  have hb := B.bytes
  have hr := B.returns
  have hts0 := atoms_spec (ws := Cond.code yX4_init cX4_init 4 none :: zT) B.pre
  have hts : ∀ w ∈ zT, w.before _ s = true := fun w hw => hts0 w (List.mem_cons_of_mem _ hw)
  have hown : s.vm.findClass RX4 = some m.cls := findClass_of_methodNamed B.named
  have hlocks := B.notSynchronized
  have hin : meth.name = "<init>" := (name_of_methodNamed B.named B.method).1
  subst hsz
  have hD := hD0.self (sz := s.heap.size)
  unfold ctQ
  generalize hAe : va_A [(h0, .inr (4, [.null, .int 0, .null, .int 0]))] s.heap.size = A at hD ⊢
  have hA : ∀ q : Nat, s.heap.size ≤ q → A q := fun q h => by rw [← hAe]; exact Or.inr h
  have hS : va_S A s.heap s.heap [] := va_S.rf
  have hP : va_P D zVC [(h0, .inr (4, [.null, .int 0, .null, .int 0]))] s.heap := hP
  have hl := lv_entry ([.ref h0, .ref r, .int 1, .int 6]) (n := 4) (Nat.le_of_ble_eq_true rfl)
  rw [lg_entry_eq]
  generalize (lg_sl ([.ref h0, .ref r, .int 1, .int 6]) ++ List.replicate (4 - (lg_sl ([.ref h0, .ref r, .int 1, .int 6])).length) Slot.unset).toArray = ls at hl ⊢
  have hl : lv_has ls 4 [(0, .ref h0), (1, .ref r), (2, .int 1), (3, .int 6)] := hl
  refine lv_aload_n hx hb dc_X4_init_0 rfl (lv_at hl 0 rfl) ?_
  refine W.objInit hx hb hown (hts (.methodLink "ProofDay$Text" 3 objectInit) gk_92) (hts (.instanceMethod objectInit) gk_83) (hts _ gk_84) rfl (by rw [hml]; exact hl.1) rfl dc_X4_init_1 (Nat.le_of_ble_eq_true rfl) (Nat.le_of_ble_eq_true rfl) ?_
  refine W.eq (g2 := F0 m 4 ls []) rfl ?_
  refine lv_aload_n hx hb dc_X4_init_4 rfl (lv_at hl 0 rfl) ?_
  refine lv_aload_n hx hb dc_X4_init_5 rfl (lv_at hl 1 rfl) ?_
  refine ct_put (ac := ac) (c0 := 4) (k := 0) (v := .ref r) hx hb hts hin hown hK hP hD hS 0 rfl rfl rfl rfl rfl rfl (Nat.le_of_ble_eq_true rfl) dc_X4_init_6 (fun H locs hP hD hS => ?_)
  have hP : va_P D zVC [(h0, .inr (4, [.ref r, .int 0, .null, .int 0]))] H := hP
  have hD : va_D A [(h0, .inr (4, [.ref r, .int 0, .null, .int 0]))] := hD
  refine lv_aload_n hx hb dc_X4_init_9 rfl (lv_at hl 0 rfl) ?_
  refine lv_iload_n hx hb dc_X4_init_10 rfl (lv_at hl 2 rfl) ?_
  refine ct_put (ac := ac) (c0 := 4) (k := 1) (v := .int 1) hx hb hts hin hown hK hP hD hS 0 rfl rfl rfl rfl rfl rfl (Nat.le_of_ble_eq_true rfl) dc_X4_init_11 (fun H locs hP hD hS => ?_)
  have hP : va_P D zVC [(h0, .inr (4, [.ref r, .int 1, .null, .int 0]))] H := hP
  have hD : va_D A [(h0, .inr (4, [.ref r, .int 1, .null, .int 0]))] := hD
  refine lv_aload_n hx hb dc_X4_init_14 rfl (lv_at hl 0 rfl) ?_
  refine lv_iconst (v := 3) hx hb dc_X4_init_15 (by decide) ?_
  refine lv_iload_n hx hb dc_X4_init_16 rfl (lv_at hl 3 rfl) ?_
  refine lv_imul hx hb dc_X4_init_17 ?_
  rw [show ((3 : Int32) * 6) = 18 by decide]
  refine lv_iconst (v := 1) hx hb dc_X4_init_18 (by decide) ?_
  refine lv_isub hx hb dc_X4_init_19 ?_
  rw [show ((18 : Int32) - 1) = 17 by decide]
  refine ct_newi hx hb hts hK hP hD hS hA 17 (by decide) (by decide) (by decide) (Nat.le_of_ble_eq_true rfl) (Nat.le_of_ble_eq_true rfl) dc_X4_init_20 (fun q20 H hP hD hS => ?_)
  have hP : va_P D zVC [(h0, .inr (4, [.ref r, .int 1, .null, .int 0])), (q20, .inl (ac 0, 17, .inl (fun _ => 0)))] H := hP
  have hD : va_D A [(h0, .inr (4, [.ref r, .int 1, .null, .int 0])), (q20, .inl (ac 0, 17, .inl (fun _ => 0)))] := hD
  refine W.widen (k := 1) (n := 17) (Nat.le_of_ble_eq_true rfl) (Nat.le_of_ble_eq_true rfl) ?_
  refine ct_put (ac := ac) (c0 := 4) (k := 2) (v := .ref q20) hx hb hts hin hown hK hP hD hS 0 rfl rfl rfl rfl rfl rfl (Nat.le_of_ble_eq_true rfl) dc_X4_init_22 (fun H locs hP hD hS => ?_)
  have hP : va_P D zVC [(h0, .inr (4, [.ref r, .int 1, .ref q20, .int 0])), (q20, .inl (ac 0, 17, .inl (fun _ => 0)))] H := hP
  have hD : va_D A [(h0, .inr (4, [.ref r, .int 1, .ref q20, .int 0])), (q20, .inl (ac 0, 17, .inl (fun _ => 0)))] := hD
  have hP9 := hP.sub (ws' := [(h0, .inr (4, [.ref r, .int 1, .ref q20, .int 0])), (q20, .inl (ac 0, 17, .inl (fun _ => 0)))]) [0, 1] rfl
  have hD9 := hD.sub (ws' := [(h0, .inr (4, [.ref r, .int 1, .ref q20, .int 0])), (q20, .inl (ac 0, 17, .inl (fun _ => 0)))]) [0, 1] (by decide) rfl
  exact W.vret hx hb hr (fun t ht hW => ⟨⟨(fun i => ([q20] : List Nat).getD i 0), rfl, trivial, by rw [ht]; exact hP9, hD9⟩, hS.F ht⟩) hS.2.2 dc_X4_init_25
set_option maxHeartbeats 4000000 in
set_option maxRecDepth 100000 in
theorem ck_X4_2 (l : Launch) (D : va_G) (ac : Nat → ClassId) (sz : Nat) (h0 r : Nat) : Met l yX4_init (Cond.code yX4_init cX4_init 4 none :: zT) ({ frames := 2, cells := 1, slots := 47, locals := 100 }) (va_Pc [.ref h0, .ref r, .int 0, .int 16] (ctPre ac D (fun _ => True) sz [(h0, .inr (4, [.null, .int 0, .null, .int 0]))])) (ctQ D sz [(h0, .inr (4, [.null, .int 0, .null, .int 0]))] (fun a => [(h0, .inr (4, [.ref r, .int 0, .ref (a 0), .int 0])), ((a 0), .inl (ac 0, 47, .inl (fun _ => 0)))])) 1 47 (va_A [(h0, .inr (4, [.null, .int 0, .null, .int 0]))] sz) := by
  refine Met.ofW (cc := cX4_init) (maxL := 4) (ret := none) (by decide) rfl ?_
  intro p e s m args below meth c s₁ B hml hv
  obtain ⟨rfl, hsz, hP, hK, hD0, hE⟩ := hv
  have hx := B.exec
  have hb := B.bytes
  have hr := B.returns
  have hts0 := atoms_spec (ws := Cond.code yX4_init cX4_init 4 none :: zT) B.pre
  have hts : ∀ w ∈ zT, w.before _ s = true := fun w hw => hts0 w (List.mem_cons_of_mem _ hw)
  have hown : s.vm.findClass RX4 = some m.cls := findClass_of_methodNamed B.named
  have hlocks := B.notSynchronized
  have hin : meth.name = "<init>" := (name_of_methodNamed B.named B.method).1
  subst hsz
  have hD := hD0.self (sz := s.heap.size)
  unfold ctQ
  generalize hAe : va_A [(h0, .inr (4, [.null, .int 0, .null, .int 0]))] s.heap.size = A at hD ⊢
  have hA : ∀ q : Nat, s.heap.size ≤ q → A q := fun q h => by rw [← hAe]; exact Or.inr h
  have hS : va_S A s.heap s.heap [] := va_S.rf
  have hP : va_P D zVC [(h0, .inr (4, [.null, .int 0, .null, .int 0]))] s.heap := hP
  have hl := lv_entry ([.ref h0, .ref r, .int 0, .int 16]) (n := 4) (Nat.le_of_ble_eq_true rfl)
  rw [lg_entry_eq]
  generalize (lg_sl ([.ref h0, .ref r, .int 0, .int 16]) ++ List.replicate (4 - (lg_sl ([.ref h0, .ref r, .int 0, .int 16])).length) Slot.unset).toArray = ls at hl ⊢
  have hl : lv_has ls 4 [(0, .ref h0), (1, .ref r), (2, .int 0), (3, .int 16)] := hl
  refine lv_aload_n hx hb dc_X4_init_0 rfl (lv_at hl 0 rfl) ?_
  refine W.objInit hx hb hown (hts (.methodLink "ProofDay$Text" 3 objectInit) gk_92) (hts (.instanceMethod objectInit) gk_83) (hts _ gk_84) rfl (by rw [hml]; exact hl.1) rfl dc_X4_init_1 (Nat.le_of_ble_eq_true rfl) (Nat.le_of_ble_eq_true rfl) ?_
  refine W.eq (g2 := F0 m 4 ls []) rfl ?_
  refine lv_aload_n hx hb dc_X4_init_4 rfl (lv_at hl 0 rfl) ?_
  refine lv_aload_n hx hb dc_X4_init_5 rfl (lv_at hl 1 rfl) ?_
  refine ct_put (ac := ac) (c0 := 4) (k := 0) (v := .ref r) hx hb hts hin hown hK hP hD hS 0 rfl rfl rfl rfl rfl rfl (Nat.le_of_ble_eq_true rfl) dc_X4_init_6 (fun H locs hP hD hS => ?_)
  have hP : va_P D zVC [(h0, .inr (4, [.ref r, .int 0, .null, .int 0]))] H := hP
  have hD : va_D A [(h0, .inr (4, [.ref r, .int 0, .null, .int 0]))] := hD
  refine lv_aload_n hx hb dc_X4_init_9 rfl (lv_at hl 0 rfl) ?_
  refine lv_iload_n hx hb dc_X4_init_10 rfl (lv_at hl 2 rfl) ?_
  refine ct_put (ac := ac) (c0 := 4) (k := 1) (v := .int 0) hx hb hts hin hown hK hP hD hS 0 rfl rfl rfl rfl rfl rfl (Nat.le_of_ble_eq_true rfl) dc_X4_init_11 (fun H locs hP hD hS => ?_)
  have hP : va_P D zVC [(h0, .inr (4, [.ref r, .int 0, .null, .int 0]))] H := hP
  have hD : va_D A [(h0, .inr (4, [.ref r, .int 0, .null, .int 0]))] := hD
  refine lv_aload_n hx hb dc_X4_init_14 rfl (lv_at hl 0 rfl) ?_
  refine lv_iconst (v := 3) hx hb dc_X4_init_15 (by decide) ?_
  refine lv_iload_n hx hb dc_X4_init_16 rfl (lv_at hl 3 rfl) ?_
  refine lv_imul hx hb dc_X4_init_17 ?_
  rw [show ((3 : Int32) * 16) = 48 by decide]
  refine lv_iconst (v := 1) hx hb dc_X4_init_18 (by decide) ?_
  refine lv_isub hx hb dc_X4_init_19 ?_
  rw [show ((48 : Int32) - 1) = 47 by decide]
  refine ct_newi hx hb hts hK hP hD hS hA 47 (by decide) (by decide) (by decide) (Nat.le_of_ble_eq_true rfl) (Nat.le_of_ble_eq_true rfl) dc_X4_init_20 (fun q20 H hP hD hS => ?_)
  have hP : va_P D zVC [(h0, .inr (4, [.ref r, .int 0, .null, .int 0])), (q20, .inl (ac 0, 47, .inl (fun _ => 0)))] H := hP
  have hD : va_D A [(h0, .inr (4, [.ref r, .int 0, .null, .int 0])), (q20, .inl (ac 0, 47, .inl (fun _ => 0)))] := hD
  refine W.widen (k := 1) (n := 47) (Nat.le_of_ble_eq_true rfl) (Nat.le_of_ble_eq_true rfl) ?_
  refine ct_put (ac := ac) (c0 := 4) (k := 2) (v := .ref q20) hx hb hts hin hown hK hP hD hS 0 rfl rfl rfl rfl rfl rfl (Nat.le_of_ble_eq_true rfl) dc_X4_init_22 (fun H locs hP hD hS => ?_)
  have hP : va_P D zVC [(h0, .inr (4, [.ref r, .int 0, .ref q20, .int 0])), (q20, .inl (ac 0, 47, .inl (fun _ => 0)))] H := hP
  have hD : va_D A [(h0, .inr (4, [.ref r, .int 0, .ref q20, .int 0])), (q20, .inl (ac 0, 47, .inl (fun _ => 0)))] := hD
  have hP9 := hP.sub (ws' := [(h0, .inr (4, [.ref r, .int 0, .ref q20, .int 0])), (q20, .inl (ac 0, 47, .inl (fun _ => 0)))]) [0, 1] rfl
  have hD9 := hD.sub (ws' := [(h0, .inr (4, [.ref r, .int 0, .ref q20, .int 0])), (q20, .inl (ac 0, 47, .inl (fun _ => 0)))]) [0, 1] (by decide) rfl
  exact W.vret hx hb hr (fun t ht hW => ⟨⟨(fun i => ([q20] : List Nat).getD i 0), rfl, trivial, by rw [ht]; exact hP9, hD9⟩, hS.F ht⟩) hS.2.2 dc_X4_init_25
