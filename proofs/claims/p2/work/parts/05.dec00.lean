theorem dX0_init_0 : decode cX0_init 0 = .ok (.aload_n 0, 1) := by decide +kernel
theorem dX0_init_1 : decode cX0_init 1 = .ok (.invokespecial 3, 3) := by decide +kernel
theorem dX0_init_4 : decode cX0_init 4 = .ok (.aload_n 0, 1) := by decide +kernel
theorem dX0_init_5 : decode cX0_init 5 = .ok (.sipush 200, 3) := by decide +kernel
theorem dX0_init_8 : decode cX0_init 8 = .ok (.newarray .long, 2) := by decide +kernel
theorem dX0_init_10 : decode cX0_init 10 = .ok (.putfield 9, 3) := by decide +kernel
theorem dX0_init_13 : decode cX0_init 13 = .ok (.return_, 1) := by decide +kernel
theorem dX0_fewer_0 : decode cX0_fewer 0 = .ok (.aload_n 0, 1) := by decide +kernel
theorem dX0_fewer_1 : decode cX0_fewer 1 = .ok (.iload_n 2, 1) := by decide +kernel
theorem dX0_fewer_2 : decode cX0_fewer 2 = .ok (.invokevirtual 13, 3) := by decide +kernel
theorem dX0_fewer_5 : decode cX0_fewer 5 = .ok (.iconst 0, 1) := by decide +kernel
theorem dX0_fewer_6 : decode cX0_fewer 6 = .ok (.istore 4, 2) := by decide +kernel
theorem dX0_fewer_8 : decode cX0_fewer 8 = .ok (.iload 4, 2) := by decide +kernel
theorem dX0_fewer_10 : decode cX0_fewer 10 = .ok (.iload_n 2, 1) := by decide +kernel
theorem dX0_fewer_11 : decode cX0_fewer 11 = .ok (.if_icmp .ge 32, 3) := by decide +kernel
theorem dX0_fewer_14 : decode cX0_fewer 14 = .ok (.iload_n 1, 1) := by decide +kernel
theorem dX0_fewer_15 : decode cX0_fewer 15 = .ok (.iconst 1, 1) := by decide +kernel
theorem dX0_fewer_16 : decode cX0_fewer 16 = .ok (.isub, 1) := by decide +kernel
theorem dX0_fewer_17 : decode cX0_fewer 17 = .ok (.istore 5, 2) := by decide +kernel
theorem dX0_fewer_19 : decode cX0_fewer 19 = .ok (.iload 5, 2) := by decide +kernel
theorem dX0_fewer_21 : decode cX0_fewer 21 = .ok (.ifCond .lt 16, 3) := by decide +kernel
theorem dX0_fewer_24 : decode cX0_fewer 24 = .ok (.aload_n 0, 1) := by decide +kernel
theorem dX0_fewer_25 : decode cX0_fewer 25 = .ok (.iload 5, 2) := by decide +kernel
theorem dX0_fewer_27 : decode cX0_fewer 27 = .ok (.iload_n 3, 1) := by decide +kernel
theorem dX0_fewer_28 : decode cX0_fewer 28 = .ok (.invokevirtual 17, 3) := by decide +kernel
theorem dX0_fewer_31 : decode cX0_fewer 31 = .ok (.iinc 5 (-1), 3) := by decide +kernel
theorem dX0_fewer_34 : decode cX0_fewer 34 = .ok (.goto (-15), 3) := by decide +kernel
theorem dX0_fewer_37 : decode cX0_fewer 37 = .ok (.iinc 4 1, 3) := by decide +kernel
theorem dX0_fewer_40 : decode cX0_fewer 40 = .ok (.goto (-32), 3) := by decide +kernel
theorem dX0_fewer_43 : decode cX0_fewer 43 = .ok (.lconst 0, 1) := by decide +kernel
theorem dX0_fewer_44 : decode cX0_fewer 44 = .ok (.lstore 4, 2) := by decide +kernel
theorem dX0_fewer_46 : decode cX0_fewer 46 = .ok (.iconst 0, 1) := by decide +kernel
theorem dX0_fewer_47 : decode cX0_fewer 47 = .ok (.istore 6, 2) := by decide +kernel
theorem dX0_fewer_49 : decode cX0_fewer 49 = .ok (.iload 6, 2) := by decide +kernel
theorem dX0_fewer_51 : decode cX0_fewer 51 = .ok (.iload_n 1, 1) := by decide +kernel
theorem dX0_fewer_52 : decode cX0_fewer 52 = .ok (.if_icmp .ge 47, 3) := by decide +kernel
theorem dX0_fewer_55 : decode cX0_fewer 55 = .ok (.lload 4, 2) := by decide +kernel
theorem dX0_fewer_57 : decode cX0_fewer 57 = .ok (.aload_n 0, 1) := by decide +kernel
theorem dX0_fewer_58 : decode cX0_fewer 58 = .ok (.getfield 9, 3) := by decide +kernel
theorem dX0_fewer_61 : decode cX0_fewer 61 = .ok (.iload 6, 2) := by decide +kernel
theorem dX0_fewer_63 : decode cX0_fewer 63 = .ok (.bipush 10, 2) := by decide +kernel
theorem dX0_fewer_65 : decode cX0_fewer 65 = .ok (.imul, 1) := by decide +kernel
theorem dX0_fewer_66 : decode cX0_fewer 66 = .ok (.bipush 9, 2) := by decide +kernel
theorem dX0_fewer_68 : decode cX0_fewer 68 = .ok (.iadd, 1) := by decide +kernel
theorem dX0_fewer_69 : decode cX0_fewer 69 = .ok (.laload, 1) := by decide +kernel
theorem dX0_fewer_70 : decode cX0_fewer 70 = .ok (.ldc2_w 21, 3) := by decide +kernel
theorem dX0_fewer_73 : decode cX0_fewer 73 = .ok (.lmul, 1) := by decide +kernel
theorem dX0_fewer_74 : decode cX0_fewer 74 = .ok (.aload_n 0, 1) := by decide +kernel
theorem dX0_fewer_75 : decode cX0_fewer 75 = .ok (.getfield 9, 3) := by decide +kernel
theorem dX0_fewer_78 : decode cX0_fewer 78 = .ok (.iload 6, 2) := by decide +kernel
theorem dX0_fewer_80 : decode cX0_fewer 80 = .ok (.bipush 10, 2) := by decide +kernel
theorem dX0_fewer_82 : decode cX0_fewer 82 = .ok (.imul, 1) := by decide +kernel
theorem dX0_fewer_83 : decode cX0_fewer 83 = .ok (.bipush 9, 2) := by decide +kernel
theorem dX0_fewer_85 : decode cX0_fewer 85 = .ok (.iadd, 1) := by decide +kernel
theorem dX0_fewer_86 : decode cX0_fewer 86 = .ok (.iconst 1, 1) := by decide +kernel
theorem dX0_fewer_87 : decode cX0_fewer 87 = .ok (.isub, 1) := by decide +kernel
theorem dX0_fewer_88 : decode cX0_fewer 88 = .ok (.laload, 1) := by decide +kernel
theorem dX0_fewer_89 : decode cX0_fewer 89 = .ok (.ladd, 1) := by decide +kernel
theorem dX0_fewer_90 : decode cX0_fewer 90 = .ok (.ladd, 1) := by decide +kernel
theorem dX0_fewer_91 : decode cX0_fewer 91 = .ok (.lstore 4, 2) := by decide +kernel
theorem dX0_fewer_93 : decode cX0_fewer 93 = .ok (.iinc 6 1, 3) := by decide +kernel
theorem dX0_fewer_96 : decode cX0_fewer 96 = .ok (.goto (-47), 3) := by decide +kernel
theorem dX0_fewer_99 : decode cX0_fewer 99 = .ok (.lload 4, 2) := by decide +kernel
theorem dX0_fewer_101 : decode cX0_fewer 101 = .ok (.lreturn, 1) := by decide +kernel
theorem dX0_setStart_0 : decode cX0_setStart 0 = .ok (.aload_n 0, 1) := by decide +kernel
theorem dX0_setStart_1 : decode cX0_setStart 1 = .ok (.getfield 9, 3) := by decide +kernel
theorem dX0_setStart_4 : decode cX0_setStart 4 = .ok (.lconst 0, 1) := by decide +kernel
theorem dX0_setStart_5 : decode cX0_setStart 5 = .ok (.invokestatic 23, 3) := by decide +kernel
theorem dX0_setStart_8 : decode cX0_setStart 8 = .ok (.bipush 108, 2) := by decide +kernel
theorem dX0_setStart_10 : decode cX0_setStart 10 = .ok (.iload_n 1, 1) := by decide +kernel
theorem dX0_setStart_11 : decode cX0_setStart 11 = .ok (.isub, 1) := by decide +kernel
theorem dX0_setStart_12 : decode cX0_setStart 12 = .ok (.istore_n 2, 1) := by decide +kernel
theorem dX0_setStart_13 : decode cX0_setStart 13 = .ok (.lconst 1, 1) := by decide +kernel
theorem dX0_setStart_14 : decode cX0_setStart 14 = .ok (.lstore_n 3, 1) := by decide +kernel
theorem dX0_setStart_15 : decode cX0_setStart 15 = .ok (.iconst 0, 1) := by decide +kernel
theorem dX0_setStart_16 : decode cX0_setStart 16 = .ok (.istore 5, 2) := by decide +kernel
theorem dX0_setStart_18 : decode cX0_setStart 18 = .ok (.iload 5, 2) := by decide +kernel
theorem dX0_setStart_20 : decode cX0_setStart 20 = .ok (.iload_n 2, 1) := by decide +kernel
theorem dX0_setStart_21 : decode cX0_setStart 21 = .ok (.bipush 12, 2) := by decide +kernel
theorem dX0_setStart_23 : decode cX0_setStart 23 = .ok (.irem, 1) := by decide +kernel
theorem dX0_setStart_24 : decode cX0_setStart 24 = .ok (.if_icmp .ge 15, 3) := by decide +kernel
theorem dX0_setStart_27 : decode cX0_setStart 27 = .ok (.lload_n 3, 1) := by decide +kernel
theorem dX0_setStart_28 : decode cX0_setStart 28 = .ok (.ldc2_w 29, 3) := by decide +kernel
theorem dX0_setStart_31 : decode cX0_setStart 31 = .ok (.lmul, 1) := by decide +kernel
theorem dX0_setStart_32 : decode cX0_setStart 32 = .ok (.lstore_n 3, 1) := by decide +kernel
theorem dX0_setStart_33 : decode cX0_setStart 33 = .ok (.iinc 5 1, 3) := by decide +kernel
theorem dX0_setStart_36 : decode cX0_setStart 36 = .ok (.goto (-18), 3) := by decide +kernel
theorem dX0_setStart_39 : decode cX0_setStart 39 = .ok (.iload_n 2, 1) := by decide +kernel
theorem dX0_setStart_40 : decode cX0_setStart 40 = .ok (.ifCond .lt 13, 3) := by decide +kernel
theorem dX0_setStart_43 : decode cX0_setStart 43 = .ok (.aload_n 0, 1) := by decide +kernel
theorem dX0_setStart_44 : decode cX0_setStart 44 = .ok (.getfield 9, 3) := by decide +kernel
theorem dX0_setStart_47 : decode cX0_setStart 47 = .ok (.iload_n 2, 1) := by decide +kernel
theorem dX0_setStart_48 : decode cX0_setStart 48 = .ok (.bipush 12, 2) := by decide +kernel
theorem dX0_setStart_50 : decode cX0_setStart 50 = .ok (.idiv, 1) := by decide +kernel
theorem dX0_setStart_51 : decode cX0_setStart 51 = .ok (.lload_n 3, 1) := by decide +kernel
theorem dX0_setStart_52 : decode cX0_setStart 52 = .ok (.lastore, 1) := by decide +kernel
theorem dX0_setStart_53 : decode cX0_setStart 53 = .ok (.return_, 1) := by decide +kernel
theorem dX0_addOneMore_0 : decode cX0_addOneMore 0 = .ok (.lconst 0, 1) := by decide +kernel
theorem dX0_addOneMore_1 : decode cX0_addOneMore 1 = .ok (.lstore_n 3, 1) := by decide +kernel
theorem dX0_addOneMore_2 : decode cX0_addOneMore 2 = .ok (.iconst 0, 1) := by decide +kernel
theorem dX0_addOneMore_3 : decode cX0_addOneMore 3 = .ok (.istore 5, 2) := by decide +kernel
theorem dX0_addOneMore_5 : decode cX0_addOneMore 5 = .ok (.iload 5, 2) := by decide +kernel
theorem dX0_addOneMore_7 : decode cX0_addOneMore 7 = .ok (.bipush 10, 2) := by decide +kernel
theorem dX0_addOneMore_9 : decode cX0_addOneMore 9 = .ok (.if_icmp .ge 77, 3) := by decide +kernel
theorem dX0_addOneMore_12 : decode cX0_addOneMore 12 = .ok (.iload_n 1, 1) := by decide +kernel
theorem dX0_addOneMore_13 : decode cX0_addOneMore 13 = .ok (.bipush 10, 2) := by decide +kernel
theorem dX0_addOneMore_15 : decode cX0_addOneMore 15 = .ok (.imul, 1) := by decide +kernel
theorem dX0_addOneMore_16 : decode cX0_addOneMore 16 = .ok (.iload 5, 2) := by decide +kernel
theorem dX0_addOneMore_18 : decode cX0_addOneMore 18 = .ok (.iadd, 1) := by decide +kernel
theorem dX0_addOneMore_19 : decode cX0_addOneMore 19 = .ok (.istore 6, 2) := by decide +kernel
theorem dX0_addOneMore_21 : decode cX0_addOneMore 21 = .ok (.aload_n 0, 1) := by decide +kernel
theorem dX0_addOneMore_22 : decode cX0_addOneMore 22 = .ok (.getfield 9, 3) := by decide +kernel
theorem dX0_addOneMore_25 : decode cX0_addOneMore 25 = .ok (.iload 6, 2) := by decide +kernel
theorem dX0_addOneMore_27 : decode cX0_addOneMore 27 = .ok (.laload, 1) := by decide +kernel
theorem dX0_addOneMore_28 : decode cX0_addOneMore 28 = .ok (.bipush 10, 2) := by decide +kernel
theorem dX0_addOneMore_30 : decode cX0_addOneMore 30 = .ok (.iload_n 2, 1) := by decide +kernel
theorem dX0_addOneMore_31 : decode cX0_addOneMore 31 = .ok (.isub, 1) := by decide +kernel
theorem dX0_addOneMore_32 : decode cX0_addOneMore 32 = .ok (.i2l, 1) := by decide +kernel
theorem dX0_addOneMore_33 : decode cX0_addOneMore 33 = .ok (.lmul, 1) := by decide +kernel
theorem dX0_addOneMore_34 : decode cX0_addOneMore 34 = .ok (.lload_n 3, 1) := by decide +kernel
theorem dX0_addOneMore_35 : decode cX0_addOneMore 35 = .ok (.ladd, 1) := by decide +kernel
theorem dX0_addOneMore_36 : decode cX0_addOneMore 36 = .ok (.lstore 7, 2) := by decide +kernel
theorem dX0_addOneMore_38 : decode cX0_addOneMore 38 = .ok (.iload_n 1, 1) := by decide +kernel
theorem dX0_addOneMore_39 : decode cX0_addOneMore 39 = .ok (.ifCond .le 21, 3) := by decide +kernel
theorem dX0_addOneMore_42 : decode cX0_addOneMore 42 = .ok (.lload 7, 2) := by decide +kernel
theorem dX0_addOneMore_44 : decode cX0_addOneMore 44 = .ok (.aload_n 0, 1) := by decide +kernel
theorem dX0_addOneMore_45 : decode cX0_addOneMore 45 = .ok (.getfield 9, 3) := by decide +kernel
theorem dX0_addOneMore_48 : decode cX0_addOneMore 48 = .ok (.iload 6, 2) := by decide +kernel
theorem dX0_addOneMore_50 : decode cX0_addOneMore 50 = .ok (.bipush 10, 2) := by decide +kernel
theorem dX0_addOneMore_52 : decode cX0_addOneMore 52 = .ok (.isub, 1) := by decide +kernel
theorem dX0_addOneMore_53 : decode cX0_addOneMore 53 = .ok (.laload, 1) := by decide +kernel
theorem dX0_addOneMore_54 : decode cX0_addOneMore 54 = .ok (.iload_n 2, 1) := by decide +kernel
theorem dX0_addOneMore_55 : decode cX0_addOneMore 55 = .ok (.i2l, 1) := by decide +kernel
theorem dX0_addOneMore_56 : decode cX0_addOneMore 56 = .ok (.lmul, 1) := by decide +kernel
theorem dX0_addOneMore_57 : decode cX0_addOneMore 57 = .ok (.ladd, 1) := by decide +kernel
theorem dX0_addOneMore_58 : decode cX0_addOneMore 58 = .ok (.lstore 7, 2) := by decide +kernel
theorem dX0_addOneMore_60 : decode cX0_addOneMore 60 = .ok (.aload_n 0, 1) := by decide +kernel
theorem dX0_addOneMore_61 : decode cX0_addOneMore 61 = .ok (.getfield 9, 3) := by decide +kernel
theorem dX0_addOneMore_64 : decode cX0_addOneMore 64 = .ok (.iload 6, 2) := by decide +kernel
theorem dX0_addOneMore_66 : decode cX0_addOneMore 66 = .ok (.lload 7, 2) := by decide +kernel
theorem dX0_addOneMore_68 : decode cX0_addOneMore 68 = .ok (.ldc2_w 21, 3) := by decide +kernel
theorem dX0_addOneMore_71 : decode cX0_addOneMore 71 = .ok (.lrem, 1) := by decide +kernel
theorem dX0_addOneMore_72 : decode cX0_addOneMore 72 = .ok (.lastore, 1) := by decide +kernel
theorem dX0_addOneMore_73 : decode cX0_addOneMore 73 = .ok (.lload 7, 2) := by decide +kernel
theorem dX0_addOneMore_75 : decode cX0_addOneMore 75 = .ok (.ldc2_w 21, 3) := by decide +kernel
theorem dX0_addOneMore_78 : decode cX0_addOneMore 78 = .ok (.ldiv, 1) := by decide +kernel
theorem dX0_addOneMore_79 : decode cX0_addOneMore 79 = .ok (.lstore_n 3, 1) := by decide +kernel
theorem dX0_addOneMore_80 : decode cX0_addOneMore 80 = .ok (.iinc 5 1, 3) := by decide +kernel
theorem dX0_addOneMore_83 : decode cX0_addOneMore 83 = .ok (.goto (-78), 3) := by decide +kernel
theorem dX0_addOneMore_86 : decode cX0_addOneMore 86 = .ok (.return_, 1) := by decide +kernel
theorem dX1_init_0 : decode cX1_init 0 = .ok (.aload_n 0, 1) := by decide +kernel
theorem dX1_init_1 : decode cX1_init 1 = .ok (.invokespecial 3, 3) := by decide +kernel
theorem dX1_init_4 : decode cX1_init 4 = .ok (.aload_n 0, 1) := by decide +kernel
theorem dX1_init_5 : decode cX1_init 5 = .ok (.bipush 9, 2) := by decide +kernel
theorem dX1_init_7 : decode cX1_init 7 = .ok (.newarray .int, 2) := by decide +kernel
theorem dX1_init_9 : decode cX1_init 9 = .ok (.putfield 9, 3) := by decide +kernel
theorem dX1_init_12 : decode cX1_init 12 = .ok (.aload_n 0, 1) := by decide +kernel
theorem dX1_init_13 : decode cX1_init 13 = .ok (.bipush 9, 2) := by decide +kernel
theorem dX1_init_15 : decode cX1_init 15 = .ok (.newarray .int, 2) := by decide +kernel
theorem dX1_init_17 : decode cX1_init 17 = .ok (.putfield 15, 3) := by decide +kernel
theorem dX1_init_20 : decode cX1_init 20 = .ok (.aload_n 0, 1) := by decide +kernel
theorem dX1_init_21 : decode cX1_init 21 = .ok (.bipush 9, 2) := by decide +kernel
theorem dX1_init_23 : decode cX1_init 23 = .ok (.newarray .int, 2) := by decide +kernel
theorem dX1_init_25 : decode cX1_init 25 = .ok (.putfield 18, 3) := by decide +kernel
theorem dX1_init_28 : decode cX1_init 28 = .ok (.aload_n 0, 1) := by decide +kernel
theorem dX1_init_29 : decode cX1_init 29 = .ok (.bipush 9, 2) := by decide +kernel
theorem dX1_init_31 : decode cX1_init 31 = .ok (.newarray .int, 2) := by decide +kernel
theorem dX1_init_33 : decode cX1_init 33 = .ok (.putfield 21, 3) := by decide +kernel
theorem dX1_init_36 : decode cX1_init 36 = .ok (.aload_n 0, 1) := by decide +kernel
theorem dX1_init_37 : decode cX1_init 37 = .ok (.bipush 9, 2) := by decide +kernel
theorem dX1_init_39 : decode cX1_init 39 = .ok (.newarray .int, 2) := by decide +kernel
theorem dX1_init_41 : decode cX1_init 41 = .ok (.putfield 24, 3) := by decide +kernel
theorem dX1_init_44 : decode cX1_init 44 = .ok (.aload_n 0, 1) := by decide +kernel
theorem dX1_init_45 : decode cX1_init 45 = .ok (.iconst 3, 1) := by decide +kernel
theorem dX1_init_46 : decode cX1_init 46 = .ok (.newarray .int, 2) := by decide +kernel
theorem dX1_init_48 : decode cX1_init 48 = .ok (.putfield 27, 3) := by decide +kernel
theorem dX1_init_51 : decode cX1_init 51 = .ok (.aload_n 0, 1) := by decide +kernel
theorem dX1_init_52 : decode cX1_init 52 = .ok (.bipush 12, 2) := by decide +kernel
theorem dX1_init_54 : decode cX1_init 54 = .ok (.newarray .int, 2) := by decide +kernel
theorem dX1_init_56 : decode cX1_init 56 = .ok (.putfield 30, 3) := by decide +kernel
theorem dX1_init_59 : decode cX1_init 59 = .ok (.aload_n 0, 1) := by decide +kernel
theorem dX1_init_60 : decode cX1_init 60 = .ok (.iconst 0, 1) := by decide +kernel
theorem dX1_init_61 : decode cX1_init 61 = .ok (.putfield 33, 3) := by decide +kernel
theorem dX1_init_64 : decode cX1_init 64 = .ok (.aload_n 0, 1) := by decide +kernel
theorem dX1_init_65 : decode cX1_init 65 = .ok (.bipush 8, 2) := by decide +kernel
theorem dX1_init_67 : decode cX1_init 67 = .ok (.putfield 37, 3) := by decide +kernel
theorem dX1_init_70 : decode cX1_init 70 = .ok (.aload_n 0, 1) := by decide +kernel
theorem dX1_init_71 : decode cX1_init 71 = .ok (.bipush 8, 2) := by decide +kernel
theorem dX1_init_73 : decode cX1_init 73 = .ok (.putfield 40, 3) := by decide +kernel
theorem dX1_init_76 : decode cX1_init 76 = .ok (.aload_n 0, 1) := by decide +kernel
theorem dX1_init_77 : decode cX1_init 77 = .ok (.iconst 0, 1) := by decide +kernel
theorem dX1_init_78 : decode cX1_init 78 = .ok (.putfield 43, 3) := by decide +kernel
theorem dX1_init_81 : decode cX1_init 81 = .ok (.aload_n 0, 1) := by decide +kernel
theorem dX1_init_82 : decode cX1_init 82 = .ok (.getfield 27, 3) := by decide +kernel
theorem dX1_init_85 : decode cX1_init 85 = .ok (.iconst 1, 1) := by decide +kernel
theorem dX1_init_86 : decode cX1_init 86 = .ok (.iconst 1, 1) := by decide +kernel
theorem dX1_init_87 : decode cX1_init 87 = .ok (.iastore, 1) := by decide +kernel
theorem dX1_init_88 : decode cX1_init 88 = .ok (.return_, 1) := by decide +kernel
theorem dX1_copyFrom_0 : decode cX1_copyFrom 0 = .ok (.aload_n 1, 1) := by decide +kernel
theorem dX1_copyFrom_1 : decode cX1_copyFrom 1 = .ok (.getfield 9, 3) := by decide +kernel
theorem dX1_copyFrom_4 : decode cX1_copyFrom 4 = .ok (.iconst 0, 1) := by decide +kernel
theorem dX1_copyFrom_5 : decode cX1_copyFrom 5 = .ok (.aload_n 0, 1) := by decide +kernel
theorem dX1_copyFrom_6 : decode cX1_copyFrom 6 = .ok (.getfield 9, 3) := by decide +kernel
theorem dX1_copyFrom_9 : decode cX1_copyFrom 9 = .ok (.iconst 0, 1) := by decide +kernel
theorem dX1_copyFrom_10 : decode cX1_copyFrom 10 = .ok (.bipush 9, 2) := by decide +kernel
theorem dX1_copyFrom_12 : decode cX1_copyFrom 12 = .ok (.invokestatic 46, 3) := by decide +kernel
theorem dX1_copyFrom_15 : decode cX1_copyFrom 15 = .ok (.aload_n 1, 1) := by decide +kernel
theorem dX1_copyFrom_16 : decode cX1_copyFrom 16 = .ok (.getfield 15, 3) := by decide +kernel
theorem dX1_copyFrom_19 : decode cX1_copyFrom 19 = .ok (.iconst 0, 1) := by decide +kernel
theorem dX1_copyFrom_20 : decode cX1_copyFrom 20 = .ok (.aload_n 0, 1) := by decide +kernel
theorem dX1_copyFrom_21 : decode cX1_copyFrom 21 = .ok (.getfield 15, 3) := by decide +kernel
theorem dX1_copyFrom_24 : decode cX1_copyFrom 24 = .ok (.iconst 0, 1) := by decide +kernel
theorem dX1_copyFrom_25 : decode cX1_copyFrom 25 = .ok (.bipush 9, 2) := by decide +kernel
theorem dX1_copyFrom_27 : decode cX1_copyFrom 27 = .ok (.invokestatic 46, 3) := by decide +kernel
theorem dX1_copyFrom_30 : decode cX1_copyFrom 30 = .ok (.aload_n 1, 1) := by decide +kernel
theorem dX1_copyFrom_31 : decode cX1_copyFrom 31 = .ok (.getfield 18, 3) := by decide +kernel
theorem dX1_copyFrom_34 : decode cX1_copyFrom 34 = .ok (.iconst 0, 1) := by decide +kernel
theorem dX1_copyFrom_35 : decode cX1_copyFrom 35 = .ok (.aload_n 0, 1) := by decide +kernel
theorem dX1_copyFrom_36 : decode cX1_copyFrom 36 = .ok (.getfield 18, 3) := by decide +kernel
theorem dX1_copyFrom_39 : decode cX1_copyFrom 39 = .ok (.iconst 0, 1) := by decide +kernel
theorem dX1_copyFrom_40 : decode cX1_copyFrom 40 = .ok (.bipush 9, 2) := by decide +kernel
theorem dX1_copyFrom_42 : decode cX1_copyFrom 42 = .ok (.invokestatic 46, 3) := by decide +kernel
theorem dX1_copyFrom_45 : decode cX1_copyFrom 45 = .ok (.aload_n 1, 1) := by decide +kernel
theorem dX1_copyFrom_46 : decode cX1_copyFrom 46 = .ok (.getfield 21, 3) := by decide +kernel
theorem dX1_copyFrom_49 : decode cX1_copyFrom 49 = .ok (.iconst 0, 1) := by decide +kernel
theorem dX1_copyFrom_50 : decode cX1_copyFrom 50 = .ok (.aload_n 0, 1) := by decide +kernel
theorem dX1_copyFrom_51 : decode cX1_copyFrom 51 = .ok (.getfield 21, 3) := by decide +kernel
theorem dX1_copyFrom_54 : decode cX1_copyFrom 54 = .ok (.iconst 0, 1) := by decide +kernel
theorem dX1_copyFrom_55 : decode cX1_copyFrom 55 = .ok (.bipush 9, 2) := by decide +kernel
theorem dX1_copyFrom_57 : decode cX1_copyFrom 57 = .ok (.invokestatic 46, 3) := by decide +kernel
theorem dX1_copyFrom_60 : decode cX1_copyFrom 60 = .ok (.aload_n 1, 1) := by decide +kernel
theorem dX1_copyFrom_61 : decode cX1_copyFrom 61 = .ok (.getfield 24, 3) := by decide +kernel
theorem dX1_copyFrom_64 : decode cX1_copyFrom 64 = .ok (.iconst 0, 1) := by decide +kernel
theorem dX1_copyFrom_65 : decode cX1_copyFrom 65 = .ok (.aload_n 0, 1) := by decide +kernel
theorem dX1_copyFrom_66 : decode cX1_copyFrom 66 = .ok (.getfield 24, 3) := by decide +kernel
theorem dX1_copyFrom_69 : decode cX1_copyFrom 69 = .ok (.iconst 0, 1) := by decide +kernel
theorem dX1_copyFrom_70 : decode cX1_copyFrom 70 = .ok (.bipush 9, 2) := by decide +kernel
theorem dX1_copyFrom_72 : decode cX1_copyFrom 72 = .ok (.invokestatic 46, 3) := by decide +kernel
theorem dX1_copyFrom_75 : decode cX1_copyFrom 75 = .ok (.aload_n 1, 1) := by decide +kernel
theorem dX1_copyFrom_76 : decode cX1_copyFrom 76 = .ok (.getfield 27, 3) := by decide +kernel
theorem dX1_copyFrom_79 : decode cX1_copyFrom 79 = .ok (.iconst 0, 1) := by decide +kernel
theorem dX1_copyFrom_80 : decode cX1_copyFrom 80 = .ok (.aload_n 0, 1) := by decide +kernel
theorem dX1_copyFrom_81 : decode cX1_copyFrom 81 = .ok (.getfield 27, 3) := by decide +kernel
theorem dX1_copyFrom_84 : decode cX1_copyFrom 84 = .ok (.iconst 0, 1) := by decide +kernel
theorem dX1_copyFrom_85 : decode cX1_copyFrom 85 = .ok (.iconst 3, 1) := by decide +kernel
theorem dX1_copyFrom_86 : decode cX1_copyFrom 86 = .ok (.invokestatic 46, 3) := by decide +kernel
theorem dX1_copyFrom_89 : decode cX1_copyFrom 89 = .ok (.aload_n 0, 1) := by decide +kernel
theorem dX1_copyFrom_90 : decode cX1_copyFrom 90 = .ok (.aload_n 1, 1) := by decide +kernel
theorem dX1_copyFrom_91 : decode cX1_copyFrom 91 = .ok (.getfield 33, 3) := by decide +kernel
theorem dX1_copyFrom_94 : decode cX1_copyFrom 94 = .ok (.putfield 33, 3) := by decide +kernel
theorem dX1_copyFrom_97 : decode cX1_copyFrom 97 = .ok (.aload_n 0, 1) := by decide +kernel
theorem dX1_copyFrom_98 : decode cX1_copyFrom 98 = .ok (.aload_n 1, 1) := by decide +kernel
theorem dX1_copyFrom_99 : decode cX1_copyFrom 99 = .ok (.getfield 37, 3) := by decide +kernel
theorem dX1_copyFrom_102 : decode cX1_copyFrom 102 = .ok (.putfield 37, 3) := by decide +kernel
theorem dX1_copyFrom_105 : decode cX1_copyFrom 105 = .ok (.aload_n 0, 1) := by decide +kernel
theorem dX1_copyFrom_106 : decode cX1_copyFrom 106 = .ok (.aload_n 1, 1) := by decide +kernel
theorem dX1_copyFrom_107 : decode cX1_copyFrom 107 = .ok (.getfield 40, 3) := by decide +kernel
theorem dX1_copyFrom_110 : decode cX1_copyFrom 110 = .ok (.putfield 40, 3) := by decide +kernel
theorem dX1_copyFrom_113 : decode cX1_copyFrom 113 = .ok (.aload_n 0, 1) := by decide +kernel
theorem dX1_copyFrom_114 : decode cX1_copyFrom 114 = .ok (.aload_n 1, 1) := by decide +kernel
theorem dX1_copyFrom_115 : decode cX1_copyFrom 115 = .ok (.getfield 43, 3) := by decide +kernel
theorem dX1_copyFrom_118 : decode cX1_copyFrom 118 = .ok (.putfield 43, 3) := by decide +kernel
theorem dX1_copyFrom_121 : decode cX1_copyFrom 121 = .ok (.return_, 1) := by decide +kernel
theorem dX1_add_0 : decode cX1_add 0 = .ok (.iload_n 1, 1) := by decide +kernel
theorem dX1_add_1 : decode cX1_add 1 = .ok (.iconst 1, 1) := by decide +kernel
theorem dX1_add_2 : decode cX1_add 2 = .ok (.if_icmp .lt 28, 3) := by decide +kernel
theorem dX1_add_5 : decode cX1_add 5 = .ok (.iload_n 1, 1) := by decide +kernel
theorem dX1_add_6 : decode cX1_add 6 = .ok (.bipush 12, 2) := by decide +kernel
theorem dX1_add_8 : decode cX1_add 8 = .ok (.if_icmp .gt 22, 3) := by decide +kernel
theorem dX1_add_11 : decode cX1_add 11 = .ok (.iload_n 2, 1) := by decide +kernel
theorem dX1_add_12 : decode cX1_add 12 = .ok (.ifCond .lt 18, 3) := by decide +kernel
theorem dX1_add_15 : decode cX1_add 15 = .ok (.iload_n 2, 1) := by decide +kernel
theorem dX1_add_16 : decode cX1_add 16 = .ok (.iconst 3, 1) := by decide +kernel
theorem dX1_add_17 : decode cX1_add 17 = .ok (.if_icmp .gt 13, 3) := by decide +kernel
theorem dX1_add_20 : decode cX1_add 20 = .ok (.iload_n 3, 1) := by decide +kernel
theorem dX1_add_21 : decode cX1_add 21 = .ok (.ifCond .lt 9, 3) := by decide +kernel
theorem dX1_add_24 : decode cX1_add 24 = .ok (.iload_n 3, 1) := by decide +kernel
theorem dX1_add_25 : decode cX1_add 25 = .ok (.bipush 9, 2) := by decide +kernel
theorem dX1_add_27 : decode cX1_add 27 = .ok (.if_icmp .le 5, 3) := by decide +kernel
theorem dX1_add_30 : decode cX1_add 30 = .ok (.iconst (-1), 1) := by decide +kernel
theorem dX1_add_31 : decode cX1_add 31 = .ok (.ireturn, 1) := by decide +kernel
theorem dX1_add_32 : decode cX1_add 32 = .ok (.aload_n 0, 1) := by decide +kernel
theorem dX1_add_33 : decode cX1_add 33 = .ok (.getfield 33, 3) := by decide +kernel
theorem dX1_add_36 : decode cX1_add 36 = .ok (.bipush 9, 2) := by decide +kernel
theorem dX1_add_38 : decode cX1_add 38 = .ok (.if_icmp .lt 6, 3) := by decide +kernel
theorem dX1_add_41 : decode cX1_add 41 = .ok (.bipush (-5), 2) := by decide +kernel
theorem dX1_add_43 : decode cX1_add 43 = .ok (.ireturn, 1) := by decide +kernel
theorem dX1_add_44 : decode cX1_add 44 = .ok (.aload_n 0, 1) := by decide +kernel
theorem dX1_add_45 : decode cX1_add 45 = .ok (.getfield 9, 3) := by decide +kernel
theorem dX1_add_48 : decode cX1_add 48 = .ok (.aload_n 0, 1) := by decide +kernel
theorem dX1_add_49 : decode cX1_add 49 = .ok (.getfield 33, 3) := by decide +kernel
theorem dX1_add_52 : decode cX1_add 52 = .ok (.iload_n 1, 1) := by decide +kernel
theorem dX1_add_53 : decode cX1_add 53 = .ok (.iastore, 1) := by decide +kernel
theorem dX1_add_54 : decode cX1_add 54 = .ok (.aload_n 0, 1) := by decide +kernel
theorem dX1_add_55 : decode cX1_add 55 = .ok (.getfield 15, 3) := by decide +kernel
theorem dX1_add_58 : decode cX1_add 58 = .ok (.aload_n 0, 1) := by decide +kernel
theorem dX1_add_59 : decode cX1_add 59 = .ok (.getfield 33, 3) := by decide +kernel
theorem dX1_add_62 : decode cX1_add 62 = .ok (.iload_n 2, 1) := by decide +kernel
theorem dX1_add_63 : decode cX1_add 63 = .ok (.iastore, 1) := by decide +kernel
theorem dX1_add_64 : decode cX1_add 64 = .ok (.aload_n 0, 1) := by decide +kernel
theorem dX1_add_65 : decode cX1_add 65 = .ok (.getfield 18, 3) := by decide +kernel
theorem dX1_add_68 : decode cX1_add 68 = .ok (.aload_n 0, 1) := by decide +kernel
theorem dX1_add_69 : decode cX1_add 69 = .ok (.getfield 33, 3) := by decide +kernel
theorem dX1_add_72 : decode cX1_add 72 = .ok (.iload_n 3, 1) := by decide +kernel
theorem dX1_add_73 : decode cX1_add 73 = .ok (.iastore, 1) := by decide +kernel
theorem dX1_add_74 : decode cX1_add 74 = .ok (.aload_n 0, 1) := by decide +kernel
theorem dX1_add_75 : decode cX1_add 75 = .ok (.getfield 21, 3) := by decide +kernel
theorem dX1_add_78 : decode cX1_add 78 = .ok (.aload_n 0, 1) := by decide +kernel
theorem dX1_add_79 : decode cX1_add 79 = .ok (.getfield 33, 3) := by decide +kernel
theorem dX1_add_82 : decode cX1_add 82 = .ok (.iconst (-1), 1) := by decide +kernel
theorem dX1_add_83 : decode cX1_add 83 = .ok (.iastore, 1) := by decide +kernel
theorem dX1_add_84 : decode cX1_add 84 = .ok (.aload_n 0, 1) := by decide +kernel
theorem dX1_add_85 : decode cX1_add 85 = .ok (.getfield 24, 3) := by decide +kernel
theorem dX1_add_88 : decode cX1_add 88 = .ok (.aload_n 0, 1) := by decide +kernel
theorem dX1_add_89 : decode cX1_add 89 = .ok (.getfield 33, 3) := by decide +kernel
theorem dX1_add_92 : decode cX1_add 92 = .ok (.iconst (-1), 1) := by decide +kernel
theorem dX1_add_93 : decode cX1_add 93 = .ok (.iastore, 1) := by decide +kernel
theorem dX1_add_94 : decode cX1_add 94 = .ok (.aload_n 0, 1) := by decide +kernel
theorem dX1_add_95 : decode cX1_add 95 = .ok (.dup, 1) := by decide +kernel
theorem dX1_add_96 : decode cX1_add 96 = .ok (.getfield 33, 3) := by decide +kernel
theorem dX1_add_99 : decode cX1_add 99 = .ok (.iconst 1, 1) := by decide +kernel
theorem dX1_add_100 : decode cX1_add 100 = .ok (.iadd, 1) := by decide +kernel
theorem dX1_add_101 : decode cX1_add 101 = .ok (.putfield 33, 3) := by decide +kernel
theorem dX1_add_104 : decode cX1_add 104 = .ok (.aload_n 0, 1) := by decide +kernel
theorem dX1_add_105 : decode cX1_add 105 = .ok (.getfield 33, 3) := by decide +kernel
theorem dX1_add_108 : decode cX1_add 108 = .ok (.iconst 1, 1) := by decide +kernel
theorem dX1_add_109 : decode cX1_add 109 = .ok (.isub, 1) := by decide +kernel
theorem dX1_add_110 : decode cX1_add 110 = .ok (.ireturn, 1) := by decide +kernel
theorem dX1_has_0 : decode cX1_has 0 = .ok (.iload_n 1, 1) := by decide +kernel
theorem dX1_has_1 : decode cX1_has 1 = .ok (.ifCond .lt 15, 3) := by decide +kernel
theorem dX1_has_4 : decode cX1_has 4 = .ok (.iload_n 1, 1) := by decide +kernel
theorem dX1_has_5 : decode cX1_has 5 = .ok (.aload_n 0, 1) := by decide +kernel
theorem dX1_has_6 : decode cX1_has 6 = .ok (.getfield 33, 3) := by decide +kernel
theorem dX1_has_9 : decode cX1_has 9 = .ok (.if_icmp .ge 7, 3) := by decide +kernel
theorem dX1_has_12 : decode cX1_has 12 = .ok (.iconst 1, 1) := by decide +kernel
theorem dX1_has_13 : decode cX1_has 13 = .ok (.goto 4, 3) := by decide +kernel
theorem dX1_has_16 : decode cX1_has 16 = .ok (.iconst 0, 1) := by decide +kernel
theorem dX1_has_17 : decode cX1_has 17 = .ok (.ireturn, 1) := by decide +kernel
theorem dX1_isLaid_0 : decode cX1_isLaid 0 = .ok (.aload_n 0, 1) := by decide +kernel
theorem dX1_isLaid_1 : decode cX1_isLaid 1 = .ok (.iload_n 1, 1) := by decide +kernel
theorem dX1_isLaid_2 : decode cX1_isLaid 2 = .ok (.invokevirtual 52, 3) := by decide +kernel
theorem dX1_isLaid_5 : decode cX1_isLaid 5 = .ok (.ifCond .eq 17, 3) := by decide +kernel
theorem dX1_isLaid_8 : decode cX1_isLaid 8 = .ok (.aload_n 0, 1) := by decide +kernel
theorem dX1_isLaid_9 : decode cX1_isLaid 9 = .ok (.getfield 21, 3) := by decide +kernel
theorem dX1_isLaid_12 : decode cX1_isLaid 12 = .ok (.iload_n 1, 1) := by decide +kernel
theorem dX1_isLaid_13 : decode cX1_isLaid 13 = .ok (.iaload, 1) := by decide +kernel
theorem dX1_isLaid_14 : decode cX1_isLaid 14 = .ok (.iconst (-1), 1) := by decide +kernel
theorem dX1_isLaid_15 : decode cX1_isLaid 15 = .ok (.if_icmp .eq 7, 3) := by decide +kernel
theorem dX1_isLaid_18 : decode cX1_isLaid 18 = .ok (.iconst 1, 1) := by decide +kernel
theorem dX1_isLaid_19 : decode cX1_isLaid 19 = .ok (.goto 4, 3) := by decide +kernel
theorem dX1_isLaid_22 : decode cX1_isLaid 22 = .ok (.iconst 0, 1) := by decide +kernel
theorem dX1_isLaid_23 : decode cX1_isLaid 23 = .ok (.ireturn, 1) := by decide +kernel
theorem dX1_isReady_0 : decode cX1_isReady 0 = .ok (.aload_n 0, 1) := by decide +kernel
theorem dX1_isReady_1 : decode cX1_isReady 1 = .ok (.iload_n 1, 1) := by decide +kernel
theorem dX1_isReady_2 : decode cX1_isReady 2 = .ok (.invokevirtual 52, 3) := by decide +kernel
theorem dX1_isReady_5 : decode cX1_isReady 5 = .ok (.ifCond .eq 26, 3) := by decide +kernel
theorem dX1_isReady_8 : decode cX1_isReady 8 = .ok (.aload_n 0, 1) := by decide +kernel
theorem dX1_isReady_9 : decode cX1_isReady 9 = .ok (.getfield 21, 3) := by decide +kernel
theorem dX1_isReady_12 : decode cX1_isReady 12 = .ok (.iload_n 1, 1) := by decide +kernel
theorem dX1_isReady_13 : decode cX1_isReady 13 = .ok (.iaload, 1) := by decide +kernel
theorem dX1_isReady_14 : decode cX1_isReady 14 = .ok (.iconst (-1), 1) := by decide +kernel
theorem dX1_isReady_15 : decode cX1_isReady 15 = .ok (.if_icmp .ne 16, 3) := by decide +kernel
theorem dX1_isReady_18 : decode cX1_isReady 18 = .ok (.aload_n 0, 1) := by decide +kernel
theorem dX1_isReady_19 : decode cX1_isReady 19 = .ok (.getfield 18, 3) := by decide +kernel
theorem dX1_isReady_22 : decode cX1_isReady 22 = .ok (.iload_n 1, 1) := by decide +kernel
theorem dX1_isReady_23 : decode cX1_isReady 23 = .ok (.iaload, 1) := by decide +kernel
theorem dX1_isReady_24 : decode cX1_isReady 24 = .ok (.ifCond .le 7, 3) := by decide +kernel
theorem dX1_isReady_27 : decode cX1_isReady 27 = .ok (.iconst 1, 1) := by decide +kernel
theorem dX1_isReady_28 : decode cX1_isReady 28 = .ok (.goto 4, 3) := by decide +kernel
theorem dX1_isReady_31 : decode cX1_isReady 31 = .ok (.iconst 0, 1) := by decide +kernel
theorem dX1_isReady_32 : decode cX1_isReady 32 = .ok (.ireturn, 1) := by decide +kernel
theorem dX1_laidCarpets_0 : decode cX1_laidCarpets 0 = .ok (.iconst 0, 1) := by decide +kernel
theorem dX1_laidCarpets_1 : decode cX1_laidCarpets 1 = .ok (.istore_n 1, 1) := by decide +kernel
theorem dX1_laidCarpets_2 : decode cX1_laidCarpets 2 = .ok (.iconst 0, 1) := by decide +kernel
theorem dX1_laidCarpets_3 : decode cX1_laidCarpets 3 = .ok (.istore_n 2, 1) := by decide +kernel
theorem dX1_laidCarpets_4 : decode cX1_laidCarpets 4 = .ok (.iload_n 2, 1) := by decide +kernel
theorem dX1_laidCarpets_5 : decode cX1_laidCarpets 5 = .ok (.aload_n 0, 1) := by decide +kernel
theorem dX1_laidCarpets_6 : decode cX1_laidCarpets 6 = .ok (.getfield 33, 3) := by decide +kernel
theorem dX1_laidCarpets_9 : decode cX1_laidCarpets 9 = .ok (.if_icmp .ge 25, 3) := by decide +kernel
theorem dX1_laidCarpets_12 : decode cX1_laidCarpets 12 = .ok (.iload_n 1, 1) := by decide +kernel
theorem dX1_laidCarpets_13 : decode cX1_laidCarpets 13 = .ok (.aload_n 0, 1) := by decide +kernel
theorem dX1_laidCarpets_14 : decode cX1_laidCarpets 14 = .ok (.iload_n 2, 1) := by decide +kernel
theorem dX1_laidCarpets_15 : decode cX1_laidCarpets 15 = .ok (.invokevirtual 56, 3) := by decide +kernel
theorem dX1_laidCarpets_18 : decode cX1_laidCarpets 18 = .ok (.ifCond .eq 7, 3) := by decide +kernel
theorem dX1_laidCarpets_21 : decode cX1_laidCarpets 21 = .ok (.iconst 1, 1) := by decide +kernel
theorem dX1_laidCarpets_22 : decode cX1_laidCarpets 22 = .ok (.goto 4, 3) := by decide +kernel
theorem dX1_laidCarpets_25 : decode cX1_laidCarpets 25 = .ok (.iconst 0, 1) := by decide +kernel
theorem dX1_laidCarpets_26 : decode cX1_laidCarpets 26 = .ok (.iadd, 1) := by decide +kernel
theorem dX1_laidCarpets_27 : decode cX1_laidCarpets 27 = .ok (.istore_n 1, 1) := by decide +kernel
theorem dX1_laidCarpets_28 : decode cX1_laidCarpets 28 = .ok (.iinc 2 1, 3) := by decide +kernel
theorem dX1_laidCarpets_31 : decode cX1_laidCarpets 31 = .ok (.goto (-27), 3) := by decide +kernel
theorem dX1_laidCarpets_34 : decode cX1_laidCarpets 34 = .ok (.iload_n 1, 1) := by decide +kernel
theorem dX1_laidCarpets_35 : decode cX1_laidCarpets 35 = .ok (.ireturn, 1) := by decide +kernel
theorem dX1_rags_0 : decode cX1_rags 0 = .ok (.iconst 0, 1) := by decide +kernel
theorem dX1_rags_1 : decode cX1_rags 1 = .ok (.istore_n 1, 1) := by decide +kernel
theorem dX1_rags_2 : decode cX1_rags 2 = .ok (.iconst 0, 1) := by decide +kernel
theorem dX1_rags_3 : decode cX1_rags 3 = .ok (.istore_n 2, 1) := by decide +kernel
theorem dX1_rags_4 : decode cX1_rags 4 = .ok (.iload_n 2, 1) := by decide +kernel
theorem dX1_rags_5 : decode cX1_rags 5 = .ok (.aload_n 0, 1) := by decide +kernel
theorem dX1_rags_6 : decode cX1_rags 6 = .ok (.getfield 33, 3) := by decide +kernel
theorem dX1_rags_9 : decode cX1_rags 9 = .ok (.if_icmp .ge 26, 3) := by decide +kernel
theorem dX1_rags_12 : decode cX1_rags 12 = .ok (.iload_n 1, 1) := by decide +kernel
theorem dX1_rags_13 : decode cX1_rags 13 = .ok (.aload_n 0, 1) := by decide +kernel
theorem dX1_rags_14 : decode cX1_rags 14 = .ok (.getfield 18, 3) := by decide +kernel
theorem dX1_rags_17 : decode cX1_rags 17 = .ok (.iload_n 2, 1) := by decide +kernel
theorem dX1_rags_18 : decode cX1_rags 18 = .ok (.iaload, 1) := by decide +kernel
theorem dX1_rags_19 : decode cX1_rags 19 = .ok (.ifCond .ne 7, 3) := by decide +kernel
theorem dX1_rags_22 : decode cX1_rags 22 = .ok (.iconst 1, 1) := by decide +kernel
theorem dX1_rags_23 : decode cX1_rags 23 = .ok (.goto 4, 3) := by decide +kernel
theorem dX1_rags_26 : decode cX1_rags 26 = .ok (.iconst 0, 1) := by decide +kernel
theorem dX1_rags_27 : decode cX1_rags 27 = .ok (.iadd, 1) := by decide +kernel
theorem dX1_rags_28 : decode cX1_rags 28 = .ok (.istore_n 1, 1) := by decide +kernel
theorem dX1_rags_29 : decode cX1_rags 29 = .ok (.iinc 2 1, 3) := by decide +kernel
theorem dX1_rags_32 : decode cX1_rags 32 = .ok (.goto (-28), 3) := by decide +kernel
theorem dX1_rags_35 : decode cX1_rags 35 = .ok (.iload_n 1, 1) := by decide +kernel
theorem dX1_rags_36 : decode cX1_rags 36 = .ok (.ireturn, 1) := by decide +kernel
theorem dX1_areaWithoutRags_0 : decode cX1_areaWithoutRags 0 = .ok (.iconst 0, 1) := by decide +kernel
theorem dX1_areaWithoutRags_1 : decode cX1_areaWithoutRags 1 = .ok (.istore_n 1, 1) := by decide +kernel
theorem dX1_areaWithoutRags_2 : decode cX1_areaWithoutRags 2 = .ok (.iconst 0, 1) := by decide +kernel
theorem dX1_areaWithoutRags_3 : decode cX1_areaWithoutRags 3 = .ok (.istore_n 2, 1) := by decide +kernel
theorem dX1_areaWithoutRags_4 : decode cX1_areaWithoutRags 4 = .ok (.iload_n 2, 1) := by decide +kernel
theorem dX1_areaWithoutRags_5 : decode cX1_areaWithoutRags 5 = .ok (.aload_n 0, 1) := by decide +kernel
theorem dX1_areaWithoutRags_6 : decode cX1_areaWithoutRags 6 = .ok (.getfield 33, 3) := by decide +kernel
theorem dX1_areaWithoutRags_9 : decode cX1_areaWithoutRags 9 = .ok (.if_icmp .ge 38, 3) := by decide +kernel
theorem dX1_areaWithoutRags_12 : decode cX1_areaWithoutRags 12 = .ok (.iload_n 1, 1) := by decide +kernel
theorem dX1_areaWithoutRags_13 : decode cX1_areaWithoutRags 13 = .ok (.aload_n 0, 1) := by decide +kernel
theorem dX1_areaWithoutRags_14 : decode cX1_areaWithoutRags 14 = .ok (.getfield 18, 3) := by decide +kernel
theorem dX1_areaWithoutRags_17 : decode cX1_areaWithoutRags 17 = .ok (.iload_n 2, 1) := by decide +kernel
theorem dX1_areaWithoutRags_18 : decode cX1_areaWithoutRags 18 = .ok (.iaload, 1) := by decide +kernel
theorem dX1_areaWithoutRags_19 : decode cX1_areaWithoutRags 19 = .ok (.ifCond .le 19, 3) := by decide +kernel
theorem dX1_areaWithoutRags_22 : decode cX1_areaWithoutRags 22 = .ok (.aload_n 0, 1) := by decide +kernel
theorem dX1_areaWithoutRags_23 : decode cX1_areaWithoutRags 23 = .ok (.getfield 9, 3) := by decide +kernel
theorem dX1_areaWithoutRags_26 : decode cX1_areaWithoutRags 26 = .ok (.iload_n 2, 1) := by decide +kernel
theorem dX1_areaWithoutRags_27 : decode cX1_areaWithoutRags 27 = .ok (.iaload, 1) := by decide +kernel
theorem dX1_areaWithoutRags_28 : decode cX1_areaWithoutRags 28 = .ok (.aload_n 0, 1) := by decide +kernel
theorem dX1_areaWithoutRags_29 : decode cX1_areaWithoutRags 29 = .ok (.getfield 9, 3) := by decide +kernel
theorem dX1_areaWithoutRags_32 : decode cX1_areaWithoutRags 32 = .ok (.iload_n 2, 1) := by decide +kernel
theorem dX1_areaWithoutRags_33 : decode cX1_areaWithoutRags 33 = .ok (.iaload, 1) := by decide +kernel
theorem dX1_areaWithoutRags_34 : decode cX1_areaWithoutRags 34 = .ok (.imul, 1) := by decide +kernel
theorem dX1_areaWithoutRags_35 : decode cX1_areaWithoutRags 35 = .ok (.goto 4, 3) := by decide +kernel
theorem dX1_areaWithoutRags_38 : decode cX1_areaWithoutRags 38 = .ok (.iconst 0, 1) := by decide +kernel
theorem dX1_areaWithoutRags_39 : decode cX1_areaWithoutRags 39 = .ok (.iadd, 1) := by decide +kernel
theorem dX1_areaWithoutRags_40 : decode cX1_areaWithoutRags 40 = .ok (.istore_n 1, 1) := by decide +kernel
theorem dX1_areaWithoutRags_41 : decode cX1_areaWithoutRags 41 = .ok (.iinc 2 1, 3) := by decide +kernel
theorem dX1_areaWithoutRags_44 : decode cX1_areaWithoutRags 44 = .ok (.goto (-40), 3) := by decide +kernel
theorem dX1_areaWithoutRags_47 : decode cX1_areaWithoutRags 47 = .ok (.iload_n 1, 1) := by decide +kernel
theorem dX1_areaWithoutRags_48 : decode cX1_areaWithoutRags 48 = .ok (.ireturn, 1) := by decide +kernel
theorem dX1_bareCells_0 : decode cX1_bareCells 0 = .ok (.aload_n 0, 1) := by decide +kernel
theorem dX1_bareCells_1 : decode cX1_bareCells 1 = .ok (.getfield 37, 3) := by decide +kernel
theorem dX1_bareCells_4 : decode cX1_bareCells 4 = .ok (.aload_n 0, 1) := by decide +kernel
theorem dX1_bareCells_5 : decode cX1_bareCells 5 = .ok (.getfield 40, 3) := by decide +kernel
theorem dX1_bareCells_8 : decode cX1_bareCells 8 = .ok (.imul, 1) := by decide +kernel
theorem dX1_bareCells_9 : decode cX1_bareCells 9 = .ok (.istore_n 1, 1) := by decide +kernel
theorem dX1_bareCells_10 : decode cX1_bareCells 10 = .ok (.iconst 0, 1) := by decide +kernel
theorem dX1_bareCells_11 : decode cX1_bareCells 11 = .ok (.istore_n 2, 1) := by decide +kernel
theorem dX1_bareCells_12 : decode cX1_bareCells 12 = .ok (.iload_n 2, 1) := by decide +kernel
theorem dX1_bareCells_13 : decode cX1_bareCells 13 = .ok (.aload_n 0, 1) := by decide +kernel
theorem dX1_bareCells_14 : decode cX1_bareCells 14 = .ok (.getfield 33, 3) := by decide +kernel
theorem dX1_bareCells_17 : decode cX1_bareCells 17 = .ok (.if_icmp .ge 37, 3) := by decide +kernel
theorem dX1_bareCells_20 : decode cX1_bareCells 20 = .ok (.iload_n 1, 1) := by decide +kernel
theorem dX1_bareCells_21 : decode cX1_bareCells 21 = .ok (.aload_n 0, 1) := by decide +kernel
theorem dX1_bareCells_22 : decode cX1_bareCells 22 = .ok (.iload_n 2, 1) := by decide +kernel
theorem dX1_bareCells_23 : decode cX1_bareCells 23 = .ok (.invokevirtual 56, 3) := by decide +kernel
theorem dX1_bareCells_26 : decode cX1_bareCells 26 = .ok (.ifCond .eq 19, 3) := by decide +kernel
theorem dX1_bareCells_29 : decode cX1_bareCells 29 = .ok (.aload_n 0, 1) := by decide +kernel
theorem dX1_bareCells_30 : decode cX1_bareCells 30 = .ok (.getfield 9, 3) := by decide +kernel
theorem dX1_bareCells_33 : decode cX1_bareCells 33 = .ok (.iload_n 2, 1) := by decide +kernel
theorem dX1_bareCells_34 : decode cX1_bareCells 34 = .ok (.iaload, 1) := by decide +kernel
theorem dX1_bareCells_35 : decode cX1_bareCells 35 = .ok (.aload_n 0, 1) := by decide +kernel
theorem dX1_bareCells_36 : decode cX1_bareCells 36 = .ok (.getfield 9, 3) := by decide +kernel
theorem dX1_bareCells_39 : decode cX1_bareCells 39 = .ok (.iload_n 2, 1) := by decide +kernel
theorem dX1_bareCells_40 : decode cX1_bareCells 40 = .ok (.iaload, 1) := by decide +kernel
theorem dX1_bareCells_41 : decode cX1_bareCells 41 = .ok (.imul, 1) := by decide +kernel
theorem dX1_bareCells_42 : decode cX1_bareCells 42 = .ok (.goto 4, 3) := by decide +kernel
theorem dX1_bareCells_45 : decode cX1_bareCells 45 = .ok (.iconst 0, 1) := by decide +kernel
theorem dX1_bareCells_46 : decode cX1_bareCells 46 = .ok (.isub, 1) := by decide +kernel
theorem dX1_bareCells_47 : decode cX1_bareCells 47 = .ok (.istore_n 1, 1) := by decide +kernel
theorem dX1_bareCells_48 : decode cX1_bareCells 48 = .ok (.iinc 2 1, 3) := by decide +kernel
theorem dX1_bareCells_51 : decode cX1_bareCells 51 = .ok (.goto (-39), 3) := by decide +kernel
theorem dX1_bareCells_54 : decode cX1_bareCells 54 = .ok (.iload_n 1, 1) := by decide +kernel
theorem dX1_bareCells_55 : decode cX1_bareCells 55 = .ok (.ireturn, 1) := by decide +kernel
theorem dX1_carpetOn_0 : decode cX1_carpetOn 0 = .ok (.iconst 0, 1) := by decide +kernel
theorem dX1_carpetOn_1 : decode cX1_carpetOn 1 = .ok (.istore_n 3, 1) := by decide +kernel
theorem dX1_carpetOn_2 : decode cX1_carpetOn 2 = .ok (.iload_n 3, 1) := by decide +kernel
theorem dX1_carpetOn_3 : decode cX1_carpetOn 3 = .ok (.aload_n 0, 1) := by decide +kernel
theorem dX1_carpetOn_4 : decode cX1_carpetOn 4 = .ok (.getfield 33, 3) := by decide +kernel
theorem dX1_carpetOn_7 : decode cX1_carpetOn 7 = .ok (.if_icmp .ge 73, 3) := by decide +kernel
theorem dX1_carpetOn_10 : decode cX1_carpetOn 10 = .ok (.aload_n 0, 1) := by decide +kernel
theorem dX1_carpetOn_11 : decode cX1_carpetOn 11 = .ok (.iload_n 3, 1) := by decide +kernel
theorem dX1_carpetOn_12 : decode cX1_carpetOn 12 = .ok (.invokevirtual 56, 3) := by decide +kernel
theorem dX1_carpetOn_15 : decode cX1_carpetOn 15 = .ok (.ifCond .eq 59, 3) := by decide +kernel
theorem dX1_carpetOn_18 : decode cX1_carpetOn 18 = .ok (.iload_n 1, 1) := by decide +kernel
theorem dX1_carpetOn_19 : decode cX1_carpetOn 19 = .ok (.aload_n 0, 1) := by decide +kernel
theorem dX1_carpetOn_20 : decode cX1_carpetOn 20 = .ok (.getfield 21, 3) := by decide +kernel
theorem dX1_carpetOn_23 : decode cX1_carpetOn 23 = .ok (.iload_n 3, 1) := by decide +kernel
theorem dX1_carpetOn_24 : decode cX1_carpetOn 24 = .ok (.iaload, 1) := by decide +kernel
theorem dX1_carpetOn_25 : decode cX1_carpetOn 25 = .ok (.if_icmp .lt 49, 3) := by decide +kernel
theorem dX1_carpetOn_28 : decode cX1_carpetOn 28 = .ok (.iload_n 1, 1) := by decide +kernel
theorem dX1_carpetOn_29 : decode cX1_carpetOn 29 = .ok (.aload_n 0, 1) := by decide +kernel
theorem dX1_carpetOn_30 : decode cX1_carpetOn 30 = .ok (.getfield 21, 3) := by decide +kernel
theorem dX1_carpetOn_33 : decode cX1_carpetOn 33 = .ok (.iload_n 3, 1) := by decide +kernel
theorem dX1_carpetOn_34 : decode cX1_carpetOn 34 = .ok (.iaload, 1) := by decide +kernel
theorem dX1_carpetOn_35 : decode cX1_carpetOn 35 = .ok (.aload_n 0, 1) := by decide +kernel
theorem dX1_carpetOn_36 : decode cX1_carpetOn 36 = .ok (.getfield 9, 3) := by decide +kernel
theorem dX1_carpetOn_39 : decode cX1_carpetOn 39 = .ok (.iload_n 3, 1) := by decide +kernel
theorem dX1_carpetOn_40 : decode cX1_carpetOn 40 = .ok (.iaload, 1) := by decide +kernel
theorem dX1_carpetOn_41 : decode cX1_carpetOn 41 = .ok (.iadd, 1) := by decide +kernel
theorem dX1_carpetOn_42 : decode cX1_carpetOn 42 = .ok (.if_icmp .ge 32, 3) := by decide +kernel
theorem dX1_carpetOn_45 : decode cX1_carpetOn 45 = .ok (.iload_n 2, 1) := by decide +kernel
theorem dX1_carpetOn_46 : decode cX1_carpetOn 46 = .ok (.aload_n 0, 1) := by decide +kernel
theorem dX1_carpetOn_47 : decode cX1_carpetOn 47 = .ok (.getfield 24, 3) := by decide +kernel
theorem dX1_carpetOn_50 : decode cX1_carpetOn 50 = .ok (.iload_n 3, 1) := by decide +kernel
theorem dX1_carpetOn_51 : decode cX1_carpetOn 51 = .ok (.iaload, 1) := by decide +kernel
theorem dX1_carpetOn_52 : decode cX1_carpetOn 52 = .ok (.if_icmp .lt 22, 3) := by decide +kernel
theorem dX1_carpetOn_55 : decode cX1_carpetOn 55 = .ok (.iload_n 2, 1) := by decide +kernel
theorem dX1_carpetOn_56 : decode cX1_carpetOn 56 = .ok (.aload_n 0, 1) := by decide +kernel
theorem dX1_carpetOn_57 : decode cX1_carpetOn 57 = .ok (.getfield 24, 3) := by decide +kernel
theorem dX1_carpetOn_60 : decode cX1_carpetOn 60 = .ok (.iload_n 3, 1) := by decide +kernel
theorem dX1_carpetOn_61 : decode cX1_carpetOn 61 = .ok (.iaload, 1) := by decide +kernel
theorem dX1_carpetOn_62 : decode cX1_carpetOn 62 = .ok (.aload_n 0, 1) := by decide +kernel
theorem dX1_carpetOn_63 : decode cX1_carpetOn 63 = .ok (.getfield 9, 3) := by decide +kernel
theorem dX1_carpetOn_66 : decode cX1_carpetOn 66 = .ok (.iload_n 3, 1) := by decide +kernel
theorem dX1_carpetOn_67 : decode cX1_carpetOn 67 = .ok (.iaload, 1) := by decide +kernel
theorem dX1_carpetOn_68 : decode cX1_carpetOn 68 = .ok (.iadd, 1) := by decide +kernel
theorem dX1_carpetOn_69 : decode cX1_carpetOn 69 = .ok (.if_icmp .ge 5, 3) := by decide +kernel
theorem dX1_carpetOn_72 : decode cX1_carpetOn 72 = .ok (.iload_n 3, 1) := by decide +kernel
theorem dX1_carpetOn_73 : decode cX1_carpetOn 73 = .ok (.ireturn, 1) := by decide +kernel
theorem dX1_carpetOn_74 : decode cX1_carpetOn 74 = .ok (.iinc 3 1, 3) := by decide +kernel
theorem dX1_carpetOn_77 : decode cX1_carpetOn 77 = .ok (.goto (-75), 3) := by decide +kernel
theorem dX1_carpetOn_80 : decode cX1_carpetOn 80 = .ok (.iconst (-1), 1) := by decide +kernel
theorem dX1_carpetOn_81 : decode cX1_carpetOn 81 = .ok (.ireturn, 1) := by decide +kernel
theorem dX1_hasPlaceFor_0 : decode cX1_hasPlaceFor 0 = .ok (.aload_n 0, 1) := by decide +kernel
theorem dX1_hasPlaceFor_1 : decode cX1_hasPlaceFor 1 = .ok (.iload_n 1, 1) := by decide +kernel
theorem dX1_hasPlaceFor_2 : decode cX1_hasPlaceFor 2 = .ok (.invokevirtual 59, 3) := by decide +kernel
theorem dX1_hasPlaceFor_5 : decode cX1_hasPlaceFor 5 = .ok (.ifCond .eq 41, 3) := by decide +kernel
theorem dX1_hasPlaceFor_8 : decode cX1_hasPlaceFor 8 = .ok (.iload_n 2, 1) := by decide +kernel
theorem dX1_hasPlaceFor_9 : decode cX1_hasPlaceFor 9 = .ok (.ifCond .lt 37, 3) := by decide +kernel
theorem dX1_hasPlaceFor_12 : decode cX1_hasPlaceFor 12 = .ok (.iload_n 3, 1) := by decide +kernel
theorem dX1_hasPlaceFor_13 : decode cX1_hasPlaceFor 13 = .ok (.ifCond .lt 33, 3) := by decide +kernel
theorem dX1_hasPlaceFor_16 : decode cX1_hasPlaceFor 16 = .ok (.iload_n 2, 1) := by decide +kernel
theorem dX1_hasPlaceFor_17 : decode cX1_hasPlaceFor 17 = .ok (.aload_n 0, 1) := by decide +kernel
theorem dX1_hasPlaceFor_18 : decode cX1_hasPlaceFor 18 = .ok (.getfield 37, 3) := by decide +kernel
theorem dX1_hasPlaceFor_21 : decode cX1_hasPlaceFor 21 = .ok (.aload_n 0, 1) := by decide +kernel
theorem dX1_hasPlaceFor_22 : decode cX1_hasPlaceFor 22 = .ok (.getfield 9, 3) := by decide +kernel
theorem dX1_hasPlaceFor_25 : decode cX1_hasPlaceFor 25 = .ok (.iload_n 1, 1) := by decide +kernel
theorem dX1_hasPlaceFor_26 : decode cX1_hasPlaceFor 26 = .ok (.iaload, 1) := by decide +kernel
theorem dX1_hasPlaceFor_27 : decode cX1_hasPlaceFor 27 = .ok (.isub, 1) := by decide +kernel
theorem dX1_hasPlaceFor_28 : decode cX1_hasPlaceFor 28 = .ok (.if_icmp .gt 18, 3) := by decide +kernel
theorem dX1_hasPlaceFor_31 : decode cX1_hasPlaceFor 31 = .ok (.iload_n 3, 1) := by decide +kernel
theorem dX1_hasPlaceFor_32 : decode cX1_hasPlaceFor 32 = .ok (.aload_n 0, 1) := by decide +kernel
theorem dX1_hasPlaceFor_33 : decode cX1_hasPlaceFor 33 = .ok (.getfield 40, 3) := by decide +kernel
theorem dX1_hasPlaceFor_36 : decode cX1_hasPlaceFor 36 = .ok (.aload_n 0, 1) := by decide +kernel
theorem dX1_hasPlaceFor_37 : decode cX1_hasPlaceFor 37 = .ok (.getfield 9, 3) := by decide +kernel
theorem dX1_hasPlaceFor_40 : decode cX1_hasPlaceFor 40 = .ok (.iload_n 1, 1) := by decide +kernel
theorem dX1_hasPlaceFor_41 : decode cX1_hasPlaceFor 41 = .ok (.iaload, 1) := by decide +kernel
theorem dX1_hasPlaceFor_42 : decode cX1_hasPlaceFor 42 = .ok (.isub, 1) := by decide +kernel
theorem dX1_hasPlaceFor_43 : decode cX1_hasPlaceFor 43 = .ok (.if_icmp .le 5, 3) := by decide +kernel
theorem dX1_hasPlaceFor_46 : decode cX1_hasPlaceFor 46 = .ok (.iconst 0, 1) := by decide +kernel
theorem dX1_hasPlaceFor_47 : decode cX1_hasPlaceFor 47 = .ok (.ireturn, 1) := by decide +kernel
theorem dX1_hasPlaceFor_48 : decode cX1_hasPlaceFor 48 = .ok (.iconst 0, 1) := by decide +kernel
theorem dX1_hasPlaceFor_49 : decode cX1_hasPlaceFor 49 = .ok (.istore 4, 2) := by decide +kernel
theorem dX1_hasPlaceFor_51 : decode cX1_hasPlaceFor 51 = .ok (.iload 4, 2) := by decide +kernel
theorem dX1_hasPlaceFor_53 : decode cX1_hasPlaceFor 53 = .ok (.aload_n 0, 1) := by decide +kernel
theorem dX1_hasPlaceFor_54 : decode cX1_hasPlaceFor 54 = .ok (.getfield 33, 3) := by decide +kernel
theorem dX1_hasPlaceFor_57 : decode cX1_hasPlaceFor 57 = .ok (.if_icmp .ge 94, 3) := by decide +kernel
theorem dX1_hasPlaceFor_60 : decode cX1_hasPlaceFor 60 = .ok (.aload_n 0, 1) := by decide +kernel
theorem dX1_hasPlaceFor_61 : decode cX1_hasPlaceFor 61 = .ok (.iload 4, 2) := by decide +kernel
theorem dX1_hasPlaceFor_63 : decode cX1_hasPlaceFor 63 = .ok (.invokevirtual 56, 3) := by decide +kernel
theorem dX1_hasPlaceFor_66 : decode cX1_hasPlaceFor 66 = .ok (.ifCond .eq 79, 3) := by decide +kernel
theorem dX1_hasPlaceFor_69 : decode cX1_hasPlaceFor 69 = .ok (.iload_n 2, 1) := by decide +kernel
theorem dX1_hasPlaceFor_70 : decode cX1_hasPlaceFor 70 = .ok (.aload_n 0, 1) := by decide +kernel
theorem dX1_hasPlaceFor_71 : decode cX1_hasPlaceFor 71 = .ok (.getfield 21, 3) := by decide +kernel
theorem dX1_hasPlaceFor_74 : decode cX1_hasPlaceFor 74 = .ok (.iload 4, 2) := by decide +kernel
theorem dX1_hasPlaceFor_76 : decode cX1_hasPlaceFor 76 = .ok (.iaload, 1) := by decide +kernel
theorem dX1_hasPlaceFor_77 : decode cX1_hasPlaceFor 77 = .ok (.aload_n 0, 1) := by decide +kernel
theorem dX1_hasPlaceFor_78 : decode cX1_hasPlaceFor 78 = .ok (.getfield 9, 3) := by decide +kernel
theorem dX1_hasPlaceFor_81 : decode cX1_hasPlaceFor 81 = .ok (.iload 4, 2) := by decide +kernel
theorem dX1_hasPlaceFor_83 : decode cX1_hasPlaceFor 83 = .ok (.iaload, 1) := by decide +kernel
theorem dX1_hasPlaceFor_84 : decode cX1_hasPlaceFor 84 = .ok (.iadd, 1) := by decide +kernel
theorem dX1_hasPlaceFor_85 : decode cX1_hasPlaceFor 85 = .ok (.if_icmp .ge 60, 3) := by decide +kernel
theorem dX1_hasPlaceFor_88 : decode cX1_hasPlaceFor 88 = .ok (.aload_n 0, 1) := by decide +kernel
theorem dX1_hasPlaceFor_89 : decode cX1_hasPlaceFor 89 = .ok (.getfield 21, 3) := by decide +kernel
theorem dX1_hasPlaceFor_92 : decode cX1_hasPlaceFor 92 = .ok (.iload 4, 2) := by decide +kernel
theorem dX1_hasPlaceFor_94 : decode cX1_hasPlaceFor 94 = .ok (.iaload, 1) := by decide +kernel
theorem dX1_hasPlaceFor_95 : decode cX1_hasPlaceFor 95 = .ok (.iload_n 2, 1) := by decide +kernel
theorem dX1_hasPlaceFor_96 : decode cX1_hasPlaceFor 96 = .ok (.aload_n 0, 1) := by decide +kernel
theorem dX1_hasPlaceFor_97 : decode cX1_hasPlaceFor 97 = .ok (.getfield 9, 3) := by decide +kernel
theorem dX1_hasPlaceFor_100 : decode cX1_hasPlaceFor 100 = .ok (.iload_n 1, 1) := by decide +kernel
theorem dX1_hasPlaceFor_101 : decode cX1_hasPlaceFor 101 = .ok (.iaload, 1) := by decide +kernel
theorem dX1_hasPlaceFor_102 : decode cX1_hasPlaceFor 102 = .ok (.iadd, 1) := by decide +kernel
theorem dX1_hasPlaceFor_103 : decode cX1_hasPlaceFor 103 = .ok (.if_icmp .ge 42, 3) := by decide +kernel
theorem dX1_hasPlaceFor_106 : decode cX1_hasPlaceFor 106 = .ok (.iload_n 3, 1) := by decide +kernel
theorem dX1_hasPlaceFor_107 : decode cX1_hasPlaceFor 107 = .ok (.aload_n 0, 1) := by decide +kernel
theorem dX1_hasPlaceFor_108 : decode cX1_hasPlaceFor 108 = .ok (.getfield 24, 3) := by decide +kernel
theorem dX1_hasPlaceFor_111 : decode cX1_hasPlaceFor 111 = .ok (.iload 4, 2) := by decide +kernel
theorem dX1_hasPlaceFor_113 : decode cX1_hasPlaceFor 113 = .ok (.iaload, 1) := by decide +kernel
theorem dX1_hasPlaceFor_114 : decode cX1_hasPlaceFor 114 = .ok (.aload_n 0, 1) := by decide +kernel
theorem dX1_hasPlaceFor_115 : decode cX1_hasPlaceFor 115 = .ok (.getfield 9, 3) := by decide +kernel
theorem dX1_hasPlaceFor_118 : decode cX1_hasPlaceFor 118 = .ok (.iload 4, 2) := by decide +kernel
theorem dX1_hasPlaceFor_120 : decode cX1_hasPlaceFor 120 = .ok (.iaload, 1) := by decide +kernel
theorem dX1_hasPlaceFor_121 : decode cX1_hasPlaceFor 121 = .ok (.iadd, 1) := by decide +kernel
theorem dX1_hasPlaceFor_122 : decode cX1_hasPlaceFor 122 = .ok (.if_icmp .ge 23, 3) := by decide +kernel
theorem dX1_hasPlaceFor_125 : decode cX1_hasPlaceFor 125 = .ok (.aload_n 0, 1) := by decide +kernel
theorem dX1_hasPlaceFor_126 : decode cX1_hasPlaceFor 126 = .ok (.getfield 24, 3) := by decide +kernel
theorem dX1_hasPlaceFor_129 : decode cX1_hasPlaceFor 129 = .ok (.iload 4, 2) := by decide +kernel
theorem dX1_hasPlaceFor_131 : decode cX1_hasPlaceFor 131 = .ok (.iaload, 1) := by decide +kernel
theorem dX1_hasPlaceFor_132 : decode cX1_hasPlaceFor 132 = .ok (.iload_n 3, 1) := by decide +kernel
theorem dX1_hasPlaceFor_133 : decode cX1_hasPlaceFor 133 = .ok (.aload_n 0, 1) := by decide +kernel
theorem dX1_hasPlaceFor_134 : decode cX1_hasPlaceFor 134 = .ok (.getfield 9, 3) := by decide +kernel
theorem dX1_hasPlaceFor_137 : decode cX1_hasPlaceFor 137 = .ok (.iload_n 1, 1) := by decide +kernel
theorem dX1_hasPlaceFor_138 : decode cX1_hasPlaceFor 138 = .ok (.iaload, 1) := by decide +kernel
theorem dX1_hasPlaceFor_139 : decode cX1_hasPlaceFor 139 = .ok (.iadd, 1) := by decide +kernel
theorem dX1_hasPlaceFor_140 : decode cX1_hasPlaceFor 140 = .ok (.if_icmp .ge 5, 3) := by decide +kernel
theorem dX1_hasPlaceFor_143 : decode cX1_hasPlaceFor 143 = .ok (.iconst 0, 1) := by decide +kernel
theorem dX1_hasPlaceFor_144 : decode cX1_hasPlaceFor 144 = .ok (.ireturn, 1) := by decide +kernel
theorem dX1_hasPlaceFor_145 : decode cX1_hasPlaceFor 145 = .ok (.iinc 4 1, 3) := by decide +kernel
theorem dX1_hasPlaceFor_148 : decode cX1_hasPlaceFor 148 = .ok (.goto (-97), 3) := by decide +kernel
theorem dX1_hasPlaceFor_151 : decode cX1_hasPlaceFor 151 = .ok (.iconst 1, 1) := by decide +kernel
theorem dX1_hasPlaceFor_152 : decode cX1_hasPlaceFor 152 = .ok (.ireturn, 1) := by decide +kernel
theorem dX1_rollUp_0 : decode cX1_rollUp 0 = .ok (.aload_n 0, 1) := by decide +kernel
theorem dX1_rollUp_1 : decode cX1_rollUp 1 = .ok (.iload_n 1, 1) := by decide +kernel
theorem dX1_rollUp_2 : decode cX1_rollUp 2 = .ok (.invokevirtual 52, 3) := by decide +kernel
theorem dX1_rollUp_5 : decode cX1_rollUp 5 = .ok (.ifCond .eq 17, 3) := by decide +kernel
theorem dX1_rollUp_8 : decode cX1_rollUp 8 = .ok (.aload_n 0, 1) := by decide +kernel
theorem dX1_rollUp_9 : decode cX1_rollUp 9 = .ok (.getfield 21, 3) := by decide +kernel
theorem dX1_rollUp_12 : decode cX1_rollUp 12 = .ok (.iload_n 1, 1) := by decide +kernel
theorem dX1_rollUp_13 : decode cX1_rollUp 13 = .ok (.iconst (-1), 1) := by decide +kernel
theorem dX1_rollUp_14 : decode cX1_rollUp 14 = .ok (.iastore, 1) := by decide +kernel
theorem dX1_rollUp_15 : decode cX1_rollUp 15 = .ok (.aload_n 0, 1) := by decide +kernel
theorem dX1_rollUp_16 : decode cX1_rollUp 16 = .ok (.getfield 24, 3) := by decide +kernel
theorem dX1_rollUp_19 : decode cX1_rollUp 19 = .ok (.iload_n 1, 1) := by decide +kernel
theorem dX1_rollUp_20 : decode cX1_rollUp 20 = .ok (.iconst (-1), 1) := by decide +kernel
theorem dX1_rollUp_21 : decode cX1_rollUp 21 = .ok (.iastore, 1) := by decide +kernel
theorem dX1_rollUp_22 : decode cX1_rollUp 22 = .ok (.return_, 1) := by decide +kernel
theorem dX1_emptyInto_0 : decode cX1_emptyInto 0 = .ok (.iconst 0, 1) := by decide +kernel
theorem dX1_emptyInto_1 : decode cX1_emptyInto 1 = .ok (.istore_n 3, 1) := by decide +kernel
theorem dX1_emptyInto_2 : decode cX1_emptyInto 2 = .ok (.iload_n 3, 1) := by decide +kernel
theorem dX1_emptyInto_3 : decode cX1_emptyInto 3 = .ok (.aload_n 0, 1) := by decide +kernel
theorem dX1_emptyInto_4 : decode cX1_emptyInto 4 = .ok (.getfield 33, 3) := by decide +kernel
theorem dX1_emptyInto_7 : decode cX1_emptyInto 7 = .ok (.if_icmp .ge 14, 3) := by decide +kernel
theorem dX1_emptyInto_10 : decode cX1_emptyInto 10 = .ok (.aload_n 0, 1) := by decide +kernel
theorem dX1_emptyInto_11 : decode cX1_emptyInto 11 = .ok (.iload_n 3, 1) := by decide +kernel
theorem dX1_emptyInto_12 : decode cX1_emptyInto 12 = .ok (.invokevirtual 62, 3) := by decide +kernel
theorem dX1_emptyInto_15 : decode cX1_emptyInto 15 = .ok (.iinc 3 1, 3) := by decide +kernel
theorem dX1_emptyInto_18 : decode cX1_emptyInto 18 = .ok (.goto (-16), 3) := by decide +kernel
theorem dX1_emptyInto_21 : decode cX1_emptyInto 21 = .ok (.aload_n 0, 1) := by decide +kernel
theorem dX1_emptyInto_22 : decode cX1_emptyInto 22 = .ok (.iload_n 1, 1) := by decide +kernel
theorem dX1_emptyInto_23 : decode cX1_emptyInto 23 = .ok (.putfield 37, 3) := by decide +kernel
theorem dX1_emptyInto_26 : decode cX1_emptyInto 26 = .ok (.aload_n 0, 1) := by decide +kernel
theorem dX1_emptyInto_27 : decode cX1_emptyInto 27 = .ok (.iload_n 2, 1) := by decide +kernel
theorem dX1_emptyInto_28 : decode cX1_emptyInto 28 = .ok (.putfield 40, 3) := by decide +kernel
theorem dX1_emptyInto_31 : decode cX1_emptyInto 31 = .ok (.return_, 1) := by decide +kernel
theorem dX1_turnOver_0 : decode cX1_turnOver 0 = .ok (.iconst 0, 1) := by decide +kernel
theorem dX1_turnOver_1 : decode cX1_turnOver 1 = .ok (.istore_n 1, 1) := by decide +kernel
theorem dX1_turnOver_2 : decode cX1_turnOver 2 = .ok (.iconst 0, 1) := by decide +kernel
theorem dX1_turnOver_3 : decode cX1_turnOver 3 = .ok (.istore_n 2, 1) := by decide +kernel
theorem dX1_turnOver_4 : decode cX1_turnOver 4 = .ok (.iload_n 2, 1) := by decide +kernel
theorem dX1_turnOver_5 : decode cX1_turnOver 5 = .ok (.aload_n 0, 1) := by decide +kernel
theorem dX1_turnOver_6 : decode cX1_turnOver 6 = .ok (.getfield 33, 3) := by decide +kernel
theorem dX1_turnOver_9 : decode cX1_turnOver 9 = .ok (.if_icmp .ge 44, 3) := by decide +kernel
theorem dX1_turnOver_12 : decode cX1_turnOver 12 = .ok (.aload_n 0, 1) := by decide +kernel
theorem dX1_turnOver_13 : decode cX1_turnOver 13 = .ok (.iload_n 2, 1) := by decide +kernel
theorem dX1_turnOver_14 : decode cX1_turnOver 14 = .ok (.invokevirtual 56, 3) := by decide +kernel
theorem dX1_turnOver_17 : decode cX1_turnOver 17 = .ok (.ifCond .eq 30, 3) := by decide +kernel
theorem dX1_turnOver_20 : decode cX1_turnOver 20 = .ok (.aload_n 0, 1) := by decide +kernel
theorem dX1_turnOver_21 : decode cX1_turnOver 21 = .ok (.getfield 21, 3) := by decide +kernel
theorem dX1_turnOver_24 : decode cX1_turnOver 24 = .ok (.iload_n 2, 1) := by decide +kernel
theorem dX1_turnOver_25 : decode cX1_turnOver 25 = .ok (.aload_n 0, 1) := by decide +kernel
theorem dX1_turnOver_26 : decode cX1_turnOver 26 = .ok (.getfield 37, 3) := by decide +kernel
theorem dX1_turnOver_29 : decode cX1_turnOver 29 = .ok (.aload_n 0, 1) := by decide +kernel
theorem dX1_turnOver_30 : decode cX1_turnOver 30 = .ok (.getfield 21, 3) := by decide +kernel
theorem dX1_turnOver_33 : decode cX1_turnOver 33 = .ok (.iload_n 2, 1) := by decide +kernel
theorem dX1_turnOver_34 : decode cX1_turnOver 34 = .ok (.iaload, 1) := by decide +kernel
theorem dX1_turnOver_35 : decode cX1_turnOver 35 = .ok (.isub, 1) := by decide +kernel
theorem dX1_turnOver_36 : decode cX1_turnOver 36 = .ok (.aload_n 0, 1) := by decide +kernel
theorem dX1_turnOver_37 : decode cX1_turnOver 37 = .ok (.getfield 9, 3) := by decide +kernel
theorem dX1_turnOver_40 : decode cX1_turnOver 40 = .ok (.iload_n 2, 1) := by decide +kernel
theorem dX1_turnOver_41 : decode cX1_turnOver 41 = .ok (.iaload, 1) := by decide +kernel
theorem dX1_turnOver_42 : decode cX1_turnOver 42 = .ok (.isub, 1) := by decide +kernel
theorem dX1_turnOver_43 : decode cX1_turnOver 43 = .ok (.iastore, 1) := by decide +kernel
theorem dX1_turnOver_44 : decode cX1_turnOver 44 = .ok (.iinc 1 1, 3) := by decide +kernel
theorem dX1_turnOver_47 : decode cX1_turnOver 47 = .ok (.iinc 2 1, 3) := by decide +kernel
theorem dX1_turnOver_50 : decode cX1_turnOver 50 = .ok (.goto (-46), 3) := by decide +kernel
theorem dX1_turnOver_53 : decode cX1_turnOver 53 = .ok (.iload_n 1, 1) := by decide +kernel
theorem dX1_turnOver_54 : decode cX1_turnOver 54 = .ok (.ireturn, 1) := by decide +kernel
theorem dX1_wearAYear_0 : decode cX1_wearAYear 0 = .ok (.iconst 0, 1) := by decide +kernel
theorem dX1_wearAYear_1 : decode cX1_wearAYear 1 = .ok (.istore_n 3, 1) := by decide +kernel
theorem dX1_wearAYear_2 : decode cX1_wearAYear 2 = .ok (.iconst 0, 1) := by decide +kernel
theorem dX1_wearAYear_3 : decode cX1_wearAYear 3 = .ok (.istore 4, 2) := by decide +kernel
theorem dX1_wearAYear_5 : decode cX1_wearAYear 5 = .ok (.iload 4, 2) := by decide +kernel
theorem dX1_wearAYear_7 : decode cX1_wearAYear 7 = .ok (.aload_n 0, 1) := by decide +kernel
theorem dX1_wearAYear_8 : decode cX1_wearAYear 8 = .ok (.getfield 33, 3) := by decide +kernel
theorem dX1_wearAYear_11 : decode cX1_wearAYear 11 = .ok (.if_icmp .ge 67, 3) := by decide +kernel
theorem dX1_wearAYear_14 : decode cX1_wearAYear 14 = .ok (.aload_n 0, 1) := by decide +kernel
theorem dX1_wearAYear_15 : decode cX1_wearAYear 15 = .ok (.iload 4, 2) := by decide +kernel
theorem dX1_wearAYear_17 : decode cX1_wearAYear 17 = .ok (.invokevirtual 56, 3) := by decide +kernel
theorem dX1_wearAYear_20 : decode cX1_wearAYear 20 = .ok (.ifCond .ne 6, 3) := by decide +kernel
theorem dX1_wearAYear_23 : decode cX1_wearAYear 23 = .ok (.goto 49, 3) := by decide +kernel
theorem dX1_wearAYear_26 : decode cX1_wearAYear 26 = .ok (.aload_n 0, 1) := by decide +kernel
theorem dX1_wearAYear_27 : decode cX1_wearAYear 27 = .ok (.getfield 18, 3) := by decide +kernel
theorem dX1_wearAYear_30 : decode cX1_wearAYear 30 = .ok (.iload 4, 2) := by decide +kernel
theorem dX1_wearAYear_32 : decode cX1_wearAYear 32 = .ok (.iconst 0, 1) := by decide +kernel
theorem dX1_wearAYear_33 : decode cX1_wearAYear 33 = .ok (.aload_n 0, 1) := by decide +kernel
theorem dX1_wearAYear_34 : decode cX1_wearAYear 34 = .ok (.getfield 18, 3) := by decide +kernel
theorem dX1_wearAYear_37 : decode cX1_wearAYear 37 = .ok (.iload 4, 2) := by decide +kernel
theorem dX1_wearAYear_39 : decode cX1_wearAYear 39 = .ok (.iaload, 1) := by decide +kernel
theorem dX1_wearAYear_40 : decode cX1_wearAYear 40 = .ok (.aload_n 1, 1) := by decide +kernel
theorem dX1_wearAYear_41 : decode cX1_wearAYear 41 = .ok (.aload_n 2, 1) := by decide +kernel
theorem dX1_wearAYear_42 : decode cX1_wearAYear 42 = .ok (.aload_n 0, 1) := by decide +kernel
theorem dX1_wearAYear_43 : decode cX1_wearAYear 43 = .ok (.iload 4, 2) := by decide +kernel
theorem dX1_wearAYear_45 : decode cX1_wearAYear 45 = .ok (.invokevirtual 66, 3) := by decide +kernel
theorem dX1_wearAYear_48 : decode cX1_wearAYear 48 = .ok (.isub, 1) := by decide +kernel
theorem dX1_wearAYear_49 : decode cX1_wearAYear 49 = .ok (.invokestatic 72, 3) := by decide +kernel
theorem dX1_wearAYear_52 : decode cX1_wearAYear 52 = .ok (.iastore, 1) := by decide +kernel
theorem dX1_wearAYear_53 : decode cX1_wearAYear 53 = .ok (.aload_n 0, 1) := by decide +kernel
theorem dX1_wearAYear_54 : decode cX1_wearAYear 54 = .ok (.getfield 18, 3) := by decide +kernel
theorem dX1_wearAYear_57 : decode cX1_wearAYear 57 = .ok (.iload 4, 2) := by decide +kernel
theorem dX1_wearAYear_59 : decode cX1_wearAYear 59 = .ok (.iaload, 1) := by decide +kernel
theorem dX1_wearAYear_60 : decode cX1_wearAYear 60 = .ok (.ifCond .ne 12, 3) := by decide +kernel
theorem dX1_wearAYear_63 : decode cX1_wearAYear 63 = .ok (.aload_n 0, 1) := by decide +kernel
theorem dX1_wearAYear_64 : decode cX1_wearAYear 64 = .ok (.iload 4, 2) := by decide +kernel
theorem dX1_wearAYear_66 : decode cX1_wearAYear 66 = .ok (.invokevirtual 62, 3) := by decide +kernel
theorem dX1_wearAYear_69 : decode cX1_wearAYear 69 = .ok (.iinc 3 1, 3) := by decide +kernel
theorem dX1_wearAYear_72 : decode cX1_wearAYear 72 = .ok (.iinc 4 1, 3) := by decide +kernel
theorem dX1_wearAYear_75 : decode cX1_wearAYear 75 = .ok (.goto (-70), 3) := by decide +kernel
theorem dX1_wearAYear_78 : decode cX1_wearAYear 78 = .ok (.aload_n 0, 1) := by decide +kernel
theorem dX1_wearAYear_79 : decode cX1_wearAYear 79 = .ok (.getfield 27, 3) := by decide +kernel
theorem dX1_wearAYear_82 : decode cX1_wearAYear 82 = .ok (.iconst 0, 1) := by decide +kernel
theorem dX1_wearAYear_83 : decode cX1_wearAYear 83 = .ok (.dup2, 1) := by decide +kernel
theorem dX1_wearAYear_84 : decode cX1_wearAYear 84 = .ok (.iaload, 1) := by decide +kernel
theorem dX1_wearAYear_85 : decode cX1_wearAYear 85 = .ok (.iconst 1, 1) := by decide +kernel
theorem dX1_wearAYear_86 : decode cX1_wearAYear 86 = .ok (.iadd, 1) := by decide +kernel
theorem dX1_wearAYear_87 : decode cX1_wearAYear 87 = .ok (.iastore, 1) := by decide +kernel
theorem dX1_wearAYear_88 : decode cX1_wearAYear 88 = .ok (.iload_n 3, 1) := by decide +kernel
theorem dX1_wearAYear_89 : decode cX1_wearAYear 89 = .ok (.ireturn, 1) := by decide +kernel
theorem dX1_drawRows_0 : decode cX1_drawRows 0 = .ok (.aload_n 0, 1) := by decide +kernel
theorem dX1_drawRows_1 : decode cX1_drawRows 1 = .ok (.getfield 30, 3) := by decide +kernel
theorem dX1_drawRows_4 : decode cX1_drawRows 4 = .ok (.iconst 0, 1) := by decide +kernel
theorem dX1_drawRows_5 : decode cX1_drawRows 5 = .ok (.invokestatic 78, 3) := by decide +kernel
theorem dX1_drawRows_8 : decode cX1_drawRows 8 = .ok (.iconst 0, 1) := by decide +kernel
theorem dX1_drawRows_9 : decode cX1_drawRows 9 = .ok (.istore_n 1, 1) := by decide +kernel
theorem dX1_drawRows_10 : decode cX1_drawRows 10 = .ok (.iload_n 1, 1) := by decide +kernel
theorem dX1_drawRows_11 : decode cX1_drawRows 11 = .ok (.aload_n 0, 1) := by decide +kernel
theorem dX1_drawRows_12 : decode cX1_drawRows 12 = .ok (.getfield 33, 3) := by decide +kernel
theorem dX1_drawRows_15 : decode cX1_drawRows 15 = .ok (.if_icmp .ge 84, 3) := by decide +kernel
theorem dX1_drawRows_18 : decode cX1_drawRows 18 = .ok (.aload_n 0, 1) := by decide +kernel
theorem dX1_drawRows_19 : decode cX1_drawRows 19 = .ok (.iload_n 1, 1) := by decide +kernel
theorem dX1_drawRows_20 : decode cX1_drawRows 20 = .ok (.invokevirtual 56, 3) := by decide +kernel
theorem dX1_drawRows_23 : decode cX1_drawRows 23 = .ok (.ifCond .ne 6, 3) := by decide +kernel
theorem dX1_drawRows_26 : decode cX1_drawRows 26 = .ok (.goto 67, 3) := by decide +kernel
theorem dX1_drawRows_29 : decode cX1_drawRows 29 = .ok (.iconst 1, 1) := by decide +kernel
theorem dX1_drawRows_30 : decode cX1_drawRows 30 = .ok (.aload_n 0, 1) := by decide +kernel
theorem dX1_drawRows_31 : decode cX1_drawRows 31 = .ok (.getfield 9, 3) := by decide +kernel
theorem dX1_drawRows_34 : decode cX1_drawRows 34 = .ok (.iload_n 1, 1) := by decide +kernel
theorem dX1_drawRows_35 : decode cX1_drawRows 35 = .ok (.iaload, 1) := by decide +kernel
theorem dX1_drawRows_36 : decode cX1_drawRows 36 = .ok (.ishl, 1) := by decide +kernel
theorem dX1_drawRows_37 : decode cX1_drawRows 37 = .ok (.iconst 1, 1) := by decide +kernel
theorem dX1_drawRows_38 : decode cX1_drawRows 38 = .ok (.isub, 1) := by decide +kernel
theorem dX1_drawRows_39 : decode cX1_drawRows 39 = .ok (.aload_n 0, 1) := by decide +kernel
theorem dX1_drawRows_40 : decode cX1_drawRows 40 = .ok (.getfield 21, 3) := by decide +kernel
theorem dX1_drawRows_43 : decode cX1_drawRows 43 = .ok (.iload_n 1, 1) := by decide +kernel
theorem dX1_drawRows_44 : decode cX1_drawRows 44 = .ok (.iaload, 1) := by decide +kernel
theorem dX1_drawRows_45 : decode cX1_drawRows 45 = .ok (.ishl, 1) := by decide +kernel
theorem dX1_drawRows_46 : decode cX1_drawRows 46 = .ok (.istore_n 2, 1) := by decide +kernel
theorem dX1_drawRows_47 : decode cX1_drawRows 47 = .ok (.aload_n 0, 1) := by decide +kernel
theorem dX1_drawRows_48 : decode cX1_drawRows 48 = .ok (.getfield 24, 3) := by decide +kernel
theorem dX1_drawRows_51 : decode cX1_drawRows 51 = .ok (.iload_n 1, 1) := by decide +kernel
theorem dX1_drawRows_52 : decode cX1_drawRows 52 = .ok (.iaload, 1) := by decide +kernel
theorem dX1_drawRows_53 : decode cX1_drawRows 53 = .ok (.istore_n 3, 1) := by decide +kernel
theorem dX1_drawRows_54 : decode cX1_drawRows 54 = .ok (.iload_n 3, 1) := by decide +kernel
theorem dX1_drawRows_55 : decode cX1_drawRows 55 = .ok (.aload_n 0, 1) := by decide +kernel
theorem dX1_drawRows_56 : decode cX1_drawRows 56 = .ok (.getfield 24, 3) := by decide +kernel
theorem dX1_drawRows_59 : decode cX1_drawRows 59 = .ok (.iload_n 1, 1) := by decide +kernel
theorem dX1_drawRows_60 : decode cX1_drawRows 60 = .ok (.iaload, 1) := by decide +kernel
theorem dX1_drawRows_61 : decode cX1_drawRows 61 = .ok (.aload_n 0, 1) := by decide +kernel
theorem dX1_drawRows_62 : decode cX1_drawRows 62 = .ok (.getfield 9, 3) := by decide +kernel
theorem dX1_drawRows_65 : decode cX1_drawRows 65 = .ok (.iload_n 1, 1) := by decide +kernel
theorem dX1_drawRows_66 : decode cX1_drawRows 66 = .ok (.iaload, 1) := by decide +kernel
theorem dX1_drawRows_67 : decode cX1_drawRows 67 = .ok (.iadd, 1) := by decide +kernel
theorem dX1_drawRows_68 : decode cX1_drawRows 68 = .ok (.if_icmp .ge 25, 3) := by decide +kernel
theorem dX1_drawRows_71 : decode cX1_drawRows 71 = .ok (.iload_n 3, 1) := by decide +kernel
theorem dX1_drawRows_72 : decode cX1_drawRows 72 = .ok (.bipush 12, 2) := by decide +kernel
theorem dX1_drawRows_74 : decode cX1_drawRows 74 = .ok (.if_icmp .ge 19, 3) := by decide +kernel
theorem dX1_drawRows_77 : decode cX1_drawRows 77 = .ok (.aload_n 0, 1) := by decide +kernel
theorem dX1_drawRows_78 : decode cX1_drawRows 78 = .ok (.getfield 30, 3) := by decide +kernel
theorem dX1_drawRows_81 : decode cX1_drawRows 81 = .ok (.iload_n 3, 1) := by decide +kernel
theorem dX1_drawRows_82 : decode cX1_drawRows 82 = .ok (.dup2, 1) := by decide +kernel
theorem dX1_drawRows_83 : decode cX1_drawRows 83 = .ok (.iaload, 1) := by decide +kernel
theorem dX1_drawRows_84 : decode cX1_drawRows 84 = .ok (.iload_n 2, 1) := by decide +kernel
theorem dX1_drawRows_85 : decode cX1_drawRows 85 = .ok (.ior, 1) := by decide +kernel
theorem dX1_drawRows_86 : decode cX1_drawRows 86 = .ok (.iastore, 1) := by decide +kernel
theorem dX1_drawRows_87 : decode cX1_drawRows 87 = .ok (.iinc 3 1, 3) := by decide +kernel
theorem dX1_drawRows_90 : decode cX1_drawRows 90 = .ok (.goto (-36), 3) := by decide +kernel
theorem dX1_drawRows_93 : decode cX1_drawRows 93 = .ok (.iinc 1 1, 3) := by decide +kernel
theorem dX1_drawRows_96 : decode cX1_drawRows 96 = .ok (.goto (-86), 3) := by decide +kernel
theorem dX1_drawRows_99 : decode cX1_drawRows 99 = .ok (.return_, 1) := by decide +kernel
theorem dX1_firstBareCell_0 : decode cX1_firstBareCell 0 = .ok (.aload_n 0, 1) := by decide +kernel
theorem dX1_firstBareCell_1 : decode cX1_firstBareCell 1 = .ok (.invokevirtual 84, 3) := by decide +kernel
theorem dX1_firstBareCell_4 : decode cX1_firstBareCell 4 = .ok (.iconst 0, 1) := by decide +kernel
theorem dX1_firstBareCell_5 : decode cX1_firstBareCell 5 = .ok (.istore_n 1, 1) := by decide +kernel
theorem dX1_firstBareCell_6 : decode cX1_firstBareCell 6 = .ok (.iload_n 1, 1) := by decide +kernel
theorem dX1_firstBareCell_7 : decode cX1_firstBareCell 7 = .ok (.sipush 144, 3) := by decide +kernel
theorem dX1_firstBareCell_10 : decode cX1_firstBareCell 10 = .ok (.if_icmp .ge 50, 3) := by decide +kernel
theorem dX1_firstBareCell_13 : decode cX1_firstBareCell 13 = .ok (.iload_n 1, 1) := by decide +kernel
theorem dX1_firstBareCell_14 : decode cX1_firstBareCell 14 = .ok (.bipush 12, 2) := by decide +kernel
theorem dX1_firstBareCell_16 : decode cX1_firstBareCell 16 = .ok (.irem, 1) := by decide +kernel
theorem dX1_firstBareCell_17 : decode cX1_firstBareCell 17 = .ok (.istore_n 2, 1) := by decide +kernel
theorem dX1_firstBareCell_18 : decode cX1_firstBareCell 18 = .ok (.iload_n 1, 1) := by decide +kernel
theorem dX1_firstBareCell_19 : decode cX1_firstBareCell 19 = .ok (.bipush 12, 2) := by decide +kernel
theorem dX1_firstBareCell_21 : decode cX1_firstBareCell 21 = .ok (.idiv, 1) := by decide +kernel
theorem dX1_firstBareCell_22 : decode cX1_firstBareCell 22 = .ok (.istore_n 3, 1) := by decide +kernel
theorem dX1_firstBareCell_23 : decode cX1_firstBareCell 23 = .ok (.iload_n 2, 1) := by decide +kernel
theorem dX1_firstBareCell_24 : decode cX1_firstBareCell 24 = .ok (.aload_n 0, 1) := by decide +kernel
theorem dX1_firstBareCell_25 : decode cX1_firstBareCell 25 = .ok (.getfield 37, 3) := by decide +kernel
theorem dX1_firstBareCell_28 : decode cX1_firstBareCell 28 = .ok (.if_icmp .ge 26, 3) := by decide +kernel
theorem dX1_firstBareCell_31 : decode cX1_firstBareCell 31 = .ok (.iload_n 3, 1) := by decide +kernel
theorem dX1_firstBareCell_32 : decode cX1_firstBareCell 32 = .ok (.aload_n 0, 1) := by decide +kernel
theorem dX1_firstBareCell_33 : decode cX1_firstBareCell 33 = .ok (.getfield 40, 3) := by decide +kernel
theorem dX1_firstBareCell_36 : decode cX1_firstBareCell 36 = .ok (.if_icmp .ge 18, 3) := by decide +kernel
theorem dX1_firstBareCell_39 : decode cX1_firstBareCell 39 = .ok (.aload_n 0, 1) := by decide +kernel
theorem dX1_firstBareCell_40 : decode cX1_firstBareCell 40 = .ok (.getfield 30, 3) := by decide +kernel
theorem dX1_firstBareCell_43 : decode cX1_firstBareCell 43 = .ok (.iload_n 3, 1) := by decide +kernel
theorem dX1_firstBareCell_44 : decode cX1_firstBareCell 44 = .ok (.iaload, 1) := by decide +kernel
theorem dX1_firstBareCell_45 : decode cX1_firstBareCell 45 = .ok (.iload_n 2, 1) := by decide +kernel
theorem dX1_firstBareCell_46 : decode cX1_firstBareCell 46 = .ok (.ishr, 1) := by decide +kernel
theorem dX1_firstBareCell_47 : decode cX1_firstBareCell 47 = .ok (.iconst 1, 1) := by decide +kernel
theorem dX1_firstBareCell_48 : decode cX1_firstBareCell 48 = .ok (.iand, 1) := by decide +kernel
theorem dX1_firstBareCell_49 : decode cX1_firstBareCell 49 = .ok (.ifCond .ne 5, 3) := by decide +kernel
theorem dX1_firstBareCell_52 : decode cX1_firstBareCell 52 = .ok (.iload_n 1, 1) := by decide +kernel
theorem dX1_firstBareCell_53 : decode cX1_firstBareCell 53 = .ok (.ireturn, 1) := by decide +kernel
theorem dX1_firstBareCell_54 : decode cX1_firstBareCell 54 = .ok (.iinc 1 1, 3) := by decide +kernel
theorem dX1_firstBareCell_57 : decode cX1_firstBareCell 57 = .ok (.goto (-51), 3) := by decide +kernel
theorem dX1_firstBareCell_60 : decode cX1_firstBareCell 60 = .ok (.iconst (-1), 1) := by decide +kernel
theorem dX1_firstBareCell_61 : decode cX1_firstBareCell 61 = .ok (.ireturn, 1) := by decide +kernel
theorem dX1_placesFor_0 : decode cX1_placesFor 0 = .ok (.aload_n 0, 1) := by decide +kernel
theorem dX1_placesFor_1 : decode cX1_placesFor 1 = .ok (.invokevirtual 84, 3) := by decide +kernel
theorem dX1_placesFor_4 : decode cX1_placesFor 4 = .ok (.iconst 1, 1) := by decide +kernel
theorem dX1_placesFor_5 : decode cX1_placesFor 5 = .ok (.iload_n 1, 1) := by decide +kernel
theorem dX1_placesFor_6 : decode cX1_placesFor 6 = .ok (.ishl, 1) := by decide +kernel
theorem dX1_placesFor_7 : decode cX1_placesFor 7 = .ok (.iconst 1, 1) := by decide +kernel
theorem dX1_placesFor_8 : decode cX1_placesFor 8 = .ok (.isub, 1) := by decide +kernel
theorem dX1_placesFor_9 : decode cX1_placesFor 9 = .ok (.istore_n 2, 1) := by decide +kernel
theorem dX1_placesFor_10 : decode cX1_placesFor 10 = .ok (.iconst 0, 1) := by decide +kernel
theorem dX1_placesFor_11 : decode cX1_placesFor 11 = .ok (.istore_n 3, 1) := by decide +kernel
theorem dX1_placesFor_12 : decode cX1_placesFor 12 = .ok (.iconst 0, 1) := by decide +kernel
theorem dX1_placesFor_13 : decode cX1_placesFor 13 = .ok (.istore 4, 2) := by decide +kernel
theorem dX1_placesFor_15 : decode cX1_placesFor 15 = .ok (.iload 4, 2) := by decide +kernel
theorem dX1_placesFor_17 : decode cX1_placesFor 17 = .ok (.iload_n 1, 1) := by decide +kernel
theorem dX1_placesFor_18 : decode cX1_placesFor 18 = .ok (.iadd, 1) := by decide +kernel
theorem dX1_placesFor_19 : decode cX1_placesFor 19 = .ok (.aload_n 0, 1) := by decide +kernel
theorem dX1_placesFor_20 : decode cX1_placesFor 20 = .ok (.getfield 40, 3) := by decide +kernel
theorem dX1_placesFor_23 : decode cX1_placesFor 23 = .ok (.if_icmp .gt 88, 3) := by decide +kernel
theorem dX1_placesFor_26 : decode cX1_placesFor 26 = .ok (.iconst 0, 1) := by decide +kernel
theorem dX1_placesFor_27 : decode cX1_placesFor 27 = .ok (.istore 5, 2) := by decide +kernel
theorem dX1_placesFor_29 : decode cX1_placesFor 29 = .ok (.iload 4, 2) := by decide +kernel
theorem dX1_placesFor_31 : decode cX1_placesFor 31 = .ok (.istore 6, 2) := by decide +kernel
theorem dX1_placesFor_33 : decode cX1_placesFor 33 = .ok (.iload 6, 2) := by decide +kernel
theorem dX1_placesFor_35 : decode cX1_placesFor 35 = .ok (.iload 4, 2) := by decide +kernel
theorem dX1_placesFor_37 : decode cX1_placesFor 37 = .ok (.iload_n 1, 1) := by decide +kernel
theorem dX1_placesFor_38 : decode cX1_placesFor 38 = .ok (.iadd, 1) := by decide +kernel
theorem dX1_placesFor_39 : decode cX1_placesFor 39 = .ok (.if_icmp .ge 28, 3) := by decide +kernel
theorem dX1_placesFor_42 : decode cX1_placesFor 42 = .ok (.iload 6, 2) := by decide +kernel
theorem dX1_placesFor_44 : decode cX1_placesFor 44 = .ok (.bipush 12, 2) := by decide +kernel
theorem dX1_placesFor_46 : decode cX1_placesFor 46 = .ok (.if_icmp .ge 21, 3) := by decide +kernel
theorem dX1_placesFor_49 : decode cX1_placesFor 49 = .ok (.iload 5, 2) := by decide +kernel
theorem dX1_placesFor_51 : decode cX1_placesFor 51 = .ok (.aload_n 0, 1) := by decide +kernel
theorem dX1_placesFor_52 : decode cX1_placesFor 52 = .ok (.getfield 30, 3) := by decide +kernel
theorem dX1_placesFor_55 : decode cX1_placesFor 55 = .ok (.iload 6, 2) := by decide +kernel
theorem dX1_placesFor_57 : decode cX1_placesFor 57 = .ok (.iaload, 1) := by decide +kernel
theorem dX1_placesFor_58 : decode cX1_placesFor 58 = .ok (.ior, 1) := by decide +kernel
theorem dX1_placesFor_59 : decode cX1_placesFor 59 = .ok (.istore 5, 2) := by decide +kernel
theorem dX1_placesFor_61 : decode cX1_placesFor 61 = .ok (.iinc 6 1, 3) := by decide +kernel
theorem dX1_placesFor_64 : decode cX1_placesFor 64 = .ok (.goto (-31), 3) := by decide +kernel
theorem dX1_placesFor_67 : decode cX1_placesFor 67 = .ok (.iconst 0, 1) := by decide +kernel
theorem dX1_placesFor_68 : decode cX1_placesFor 68 = .ok (.istore 6, 2) := by decide +kernel
theorem dX1_placesFor_70 : decode cX1_placesFor 70 = .ok (.iload 6, 2) := by decide +kernel
theorem dX1_placesFor_72 : decode cX1_placesFor 72 = .ok (.iload_n 1, 1) := by decide +kernel
theorem dX1_placesFor_73 : decode cX1_placesFor 73 = .ok (.iadd, 1) := by decide +kernel
theorem dX1_placesFor_74 : decode cX1_placesFor 74 = .ok (.aload_n 0, 1) := by decide +kernel
theorem dX1_placesFor_75 : decode cX1_placesFor 75 = .ok (.getfield 37, 3) := by decide +kernel
theorem dX1_placesFor_78 : decode cX1_placesFor 78 = .ok (.if_icmp .gt 27, 3) := by decide +kernel
theorem dX1_placesFor_81 : decode cX1_placesFor 81 = .ok (.iload_n 3, 1) := by decide +kernel
theorem dX1_placesFor_82 : decode cX1_placesFor 82 = .ok (.iload 5, 2) := by decide +kernel
theorem dX1_placesFor_84 : decode cX1_placesFor 84 = .ok (.iload 6, 2) := by decide +kernel
theorem dX1_placesFor_86 : decode cX1_placesFor 86 = .ok (.ishr, 1) := by decide +kernel
theorem dX1_placesFor_87 : decode cX1_placesFor 87 = .ok (.iload_n 2, 1) := by decide +kernel
theorem dX1_placesFor_88 : decode cX1_placesFor 88 = .ok (.iand, 1) := by decide +kernel
theorem dX1_placesFor_89 : decode cX1_placesFor 89 = .ok (.ifCond .ne 7, 3) := by decide +kernel
theorem dX1_placesFor_92 : decode cX1_placesFor 92 = .ok (.iconst 1, 1) := by decide +kernel
theorem dX1_placesFor_93 : decode cX1_placesFor 93 = .ok (.goto 4, 3) := by decide +kernel
theorem dX1_placesFor_96 : decode cX1_placesFor 96 = .ok (.iconst 0, 1) := by decide +kernel
theorem dX1_placesFor_97 : decode cX1_placesFor 97 = .ok (.iadd, 1) := by decide +kernel
theorem dX1_placesFor_98 : decode cX1_placesFor 98 = .ok (.istore_n 3, 1) := by decide +kernel
theorem dX1_placesFor_99 : decode cX1_placesFor 99 = .ok (.iinc 6 1, 3) := by decide +kernel
theorem dX1_placesFor_102 : decode cX1_placesFor 102 = .ok (.goto (-32), 3) := by decide +kernel
theorem dX1_placesFor_105 : decode cX1_placesFor 105 = .ok (.iinc 4 1, 3) := by decide +kernel
theorem dX1_placesFor_108 : decode cX1_placesFor 108 = .ok (.goto (-93), 3) := by decide +kernel
theorem dX1_placesFor_111 : decode cX1_placesFor 111 = .ok (.iload_n 3, 1) := by decide +kernel
theorem dX1_placesFor_112 : decode cX1_placesFor 112 = .ok (.ireturn, 1) := by decide +kernel
theorem dX1_innerHalls_0 : decode cX1_innerHalls 0 = .ok (.iconst 0, 1) := by decide +kernel
theorem dX1_innerHalls_1 : decode cX1_innerHalls 1 = .ok (.istore_n 1, 1) := by decide +kernel
theorem dX1_innerHalls_2 : decode cX1_innerHalls 2 = .ok (.iconst 0, 1) := by decide +kernel
theorem dX1_innerHalls_3 : decode cX1_innerHalls 3 = .ok (.istore_n 2, 1) := by decide +kernel
theorem dX1_innerHalls_4 : decode cX1_innerHalls 4 = .ok (.iload_n 2, 1) := by decide +kernel
theorem dX1_innerHalls_5 : decode cX1_innerHalls 5 = .ok (.iconst 1, 1) := by decide +kernel
theorem dX1_innerHalls_6 : decode cX1_innerHalls 6 = .ok (.aload_n 0, 1) := by decide +kernel
theorem dX1_innerHalls_7 : decode cX1_innerHalls 7 = .ok (.getfield 33, 3) := by decide +kernel
theorem dX1_innerHalls_10 : decode cX1_innerHalls 10 = .ok (.ishl, 1) := by decide +kernel
theorem dX1_innerHalls_11 : decode cX1_innerHalls 11 = .ok (.if_icmp .ge 28, 3) := by decide +kernel
theorem dX1_innerHalls_14 : decode cX1_innerHalls 14 = .ok (.iload_n 2, 1) := by decide +kernel
theorem dX1_innerHalls_15 : decode cX1_innerHalls 15 = .ok (.invokestatic 87, 3) := by decide +kernel
theorem dX1_innerHalls_18 : decode cX1_innerHalls 18 = .ok (.iconst 2, 1) := by decide +kernel
theorem dX1_innerHalls_19 : decode cX1_innerHalls 19 = .ok (.if_icmp .lt 14, 3) := by decide +kernel
theorem dX1_innerHalls_22 : decode cX1_innerHalls 22 = .ok (.aload_n 0, 1) := by decide +kernel
theorem dX1_innerHalls_23 : decode cX1_innerHalls 23 = .ok (.iload_n 2, 1) := by decide +kernel
theorem dX1_innerHalls_24 : decode cX1_innerHalls 24 = .ok (.invokevirtual 93, 3) := by decide +kernel
theorem dX1_innerHalls_27 : decode cX1_innerHalls 27 = .ok (.ifCond .eq 6, 3) := by decide +kernel
theorem dX1_innerHalls_30 : decode cX1_innerHalls 30 = .ok (.iinc 1 1, 3) := by decide +kernel
theorem dX1_innerHalls_33 : decode cX1_innerHalls 33 = .ok (.iinc 2 1, 3) := by decide +kernel
theorem dX1_innerHalls_36 : decode cX1_innerHalls 36 = .ok (.goto (-32), 3) := by decide +kernel
theorem dX1_innerHalls_39 : decode cX1_innerHalls 39 = .ok (.iload_n 1, 1) := by decide +kernel
theorem dX1_innerHalls_40 : decode cX1_innerHalls 40 = .ok (.ireturn, 1) := by decide +kernel
theorem dX1_isInnerHall_0 : decode cX1_isInnerHall 0 = .ok (.bipush 12, 2) := by decide +kernel
theorem dX1_isInnerHall_2 : decode cX1_isInnerHall 2 = .ok (.istore_n 2, 1) := by decide +kernel
theorem dX1_isInnerHall_3 : decode cX1_isInnerHall 3 = .ok (.iconst 0, 1) := by decide +kernel
theorem dX1_isInnerHall_4 : decode cX1_isInnerHall 4 = .ok (.istore_n 3, 1) := by decide +kernel
theorem dX1_isInnerHall_5 : decode cX1_isInnerHall 5 = .ok (.bipush 12, 2) := by decide +kernel
theorem dX1_isInnerHall_7 : decode cX1_isInnerHall 7 = .ok (.istore 4, 2) := by decide +kernel
theorem dX1_isInnerHall_9 : decode cX1_isInnerHall 9 = .ok (.iconst 0, 1) := by decide +kernel
theorem dX1_isInnerHall_10 : decode cX1_isInnerHall 10 = .ok (.istore 5, 2) := by decide +kernel
theorem dX1_isInnerHall_12 : decode cX1_isInnerHall 12 = .ok (.iconst 0, 1) := by decide +kernel
theorem dX1_isInnerHall_13 : decode cX1_isInnerHall 13 = .ok (.istore 6, 2) := by decide +kernel
theorem dX1_isInnerHall_15 : decode cX1_isInnerHall 15 = .ok (.iconst 0, 1) := by decide +kernel
theorem dX1_isInnerHall_16 : decode cX1_isInnerHall 16 = .ok (.istore 7, 2) := by decide +kernel
theorem dX1_isInnerHall_18 : decode cX1_isInnerHall 18 = .ok (.iload 7, 2) := by decide +kernel
theorem dX1_isInnerHall_20 : decode cX1_isInnerHall 20 = .ok (.aload_n 0, 1) := by decide +kernel
theorem dX1_isInnerHall_21 : decode cX1_isInnerHall 21 = .ok (.getfield 33, 3) := by decide +kernel
theorem dX1_isInnerHall_24 : decode cX1_isInnerHall 24 = .ok (.if_icmp .ge 120, 3) := by decide +kernel
theorem dX1_isInnerHall_27 : decode cX1_isInnerHall 27 = .ok (.iload_n 1, 1) := by decide +kernel
theorem dX1_isInnerHall_28 : decode cX1_isInnerHall 28 = .ok (.iload 7, 2) := by decide +kernel
theorem dX1_isInnerHall_30 : decode cX1_isInnerHall 30 = .ok (.ishr, 1) := by decide +kernel
theorem dX1_isInnerHall_31 : decode cX1_isInnerHall 31 = .ok (.iconst 1, 1) := by decide +kernel
theorem dX1_isInnerHall_32 : decode cX1_isInnerHall 32 = .ok (.iand, 1) := by decide +kernel
theorem dX1_isInnerHall_33 : decode cX1_isInnerHall 33 = .ok (.ifCond .ne 6, 3) := by decide +kernel
theorem dX1_isInnerHall_36 : decode cX1_isInnerHall 36 = .ok (.goto 102, 3) := by decide +kernel
theorem dX1_isInnerHall_39 : decode cX1_isInnerHall 39 = .ok (.aload_n 0, 1) := by decide +kernel
theorem dX1_isInnerHall_40 : decode cX1_isInnerHall 40 = .ok (.iload 7, 2) := by decide +kernel
theorem dX1_isInnerHall_42 : decode cX1_isInnerHall 42 = .ok (.invokevirtual 56, 3) := by decide +kernel
theorem dX1_isInnerHall_45 : decode cX1_isInnerHall 45 = .ok (.ifCond .ne 5, 3) := by decide +kernel
theorem dX1_isInnerHall_48 : decode cX1_isInnerHall 48 = .ok (.iconst 0, 1) := by decide +kernel
theorem dX1_isInnerHall_49 : decode cX1_isInnerHall 49 = .ok (.ireturn, 1) := by decide +kernel
theorem dX1_isInnerHall_50 : decode cX1_isInnerHall 50 = .ok (.iload_n 2, 1) := by decide +kernel
theorem dX1_isInnerHall_51 : decode cX1_isInnerHall 51 = .ok (.aload_n 0, 1) := by decide +kernel
theorem dX1_isInnerHall_52 : decode cX1_isInnerHall 52 = .ok (.getfield 21, 3) := by decide +kernel
theorem dX1_isInnerHall_55 : decode cX1_isInnerHall 55 = .ok (.iload 7, 2) := by decide +kernel
theorem dX1_isInnerHall_57 : decode cX1_isInnerHall 57 = .ok (.iaload, 1) := by decide +kernel
theorem dX1_isInnerHall_58 : decode cX1_isInnerHall 58 = .ok (.invokestatic 96, 3) := by decide +kernel
theorem dX1_isInnerHall_61 : decode cX1_isInnerHall 61 = .ok (.istore_n 2, 1) := by decide +kernel
theorem dX1_isInnerHall_62 : decode cX1_isInnerHall 62 = .ok (.iload_n 3, 1) := by decide +kernel
theorem dX1_isInnerHall_63 : decode cX1_isInnerHall 63 = .ok (.aload_n 0, 1) := by decide +kernel
theorem dX1_isInnerHall_64 : decode cX1_isInnerHall 64 = .ok (.getfield 21, 3) := by decide +kernel
theorem dX1_isInnerHall_67 : decode cX1_isInnerHall 67 = .ok (.iload 7, 2) := by decide +kernel
theorem dX1_isInnerHall_69 : decode cX1_isInnerHall 69 = .ok (.iaload, 1) := by decide +kernel
theorem dX1_isInnerHall_70 : decode cX1_isInnerHall 70 = .ok (.aload_n 0, 1) := by decide +kernel
theorem dX1_isInnerHall_71 : decode cX1_isInnerHall 71 = .ok (.getfield 9, 3) := by decide +kernel
theorem dX1_isInnerHall_74 : decode cX1_isInnerHall 74 = .ok (.iload 7, 2) := by decide +kernel
theorem dX1_isInnerHall_76 : decode cX1_isInnerHall 76 = .ok (.iaload, 1) := by decide +kernel
theorem dX1_isInnerHall_77 : decode cX1_isInnerHall 77 = .ok (.iadd, 1) := by decide +kernel
theorem dX1_isInnerHall_78 : decode cX1_isInnerHall 78 = .ok (.invokestatic 72, 3) := by decide +kernel
theorem dX1_isInnerHall_81 : decode cX1_isInnerHall 81 = .ok (.istore_n 3, 1) := by decide +kernel
theorem dX1_isInnerHall_82 : decode cX1_isInnerHall 82 = .ok (.iload 4, 2) := by decide +kernel
theorem dX1_isInnerHall_84 : decode cX1_isInnerHall 84 = .ok (.aload_n 0, 1) := by decide +kernel
theorem dX1_isInnerHall_85 : decode cX1_isInnerHall 85 = .ok (.getfield 24, 3) := by decide +kernel
theorem dX1_isInnerHall_88 : decode cX1_isInnerHall 88 = .ok (.iload 7, 2) := by decide +kernel
theorem dX1_isInnerHall_90 : decode cX1_isInnerHall 90 = .ok (.iaload, 1) := by decide +kernel
theorem dX1_isInnerHall_91 : decode cX1_isInnerHall 91 = .ok (.invokestatic 96, 3) := by decide +kernel
theorem dX1_isInnerHall_94 : decode cX1_isInnerHall 94 = .ok (.istore 4, 2) := by decide +kernel
theorem dX1_isInnerHall_96 : decode cX1_isInnerHall 96 = .ok (.iload 5, 2) := by decide +kernel
theorem dX1_isInnerHall_98 : decode cX1_isInnerHall 98 = .ok (.aload_n 0, 1) := by decide +kernel
theorem dX1_isInnerHall_99 : decode cX1_isInnerHall 99 = .ok (.getfield 24, 3) := by decide +kernel
theorem dX1_isInnerHall_102 : decode cX1_isInnerHall 102 = .ok (.iload 7, 2) := by decide +kernel
theorem dX1_isInnerHall_104 : decode cX1_isInnerHall 104 = .ok (.iaload, 1) := by decide +kernel
theorem dX1_isInnerHall_105 : decode cX1_isInnerHall 105 = .ok (.aload_n 0, 1) := by decide +kernel
theorem dX1_isInnerHall_106 : decode cX1_isInnerHall 106 = .ok (.getfield 9, 3) := by decide +kernel
theorem dX1_isInnerHall_109 : decode cX1_isInnerHall 109 = .ok (.iload 7, 2) := by decide +kernel
theorem dX1_isInnerHall_111 : decode cX1_isInnerHall 111 = .ok (.iaload, 1) := by decide +kernel
theorem dX1_isInnerHall_112 : decode cX1_isInnerHall 112 = .ok (.iadd, 1) := by decide +kernel
theorem dX1_isInnerHall_113 : decode cX1_isInnerHall 113 = .ok (.invokestatic 72, 3) := by decide +kernel
theorem dX1_isInnerHall_116 : decode cX1_isInnerHall 116 = .ok (.istore 5, 2) := by decide +kernel
theorem dX1_isInnerHall_118 : decode cX1_isInnerHall 118 = .ok (.iload 6, 2) := by decide +kernel
theorem dX1_isInnerHall_120 : decode cX1_isInnerHall 120 = .ok (.aload_n 0, 1) := by decide +kernel
theorem dX1_isInnerHall_121 : decode cX1_isInnerHall 121 = .ok (.getfield 9, 3) := by decide +kernel
theorem dX1_isInnerHall_124 : decode cX1_isInnerHall 124 = .ok (.iload 7, 2) := by decide +kernel
theorem dX1_isInnerHall_126 : decode cX1_isInnerHall 126 = .ok (.iaload, 1) := by decide +kernel
theorem dX1_isInnerHall_127 : decode cX1_isInnerHall 127 = .ok (.aload_n 0, 1) := by decide +kernel
theorem dX1_isInnerHall_128 : decode cX1_isInnerHall 128 = .ok (.getfield 9, 3) := by decide +kernel
theorem dX1_isInnerHall_131 : decode cX1_isInnerHall 131 = .ok (.iload 7, 2) := by decide +kernel
theorem dX1_isInnerHall_133 : decode cX1_isInnerHall 133 = .ok (.iaload, 1) := by decide +kernel
theorem dX1_isInnerHall_134 : decode cX1_isInnerHall 134 = .ok (.imul, 1) := by decide +kernel
theorem dX1_isInnerHall_135 : decode cX1_isInnerHall 135 = .ok (.iadd, 1) := by decide +kernel
theorem dX1_isInnerHall_136 : decode cX1_isInnerHall 136 = .ok (.istore 6, 2) := by decide +kernel
theorem dX1_isInnerHall_138 : decode cX1_isInnerHall 138 = .ok (.iinc 7 1, 3) := by decide +kernel
theorem dX1_isInnerHall_141 : decode cX1_isInnerHall 141 = .ok (.goto (-123), 3) := by decide +kernel
theorem dX1_isInnerHall_144 : decode cX1_isInnerHall 144 = .ok (.iload_n 3, 1) := by decide +kernel
theorem dX1_isInnerHall_145 : decode cX1_isInnerHall 145 = .ok (.iload_n 2, 1) := by decide +kernel
theorem dX1_isInnerHall_146 : decode cX1_isInnerHall 146 = .ok (.isub, 1) := by decide +kernel
theorem dX1_isInnerHall_147 : decode cX1_isInnerHall 147 = .ok (.iload 5, 2) := by decide +kernel
theorem dX1_isInnerHall_149 : decode cX1_isInnerHall 149 = .ok (.iload 4, 2) := by decide +kernel
theorem dX1_isInnerHall_151 : decode cX1_isInnerHall 151 = .ok (.isub, 1) := by decide +kernel
theorem dX1_isInnerHall_152 : decode cX1_isInnerHall 152 = .ok (.imul, 1) := by decide +kernel
theorem dX1_isInnerHall_153 : decode cX1_isInnerHall 153 = .ok (.iload 6, 2) := by decide +kernel
theorem dX1_isInnerHall_155 : decode cX1_isInnerHall 155 = .ok (.if_icmp .ne 21, 3) := by decide +kernel
theorem dX1_isInnerHall_158 : decode cX1_isInnerHall 158 = .ok (.iload 6, 2) := by decide +kernel
theorem dX1_isInnerHall_160 : decode cX1_isInnerHall 160 = .ok (.aload_n 0, 1) := by decide +kernel
theorem dX1_isInnerHall_161 : decode cX1_isInnerHall 161 = .ok (.getfield 37, 3) := by decide +kernel
theorem dX1_isInnerHall_164 : decode cX1_isInnerHall 164 = .ok (.aload_n 0, 1) := by decide +kernel
theorem dX1_isInnerHall_165 : decode cX1_isInnerHall 165 = .ok (.getfield 40, 3) := by decide +kernel
theorem dX1_isInnerHall_168 : decode cX1_isInnerHall 168 = .ok (.imul, 1) := by decide +kernel
theorem dX1_isInnerHall_169 : decode cX1_isInnerHall 169 = .ok (.if_icmp .ge 7, 3) := by decide +kernel
theorem dX1_isInnerHall_172 : decode cX1_isInnerHall 172 = .ok (.iconst 1, 1) := by decide +kernel
theorem dX1_isInnerHall_173 : decode cX1_isInnerHall 173 = .ok (.goto 4, 3) := by decide +kernel
theorem dX1_isInnerHall_176 : decode cX1_isInnerHall 176 = .ok (.iconst 0, 1) := by decide +kernel
theorem dX1_isInnerHall_177 : decode cX1_isInnerHall 177 = .ok (.ireturn, 1) := by decide +kernel
theorem dX1_crossPoints_0 : decode cX1_crossPoints 0 = .ok (.iconst 0, 1) := by decide +kernel
theorem dX1_crossPoints_1 : decode cX1_crossPoints 1 = .ok (.istore_n 1, 1) := by decide +kernel
theorem dX1_crossPoints_2 : decode cX1_crossPoints 2 = .ok (.iconst 0, 1) := by decide +kernel
theorem dX1_crossPoints_3 : decode cX1_crossPoints 3 = .ok (.istore_n 2, 1) := by decide +kernel
theorem dX1_crossPoints_4 : decode cX1_crossPoints 4 = .ok (.iload_n 2, 1) := by decide +kernel
theorem dX1_crossPoints_5 : decode cX1_crossPoints 5 = .ok (.aload_n 0, 1) := by decide +kernel
theorem dX1_crossPoints_6 : decode cX1_crossPoints 6 = .ok (.getfield 33, 3) := by decide +kernel
theorem dX1_crossPoints_9 : decode cX1_crossPoints 9 = .ok (.if_icmp .ge 53, 3) := by decide +kernel
theorem dX1_crossPoints_12 : decode cX1_crossPoints 12 = .ok (.aload_n 0, 1) := by decide +kernel
theorem dX1_crossPoints_13 : decode cX1_crossPoints 13 = .ok (.iload_n 2, 1) := by decide +kernel
theorem dX1_crossPoints_14 : decode cX1_crossPoints 14 = .ok (.invokevirtual 56, 3) := by decide +kernel
theorem dX1_crossPoints_17 : decode cX1_crossPoints 17 = .ok (.ifCond .eq 39, 3) := by decide +kernel
theorem dX1_crossPoints_20 : decode cX1_crossPoints 20 = .ok (.aload_n 0, 1) := by decide +kernel
theorem dX1_crossPoints_21 : decode cX1_crossPoints 21 = .ok (.aload_n 0, 1) := by decide +kernel
theorem dX1_crossPoints_22 : decode cX1_crossPoints 22 = .ok (.getfield 21, 3) := by decide +kernel
theorem dX1_crossPoints_25 : decode cX1_crossPoints 25 = .ok (.iload_n 2, 1) := by decide +kernel
theorem dX1_crossPoints_26 : decode cX1_crossPoints 26 = .ok (.iaload, 1) := by decide +kernel
theorem dX1_crossPoints_27 : decode cX1_crossPoints 27 = .ok (.aload_n 0, 1) := by decide +kernel
theorem dX1_crossPoints_28 : decode cX1_crossPoints 28 = .ok (.getfield 9, 3) := by decide +kernel
theorem dX1_crossPoints_31 : decode cX1_crossPoints 31 = .ok (.iload_n 2, 1) := by decide +kernel
theorem dX1_crossPoints_32 : decode cX1_crossPoints 32 = .ok (.iaload, 1) := by decide +kernel
theorem dX1_crossPoints_33 : decode cX1_crossPoints 33 = .ok (.iadd, 1) := by decide +kernel
theorem dX1_crossPoints_34 : decode cX1_crossPoints 34 = .ok (.aload_n 0, 1) := by decide +kernel
theorem dX1_crossPoints_35 : decode cX1_crossPoints 35 = .ok (.getfield 24, 3) := by decide +kernel
theorem dX1_crossPoints_38 : decode cX1_crossPoints 38 = .ok (.iload_n 2, 1) := by decide +kernel
theorem dX1_crossPoints_39 : decode cX1_crossPoints 39 = .ok (.iaload, 1) := by decide +kernel
theorem dX1_crossPoints_40 : decode cX1_crossPoints 40 = .ok (.aload_n 0, 1) := by decide +kernel
theorem dX1_crossPoints_41 : decode cX1_crossPoints 41 = .ok (.getfield 9, 3) := by decide +kernel
theorem dX1_crossPoints_44 : decode cX1_crossPoints 44 = .ok (.iload_n 2, 1) := by decide +kernel
theorem dX1_crossPoints_45 : decode cX1_crossPoints 45 = .ok (.iaload, 1) := by decide +kernel
theorem dX1_crossPoints_46 : decode cX1_crossPoints 46 = .ok (.iadd, 1) := by decide +kernel
theorem dX1_crossPoints_47 : decode cX1_crossPoints 47 = .ok (.invokevirtual 99, 3) := by decide +kernel
theorem dX1_crossPoints_50 : decode cX1_crossPoints 50 = .ok (.ifCond .eq 6, 3) := by decide +kernel
theorem dX1_crossPoints_53 : decode cX1_crossPoints 53 = .ok (.iinc 1 1, 3) := by decide +kernel
theorem dX1_crossPoints_56 : decode cX1_crossPoints 56 = .ok (.iinc 2 1, 3) := by decide +kernel
theorem dX1_crossPoints_59 : decode cX1_crossPoints 59 = .ok (.goto (-55), 3) := by decide +kernel
theorem dX1_crossPoints_62 : decode cX1_crossPoints 62 = .ok (.iload_n 1, 1) := by decide +kernel
theorem dX1_crossPoints_63 : decode cX1_crossPoints 63 = .ok (.ireturn, 1) := by decide +kernel
theorem dX1_threeMoreMeetAt_0 : decode cX1_threeMoreMeetAt 0 = .ok (.iconst 0, 1) := by decide +kernel
theorem dX1_threeMoreMeetAt_1 : decode cX1_threeMoreMeetAt 1 = .ok (.istore_n 3, 1) := by decide +kernel
theorem dX1_threeMoreMeetAt_2 : decode cX1_threeMoreMeetAt 2 = .ok (.iconst 0, 1) := by decide +kernel
theorem dX1_threeMoreMeetAt_3 : decode cX1_threeMoreMeetAt 3 = .ok (.istore 4, 2) := by decide +kernel
theorem dX1_threeMoreMeetAt_5 : decode cX1_threeMoreMeetAt 5 = .ok (.iload 4, 2) := by decide +kernel
theorem dX1_threeMoreMeetAt_7 : decode cX1_threeMoreMeetAt 7 = .ok (.aload_n 0, 1) := by decide +kernel
theorem dX1_threeMoreMeetAt_8 : decode cX1_threeMoreMeetAt 8 = .ok (.getfield 33, 3) := by decide +kernel
theorem dX1_threeMoreMeetAt_11 : decode cX1_threeMoreMeetAt 11 = .ok (.if_icmp .ge 147, 3) := by decide +kernel
theorem dX1_threeMoreMeetAt_14 : decode cX1_threeMoreMeetAt 14 = .ok (.aload_n 0, 1) := by decide +kernel
theorem dX1_threeMoreMeetAt_15 : decode cX1_threeMoreMeetAt 15 = .ok (.iload 4, 2) := by decide +kernel
theorem dX1_threeMoreMeetAt_17 : decode cX1_threeMoreMeetAt 17 = .ok (.invokevirtual 56, 3) := by decide +kernel
theorem dX1_threeMoreMeetAt_20 : decode cX1_threeMoreMeetAt 20 = .ok (.ifCond .ne 6, 3) := by decide +kernel
theorem dX1_threeMoreMeetAt_23 : decode cX1_threeMoreMeetAt 23 = .ok (.goto 129, 3) := by decide +kernel
theorem dX1_threeMoreMeetAt_26 : decode cX1_threeMoreMeetAt 26 = .ok (.aload_n 0, 1) := by decide +kernel
theorem dX1_threeMoreMeetAt_27 : decode cX1_threeMoreMeetAt 27 = .ok (.getfield 21, 3) := by decide +kernel
theorem dX1_threeMoreMeetAt_30 : decode cX1_threeMoreMeetAt 30 = .ok (.iload 4, 2) := by decide +kernel
theorem dX1_threeMoreMeetAt_32 : decode cX1_threeMoreMeetAt 32 = .ok (.iaload, 1) := by decide +kernel
theorem dX1_threeMoreMeetAt_33 : decode cX1_threeMoreMeetAt 33 = .ok (.iload_n 1, 1) := by decide +kernel
theorem dX1_threeMoreMeetAt_34 : decode cX1_threeMoreMeetAt 34 = .ok (.if_icmp .ne 7, 3) := by decide +kernel
theorem dX1_threeMoreMeetAt_37 : decode cX1_threeMoreMeetAt 37 = .ok (.iconst 1, 1) := by decide +kernel
theorem dX1_threeMoreMeetAt_38 : decode cX1_threeMoreMeetAt 38 = .ok (.goto 4, 3) := by decide +kernel
theorem dX1_threeMoreMeetAt_41 : decode cX1_threeMoreMeetAt 41 = .ok (.iconst 0, 1) := by decide +kernel
theorem dX1_threeMoreMeetAt_42 : decode cX1_threeMoreMeetAt 42 = .ok (.istore 5, 2) := by decide +kernel
theorem dX1_threeMoreMeetAt_44 : decode cX1_threeMoreMeetAt 44 = .ok (.aload_n 0, 1) := by decide +kernel
theorem dX1_threeMoreMeetAt_45 : decode cX1_threeMoreMeetAt 45 = .ok (.getfield 21, 3) := by decide +kernel
theorem dX1_threeMoreMeetAt_48 : decode cX1_threeMoreMeetAt 48 = .ok (.iload 4, 2) := by decide +kernel
theorem dX1_threeMoreMeetAt_50 : decode cX1_threeMoreMeetAt 50 = .ok (.iaload, 1) := by decide +kernel
theorem dX1_threeMoreMeetAt_51 : decode cX1_threeMoreMeetAt 51 = .ok (.aload_n 0, 1) := by decide +kernel
theorem dX1_threeMoreMeetAt_52 : decode cX1_threeMoreMeetAt 52 = .ok (.getfield 9, 3) := by decide +kernel
theorem dX1_threeMoreMeetAt_55 : decode cX1_threeMoreMeetAt 55 = .ok (.iload 4, 2) := by decide +kernel
theorem dX1_threeMoreMeetAt_57 : decode cX1_threeMoreMeetAt 57 = .ok (.iaload, 1) := by decide +kernel
theorem dX1_threeMoreMeetAt_58 : decode cX1_threeMoreMeetAt 58 = .ok (.iadd, 1) := by decide +kernel
theorem dX1_threeMoreMeetAt_59 : decode cX1_threeMoreMeetAt 59 = .ok (.iload_n 1, 1) := by decide +kernel
theorem dX1_threeMoreMeetAt_60 : decode cX1_threeMoreMeetAt 60 = .ok (.if_icmp .ne 7, 3) := by decide +kernel
theorem dX1_threeMoreMeetAt_63 : decode cX1_threeMoreMeetAt 63 = .ok (.iconst 1, 1) := by decide +kernel
theorem dX1_threeMoreMeetAt_64 : decode cX1_threeMoreMeetAt 64 = .ok (.goto 4, 3) := by decide +kernel
theorem dX1_threeMoreMeetAt_67 : decode cX1_threeMoreMeetAt 67 = .ok (.iconst 0, 1) := by decide +kernel
theorem dX1_threeMoreMeetAt_68 : decode cX1_threeMoreMeetAt 68 = .ok (.istore 6, 2) := by decide +kernel
theorem dX1_threeMoreMeetAt_70 : decode cX1_threeMoreMeetAt 70 = .ok (.aload_n 0, 1) := by decide +kernel
theorem dX1_threeMoreMeetAt_71 : decode cX1_threeMoreMeetAt 71 = .ok (.getfield 24, 3) := by decide +kernel
theorem dX1_threeMoreMeetAt_74 : decode cX1_threeMoreMeetAt 74 = .ok (.iload 4, 2) := by decide +kernel
theorem dX1_threeMoreMeetAt_76 : decode cX1_threeMoreMeetAt 76 = .ok (.iaload, 1) := by decide +kernel
theorem dX1_threeMoreMeetAt_77 : decode cX1_threeMoreMeetAt 77 = .ok (.iload_n 2, 1) := by decide +kernel
theorem dX1_threeMoreMeetAt_78 : decode cX1_threeMoreMeetAt 78 = .ok (.if_icmp .ne 7, 3) := by decide +kernel
theorem dX1_threeMoreMeetAt_81 : decode cX1_threeMoreMeetAt 81 = .ok (.iconst 1, 1) := by decide +kernel
theorem dX1_threeMoreMeetAt_82 : decode cX1_threeMoreMeetAt 82 = .ok (.goto 4, 3) := by decide +kernel
theorem dX1_threeMoreMeetAt_85 : decode cX1_threeMoreMeetAt 85 = .ok (.iconst 0, 1) := by decide +kernel
theorem dX1_threeMoreMeetAt_86 : decode cX1_threeMoreMeetAt 86 = .ok (.istore 7, 2) := by decide +kernel
theorem dX1_threeMoreMeetAt_88 : decode cX1_threeMoreMeetAt 88 = .ok (.aload_n 0, 1) := by decide +kernel
theorem dX1_threeMoreMeetAt_89 : decode cX1_threeMoreMeetAt 89 = .ok (.getfield 24, 3) := by decide +kernel
theorem dX1_threeMoreMeetAt_92 : decode cX1_threeMoreMeetAt 92 = .ok (.iload 4, 2) := by decide +kernel
theorem dX1_threeMoreMeetAt_94 : decode cX1_threeMoreMeetAt 94 = .ok (.iaload, 1) := by decide +kernel
theorem dX1_threeMoreMeetAt_95 : decode cX1_threeMoreMeetAt 95 = .ok (.aload_n 0, 1) := by decide +kernel
theorem dX1_threeMoreMeetAt_96 : decode cX1_threeMoreMeetAt 96 = .ok (.getfield 9, 3) := by decide +kernel
theorem dX1_threeMoreMeetAt_99 : decode cX1_threeMoreMeetAt 99 = .ok (.iload 4, 2) := by decide +kernel
theorem dX1_threeMoreMeetAt_101 : decode cX1_threeMoreMeetAt 101 = .ok (.iaload, 1) := by decide +kernel
theorem dX1_threeMoreMeetAt_102 : decode cX1_threeMoreMeetAt 102 = .ok (.iadd, 1) := by decide +kernel
theorem dX1_threeMoreMeetAt_103 : decode cX1_threeMoreMeetAt 103 = .ok (.iload_n 2, 1) := by decide +kernel
theorem dX1_threeMoreMeetAt_104 : decode cX1_threeMoreMeetAt 104 = .ok (.if_icmp .ne 7, 3) := by decide +kernel
theorem dX1_threeMoreMeetAt_107 : decode cX1_threeMoreMeetAt 107 = .ok (.iconst 1, 1) := by decide +kernel
theorem dX1_threeMoreMeetAt_108 : decode cX1_threeMoreMeetAt 108 = .ok (.goto 4, 3) := by decide +kernel
theorem dX1_threeMoreMeetAt_111 : decode cX1_threeMoreMeetAt 111 = .ok (.iconst 0, 1) := by decide +kernel
theorem dX1_threeMoreMeetAt_112 : decode cX1_threeMoreMeetAt 112 = .ok (.istore 8, 2) := by decide +kernel
theorem dX1_threeMoreMeetAt_114 : decode cX1_threeMoreMeetAt 114 = .ok (.iload_n 3, 1) := by decide +kernel
theorem dX1_threeMoreMeetAt_115 : decode cX1_threeMoreMeetAt 115 = .ok (.iload 5, 2) := by decide +kernel
theorem dX1_threeMoreMeetAt_117 : decode cX1_threeMoreMeetAt 117 = .ok (.ifCond .eq 8, 3) := by decide +kernel
theorem dX1_threeMoreMeetAt_120 : decode cX1_threeMoreMeetAt 120 = .ok (.iload 7, 2) := by decide +kernel
theorem dX1_threeMoreMeetAt_122 : decode cX1_threeMoreMeetAt 122 = .ok (.ifCond .ne 23, 3) := by decide +kernel
theorem dX1_threeMoreMeetAt_125 : decode cX1_threeMoreMeetAt 125 = .ok (.iload 5, 2) := by decide +kernel
theorem dX1_threeMoreMeetAt_127 : decode cX1_threeMoreMeetAt 127 = .ok (.ifCond .eq 8, 3) := by decide +kernel
theorem dX1_threeMoreMeetAt_130 : decode cX1_threeMoreMeetAt 130 = .ok (.iload 8, 2) := by decide +kernel
theorem dX1_threeMoreMeetAt_132 : decode cX1_threeMoreMeetAt 132 = .ok (.ifCond .ne 13, 3) := by decide +kernel
theorem dX1_threeMoreMeetAt_135 : decode cX1_threeMoreMeetAt 135 = .ok (.iload 6, 2) := by decide +kernel
theorem dX1_threeMoreMeetAt_137 : decode cX1_threeMoreMeetAt 137 = .ok (.ifCond .eq 12, 3) := by decide +kernel
theorem dX1_threeMoreMeetAt_140 : decode cX1_threeMoreMeetAt 140 = .ok (.iload 7, 2) := by decide +kernel
theorem dX1_threeMoreMeetAt_142 : decode cX1_threeMoreMeetAt 142 = .ok (.ifCond .eq 7, 3) := by decide +kernel
theorem dX1_threeMoreMeetAt_145 : decode cX1_threeMoreMeetAt 145 = .ok (.iconst 1, 1) := by decide +kernel
theorem dX1_threeMoreMeetAt_146 : decode cX1_threeMoreMeetAt 146 = .ok (.goto 4, 3) := by decide +kernel
theorem dX1_threeMoreMeetAt_149 : decode cX1_threeMoreMeetAt 149 = .ok (.iconst 0, 1) := by decide +kernel
theorem dX1_threeMoreMeetAt_150 : decode cX1_threeMoreMeetAt 150 = .ok (.iadd, 1) := by decide +kernel
theorem dX1_threeMoreMeetAt_151 : decode cX1_threeMoreMeetAt 151 = .ok (.istore_n 3, 1) := by decide +kernel
theorem dX1_threeMoreMeetAt_152 : decode cX1_threeMoreMeetAt 152 = .ok (.iinc 4 1, 3) := by decide +kernel
theorem dX1_threeMoreMeetAt_155 : decode cX1_threeMoreMeetAt 155 = .ok (.goto (-150), 3) := by decide +kernel
theorem dX1_threeMoreMeetAt_158 : decode cX1_threeMoreMeetAt 158 = .ok (.iload_n 3, 1) := by decide +kernel
theorem dX1_threeMoreMeetAt_159 : decode cX1_threeMoreMeetAt 159 = .ok (.iconst 3, 1) := by decide +kernel
theorem dX1_threeMoreMeetAt_160 : decode cX1_threeMoreMeetAt 160 = .ok (.if_icmp .ne 7, 3) := by decide +kernel
theorem dX1_threeMoreMeetAt_163 : decode cX1_threeMoreMeetAt 163 = .ok (.iconst 1, 1) := by decide +kernel
theorem dX1_threeMoreMeetAt_164 : decode cX1_threeMoreMeetAt 164 = .ok (.goto 4, 3) := by decide +kernel
theorem dX1_threeMoreMeetAt_167 : decode cX1_threeMoreMeetAt 167 = .ok (.iconst 0, 1) := by decide +kernel
theorem dX1_threeMoreMeetAt_168 : decode cX1_threeMoreMeetAt 168 = .ok (.ireturn, 1) := by decide +kernel
theorem dX1_sidesAtLine_0 : decode cX1_sidesAtLine 0 = .ok (.iconst 0, 1) := by decide +kernel
theorem dX1_sidesAtLine_1 : decode cX1_sidesAtLine 1 = .ok (.istore_n 3, 1) := by decide +kernel
theorem dX1_sidesAtLine_2 : decode cX1_sidesAtLine 2 = .ok (.iconst 0, 1) := by decide +kernel
theorem dX1_sidesAtLine_3 : decode cX1_sidesAtLine 3 = .ok (.istore 4, 2) := by decide +kernel
theorem dX1_sidesAtLine_5 : decode cX1_sidesAtLine 5 = .ok (.iload 4, 2) := by decide +kernel
theorem dX1_sidesAtLine_7 : decode cX1_sidesAtLine 7 = .ok (.aload_n 0, 1) := by decide +kernel
theorem dX1_sidesAtLine_8 : decode cX1_sidesAtLine 8 = .ok (.getfield 33, 3) := by decide +kernel
theorem dX1_sidesAtLine_11 : decode cX1_sidesAtLine 11 = .ok (.if_icmp .ge 55, 3) := by decide +kernel
theorem dX1_sidesAtLine_14 : decode cX1_sidesAtLine 14 = .ok (.aload_n 0, 1) := by decide +kernel
theorem dX1_sidesAtLine_15 : decode cX1_sidesAtLine 15 = .ok (.iload 4, 2) := by decide +kernel
theorem dX1_sidesAtLine_17 : decode cX1_sidesAtLine 17 = .ok (.invokevirtual 56, 3) := by decide +kernel
theorem dX1_sidesAtLine_20 : decode cX1_sidesAtLine 20 = .ok (.ifCond .eq 40, 3) := by decide +kernel
theorem dX1_sidesAtLine_23 : decode cX1_sidesAtLine 23 = .ok (.aload_n 0, 1) := by decide +kernel
theorem dX1_sidesAtLine_24 : decode cX1_sidesAtLine 24 = .ok (.getfield 24, 3) := by decide +kernel
theorem dX1_sidesAtLine_27 : decode cX1_sidesAtLine 27 = .ok (.iload 4, 2) := by decide +kernel
theorem dX1_sidesAtLine_29 : decode cX1_sidesAtLine 29 = .ok (.iaload, 1) := by decide +kernel
theorem dX1_sidesAtLine_30 : decode cX1_sidesAtLine 30 = .ok (.iload_n 2, 1) := by decide +kernel
theorem dX1_sidesAtLine_31 : decode cX1_sidesAtLine 31 = .ok (.ifCond .eq 13, 3) := by decide +kernel
theorem dX1_sidesAtLine_34 : decode cX1_sidesAtLine 34 = .ok (.aload_n 0, 1) := by decide +kernel
theorem dX1_sidesAtLine_35 : decode cX1_sidesAtLine 35 = .ok (.getfield 9, 3) := by decide +kernel
theorem dX1_sidesAtLine_38 : decode cX1_sidesAtLine 38 = .ok (.iload 4, 2) := by decide +kernel
theorem dX1_sidesAtLine_40 : decode cX1_sidesAtLine 40 = .ok (.iaload, 1) := by decide +kernel
theorem dX1_sidesAtLine_41 : decode cX1_sidesAtLine 41 = .ok (.goto 4, 3) := by decide +kernel
theorem dX1_sidesAtLine_44 : decode cX1_sidesAtLine 44 = .ok (.iconst 0, 1) := by decide +kernel
theorem dX1_sidesAtLine_45 : decode cX1_sidesAtLine 45 = .ok (.iadd, 1) := by decide +kernel
theorem dX1_sidesAtLine_46 : decode cX1_sidesAtLine 46 = .ok (.iload_n 1, 1) := by decide +kernel
theorem dX1_sidesAtLine_47 : decode cX1_sidesAtLine 47 = .ok (.if_icmp .ne 13, 3) := by decide +kernel
theorem dX1_sidesAtLine_50 : decode cX1_sidesAtLine 50 = .ok (.iload_n 3, 1) := by decide +kernel
theorem dX1_sidesAtLine_51 : decode cX1_sidesAtLine 51 = .ok (.aload_n 0, 1) := by decide +kernel
theorem dX1_sidesAtLine_52 : decode cX1_sidesAtLine 52 = .ok (.getfield 9, 3) := by decide +kernel
theorem dX1_sidesAtLine_55 : decode cX1_sidesAtLine 55 = .ok (.iload 4, 2) := by decide +kernel
theorem dX1_sidesAtLine_57 : decode cX1_sidesAtLine 57 = .ok (.iaload, 1) := by decide +kernel
theorem dX1_sidesAtLine_58 : decode cX1_sidesAtLine 58 = .ok (.iadd, 1) := by decide +kernel
theorem dX1_sidesAtLine_59 : decode cX1_sidesAtLine 59 = .ok (.istore_n 3, 1) := by decide +kernel
theorem dX1_sidesAtLine_60 : decode cX1_sidesAtLine 60 = .ok (.iinc 4 1, 3) := by decide +kernel
theorem dX1_sidesAtLine_63 : decode cX1_sidesAtLine 63 = .ok (.goto (-58), 3) := by decide +kernel
theorem dX1_sidesAtLine_66 : decode cX1_sidesAtLine 66 = .ok (.iload_n 3, 1) := by decide +kernel
theorem dX1_sidesAtLine_67 : decode cX1_sidesAtLine 67 = .ok (.ireturn, 1) := by decide +kernel
theorem dX1_twosOfOneSide_0 : decode cX1_twosOfOneSide 0 = .ok (.iconst 0, 1) := by decide +kernel
theorem dX1_twosOfOneSide_1 : decode cX1_twosOfOneSide 1 = .ok (.istore_n 1, 1) := by decide +kernel
theorem dX1_twosOfOneSide_2 : decode cX1_twosOfOneSide 2 = .ok (.iconst 0, 1) := by decide +kernel
theorem dX1_twosOfOneSide_3 : decode cX1_twosOfOneSide 3 = .ok (.istore_n 2, 1) := by decide +kernel
theorem dX1_twosOfOneSide_4 : decode cX1_twosOfOneSide 4 = .ok (.iload_n 2, 1) := by decide +kernel
theorem dX1_twosOfOneSide_5 : decode cX1_twosOfOneSide 5 = .ok (.aload_n 0, 1) := by decide +kernel
theorem dX1_twosOfOneSide_6 : decode cX1_twosOfOneSide 6 = .ok (.getfield 33, 3) := by decide +kernel
theorem dX1_twosOfOneSide_9 : decode cX1_twosOfOneSide 9 = .ok (.if_icmp .ge 66, 3) := by decide +kernel
theorem dX1_twosOfOneSide_12 : decode cX1_twosOfOneSide 12 = .ok (.iload_n 2, 1) := by decide +kernel
theorem dX1_twosOfOneSide_13 : decode cX1_twosOfOneSide 13 = .ok (.iconst 1, 1) := by decide +kernel
theorem dX1_twosOfOneSide_14 : decode cX1_twosOfOneSide 14 = .ok (.iadd, 1) := by decide +kernel
theorem dX1_twosOfOneSide_15 : decode cX1_twosOfOneSide 15 = .ok (.istore_n 3, 1) := by decide +kernel
theorem dX1_twosOfOneSide_16 : decode cX1_twosOfOneSide 16 = .ok (.iload_n 3, 1) := by decide +kernel
theorem dX1_twosOfOneSide_17 : decode cX1_twosOfOneSide 17 = .ok (.aload_n 0, 1) := by decide +kernel
theorem dX1_twosOfOneSide_18 : decode cX1_twosOfOneSide 18 = .ok (.getfield 33, 3) := by decide +kernel
theorem dX1_twosOfOneSide_21 : decode cX1_twosOfOneSide 21 = .ok (.if_icmp .ge 48, 3) := by decide +kernel
theorem dX1_twosOfOneSide_24 : decode cX1_twosOfOneSide 24 = .ok (.iload_n 1, 1) := by decide +kernel
theorem dX1_twosOfOneSide_25 : decode cX1_twosOfOneSide 25 = .ok (.aload_n 0, 1) := by decide +kernel
theorem dX1_twosOfOneSide_26 : decode cX1_twosOfOneSide 26 = .ok (.iload_n 2, 1) := by decide +kernel
theorem dX1_twosOfOneSide_27 : decode cX1_twosOfOneSide 27 = .ok (.invokevirtual 56, 3) := by decide +kernel
theorem dX1_twosOfOneSide_30 : decode cX1_twosOfOneSide 30 = .ok (.ifCond .eq 30, 3) := by decide +kernel
theorem dX1_twosOfOneSide_33 : decode cX1_twosOfOneSide 33 = .ok (.aload_n 0, 1) := by decide +kernel
theorem dX1_twosOfOneSide_34 : decode cX1_twosOfOneSide 34 = .ok (.iload_n 3, 1) := by decide +kernel
theorem dX1_twosOfOneSide_35 : decode cX1_twosOfOneSide 35 = .ok (.invokevirtual 56, 3) := by decide +kernel
theorem dX1_twosOfOneSide_38 : decode cX1_twosOfOneSide 38 = .ok (.ifCond .eq 22, 3) := by decide +kernel
theorem dX1_twosOfOneSide_41 : decode cX1_twosOfOneSide 41 = .ok (.aload_n 0, 1) := by decide +kernel
theorem dX1_twosOfOneSide_42 : decode cX1_twosOfOneSide 42 = .ok (.getfield 9, 3) := by decide +kernel
theorem dX1_twosOfOneSide_45 : decode cX1_twosOfOneSide 45 = .ok (.iload_n 2, 1) := by decide +kernel
theorem dX1_twosOfOneSide_46 : decode cX1_twosOfOneSide 46 = .ok (.iaload, 1) := by decide +kernel
theorem dX1_twosOfOneSide_47 : decode cX1_twosOfOneSide 47 = .ok (.aload_n 0, 1) := by decide +kernel
theorem dX1_twosOfOneSide_48 : decode cX1_twosOfOneSide 48 = .ok (.getfield 9, 3) := by decide +kernel
theorem dX1_twosOfOneSide_51 : decode cX1_twosOfOneSide 51 = .ok (.iload_n 3, 1) := by decide +kernel
theorem dX1_twosOfOneSide_52 : decode cX1_twosOfOneSide 52 = .ok (.iaload, 1) := by decide +kernel
theorem dX1_twosOfOneSide_53 : decode cX1_twosOfOneSide 53 = .ok (.if_icmp .ne 7, 3) := by decide +kernel
theorem dX1_twosOfOneSide_56 : decode cX1_twosOfOneSide 56 = .ok (.iconst 1, 1) := by decide +kernel
theorem dX1_twosOfOneSide_57 : decode cX1_twosOfOneSide 57 = .ok (.goto 4, 3) := by decide +kernel
theorem dX1_twosOfOneSide_60 : decode cX1_twosOfOneSide 60 = .ok (.iconst 0, 1) := by decide +kernel
theorem dX1_twosOfOneSide_61 : decode cX1_twosOfOneSide 61 = .ok (.iadd, 1) := by decide +kernel
theorem dX1_twosOfOneSide_62 : decode cX1_twosOfOneSide 62 = .ok (.istore_n 1, 1) := by decide +kernel
theorem dX1_twosOfOneSide_63 : decode cX1_twosOfOneSide 63 = .ok (.iinc 3 1, 3) := by decide +kernel
theorem dX1_twosOfOneSide_66 : decode cX1_twosOfOneSide 66 = .ok (.goto (-50), 3) := by decide +kernel
theorem dX1_twosOfOneSide_69 : decode cX1_twosOfOneSide 69 = .ok (.iinc 2 1, 3) := by decide +kernel
theorem dX1_twosOfOneSide_72 : decode cX1_twosOfOneSide 72 = .ok (.goto (-68), 3) := by decide +kernel
theorem dX1_twosOfOneSide_75 : decode cX1_twosOfOneSide 75 = .ok (.iload_n 1, 1) := by decide +kernel
theorem dX1_twosOfOneSide_76 : decode cX1_twosOfOneSide 76 = .ok (.ireturn, 1) := by decide +kernel
theorem dX2_init_0 : decode cX2_init 0 = .ok (.aload_n 0, 1) := by decide +kernel
theorem dX2_init_1 : decode cX2_init 1 = .ok (.invokespecial 3, 3) := by decide +kernel
theorem dX2_init_4 : decode cX2_init 4 = .ok (.aload_n 0, 1) := by decide +kernel
theorem dX2_init_5 : decode cX2_init 5 = .ok (.new 9, 3) := by decide +kernel
theorem dX2_init_8 : decode cX2_init 8 = .ok (.dup, 1) := by decide +kernel
theorem dX2_init_9 : decode cX2_init 9 = .ok (.invokespecial 11, 3) := by decide +kernel
theorem dX2_init_12 : decode cX2_init 12 = .ok (.putfield 12, 3) := by decide +kernel
theorem dX2_init_15 : decode cX2_init 15 = .ok (.return_, 1) := by decide +kernel
theorem dX2_costOf_0 : decode cX2_costOf 0 = .ok (.aload_n 0, 1) := by decide +kernel
theorem dX2_costOf_1 : decode cX2_costOf 1 = .ok (.getfield 12, 3) := by decide +kernel
theorem dX2_costOf_4 : decode cX2_costOf 4 = .ok (.aload_n 2, 1) := by decide +kernel
theorem dX2_costOf_5 : decode cX2_costOf 5 = .ok (.iload_n 3, 1) := by decide +kernel
theorem dX2_costOf_6 : decode cX2_costOf 6 = .ok (.iload 4, 2) := by decide +kernel
theorem dX2_costOf_8 : decode cX2_costOf 8 = .ok (.iload 5, 2) := by decide +kernel
theorem dX2_costOf_10 : decode cX2_costOf 10 = .ok (.invokevirtual 18, 3) := by decide +kernel
theorem dX2_costOf_13 : decode cX2_costOf 13 = .ok (.aload_n 0, 1) := by decide +kernel
theorem dX2_costOf_14 : decode cX2_costOf 14 = .ok (.aload_n 1, 1) := by decide +kernel
theorem dX2_costOf_15 : decode cX2_costOf 15 = .ok (.iconst 0, 1) := by decide +kernel
theorem dX2_costOf_16 : decode cX2_costOf 16 = .ok (.invokevirtual 24, 3) := by decide +kernel
theorem dX2_costOf_19 : decode cX2_costOf 19 = .ok (.ifCond .eq 24, 3) := by decide +kernel
theorem dX2_costOf_22 : decode cX2_costOf 22 = .ok (.iconst 0, 1) := by decide +kernel
theorem dX2_costOf_23 : decode cX2_costOf 23 = .ok (.bipush 99, 2) := by decide +kernel
theorem dX2_costOf_25 : decode cX2_costOf 25 = .ok (.aload_n 0, 1) := by decide +kernel
theorem dX2_costOf_26 : decode cX2_costOf 26 = .ok (.getfield 12, 3) := by decide +kernel
theorem dX2_costOf_29 : decode cX2_costOf 29 = .ok (.getfield 28, 3) := by decide +kernel
theorem dX2_costOf_32 : decode cX2_costOf 32 = .ok (.iconst 0, 1) := by decide +kernel
theorem dX2_costOf_33 : decode cX2_costOf 33 = .ok (.iaload, 1) := by decide +kernel
theorem dX2_costOf_34 : decode cX2_costOf 34 = .ok (.invokestatic 32, 3) := by decide +kernel
theorem dX2_costOf_37 : decode cX2_costOf 37 = .ok (.invokestatic 38, 3) := by decide +kernel
theorem dX2_costOf_40 : decode cX2_costOf 40 = .ok (.goto 9, 3) := by decide +kernel
theorem dX2_costOf_43 : decode cX2_costOf 43 = .ok (.aload_n 2, 1) := by decide +kernel
theorem dX2_costOf_44 : decode cX2_costOf 44 = .ok (.getfield 41, 3) := by decide +kernel
theorem dX2_costOf_47 : decode cX2_costOf 47 = .ok (.iload_n 3, 1) := by decide +kernel
theorem dX2_costOf_48 : decode cX2_costOf 48 = .ok (.iaload, 1) := by decide +kernel
theorem dX2_costOf_49 : decode cX2_costOf 49 = .ok (.ireturn, 1) := by decide +kernel
theorem dX2_wearOf_0 : decode cX2_wearOf 0 = .ok (.aload_n 0, 1) := by decide +kernel
theorem dX2_wearOf_1 : decode cX2_wearOf 1 = .ok (.getfield 12, 3) := by decide +kernel
theorem dX2_wearOf_4 : decode cX2_wearOf 4 = .ok (.aload_n 2, 1) := by decide +kernel
theorem dX2_wearOf_5 : decode cX2_wearOf 5 = .ok (.iload_n 3, 1) := by decide +kernel
theorem dX2_wearOf_6 : decode cX2_wearOf 6 = .ok (.aload_n 2, 1) := by decide +kernel
theorem dX2_wearOf_7 : decode cX2_wearOf 7 = .ok (.getfield 46, 3) := by decide +kernel
theorem dX2_wearOf_10 : decode cX2_wearOf 10 = .ok (.iload_n 3, 1) := by decide +kernel
theorem dX2_wearOf_11 : decode cX2_wearOf 11 = .ok (.iaload, 1) := by decide +kernel
theorem dX2_wearOf_12 : decode cX2_wearOf 12 = .ok (.aload_n 2, 1) := by decide +kernel
theorem dX2_wearOf_13 : decode cX2_wearOf 13 = .ok (.getfield 49, 3) := by decide +kernel
theorem dX2_wearOf_16 : decode cX2_wearOf 16 = .ok (.iload_n 3, 1) := by decide +kernel
theorem dX2_wearOf_17 : decode cX2_wearOf 17 = .ok (.iaload, 1) := by decide +kernel
theorem dX2_wearOf_18 : decode cX2_wearOf 18 = .ok (.invokevirtual 18, 3) := by decide +kernel
theorem dX2_wearOf_21 : decode cX2_wearOf 21 = .ok (.aload_n 0, 1) := by decide +kernel
theorem dX2_wearOf_22 : decode cX2_wearOf 22 = .ok (.aload_n 1, 1) := by decide +kernel
theorem dX2_wearOf_23 : decode cX2_wearOf 23 = .ok (.iconst 1, 1) := by decide +kernel
theorem dX2_wearOf_24 : decode cX2_wearOf 24 = .ok (.invokevirtual 24, 3) := by decide +kernel
theorem dX2_wearOf_27 : decode cX2_wearOf 27 = .ok (.ifCond .eq 24, 3) := by decide +kernel
theorem dX2_wearOf_30 : decode cX2_wearOf 30 = .ok (.iconst 0, 1) := by decide +kernel
theorem dX2_wearOf_31 : decode cX2_wearOf 31 = .ok (.bipush 9, 2) := by decide +kernel
theorem dX2_wearOf_33 : decode cX2_wearOf 33 = .ok (.aload_n 0, 1) := by decide +kernel
theorem dX2_wearOf_34 : decode cX2_wearOf 34 = .ok (.getfield 12, 3) := by decide +kernel
theorem dX2_wearOf_37 : decode cX2_wearOf 37 = .ok (.getfield 28, 3) := by decide +kernel
theorem dX2_wearOf_40 : decode cX2_wearOf 40 = .ok (.iconst 0, 1) := by decide +kernel
theorem dX2_wearOf_41 : decode cX2_wearOf 41 = .ok (.iaload, 1) := by decide +kernel
theorem dX2_wearOf_42 : decode cX2_wearOf 42 = .ok (.invokestatic 32, 3) := by decide +kernel
theorem dX2_wearOf_45 : decode cX2_wearOf 45 = .ok (.invokestatic 38, 3) := by decide +kernel
theorem dX2_wearOf_48 : decode cX2_wearOf 48 = .ok (.goto 4, 3) := by decide +kernel
theorem dX2_wearOf_51 : decode cX2_wearOf 51 = .ok (.iconst 1, 1) := by decide +kernel
theorem dX2_wearOf_52 : decode cX2_wearOf 52 = .ok (.ireturn, 1) := by decide +kernel
theorem dX2_isBarred_0 : decode cX2_isBarred 0 = .ok (.aload_n 0, 1) := by decide +kernel
theorem dX2_isBarred_1 : decode cX2_isBarred 1 = .ok (.getfield 12, 3) := by decide +kernel
theorem dX2_isBarred_4 : decode cX2_isBarred 4 = .ok (.aload_n 2, 1) := by decide +kernel
theorem dX2_isBarred_5 : decode cX2_isBarred 5 = .ok (.iload_n 3, 1) := by decide +kernel
theorem dX2_isBarred_6 : decode cX2_isBarred 6 = .ok (.iload 4, 2) := by decide +kernel
theorem dX2_isBarred_8 : decode cX2_isBarred 8 = .ok (.iload 5, 2) := by decide +kernel
theorem dX2_isBarred_10 : decode cX2_isBarred 10 = .ok (.invokevirtual 18, 3) := by decide +kernel
theorem dX2_isBarred_13 : decode cX2_isBarred 13 = .ok (.aload_n 0, 1) := by decide +kernel
theorem dX2_isBarred_14 : decode cX2_isBarred 14 = .ok (.aload_n 1, 1) := by decide +kernel
theorem dX2_isBarred_15 : decode cX2_isBarred 15 = .ok (.iconst 2, 1) := by decide +kernel
theorem dX2_isBarred_16 : decode cX2_isBarred 16 = .ok (.invokevirtual 24, 3) := by decide +kernel
theorem dX2_isBarred_19 : decode cX2_isBarred 19 = .ok (.ireturn, 1) := by decide +kernel
theorem dX2_holds_0 : decode cX2_holds 0 = .ok (.aload_n 1, 1) := by decide +kernel
theorem dX2_holds_1 : decode cX2_holds 1 = .ok (.ifnonnull 7, 3) := by decide +kernel
theorem dX2_holds_4 : decode cX2_holds 4 = .ok (.iconst (-1), 1) := by decide +kernel
theorem dX2_holds_5 : decode cX2_holds 5 = .ok (.goto 9, 3) := by decide +kernel
theorem dX2_holds_8 : decode cX2_holds 8 = .ok (.aload_n 1, 1) := by decide +kernel
theorem dX2_holds_9 : decode cX2_holds 9 = .ok (.getfield 52, 3) := by decide +kernel
theorem dX2_holds_12 : decode cX2_holds 12 = .ok (.iconst 1, 1) := by decide +kernel
theorem dX2_holds_13 : decode cX2_holds 13 = .ok (.isub, 1) := by decide +kernel
theorem dX2_holds_14 : decode cX2_holds 14 = .ok (.istore_n 3, 1) := by decide +kernel
theorem dX2_holds_15 : decode cX2_holds 15 = .ok (.iload_n 3, 1) := by decide +kernel
theorem dX2_holds_16 : decode cX2_holds 16 = .ok (.ifCond .lt 45, 3) := by decide +kernel
theorem dX2_holds_19 : decode cX2_holds 19 = .ok (.aload_n 1, 1) := by decide +kernel
theorem dX2_holds_20 : decode cX2_holds 20 = .ok (.iload_n 3, 1) := by decide +kernel
theorem dX2_holds_21 : decode cX2_holds 21 = .ok (.iconst 0, 1) := by decide +kernel
theorem dX2_holds_22 : decode cX2_holds 22 = .ok (.invokevirtual 58, 3) := by decide +kernel
theorem dX2_holds_25 : decode cX2_holds 25 = .ok (.iload_n 2, 1) := by decide +kernel
theorem dX2_holds_26 : decode cX2_holds 26 = .ok (.if_icmp .ne 29, 3) := by decide +kernel
theorem dX2_holds_29 : decode cX2_holds 29 = .ok (.aload_n 0, 1) := by decide +kernel
theorem dX2_holds_30 : decode cX2_holds 30 = .ok (.getfield 12, 3) := by decide +kernel
theorem dX2_holds_33 : decode cX2_holds 33 = .ok (.aload_n 1, 1) := by decide +kernel
theorem dX2_holds_34 : decode cX2_holds 34 = .ok (.iload_n 3, 1) := by decide +kernel
theorem dX2_holds_35 : decode cX2_holds 35 = .ok (.invokevirtual 61, 3) := by decide +kernel
theorem dX2_holds_38 : decode cX2_holds 38 = .ok (.ifCond .eq 17, 3) := by decide +kernel
theorem dX2_holds_41 : decode cX2_holds 41 = .ok (.aload_n 0, 1) := by decide +kernel
theorem dX2_holds_42 : decode cX2_holds 42 = .ok (.getfield 12, 3) := by decide +kernel
theorem dX2_holds_45 : decode cX2_holds 45 = .ok (.aload_n 1, 1) := by decide +kernel
theorem dX2_holds_46 : decode cX2_holds 46 = .ok (.iload_n 3, 1) := by decide +kernel
theorem dX2_holds_47 : decode cX2_holds 47 = .ok (.invokevirtual 64, 3) := by decide +kernel
theorem dX2_holds_50 : decode cX2_holds 50 = .ok (.ifCond .eq 5, 3) := by decide +kernel
theorem dX2_holds_53 : decode cX2_holds 53 = .ok (.iconst 1, 1) := by decide +kernel
theorem dX2_holds_54 : decode cX2_holds 54 = .ok (.ireturn, 1) := by decide +kernel
theorem dX2_holds_55 : decode cX2_holds 55 = .ok (.iinc 3 (-1), 3) := by decide +kernel
theorem dX2_holds_58 : decode cX2_holds 58 = .ok (.goto (-43), 3) := by decide +kernel
theorem dX2_holds_61 : decode cX2_holds 61 = .ok (.iconst 0, 1) := by decide +kernel
theorem dX2_holds_62 : decode cX2_holds 62 = .ok (.ireturn, 1) := by decide +kernel
theorem dX3_init_0 : decode cX3_init 0 = .ok (.aload_n 0, 1) := by decide +kernel
theorem dX3_init_1 : decode cX3_init 1 = .ok (.invokespecial 3, 3) := by decide +kernel
theorem dX3_init_4 : decode cX3_init 4 = .ok (.aload_n 0, 1) := by decide +kernel
theorem dX3_init_5 : decode cX3_init 5 = .ok (.bipush 10, 2) := by decide +kernel
theorem dX3_init_7 : decode cX3_init 7 = .ok (.putfield 11, 3) := by decide +kernel
theorem dX3_init_10 : decode cX3_init 10 = .ok (.aload_n 0, 1) := by decide +kernel
theorem dX3_init_11 : decode cX3_init 11 = .ok (.sipush 1024, 3) := by decide +kernel
theorem dX3_init_14 : decode cX3_init 14 = .ok (.newarray .long, 2) := by decide +kernel
theorem dX3_init_16 : decode cX3_init 16 = .ok (.putfield 15, 3) := by decide +kernel
theorem dX3_init_19 : decode cX3_init 19 = .ok (.aload_n 0, 1) := by decide +kernel
theorem dX3_init_20 : decode cX3_init 20 = .ok (.sipush 1024, 3) := by decide +kernel
theorem dX3_init_23 : decode cX3_init 23 = .ok (.newarray .int, 2) := by decide +kernel
theorem dX3_init_25 : decode cX3_init 25 = .ok (.putfield 19, 3) := by decide +kernel
theorem dX3_init_28 : decode cX3_init 28 = .ok (.aload_n 0, 1) := by decide +kernel
theorem dX3_init_29 : decode cX3_init 29 = .ok (.sipush 1024, 3) := by decide +kernel
theorem dX3_init_32 : decode cX3_init 32 = .ok (.newarray .int, 2) := by decide +kernel
theorem dX3_init_34 : decode cX3_init 34 = .ok (.putfield 23, 3) := by decide +kernel
theorem dX3_init_37 : decode cX3_init 37 = .ok (.aload_n 0, 1) := by decide +kernel
theorem dX3_init_38 : decode cX3_init 38 = .ok (.sipush 512, 3) := by decide +kernel
theorem dX3_init_41 : decode cX3_init 41 = .ok (.newarray .int, 2) := by decide +kernel
theorem dX3_init_43 : decode cX3_init 43 = .ok (.putfield 26, 3) := by decide +kernel
theorem dX3_init_46 : decode cX3_init 46 = .ok (.aload_n 0, 1) := by decide +kernel
theorem dX3_init_47 : decode cX3_init 47 = .ok (.iconst 0, 1) := by decide +kernel
theorem dX3_init_48 : decode cX3_init 48 = .ok (.putfield 29, 3) := by decide +kernel
theorem dX3_init_51 : decode cX3_init 51 = .ok (.aload_n 0, 1) := by decide +kernel
theorem dX3_init_52 : decode cX3_init 52 = .ok (.iconst 0, 1) := by decide +kernel
theorem dX3_init_53 : decode cX3_init 53 = .ok (.putfield 32, 3) := by decide +kernel
theorem dX3_init_56 : decode cX3_init 56 = .ok (.aload_n 0, 1) := by decide +kernel
theorem dX3_init_57 : decode cX3_init 57 = .ok (.getfield 15, 3) := by decide +kernel
theorem dX3_init_60 : decode cX3_init 60 = .ok (.ldc2_w 36, 3) := by decide +kernel
theorem dX3_init_63 : decode cX3_init 63 = .ok (.invokestatic 38, 3) := by decide +kernel
theorem dX3_init_66 : decode cX3_init 66 = .ok (.return_, 1) := by decide +kernel
theorem dX3_clear_0 : decode cX3_clear 0 = .ok (.iconst 0, 1) := by decide +kernel
theorem dX3_clear_1 : decode cX3_clear 1 = .ok (.istore_n 1, 1) := by decide +kernel
theorem dX3_clear_2 : decode cX3_clear 2 = .ok (.iload_n 1, 1) := by decide +kernel
theorem dX3_clear_3 : decode cX3_clear 3 = .ok (.aload_n 0, 1) := by decide +kernel
theorem dX3_clear_4 : decode cX3_clear 4 = .ok (.getfield 29, 3) := by decide +kernel
theorem dX3_clear_7 : decode cX3_clear 7 = .ok (.if_icmp .ge 23, 3) := by decide +kernel
theorem dX3_clear_10 : decode cX3_clear 10 = .ok (.aload_n 0, 1) := by decide +kernel
theorem dX3_clear_11 : decode cX3_clear 11 = .ok (.getfield 15, 3) := by decide +kernel
theorem dX3_clear_14 : decode cX3_clear 14 = .ok (.aload_n 0, 1) := by decide +kernel
theorem dX3_clear_15 : decode cX3_clear 15 = .ok (.getfield 26, 3) := by decide +kernel
theorem dX3_clear_18 : decode cX3_clear 18 = .ok (.iload_n 1, 1) := by decide +kernel
theorem dX3_clear_19 : decode cX3_clear 19 = .ok (.iaload, 1) := by decide +kernel
theorem dX3_clear_20 : decode cX3_clear 20 = .ok (.ldc2_w 36, 3) := by decide +kernel
theorem dX3_clear_23 : decode cX3_clear 23 = .ok (.lastore, 1) := by decide +kernel
theorem dX3_clear_24 : decode cX3_clear 24 = .ok (.iinc 1 1, 3) := by decide +kernel
theorem dX3_clear_27 : decode cX3_clear 27 = .ok (.goto (-25), 3) := by decide +kernel
theorem dX3_clear_30 : decode cX3_clear 30 = .ok (.aload_n 0, 1) := by decide +kernel
theorem dX3_clear_31 : decode cX3_clear 31 = .ok (.iconst 0, 1) := by decide +kernel
theorem dX3_clear_32 : decode cX3_clear 32 = .ok (.putfield 29, 3) := by decide +kernel
theorem dX3_clear_35 : decode cX3_clear 35 = .ok (.aload_n 0, 1) := by decide +kernel
theorem dX3_clear_36 : decode cX3_clear 36 = .ok (.iconst 0, 1) := by decide +kernel
theorem dX3_clear_37 : decode cX3_clear 37 = .ok (.putfield 32, 3) := by decide +kernel
theorem dX3_clear_40 : decode cX3_clear 40 = .ok (.return_, 1) := by decide +kernel
theorem dX3_slotFor_0 : decode cX3_slotFor 0 = .ok (.lload_n 1, 1) := by decide +kernel
theorem dX3_slotFor_1 : decode cX3_slotFor 1 = .ok (.ldc2_w 44, 3) := by decide +kernel
theorem dX3_slotFor_4 : decode cX3_slotFor 4 = .ok (.lmul, 1) := by decide +kernel
theorem dX3_slotFor_5 : decode cX3_slotFor 5 = .ok (.bipush 64, 2) := by decide +kernel
theorem dX3_slotFor_7 : decode cX3_slotFor 7 = .ok (.aload_n 0, 1) := by decide +kernel
theorem dX3_slotFor_8 : decode cX3_slotFor 8 = .ok (.getfield 11, 3) := by decide +kernel
theorem dX3_slotFor_11 : decode cX3_slotFor 11 = .ok (.isub, 1) := by decide +kernel
theorem dX3_slotFor_12 : decode cX3_slotFor 12 = .ok (.lushr, 1) := by decide +kernel
theorem dX3_slotFor_13 : decode cX3_slotFor 13 = .ok (.l2i, 1) := by decide +kernel
theorem dX3_slotFor_14 : decode cX3_slotFor 14 = .ok (.istore_n 3, 1) := by decide +kernel
theorem dX3_slotFor_15 : decode cX3_slotFor 15 = .ok (.iconst 0, 1) := by decide +kernel
theorem dX3_slotFor_16 : decode cX3_slotFor 16 = .ok (.istore 4, 2) := by decide +kernel
theorem dX3_slotFor_18 : decode cX3_slotFor 18 = .ok (.iload 4, 2) := by decide +kernel
theorem dX3_slotFor_20 : decode cX3_slotFor 20 = .ok (.aload_n 0, 1) := by decide +kernel
theorem dX3_slotFor_21 : decode cX3_slotFor 21 = .ok (.getfield 15, 3) := by decide +kernel
theorem dX3_slotFor_24 : decode cX3_slotFor 24 = .ok (.arraylength, 1) := by decide +kernel
theorem dX3_slotFor_25 : decode cX3_slotFor 25 = .ok (.if_icmp .ge 45, 3) := by decide +kernel
theorem dX3_slotFor_28 : decode cX3_slotFor 28 = .ok (.aload_n 0, 1) := by decide +kernel
theorem dX3_slotFor_29 : decode cX3_slotFor 29 = .ok (.getfield 15, 3) := by decide +kernel
theorem dX3_slotFor_32 : decode cX3_slotFor 32 = .ok (.iload_n 3, 1) := by decide +kernel
theorem dX3_slotFor_33 : decode cX3_slotFor 33 = .ok (.laload, 1) := by decide +kernel
theorem dX3_slotFor_34 : decode cX3_slotFor 34 = .ok (.ldc2_w 36, 3) := by decide +kernel
theorem dX3_slotFor_37 : decode cX3_slotFor 37 = .ok (.lcmp, 1) := by decide +kernel
theorem dX3_slotFor_38 : decode cX3_slotFor 38 = .ok (.ifCond .eq 32, 3) := by decide +kernel
theorem dX3_slotFor_41 : decode cX3_slotFor 41 = .ok (.aload_n 0, 1) := by decide +kernel
theorem dX3_slotFor_42 : decode cX3_slotFor 42 = .ok (.getfield 15, 3) := by decide +kernel
theorem dX3_slotFor_45 : decode cX3_slotFor 45 = .ok (.iload_n 3, 1) := by decide +kernel
theorem dX3_slotFor_46 : decode cX3_slotFor 46 = .ok (.laload, 1) := by decide +kernel
theorem dX3_slotFor_47 : decode cX3_slotFor 47 = .ok (.lload_n 1, 1) := by decide +kernel
theorem dX3_slotFor_48 : decode cX3_slotFor 48 = .ok (.lcmp, 1) := by decide +kernel
theorem dX3_slotFor_49 : decode cX3_slotFor 49 = .ok (.ifCond .eq 21, 3) := by decide +kernel
theorem dX3_slotFor_52 : decode cX3_slotFor 52 = .ok (.iload_n 3, 1) := by decide +kernel
theorem dX3_slotFor_53 : decode cX3_slotFor 53 = .ok (.iconst 1, 1) := by decide +kernel
theorem dX3_slotFor_54 : decode cX3_slotFor 54 = .ok (.iadd, 1) := by decide +kernel
theorem dX3_slotFor_55 : decode cX3_slotFor 55 = .ok (.aload_n 0, 1) := by decide +kernel
theorem dX3_slotFor_56 : decode cX3_slotFor 56 = .ok (.getfield 15, 3) := by decide +kernel
theorem dX3_slotFor_59 : decode cX3_slotFor 59 = .ok (.arraylength, 1) := by decide +kernel
theorem dX3_slotFor_60 : decode cX3_slotFor 60 = .ok (.iconst 1, 1) := by decide +kernel
theorem dX3_slotFor_61 : decode cX3_slotFor 61 = .ok (.isub, 1) := by decide +kernel
theorem dX3_slotFor_62 : decode cX3_slotFor 62 = .ok (.iand, 1) := by decide +kernel
theorem dX3_slotFor_63 : decode cX3_slotFor 63 = .ok (.istore_n 3, 1) := by decide +kernel
theorem dX3_slotFor_64 : decode cX3_slotFor 64 = .ok (.iinc 4 1, 3) := by decide +kernel
theorem dX3_slotFor_67 : decode cX3_slotFor 67 = .ok (.goto (-49), 3) := by decide +kernel
theorem dX3_slotFor_70 : decode cX3_slotFor 70 = .ok (.iload_n 3, 1) := by decide +kernel
theorem dX3_slotFor_71 : decode cX3_slotFor 71 = .ok (.ireturn, 1) := by decide +kernel
theorem dX3_find_0 : decode cX3_find 0 = .ok (.aload_n 0, 1) := by decide +kernel
theorem dX3_find_1 : decode cX3_find 1 = .ok (.lload_n 1, 1) := by decide +kernel
theorem dX3_find_2 : decode cX3_find 2 = .ok (.invokevirtual 46, 3) := by decide +kernel
theorem dX3_find_5 : decode cX3_find 5 = .ok (.istore_n 3, 1) := by decide +kernel
theorem dX3_find_6 : decode cX3_find 6 = .ok (.aload_n 0, 1) := by decide +kernel
theorem dX3_find_7 : decode cX3_find 7 = .ok (.getfield 15, 3) := by decide +kernel
theorem dX3_find_10 : decode cX3_find 10 = .ok (.iload_n 3, 1) := by decide +kernel
theorem dX3_find_11 : decode cX3_find 11 = .ok (.laload, 1) := by decide +kernel
theorem dX3_find_12 : decode cX3_find 12 = .ok (.lload_n 1, 1) := by decide +kernel
theorem dX3_find_13 : decode cX3_find 13 = .ok (.lcmp, 1) := by decide +kernel
theorem dX3_find_14 : decode cX3_find 14 = .ok (.ifCond .ne 7, 3) := by decide +kernel
theorem dX3_find_17 : decode cX3_find 17 = .ok (.iload_n 3, 1) := by decide +kernel
theorem dX3_find_18 : decode cX3_find 18 = .ok (.goto 4, 3) := by decide +kernel
theorem dX3_find_21 : decode cX3_find 21 = .ok (.iconst (-1), 1) := by decide +kernel
theorem dX3_find_22 : decode cX3_find 22 = .ok (.ireturn, 1) := by decide +kernel
theorem dX3_keep_0 : decode cX3_keep 0 = .ok (.aload_n 0, 1) := by decide +kernel
theorem dX3_keep_1 : decode cX3_keep 1 = .ok (.getfield 29, 3) := by decide +kernel
theorem dX3_keep_4 : decode cX3_keep 4 = .ok (.aload_n 0, 1) := by decide +kernel
theorem dX3_keep_5 : decode cX3_keep 5 = .ok (.getfield 26, 3) := by decide +kernel
theorem dX3_keep_8 : decode cX3_keep 8 = .ok (.arraylength, 1) := by decide +kernel
theorem dX3_keep_9 : decode cX3_keep 9 = .ok (.if_icmp .lt 16, 3) := by decide +kernel
theorem dX3_keep_12 : decode cX3_keep 12 = .ok (.aload_n 0, 1) := by decide +kernel
theorem dX3_keep_13 : decode cX3_keep 13 = .ok (.getfield 11, 3) := by decide +kernel
theorem dX3_keep_16 : decode cX3_keep 16 = .ok (.bipush 14, 2) := by decide +kernel
theorem dX3_keep_18 : decode cX3_keep 18 = .ok (.if_icmp .ge 7, 3) := by decide +kernel
theorem dX3_keep_21 : decode cX3_keep 21 = .ok (.aload_n 0, 1) := by decide +kernel
theorem dX3_keep_22 : decode cX3_keep 22 = .ok (.invokevirtual 50, 3) := by decide +kernel
theorem dX3_keep_25 : decode cX3_keep 25 = .ok (.aload_n 0, 1) := by decide +kernel
theorem dX3_keep_26 : decode cX3_keep 26 = .ok (.getfield 29, 3) := by decide +kernel
theorem dX3_keep_29 : decode cX3_keep 29 = .ok (.aload_n 0, 1) := by decide +kernel
theorem dX3_keep_30 : decode cX3_keep 30 = .ok (.getfield 26, 3) := by decide +kernel
theorem dX3_keep_33 : decode cX3_keep 33 = .ok (.arraylength, 1) := by decide +kernel
theorem dX3_keep_34 : decode cX3_keep 34 = .ok (.if_icmp .lt 9, 3) := by decide +kernel
theorem dX3_keep_37 : decode cX3_keep 37 = .ok (.aload_n 0, 1) := by decide +kernel
theorem dX3_keep_38 : decode cX3_keep 38 = .ok (.iconst 1, 1) := by decide +kernel
theorem dX3_keep_39 : decode cX3_keep 39 = .ok (.putfield 32, 3) := by decide +kernel
theorem dX3_keep_42 : decode cX3_keep 42 = .ok (.return_, 1) := by decide +kernel
theorem dX3_keep_43 : decode cX3_keep 43 = .ok (.aload_n 0, 1) := by decide +kernel
theorem dX3_keep_44 : decode cX3_keep 44 = .ok (.lload_n 1, 1) := by decide +kernel
theorem dX3_keep_45 : decode cX3_keep 45 = .ok (.iload_n 3, 1) := by decide +kernel
theorem dX3_keep_46 : decode cX3_keep 46 = .ok (.aload_n 0, 1) := by decide +kernel
theorem dX3_keep_47 : decode cX3_keep 47 = .ok (.getfield 29, 3) := by decide +kernel
theorem dX3_keep_50 : decode cX3_keep 50 = .ok (.invokevirtual 53, 3) := by decide +kernel
theorem dX3_keep_53 : decode cX3_keep 53 = .ok (.aload_n 0, 1) := by decide +kernel
theorem dX3_keep_54 : decode cX3_keep 54 = .ok (.dup, 1) := by decide +kernel
theorem dX3_keep_55 : decode cX3_keep 55 = .ok (.getfield 29, 3) := by decide +kernel
theorem dX3_keep_58 : decode cX3_keep 58 = .ok (.iconst 1, 1) := by decide +kernel
theorem dX3_keep_59 : decode cX3_keep 59 = .ok (.iadd, 1) := by decide +kernel
theorem dX3_keep_60 : decode cX3_keep 60 = .ok (.putfield 29, 3) := by decide +kernel
theorem dX3_keep_63 : decode cX3_keep 63 = .ok (.return_, 1) := by decide +kernel
theorem dX3_put_0 : decode cX3_put 0 = .ok (.aload_n 0, 1) := by decide +kernel
theorem dX3_put_1 : decode cX3_put 1 = .ok (.lload_n 1, 1) := by decide +kernel
theorem dX3_put_2 : decode cX3_put 2 = .ok (.invokevirtual 46, 3) := by decide +kernel
theorem dX3_put_5 : decode cX3_put 5 = .ok (.istore 5, 2) := by decide +kernel
theorem dX3_put_7 : decode cX3_put 7 = .ok (.aload_n 0, 1) := by decide +kernel
theorem dX3_put_8 : decode cX3_put 8 = .ok (.getfield 15, 3) := by decide +kernel
theorem dX3_put_11 : decode cX3_put 11 = .ok (.iload 5, 2) := by decide +kernel
theorem dX3_put_13 : decode cX3_put 13 = .ok (.lload_n 1, 1) := by decide +kernel
theorem dX3_put_14 : decode cX3_put 14 = .ok (.lastore, 1) := by decide +kernel
theorem dX3_put_15 : decode cX3_put 15 = .ok (.aload_n 0, 1) := by decide +kernel
theorem dX3_put_16 : decode cX3_put 16 = .ok (.getfield 19, 3) := by decide +kernel
theorem dX3_put_19 : decode cX3_put 19 = .ok (.iload 5, 2) := by decide +kernel
theorem dX3_put_21 : decode cX3_put 21 = .ok (.iload_n 3, 1) := by decide +kernel
theorem dX3_put_22 : decode cX3_put 22 = .ok (.iastore, 1) := by decide +kernel
theorem dX3_put_23 : decode cX3_put 23 = .ok (.aload_n 0, 1) := by decide +kernel
theorem dX3_put_24 : decode cX3_put 24 = .ok (.getfield 23, 3) := by decide +kernel
theorem dX3_put_27 : decode cX3_put 27 = .ok (.iload 5, 2) := by decide +kernel
theorem dX3_put_29 : decode cX3_put 29 = .ok (.iconst 0, 1) := by decide +kernel
theorem dX3_put_30 : decode cX3_put 30 = .ok (.iastore, 1) := by decide +kernel
theorem dX3_put_31 : decode cX3_put 31 = .ok (.aload_n 0, 1) := by decide +kernel
theorem dX3_put_32 : decode cX3_put 32 = .ok (.getfield 26, 3) := by decide +kernel
theorem dX3_put_35 : decode cX3_put 35 = .ok (.iload 4, 2) := by decide +kernel
theorem dX3_put_37 : decode cX3_put 37 = .ok (.iload 5, 2) := by decide +kernel
theorem dX3_put_39 : decode cX3_put 39 = .ok (.iastore, 1) := by decide +kernel
theorem dX3_put_40 : decode cX3_put 40 = .ok (.return_, 1) := by decide +kernel
theorem dX3_grow_0 : decode cX3_grow 0 = .ok (.aload_n 0, 1) := by decide +kernel
theorem dX3_grow_1 : decode cX3_grow 1 = .ok (.getfield 15, 3) := by decide +kernel
theorem dX3_grow_4 : decode cX3_grow 4 = .ok (.astore_n 1, 1) := by decide +kernel
theorem dX3_grow_5 : decode cX3_grow 5 = .ok (.aload_n 0, 1) := by decide +kernel
theorem dX3_grow_6 : decode cX3_grow 6 = .ok (.getfield 19, 3) := by decide +kernel
theorem dX3_grow_9 : decode cX3_grow 9 = .ok (.astore_n 2, 1) := by decide +kernel
theorem dX3_grow_10 : decode cX3_grow 10 = .ok (.aload_n 0, 1) := by decide +kernel
theorem dX3_grow_11 : decode cX3_grow 11 = .ok (.getfield 26, 3) := by decide +kernel
theorem dX3_grow_14 : decode cX3_grow 14 = .ok (.astore_n 3, 1) := by decide +kernel
theorem dX3_grow_15 : decode cX3_grow 15 = .ok (.aload_n 0, 1) := by decide +kernel
theorem dX3_grow_16 : decode cX3_grow 16 = .ok (.dup, 1) := by decide +kernel
theorem dX3_grow_17 : decode cX3_grow 17 = .ok (.getfield 11, 3) := by decide +kernel
theorem dX3_grow_20 : decode cX3_grow 20 = .ok (.iconst 2, 1) := by decide +kernel
theorem dX3_grow_21 : decode cX3_grow 21 = .ok (.iadd, 1) := by decide +kernel
theorem dX3_grow_22 : decode cX3_grow 22 = .ok (.putfield 11, 3) := by decide +kernel
theorem dX3_grow_25 : decode cX3_grow 25 = .ok (.aload_n 0, 1) := by decide +kernel
theorem dX3_grow_26 : decode cX3_grow 26 = .ok (.iconst 1, 1) := by decide +kernel
theorem dX3_grow_27 : decode cX3_grow 27 = .ok (.aload_n 0, 1) := by decide +kernel
theorem dX3_grow_28 : decode cX3_grow 28 = .ok (.getfield 11, 3) := by decide +kernel
theorem dX3_grow_31 : decode cX3_grow 31 = .ok (.ishl, 1) := by decide +kernel
theorem dX3_grow_32 : decode cX3_grow 32 = .ok (.newarray .long, 2) := by decide +kernel
theorem dX3_grow_34 : decode cX3_grow 34 = .ok (.putfield 15, 3) := by decide +kernel
theorem dX3_grow_37 : decode cX3_grow 37 = .ok (.aload_n 0, 1) := by decide +kernel
theorem dX3_grow_38 : decode cX3_grow 38 = .ok (.iconst 1, 1) := by decide +kernel
theorem dX3_grow_39 : decode cX3_grow 39 = .ok (.aload_n 0, 1) := by decide +kernel
theorem dX3_grow_40 : decode cX3_grow 40 = .ok (.getfield 11, 3) := by decide +kernel
theorem dX3_grow_43 : decode cX3_grow 43 = .ok (.ishl, 1) := by decide +kernel
theorem dX3_grow_44 : decode cX3_grow 44 = .ok (.newarray .int, 2) := by decide +kernel
theorem dX3_grow_46 : decode cX3_grow 46 = .ok (.putfield 19, 3) := by decide +kernel
theorem dX3_grow_49 : decode cX3_grow 49 = .ok (.aload_n 0, 1) := by decide +kernel
theorem dX3_grow_50 : decode cX3_grow 50 = .ok (.iconst 1, 1) := by decide +kernel
theorem dX3_grow_51 : decode cX3_grow 51 = .ok (.aload_n 0, 1) := by decide +kernel
theorem dX3_grow_52 : decode cX3_grow 52 = .ok (.getfield 11, 3) := by decide +kernel
theorem dX3_grow_55 : decode cX3_grow 55 = .ok (.ishl, 1) := by decide +kernel
theorem dX3_grow_56 : decode cX3_grow 56 = .ok (.newarray .int, 2) := by decide +kernel
theorem dX3_grow_58 : decode cX3_grow 58 = .ok (.putfield 23, 3) := by decide +kernel
theorem dX3_grow_61 : decode cX3_grow 61 = .ok (.aload_n 0, 1) := by decide +kernel
theorem dX3_grow_62 : decode cX3_grow 62 = .ok (.iconst 1, 1) := by decide +kernel
theorem dX3_grow_63 : decode cX3_grow 63 = .ok (.aload_n 0, 1) := by decide +kernel
theorem dX3_grow_64 : decode cX3_grow 64 = .ok (.getfield 11, 3) := by decide +kernel
theorem dX3_grow_67 : decode cX3_grow 67 = .ok (.iconst 1, 1) := by decide +kernel
theorem dX3_grow_68 : decode cX3_grow 68 = .ok (.isub, 1) := by decide +kernel
theorem dX3_grow_69 : decode cX3_grow 69 = .ok (.ishl, 1) := by decide +kernel
theorem dX3_grow_70 : decode cX3_grow 70 = .ok (.newarray .int, 2) := by decide +kernel
theorem dX3_grow_72 : decode cX3_grow 72 = .ok (.putfield 26, 3) := by decide +kernel
theorem dX3_grow_75 : decode cX3_grow 75 = .ok (.aload_n 0, 1) := by decide +kernel
theorem dX3_grow_76 : decode cX3_grow 76 = .ok (.getfield 15, 3) := by decide +kernel
theorem dX3_grow_79 : decode cX3_grow 79 = .ok (.ldc2_w 36, 3) := by decide +kernel
theorem dX3_grow_82 : decode cX3_grow 82 = .ok (.invokestatic 38, 3) := by decide +kernel
theorem dX3_grow_85 : decode cX3_grow 85 = .ok (.iconst 0, 1) := by decide +kernel
theorem dX3_grow_86 : decode cX3_grow 86 = .ok (.istore 4, 2) := by decide +kernel
theorem dX3_grow_88 : decode cX3_grow 88 = .ok (.iload 4, 2) := by decide +kernel
theorem dX3_grow_90 : decode cX3_grow 90 = .ok (.aload_n 0, 1) := by decide +kernel
theorem dX3_grow_91 : decode cX3_grow 91 = .ok (.getfield 29, 3) := by decide +kernel
theorem dX3_grow_94 : decode cX3_grow 94 = .ok (.if_icmp .ge 27, 3) := by decide +kernel
theorem dX3_grow_97 : decode cX3_grow 97 = .ok (.aload_n 0, 1) := by decide +kernel
theorem dX3_grow_98 : decode cX3_grow 98 = .ok (.aload_n 1, 1) := by decide +kernel
theorem dX3_grow_99 : decode cX3_grow 99 = .ok (.aload_n 3, 1) := by decide +kernel
theorem dX3_grow_100 : decode cX3_grow 100 = .ok (.iload 4, 2) := by decide +kernel
theorem dX3_grow_102 : decode cX3_grow 102 = .ok (.iaload, 1) := by decide +kernel
theorem dX3_grow_103 : decode cX3_grow 103 = .ok (.laload, 1) := by decide +kernel
theorem dX3_grow_104 : decode cX3_grow 104 = .ok (.aload_n 2, 1) := by decide +kernel
theorem dX3_grow_105 : decode cX3_grow 105 = .ok (.aload_n 3, 1) := by decide +kernel
theorem dX3_grow_106 : decode cX3_grow 106 = .ok (.iload 4, 2) := by decide +kernel
theorem dX3_grow_108 : decode cX3_grow 108 = .ok (.iaload, 1) := by decide +kernel
theorem dX3_grow_109 : decode cX3_grow 109 = .ok (.iaload, 1) := by decide +kernel
theorem dX3_grow_110 : decode cX3_grow 110 = .ok (.iload 4, 2) := by decide +kernel
theorem dX3_grow_112 : decode cX3_grow 112 = .ok (.invokevirtual 53, 3) := by decide +kernel
theorem dX3_grow_115 : decode cX3_grow 115 = .ok (.iinc 4 1, 3) := by decide +kernel
theorem dX3_grow_118 : decode cX3_grow 118 = .ok (.goto (-30), 3) := by decide +kernel
theorem dX3_grow_121 : decode cX3_grow 121 = .ok (.return_, 1) := by decide +kernel
theorem dX3_slotOfNth_0 : decode cX3_slotOfNth 0 = .ok (.iload_n 1, 1) := by decide +kernel
theorem dX3_slotOfNth_1 : decode cX3_slotOfNth 1 = .ok (.ifCond .lt 20, 3) := by decide +kernel
theorem dX3_slotOfNth_4 : decode cX3_slotOfNth 4 = .ok (.iload_n 1, 1) := by decide +kernel
theorem dX3_slotOfNth_5 : decode cX3_slotOfNth 5 = .ok (.aload_n 0, 1) := by decide +kernel
theorem dX3_slotOfNth_6 : decode cX3_slotOfNth 6 = .ok (.getfield 29, 3) := by decide +kernel
theorem dX3_slotOfNth_9 : decode cX3_slotOfNth 9 = .ok (.if_icmp .ge 12, 3) := by decide +kernel
theorem dX3_slotOfNth_12 : decode cX3_slotOfNth 12 = .ok (.aload_n 0, 1) := by decide +kernel
theorem dX3_slotOfNth_13 : decode cX3_slotOfNth 13 = .ok (.getfield 26, 3) := by decide +kernel
theorem dX3_slotOfNth_16 : decode cX3_slotOfNth 16 = .ok (.iload_n 1, 1) := by decide +kernel
theorem dX3_slotOfNth_17 : decode cX3_slotOfNth 17 = .ok (.iaload, 1) := by decide +kernel
theorem dX3_slotOfNth_18 : decode cX3_slotOfNth 18 = .ok (.goto 4, 3) := by decide +kernel
theorem dX3_slotOfNth_21 : decode cX3_slotOfNth 21 = .ok (.iconst (-1), 1) := by decide +kernel
theorem dX3_slotOfNth_22 : decode cX3_slotOfNth 22 = .ok (.ireturn, 1) := by decide +kernel
theorem dX3_keyIn_0 : decode cX3_keyIn 0 = .ok (.iload_n 1, 1) := by decide +kernel
theorem dX3_keyIn_1 : decode cX3_keyIn 1 = .ok (.ifCond .lt 21, 3) := by decide +kernel
theorem dX3_keyIn_4 : decode cX3_keyIn 4 = .ok (.iload_n 1, 1) := by decide +kernel
theorem dX3_keyIn_5 : decode cX3_keyIn 5 = .ok (.aload_n 0, 1) := by decide +kernel
theorem dX3_keyIn_6 : decode cX3_keyIn 6 = .ok (.getfield 15, 3) := by decide +kernel
theorem dX3_keyIn_9 : decode cX3_keyIn 9 = .ok (.arraylength, 1) := by decide +kernel
theorem dX3_keyIn_10 : decode cX3_keyIn 10 = .ok (.if_icmp .ge 12, 3) := by decide +kernel
theorem dX3_keyIn_13 : decode cX3_keyIn 13 = .ok (.aload_n 0, 1) := by decide +kernel
theorem dX3_keyIn_14 : decode cX3_keyIn 14 = .ok (.getfield 15, 3) := by decide +kernel
theorem dX3_keyIn_17 : decode cX3_keyIn 17 = .ok (.iload_n 1, 1) := by decide +kernel
theorem dX3_keyIn_18 : decode cX3_keyIn 18 = .ok (.laload, 1) := by decide +kernel
theorem dX3_keyIn_19 : decode cX3_keyIn 19 = .ok (.goto 6, 3) := by decide +kernel
theorem dX3_keyIn_22 : decode cX3_keyIn 22 = .ok (.ldc2_w 36, 3) := by decide +kernel
theorem dX3_keyIn_25 : decode cX3_keyIn 25 = .ok (.lreturn, 1) := by decide +kernel
theorem dX3_valueIn_0 : decode cX3_valueIn 0 = .ok (.iload_n 1, 1) := by decide +kernel
theorem dX3_valueIn_1 : decode cX3_valueIn 1 = .ok (.ifCond .lt 21, 3) := by decide +kernel
theorem dX3_valueIn_4 : decode cX3_valueIn 4 = .ok (.iload_n 1, 1) := by decide +kernel
theorem dX3_valueIn_5 : decode cX3_valueIn 5 = .ok (.aload_n 0, 1) := by decide +kernel
theorem dX3_valueIn_6 : decode cX3_valueIn 6 = .ok (.getfield 19, 3) := by decide +kernel
theorem dX3_valueIn_9 : decode cX3_valueIn 9 = .ok (.arraylength, 1) := by decide +kernel
theorem dX3_valueIn_10 : decode cX3_valueIn 10 = .ok (.if_icmp .ge 12, 3) := by decide +kernel
theorem dX3_valueIn_13 : decode cX3_valueIn 13 = .ok (.aload_n 0, 1) := by decide +kernel
theorem dX3_valueIn_14 : decode cX3_valueIn 14 = .ok (.getfield 19, 3) := by decide +kernel
theorem dX3_valueIn_17 : decode cX3_valueIn 17 = .ok (.iload_n 1, 1) := by decide +kernel
theorem dX3_valueIn_18 : decode cX3_valueIn 18 = .ok (.iaload, 1) := by decide +kernel
theorem dX3_valueIn_19 : decode cX3_valueIn 19 = .ok (.goto 4, 3) := by decide +kernel
theorem dX3_valueIn_22 : decode cX3_valueIn 22 = .ok (.iconst 0, 1) := by decide +kernel
theorem dX3_valueIn_23 : decode cX3_valueIn 23 = .ok (.ireturn, 1) := by decide +kernel
theorem dX3_flowIn_0 : decode cX3_flowIn 0 = .ok (.iload_n 1, 1) := by decide +kernel
theorem dX3_flowIn_1 : decode cX3_flowIn 1 = .ok (.ifCond .lt 21, 3) := by decide +kernel
theorem dX3_flowIn_4 : decode cX3_flowIn 4 = .ok (.iload_n 1, 1) := by decide +kernel
theorem dX3_flowIn_5 : decode cX3_flowIn 5 = .ok (.aload_n 0, 1) := by decide +kernel
theorem dX3_flowIn_6 : decode cX3_flowIn 6 = .ok (.getfield 23, 3) := by decide +kernel
theorem dX3_flowIn_9 : decode cX3_flowIn 9 = .ok (.arraylength, 1) := by decide +kernel
theorem dX3_flowIn_10 : decode cX3_flowIn 10 = .ok (.if_icmp .ge 12, 3) := by decide +kernel
theorem dX3_flowIn_13 : decode cX3_flowIn 13 = .ok (.aload_n 0, 1) := by decide +kernel
theorem dX3_flowIn_14 : decode cX3_flowIn 14 = .ok (.getfield 23, 3) := by decide +kernel
theorem dX3_flowIn_17 : decode cX3_flowIn 17 = .ok (.iload_n 1, 1) := by decide +kernel
theorem dX3_flowIn_18 : decode cX3_flowIn 18 = .ok (.iaload, 1) := by decide +kernel
theorem dX3_flowIn_19 : decode cX3_flowIn 19 = .ok (.goto 4, 3) := by decide +kernel
theorem dX3_flowIn_22 : decode cX3_flowIn 22 = .ok (.iconst 0, 1) := by decide +kernel
theorem dX3_flowIn_23 : decode cX3_flowIn 23 = .ok (.ireturn, 1) := by decide +kernel
theorem dX3_addFlow_0 : decode cX3_addFlow 0 = .ok (.iload_n 1, 1) := by decide +kernel
theorem dX3_addFlow_1 : decode cX3_addFlow 1 = .ok (.ifCond .lt 22, 3) := by decide +kernel
theorem dX3_addFlow_4 : decode cX3_addFlow 4 = .ok (.iload_n 1, 1) := by decide +kernel
theorem dX3_addFlow_5 : decode cX3_addFlow 5 = .ok (.aload_n 0, 1) := by decide +kernel
theorem dX3_addFlow_6 : decode cX3_addFlow 6 = .ok (.getfield 23, 3) := by decide +kernel
theorem dX3_addFlow_9 : decode cX3_addFlow 9 = .ok (.arraylength, 1) := by decide +kernel
theorem dX3_addFlow_10 : decode cX3_addFlow 10 = .ok (.if_icmp .ge 13, 3) := by decide +kernel
theorem dX3_addFlow_13 : decode cX3_addFlow 13 = .ok (.aload_n 0, 1) := by decide +kernel
theorem dX3_addFlow_14 : decode cX3_addFlow 14 = .ok (.getfield 23, 3) := by decide +kernel
theorem dX3_addFlow_17 : decode cX3_addFlow 17 = .ok (.iload_n 1, 1) := by decide +kernel
theorem dX3_addFlow_18 : decode cX3_addFlow 18 = .ok (.dup2, 1) := by decide +kernel
theorem dX3_addFlow_19 : decode cX3_addFlow 19 = .ok (.iaload, 1) := by decide +kernel
theorem dX3_addFlow_20 : decode cX3_addFlow 20 = .ok (.iload_n 2, 1) := by decide +kernel
theorem dX3_addFlow_21 : decode cX3_addFlow 21 = .ok (.iadd, 1) := by decide +kernel
theorem dX3_addFlow_22 : decode cX3_addFlow 22 = .ok (.iastore, 1) := by decide +kernel
theorem dX3_addFlow_23 : decode cX3_addFlow 23 = .ok (.return_, 1) := by decide +kernel
theorem dX4_init_0 : decode cX4_init 0 = .ok (.aload_n 0, 1) := by decide +kernel
theorem dX4_init_1 : decode cX4_init 1 = .ok (.invokespecial 3, 3) := by decide +kernel
theorem dX4_init_4 : decode cX4_init 4 = .ok (.aload_n 0, 1) := by decide +kernel
theorem dX4_init_5 : decode cX4_init 5 = .ok (.sipush 480, 3) := by decide +kernel
theorem dX4_init_8 : decode cX4_init 8 = .ok (.newarray .int, 2) := by decide +kernel
theorem dX4_init_10 : decode cX4_init 10 = .ok (.putfield 11, 3) := by decide +kernel
theorem dX4_init_13 : decode cX4_init 13 = .ok (.aload_n 0, 1) := by decide +kernel
theorem dX4_init_14 : decode cX4_init 14 = .ok (.sipush 480, 3) := by decide +kernel
theorem dX4_init_17 : decode cX4_init 17 = .ok (.newarray .int, 2) := by decide +kernel
theorem dX4_init_19 : decode cX4_init 19 = .ok (.putfield 15, 3) := by decide +kernel
theorem dX4_init_22 : decode cX4_init 22 = .ok (.aload_n 0, 1) := by decide +kernel
theorem dX4_init_23 : decode cX4_init 23 = .ok (.new 18, 3) := by decide +kernel
theorem dX4_init_26 : decode cX4_init 26 = .ok (.dup, 1) := by decide +kernel
theorem dX4_init_27 : decode cX4_init 27 = .ok (.invokespecial 20, 3) := by decide +kernel
theorem dX4_init_30 : decode cX4_init 30 = .ok (.putfield 21, 3) := by decide +kernel
theorem dX4_init_33 : decode cX4_init 33 = .ok (.aload_n 0, 1) := by decide +kernel
theorem dX4_init_34 : decode cX4_init 34 = .ok (.iconst 0, 1) := by decide +kernel
theorem dX4_init_35 : decode cX4_init 35 = .ok (.putfield 25, 3) := by decide +kernel
theorem dX4_init_38 : decode cX4_init 38 = .ok (.aload_n 0, 1) := by decide +kernel
theorem dX4_init_39 : decode cX4_init 39 = .ok (.iconst 0, 1) := by decide +kernel
theorem dX4_init_40 : decode cX4_init 40 = .ok (.putfield 29, 3) := by decide +kernel
theorem dX4_init_43 : decode cX4_init 43 = .ok (.return_, 1) := by decide +kernel
theorem dX4_clear_0 : decode cX4_clear 0 = .ok (.aload_n 0, 1) := by decide +kernel
theorem dX4_clear_1 : decode cX4_clear 1 = .ok (.iconst 0, 1) := by decide +kernel
theorem dX4_clear_2 : decode cX4_clear 2 = .ok (.putfield 29, 3) := by decide +kernel
theorem dX4_clear_5 : decode cX4_clear 5 = .ok (.return_, 1) := by decide +kernel
theorem dX4_note_0 : decode cX4_note 0 = .ok (.aload_n 0, 1) := by decide +kernel
theorem dX4_note_1 : decode cX4_note 1 = .ok (.getfield 29, 3) := by decide +kernel
theorem dX4_note_4 : decode cX4_note 4 = .ok (.bipush 16, 2) := by decide +kernel
theorem dX4_note_6 : decode cX4_note 6 = .ok (.if_icmp .lt 26, 3) := by decide +kernel
theorem dX4_note_9 : decode cX4_note 9 = .ok (.aload_n 0, 1) := by decide +kernel
theorem dX4_note_10 : decode cX4_note 10 = .ok (.getfield 11, 3) := by decide +kernel
theorem dX4_note_13 : decode cX4_note 13 = .ok (.bipush 30, 2) := by decide +kernel
theorem dX4_note_15 : decode cX4_note 15 = .ok (.aload_n 0, 1) := by decide +kernel
theorem dX4_note_16 : decode cX4_note 16 = .ok (.getfield 11, 3) := by decide +kernel
theorem dX4_note_19 : decode cX4_note 19 = .ok (.iconst 0, 1) := by decide +kernel
theorem dX4_note_20 : decode cX4_note 20 = .ok (.sipush 450, 3) := by decide +kernel
theorem dX4_note_23 : decode cX4_note 23 = .ok (.invokestatic 32, 3) := by decide +kernel
theorem dX4_note_26 : decode cX4_note 26 = .ok (.aload_n 0, 1) := by decide +kernel
theorem dX4_note_27 : decode cX4_note 27 = .ok (.bipush 15, 2) := by decide +kernel
theorem dX4_note_29 : decode cX4_note 29 = .ok (.putfield 29, 3) := by decide +kernel
theorem dX4_note_32 : decode cX4_note 32 = .ok (.aload_n 0, 1) := by decide +kernel
theorem dX4_note_33 : decode cX4_note 33 = .ok (.getfield 29, 3) := by decide +kernel
theorem dX4_note_36 : decode cX4_note 36 = .ok (.bipush 30, 2) := by decide +kernel
theorem dX4_note_38 : decode cX4_note 38 = .ok (.imul, 1) := by decide +kernel
theorem dX4_note_39 : decode cX4_note 39 = .ok (.istore_n 3, 1) := by decide +kernel
theorem dX4_note_40 : decode cX4_note 40 = .ok (.aload_n 0, 1) := by decide +kernel
theorem dX4_note_41 : decode cX4_note 41 = .ok (.getfield 11, 3) := by decide +kernel
theorem dX4_note_44 : decode cX4_note 44 = .ok (.iload_n 3, 1) := by decide +kernel
theorem dX4_note_45 : decode cX4_note 45 = .ok (.iload_n 1, 1) := by decide +kernel
theorem dX4_note_46 : decode cX4_note 46 = .ok (.iastore, 1) := by decide +kernel
theorem dX4_note_47 : decode cX4_note 47 = .ok (.aload_n 0, 1) := by decide +kernel
theorem dX4_note_48 : decode cX4_note 48 = .ok (.getfield 11, 3) := by decide +kernel
theorem dX4_note_51 : decode cX4_note 51 = .ok (.iload_n 3, 1) := by decide +kernel
theorem dX4_note_52 : decode cX4_note 52 = .ok (.iconst 1, 1) := by decide +kernel
theorem dX4_note_53 : decode cX4_note 53 = .ok (.iadd, 1) := by decide +kernel
theorem dX4_note_54 : decode cX4_note 54 = .ok (.aload_n 2, 1) := by decide +kernel
theorem dX4_note_55 : decode cX4_note 55 = .ok (.getfield 38, 3) := by decide +kernel
theorem dX4_note_58 : decode cX4_note 58 = .ok (.iastore, 1) := by decide +kernel
theorem dX4_note_59 : decode cX4_note 59 = .ok (.aload_n 0, 1) := by decide +kernel
theorem dX4_note_60 : decode cX4_note 60 = .ok (.getfield 11, 3) := by decide +kernel
theorem dX4_note_63 : decode cX4_note 63 = .ok (.iload_n 3, 1) := by decide +kernel
theorem dX4_note_64 : decode cX4_note 64 = .ok (.iconst 2, 1) := by decide +kernel
theorem dX4_note_65 : decode cX4_note 65 = .ok (.iadd, 1) := by decide +kernel
theorem dX4_note_66 : decode cX4_note 66 = .ok (.aload_n 2, 1) := by decide +kernel
theorem dX4_note_67 : decode cX4_note 67 = .ok (.getfield 41, 3) := by decide +kernel
theorem dX4_note_70 : decode cX4_note 70 = .ok (.iconst 0, 1) := by decide +kernel
theorem dX4_note_71 : decode cX4_note 71 = .ok (.iaload, 1) := by decide +kernel
theorem dX4_note_72 : decode cX4_note 72 = .ok (.iastore, 1) := by decide +kernel
theorem dX4_note_73 : decode cX4_note 73 = .ok (.aload_n 2, 1) := by decide +kernel
theorem dX4_note_74 : decode cX4_note 74 = .ok (.getfield 44, 3) := by decide +kernel
theorem dX4_note_77 : decode cX4_note 77 = .ok (.iconst 0, 1) := by decide +kernel
theorem dX4_note_78 : decode cX4_note 78 = .ok (.aload_n 0, 1) := by decide +kernel
theorem dX4_note_79 : decode cX4_note 79 = .ok (.getfield 11, 3) := by decide +kernel
theorem dX4_note_82 : decode cX4_note 82 = .ok (.iload_n 3, 1) := by decide +kernel
theorem dX4_note_83 : decode cX4_note 83 = .ok (.iconst 3, 1) := by decide +kernel
theorem dX4_note_84 : decode cX4_note 84 = .ok (.iadd, 1) := by decide +kernel
theorem dX4_note_85 : decode cX4_note 85 = .ok (.bipush 9, 2) := by decide +kernel
theorem dX4_note_87 : decode cX4_note 87 = .ok (.invokestatic 32, 3) := by decide +kernel
theorem dX4_note_90 : decode cX4_note 90 = .ok (.aload_n 2, 1) := by decide +kernel
theorem dX4_note_91 : decode cX4_note 91 = .ok (.getfield 47, 3) := by decide +kernel
theorem dX4_note_94 : decode cX4_note 94 = .ok (.iconst 0, 1) := by decide +kernel
theorem dX4_note_95 : decode cX4_note 95 = .ok (.aload_n 0, 1) := by decide +kernel
theorem dX4_note_96 : decode cX4_note 96 = .ok (.getfield 11, 3) := by decide +kernel
theorem dX4_note_99 : decode cX4_note 99 = .ok (.iload_n 3, 1) := by decide +kernel
theorem dX4_note_100 : decode cX4_note 100 = .ok (.iconst 3, 1) := by decide +kernel
theorem dX4_note_101 : decode cX4_note 101 = .ok (.iadd, 1) := by decide +kernel
theorem dX4_note_102 : decode cX4_note 102 = .ok (.bipush 9, 2) := by decide +kernel
theorem dX4_note_104 : decode cX4_note 104 = .ok (.iadd, 1) := by decide +kernel
theorem dX4_note_105 : decode cX4_note 105 = .ok (.bipush 9, 2) := by decide +kernel
theorem dX4_note_107 : decode cX4_note 107 = .ok (.invokestatic 32, 3) := by decide +kernel
theorem dX4_note_110 : decode cX4_note 110 = .ok (.aload_n 2, 1) := by decide +kernel
theorem dX4_note_111 : decode cX4_note 111 = .ok (.getfield 50, 3) := by decide +kernel
theorem dX4_note_114 : decode cX4_note 114 = .ok (.iconst 0, 1) := by decide +kernel
theorem dX4_note_115 : decode cX4_note 115 = .ok (.aload_n 0, 1) := by decide +kernel
theorem dX4_note_116 : decode cX4_note 116 = .ok (.getfield 11, 3) := by decide +kernel
theorem dX4_note_119 : decode cX4_note 119 = .ok (.iload_n 3, 1) := by decide +kernel
theorem dX4_note_120 : decode cX4_note 120 = .ok (.iconst 3, 1) := by decide +kernel
theorem dX4_note_121 : decode cX4_note 121 = .ok (.iadd, 1) := by decide +kernel
theorem dX4_note_122 : decode cX4_note 122 = .ok (.bipush 18, 2) := by decide +kernel
theorem dX4_note_124 : decode cX4_note 124 = .ok (.iadd, 1) := by decide +kernel
theorem dX4_note_125 : decode cX4_note 125 = .ok (.bipush 9, 2) := by decide +kernel
theorem dX4_note_127 : decode cX4_note 127 = .ok (.invokestatic 32, 3) := by decide +kernel
theorem dX4_note_130 : decode cX4_note 130 = .ok (.aload_n 0, 1) := by decide +kernel
theorem dX4_note_131 : decode cX4_note 131 = .ok (.dup, 1) := by decide +kernel
theorem dX4_note_132 : decode cX4_note 132 = .ok (.getfield 29, 3) := by decide +kernel
theorem dX4_note_135 : decode cX4_note 135 = .ok (.iconst 1, 1) := by decide +kernel
theorem dX4_note_136 : decode cX4_note 136 = .ok (.iadd, 1) := by decide +kernel
theorem dX4_note_137 : decode cX4_note 137 = .ok (.putfield 29, 3) := by decide +kernel
theorem dX4_note_140 : decode cX4_note 140 = .ok (.return_, 1) := by decide +kernel
theorem dX4_takeBack_0 : decode cX4_takeBack 0 = .ok (.aload_n 0, 1) := by decide +kernel
theorem dX4_takeBack_1 : decode cX4_takeBack 1 = .ok (.getfield 29, 3) := by decide +kernel
theorem dX4_takeBack_4 : decode cX4_takeBack 4 = .ok (.ifCond .gt 6, 3) := by decide +kernel
theorem dX4_takeBack_7 : decode cX4_takeBack 7 = .ok (.bipush (-3), 2) := by decide +kernel
theorem dX4_takeBack_9 : decode cX4_takeBack 9 = .ok (.ireturn, 1) := by decide +kernel
theorem dX4_takeBack_10 : decode cX4_takeBack 10 = .ok (.aload_n 0, 1) := by decide +kernel
theorem dX4_takeBack_11 : decode cX4_takeBack 11 = .ok (.dup, 1) := by decide +kernel
theorem dX4_takeBack_12 : decode cX4_takeBack 12 = .ok (.getfield 29, 3) := by decide +kernel
theorem dX4_takeBack_15 : decode cX4_takeBack 15 = .ok (.iconst 1, 1) := by decide +kernel
theorem dX4_takeBack_16 : decode cX4_takeBack 16 = .ok (.isub, 1) := by decide +kernel
theorem dX4_takeBack_17 : decode cX4_takeBack 17 = .ok (.putfield 29, 3) := by decide +kernel
theorem dX4_takeBack_20 : decode cX4_takeBack 20 = .ok (.aload_n 0, 1) := by decide +kernel
theorem dX4_takeBack_21 : decode cX4_takeBack 21 = .ok (.getfield 29, 3) := by decide +kernel
theorem dX4_takeBack_24 : decode cX4_takeBack 24 = .ok (.bipush 30, 2) := by decide +kernel
theorem dX4_takeBack_26 : decode cX4_takeBack 26 = .ok (.imul, 1) := by decide +kernel
theorem dX4_takeBack_27 : decode cX4_takeBack 27 = .ok (.istore_n 2, 1) := by decide +kernel
theorem dX4_takeBack_28 : decode cX4_takeBack 28 = .ok (.aload_n 1, 1) := by decide +kernel
theorem dX4_takeBack_29 : decode cX4_takeBack 29 = .ok (.aload_n 0, 1) := by decide +kernel
theorem dX4_takeBack_30 : decode cX4_takeBack 30 = .ok (.getfield 11, 3) := by decide +kernel
theorem dX4_takeBack_33 : decode cX4_takeBack 33 = .ok (.iload_n 2, 1) := by decide +kernel
theorem dX4_takeBack_34 : decode cX4_takeBack 34 = .ok (.iconst 1, 1) := by decide +kernel
theorem dX4_takeBack_35 : decode cX4_takeBack 35 = .ok (.iadd, 1) := by decide +kernel
theorem dX4_takeBack_36 : decode cX4_takeBack 36 = .ok (.iaload, 1) := by decide +kernel
theorem dX4_takeBack_37 : decode cX4_takeBack 37 = .ok (.putfield 38, 3) := by decide +kernel
theorem dX4_takeBack_40 : decode cX4_takeBack 40 = .ok (.aload_n 1, 1) := by decide +kernel
theorem dX4_takeBack_41 : decode cX4_takeBack 41 = .ok (.getfield 41, 3) := by decide +kernel
theorem dX4_takeBack_44 : decode cX4_takeBack 44 = .ok (.iconst 0, 1) := by decide +kernel
theorem dX4_takeBack_45 : decode cX4_takeBack 45 = .ok (.aload_n 0, 1) := by decide +kernel
theorem dX4_takeBack_46 : decode cX4_takeBack 46 = .ok (.getfield 11, 3) := by decide +kernel
theorem dX4_takeBack_49 : decode cX4_takeBack 49 = .ok (.iload_n 2, 1) := by decide +kernel
theorem dX4_takeBack_50 : decode cX4_takeBack 50 = .ok (.iconst 2, 1) := by decide +kernel
theorem dX4_takeBack_51 : decode cX4_takeBack 51 = .ok (.iadd, 1) := by decide +kernel
theorem dX4_takeBack_52 : decode cX4_takeBack 52 = .ok (.iaload, 1) := by decide +kernel
theorem dX4_takeBack_53 : decode cX4_takeBack 53 = .ok (.iastore, 1) := by decide +kernel
theorem dX4_takeBack_54 : decode cX4_takeBack 54 = .ok (.aload_n 0, 1) := by decide +kernel
theorem dX4_takeBack_55 : decode cX4_takeBack 55 = .ok (.getfield 11, 3) := by decide +kernel
theorem dX4_takeBack_58 : decode cX4_takeBack 58 = .ok (.iload_n 2, 1) := by decide +kernel
theorem dX4_takeBack_59 : decode cX4_takeBack 59 = .ok (.iconst 3, 1) := by decide +kernel
theorem dX4_takeBack_60 : decode cX4_takeBack 60 = .ok (.iadd, 1) := by decide +kernel
theorem dX4_takeBack_61 : decode cX4_takeBack 61 = .ok (.aload_n 1, 1) := by decide +kernel
theorem dX4_takeBack_62 : decode cX4_takeBack 62 = .ok (.getfield 44, 3) := by decide +kernel
theorem dX4_takeBack_65 : decode cX4_takeBack 65 = .ok (.iconst 0, 1) := by decide +kernel
theorem dX4_takeBack_66 : decode cX4_takeBack 66 = .ok (.bipush 9, 2) := by decide +kernel
theorem dX4_takeBack_68 : decode cX4_takeBack 68 = .ok (.invokestatic 32, 3) := by decide +kernel
theorem dX4_takeBack_71 : decode cX4_takeBack 71 = .ok (.aload_n 0, 1) := by decide +kernel
theorem dX4_takeBack_72 : decode cX4_takeBack 72 = .ok (.getfield 11, 3) := by decide +kernel
theorem dX4_takeBack_75 : decode cX4_takeBack 75 = .ok (.iload_n 2, 1) := by decide +kernel
theorem dX4_takeBack_76 : decode cX4_takeBack 76 = .ok (.iconst 3, 1) := by decide +kernel
theorem dX4_takeBack_77 : decode cX4_takeBack 77 = .ok (.iadd, 1) := by decide +kernel
theorem dX4_takeBack_78 : decode cX4_takeBack 78 = .ok (.bipush 9, 2) := by decide +kernel
theorem dX4_takeBack_80 : decode cX4_takeBack 80 = .ok (.iadd, 1) := by decide +kernel
theorem dX4_takeBack_81 : decode cX4_takeBack 81 = .ok (.aload_n 1, 1) := by decide +kernel
theorem dX4_takeBack_82 : decode cX4_takeBack 82 = .ok (.getfield 47, 3) := by decide +kernel
theorem dX4_takeBack_85 : decode cX4_takeBack 85 = .ok (.iconst 0, 1) := by decide +kernel
theorem dX4_takeBack_86 : decode cX4_takeBack 86 = .ok (.bipush 9, 2) := by decide +kernel
theorem dX4_takeBack_88 : decode cX4_takeBack 88 = .ok (.invokestatic 32, 3) := by decide +kernel
theorem dX4_takeBack_91 : decode cX4_takeBack 91 = .ok (.aload_n 0, 1) := by decide +kernel
theorem dX4_takeBack_92 : decode cX4_takeBack 92 = .ok (.getfield 11, 3) := by decide +kernel
theorem dX4_takeBack_95 : decode cX4_takeBack 95 = .ok (.iload_n 2, 1) := by decide +kernel
theorem dX4_takeBack_96 : decode cX4_takeBack 96 = .ok (.iconst 3, 1) := by decide +kernel
theorem dX4_takeBack_97 : decode cX4_takeBack 97 = .ok (.iadd, 1) := by decide +kernel
theorem dX4_takeBack_98 : decode cX4_takeBack 98 = .ok (.bipush 18, 2) := by decide +kernel
theorem dX4_takeBack_100 : decode cX4_takeBack 100 = .ok (.iadd, 1) := by decide +kernel
theorem dX4_takeBack_101 : decode cX4_takeBack 101 = .ok (.aload_n 1, 1) := by decide +kernel
theorem dX4_takeBack_102 : decode cX4_takeBack 102 = .ok (.getfield 50, 3) := by decide +kernel
theorem dX4_takeBack_105 : decode cX4_takeBack 105 = .ok (.iconst 0, 1) := by decide +kernel
theorem dX4_takeBack_106 : decode cX4_takeBack 106 = .ok (.bipush 9, 2) := by decide +kernel
theorem dX4_takeBack_108 : decode cX4_takeBack 108 = .ok (.invokestatic 32, 3) := by decide +kernel
theorem dX4_takeBack_111 : decode cX4_takeBack 111 = .ok (.aload_n 0, 1) := by decide +kernel
theorem dX4_takeBack_112 : decode cX4_takeBack 112 = .ok (.getfield 11, 3) := by decide +kernel
theorem dX4_takeBack_115 : decode cX4_takeBack 115 = .ok (.iload_n 2, 1) := by decide +kernel
theorem dX4_takeBack_116 : decode cX4_takeBack 116 = .ok (.iaload, 1) := by decide +kernel
theorem dX4_takeBack_117 : decode cX4_takeBack 117 = .ok (.ireturn, 1) := by decide +kernel
theorem dX4_save_0 : decode cX4_save 0 = .ok (.aload_n 0, 1) := by decide +kernel
theorem dX4_save_1 : decode cX4_save 1 = .ok (.getfield 21, 3) := by decide +kernel
theorem dX4_save_4 : decode cX4_save 4 = .ok (.aload_n 1, 1) := by decide +kernel
theorem dX4_save_5 : decode cX4_save 5 = .ok (.invokevirtual 53, 3) := by decide +kernel
theorem dX4_save_8 : decode cX4_save 8 = .ok (.aload_n 0, 1) := by decide +kernel
theorem dX4_save_9 : decode cX4_save 9 = .ok (.getfield 11, 3) := by decide +kernel
theorem dX4_save_12 : decode cX4_save 12 = .ok (.iconst 0, 1) := by decide +kernel
theorem dX4_save_13 : decode cX4_save 13 = .ok (.aload_n 0, 1) := by decide +kernel
theorem dX4_save_14 : decode cX4_save 14 = .ok (.getfield 15, 3) := by decide +kernel
theorem dX4_save_17 : decode cX4_save 17 = .ok (.iconst 0, 1) := by decide +kernel
theorem dX4_save_18 : decode cX4_save 18 = .ok (.aload_n 0, 1) := by decide +kernel
theorem dX4_save_19 : decode cX4_save 19 = .ok (.getfield 11, 3) := by decide +kernel
theorem dX4_save_22 : decode cX4_save 22 = .ok (.arraylength, 1) := by decide +kernel
theorem dX4_save_23 : decode cX4_save 23 = .ok (.invokestatic 32, 3) := by decide +kernel
theorem dX4_save_26 : decode cX4_save 26 = .ok (.aload_n 0, 1) := by decide +kernel
theorem dX4_save_27 : decode cX4_save 27 = .ok (.aload_n 0, 1) := by decide +kernel
theorem dX4_save_28 : decode cX4_save 28 = .ok (.getfield 29, 3) := by decide +kernel
theorem dX4_save_31 : decode cX4_save 31 = .ok (.putfield 25, 3) := by decide +kernel
theorem dX4_save_34 : decode cX4_save 34 = .ok (.return_, 1) := by decide +kernel
theorem dX4_restore_0 : decode cX4_restore 0 = .ok (.aload_n 1, 1) := by decide +kernel
theorem dX4_restore_1 : decode cX4_restore 1 = .ok (.aload_n 0, 1) := by decide +kernel
theorem dX4_restore_2 : decode cX4_restore 2 = .ok (.getfield 21, 3) := by decide +kernel
theorem dX4_restore_5 : decode cX4_restore 5 = .ok (.invokevirtual 53, 3) := by decide +kernel
theorem dX4_restore_8 : decode cX4_restore 8 = .ok (.aload_n 0, 1) := by decide +kernel
theorem dX4_restore_9 : decode cX4_restore 9 = .ok (.getfield 15, 3) := by decide +kernel
theorem dX4_restore_12 : decode cX4_restore 12 = .ok (.iconst 0, 1) := by decide +kernel
theorem dX4_restore_13 : decode cX4_restore 13 = .ok (.aload_n 0, 1) := by decide +kernel
theorem dX4_restore_14 : decode cX4_restore 14 = .ok (.getfield 11, 3) := by decide +kernel
theorem dX4_restore_17 : decode cX4_restore 17 = .ok (.iconst 0, 1) := by decide +kernel
theorem dX4_restore_18 : decode cX4_restore 18 = .ok (.aload_n 0, 1) := by decide +kernel
theorem dX4_restore_19 : decode cX4_restore 19 = .ok (.getfield 11, 3) := by decide +kernel
theorem dX4_restore_22 : decode cX4_restore 22 = .ok (.arraylength, 1) := by decide +kernel
theorem dX4_restore_23 : decode cX4_restore 23 = .ok (.invokestatic 32, 3) := by decide +kernel
theorem dX4_restore_26 : decode cX4_restore 26 = .ok (.aload_n 0, 1) := by decide +kernel
theorem dX4_restore_27 : decode cX4_restore 27 = .ok (.aload_n 0, 1) := by decide +kernel
theorem dX4_restore_28 : decode cX4_restore 28 = .ok (.getfield 25, 3) := by decide +kernel
theorem dX4_restore_31 : decode cX4_restore 31 = .ok (.putfield 29, 3) := by decide +kernel
theorem dX4_restore_34 : decode cX4_restore 34 = .ok (.return_, 1) := by decide +kernel
theorem dX5_init_0 : decode cX5_init 0 = .ok (.aload_n 0, 1) := by decide +kernel
theorem dX5_init_1 : decode cX5_init 1 = .ok (.invokespecial 5, 3) := by decide +kernel
theorem dX5_init_4 : decode cX5_init 4 = .ok (.aload_n 0, 1) := by decide +kernel
theorem dX5_init_5 : decode cX5_init 5 = .ok (.sipush 401, 3) := by decide +kernel
theorem dX5_init_8 : decode cX5_init 8 = .ok (.newarray .int, 2) := by decide +kernel
theorem dX5_init_10 : decode cX5_init 10 = .ok (.putfield 11, 3) := by decide +kernel
theorem dX5_init_13 : decode cX5_init 13 = .ok (.aload_n 0, 1) := by decide +kernel
theorem dX5_init_14 : decode cX5_init 14 = .ok (.sipush 401, 3) := by decide +kernel
theorem dX5_init_17 : decode cX5_init 17 = .ok (.newarray .int, 2) := by decide +kernel
theorem dX5_init_19 : decode cX5_init 19 = .ok (.putfield 15, 3) := by decide +kernel
theorem dX5_init_22 : decode cX5_init 22 = .ok (.return_, 1) := by decide +kernel
theorem dX5_read_0 : decode cX5_read 0 = .ok (.aload_n 0, 1) := by decide +kernel
theorem dX5_read_1 : decode cX5_read 1 = .ok (.aload_n 1, 1) := by decide +kernel
theorem dX5_read_2 : decode cX5_read 2 = .ok (.putfield 18, 3) := by decide +kernel
theorem dX5_read_5 : decode cX5_read 5 = .ok (.aload_n 0, 1) := by decide +kernel
theorem dX5_read_6 : decode cX5_read 6 = .ok (.aload_n 2, 1) := by decide +kernel
theorem dX5_read_7 : decode cX5_read 7 = .ok (.putfield 22, 3) := by decide +kernel
theorem dX5_read_10 : decode cX5_read 10 = .ok (.aload_n 0, 1) := by decide +kernel
theorem dX5_read_11 : decode cX5_read 11 = .ok (.iload_n 3, 1) := by decide +kernel
theorem dX5_read_12 : decode cX5_read 12 = .ok (.putfield 26, 3) := by decide +kernel
theorem dX5_read_15 : decode cX5_read 15 = .ok (.aload_n 0, 1) := by decide +kernel
theorem dX5_read_16 : decode cX5_read 16 = .ok (.iconst 0, 1) := by decide +kernel
theorem dX5_read_17 : decode cX5_read 17 = .ok (.putfield 30, 3) := by decide +kernel
theorem dX5_read_20 : decode cX5_read 20 = .ok (.aload_n 0, 1) := by decide +kernel
theorem dX5_read_21 : decode cX5_read 21 = .ok (.iconst 0, 1) := by decide +kernel
theorem dX5_read_22 : decode cX5_read 22 = .ok (.putfield 34, 3) := by decide +kernel
theorem dX5_read_25 : decode cX5_read 25 = .ok (.aload_n 0, 1) := by decide +kernel
theorem dX5_read_26 : decode cX5_read 26 = .ok (.iconst 0, 1) := by decide +kernel
theorem dX5_read_27 : decode cX5_read 27 = .ok (.putfield 37, 3) := by decide +kernel
theorem dX5_read_30 : decode cX5_read 30 = .ok (.aload_n 0, 1) := by decide +kernel
theorem dX5_read_31 : decode cX5_read 31 = .ok (.iconst (-1), 1) := by decide +kernel
theorem dX5_read_32 : decode cX5_read 32 = .ok (.putfield 40, 3) := by decide +kernel
theorem dX5_read_35 : decode cX5_read 35 = .ok (.aload_n 0, 1) := by decide +kernel
theorem dX5_read_36 : decode cX5_read 36 = .ok (.getfield 22, 3) := by decide +kernel
theorem dX5_read_39 : decode cX5_read 39 = .ok (.invokevirtual 43, 3) := by decide +kernel
theorem dX5_read_42 : decode cX5_read 42 = .ok (.aload_n 0, 1) := by decide +kernel
theorem dX5_read_43 : decode cX5_read 43 = .ok (.invokevirtual 48, 3) := by decide +kernel
theorem dX5_read_46 : decode cX5_read 46 = .ok (.iconst 0, 1) := by decide +kernel
theorem dX5_read_47 : decode cX5_read 47 = .ok (.istore 4, 2) := by decide +kernel
theorem dX5_read_49 : decode cX5_read 49 = .ok (.iload 4, 2) := by decide +kernel
theorem dX5_read_51 : decode cX5_read 51 = .ok (.bipush 12, 2) := by decide +kernel
theorem dX5_read_53 : decode cX5_read 53 = .ok (.if_icmp .ge 52, 3) := by decide +kernel
theorem dX5_read_56 : decode cX5_read 56 = .ok (.aload_n 0, 1) := by decide +kernel
theorem dX5_read_57 : decode cX5_read 57 = .ok (.getfield 40, 3) := by decide +kernel
theorem dX5_read_60 : decode cX5_read 60 = .ok (.iconst (-1), 1) := by decide +kernel
theorem dX5_read_61 : decode cX5_read 61 = .ok (.if_icmp .ne 44, 3) := by decide +kernel
theorem dX5_read_64 : decode cX5_read 64 = .ok (.aload_n 0, 1) := by decide +kernel
theorem dX5_read_65 : decode cX5_read 65 = .ok (.invokevirtual 51, 3) := by decide +kernel
theorem dX5_read_68 : decode cX5_read 68 = .ok (.aload_n 0, 1) := by decide +kernel
theorem dX5_read_69 : decode cX5_read 69 = .ok (.bipush 59, 2) := by decide +kernel
theorem dX5_read_71 : decode cX5_read 71 = .ok (.invokevirtual 54, 3) := by decide +kernel
theorem dX5_read_74 : decode cX5_read 74 = .ok (.ifCond .ne 25, 3) := by decide +kernel
theorem dX5_read_77 : decode cX5_read 77 = .ok (.aload_n 0, 1) := by decide +kernel
theorem dX5_read_78 : decode cX5_read 78 = .ok (.getfield 11, 3) := by decide +kernel
theorem dX5_read_81 : decode cX5_read 81 = .ok (.aload_n 0, 1) := by decide +kernel
theorem dX5_read_82 : decode cX5_read 82 = .ok (.getfield 30, 3) := by decide +kernel
theorem dX5_read_85 : decode cX5_read 85 = .ok (.iaload, 1) := by decide +kernel
theorem dX5_read_86 : decode cX5_read 86 = .ok (.iconst (-1), 1) := by decide +kernel
theorem dX5_read_87 : decode cX5_read 87 = .ok (.if_icmp .eq 7, 3) := by decide +kernel
theorem dX5_read_90 : decode cX5_read 90 = .ok (.aload_n 0, 1) := by decide +kernel
theorem dX5_read_91 : decode cX5_read 91 = .ok (.invokevirtual 58, 3) := by decide +kernel
theorem dX5_read_94 : decode cX5_read 94 = .ok (.aload_n 0, 1) := by decide +kernel
theorem dX5_read_95 : decode cX5_read 95 = .ok (.getfield 40, 3) := by decide +kernel
theorem dX5_read_98 : decode cX5_read 98 = .ok (.ireturn, 1) := by decide +kernel
theorem dX5_read_99 : decode cX5_read 99 = .ok (.iinc 4 1, 3) := by decide +kernel
theorem dX5_read_102 : decode cX5_read 102 = .ok (.goto (-53), 3) := by decide +kernel
theorem dX5_read_105 : decode cX5_read 105 = .ok (.aload_n 0, 1) := by decide +kernel
theorem dX5_read_106 : decode cX5_read 106 = .ok (.invokevirtual 58, 3) := by decide +kernel
theorem dX5_read_109 : decode cX5_read 109 = .ok (.aload_n 0, 1) := by decide +kernel
theorem dX5_read_110 : decode cX5_read 110 = .ok (.getfield 40, 3) := by decide +kernel
theorem dX5_read_113 : decode cX5_read 113 = .ok (.ireturn, 1) := by decide +kernel
theorem dX5_scan_0 : decode cX5_scan 0 = .ok (.iconst 0, 1) := by decide +kernel
theorem dX5_scan_1 : decode cX5_scan 1 = .ok (.istore_n 1, 1) := by decide +kernel
theorem dX5_scan_2 : decode cX5_scan 2 = .ok (.iconst 0, 1) := by decide +kernel
theorem dX5_scan_3 : decode cX5_scan 3 = .ok (.istore_n 2, 1) := by decide +kernel
theorem dX5_scan_4 : decode cX5_scan 4 = .ok (.iconst 0, 1) := by decide +kernel
theorem dX5_scan_5 : decode cX5_scan 5 = .ok (.istore_n 3, 1) := by decide +kernel
theorem dX5_scan_6 : decode cX5_scan 6 = .ok (.iload_n 3, 1) := by decide +kernel
theorem dX5_scan_7 : decode cX5_scan 7 = .ok (.sipush 400, 3) := by decide +kernel
theorem dX5_scan_10 : decode cX5_scan 10 = .ok (.if_icmp .ge 132, 3) := by decide +kernel
theorem dX5_scan_13 : decode cX5_scan 13 = .ok (.iload_n 2, 1) := by decide +kernel
theorem dX5_scan_14 : decode cX5_scan 14 = .ok (.aload_n 0, 1) := by decide +kernel
theorem dX5_scan_15 : decode cX5_scan 15 = .ok (.getfield 18, 3) := by decide +kernel
theorem dX5_scan_18 : decode cX5_scan 18 = .ok (.getfield 61, 3) := by decide +kernel
theorem dX5_scan_21 : decode cX5_scan 21 = .ok (.if_icmp .ge 121, 3) := by decide +kernel
theorem dX5_scan_24 : decode cX5_scan 24 = .ok (.aload_n 0, 1) := by decide +kernel
theorem dX5_scan_25 : decode cX5_scan 25 = .ok (.getfield 18, 3) := by decide +kernel
theorem dX5_scan_28 : decode cX5_scan 28 = .ok (.getfield 66, 3) := by decide +kernel
theorem dX5_scan_31 : decode cX5_scan 31 = .ok (.iload_n 2, 1) := by decide +kernel
theorem dX5_scan_32 : decode cX5_scan 32 = .ok (.iaload, 1) := by decide +kernel
theorem dX5_scan_33 : decode cX5_scan 33 = .ok (.istore 4, 2) := by decide +kernel
theorem dX5_scan_35 : decode cX5_scan 35 = .ok (.iload_n 2, 1) := by decide +kernel
theorem dX5_scan_36 : decode cX5_scan 36 = .ok (.iconst 1, 1) := by decide +kernel
theorem dX5_scan_37 : decode cX5_scan 37 = .ok (.iadd, 1) := by decide +kernel
theorem dX5_scan_38 : decode cX5_scan 38 = .ok (.istore 5, 2) := by decide +kernel
theorem dX5_scan_40 : decode cX5_scan 40 = .ok (.iload 4, 2) := by decide +kernel
theorem dX5_scan_42 : decode cX5_scan 42 = .ok (.bipush 32, 2) := by decide +kernel
theorem dX5_scan_44 : decode cX5_scan 44 = .ok (.if_icmp .eq 89, 3) := by decide +kernel
theorem dX5_scan_47 : decode cX5_scan 47 = .ok (.aload_n 0, 1) := by decide +kernel
theorem dX5_scan_48 : decode cX5_scan 48 = .ok (.getfield 15, 3) := by decide +kernel
theorem dX5_scan_51 : decode cX5_scan 51 = .ok (.iload_n 1, 1) := by decide +kernel
theorem dX5_scan_52 : decode cX5_scan 52 = .ok (.iload_n 2, 1) := by decide +kernel
theorem dX5_scan_53 : decode cX5_scan 53 = .ok (.iastore, 1) := by decide +kernel
theorem dX5_scan_54 : decode cX5_scan 54 = .ok (.iload 4, 2) := by decide +kernel
theorem dX5_scan_56 : decode cX5_scan 56 = .ok (.invokestatic 69, 3) := by decide +kernel
theorem dX5_scan_59 : decode cX5_scan 59 = .ok (.ifCond .eq 27, 3) := by decide +kernel
theorem dX5_scan_62 : decode cX5_scan 62 = .ok (.aload_n 0, 1) := by decide +kernel
theorem dX5_scan_63 : decode cX5_scan 63 = .ok (.iload 5, 2) := by decide +kernel
theorem dX5_scan_65 : decode cX5_scan 65 = .ok (.invokevirtual 72, 3) := by decide +kernel
theorem dX5_scan_68 : decode cX5_scan 68 = .ok (.istore 5, 2) := by decide +kernel
theorem dX5_scan_70 : decode cX5_scan 70 = .ok (.aload_n 0, 1) := by decide +kernel
theorem dX5_scan_71 : decode cX5_scan 71 = .ok (.getfield 11, 3) := by decide +kernel
theorem dX5_scan_74 : decode cX5_scan 74 = .ok (.iload_n 1, 1) := by decide +kernel
theorem dX5_scan_75 : decode cX5_scan 75 = .ok (.aload_n 0, 1) := by decide +kernel
theorem dX5_scan_76 : decode cX5_scan 76 = .ok (.iload_n 2, 1) := by decide +kernel
theorem dX5_scan_77 : decode cX5_scan 77 = .ok (.iload 5, 2) := by decide +kernel
theorem dX5_scan_79 : decode cX5_scan 79 = .ok (.invokevirtual 76, 3) := by decide +kernel
theorem dX5_scan_82 : decode cX5_scan 82 = .ok (.iastore, 1) := by decide +kernel
theorem dX5_scan_83 : decode cX5_scan 83 = .ok (.goto 47, 3) := by decide +kernel
theorem dX5_scan_86 : decode cX5_scan 86 = .ok (.iload 4, 2) := by decide +kernel
theorem dX5_scan_88 : decode cX5_scan 88 = .ok (.invokestatic 80, 3) := by decide +kernel
theorem dX5_scan_91 : decode cX5_scan 91 = .ok (.ifCond .eq 31, 3) := by decide +kernel
theorem dX5_scan_94 : decode cX5_scan 94 = .ok (.aload_n 0, 1) := by decide +kernel
theorem dX5_scan_95 : decode cX5_scan 95 = .ok (.iload 5, 2) := by decide +kernel
theorem dX5_scan_97 : decode cX5_scan 97 = .ok (.invokevirtual 83, 3) := by decide +kernel
theorem dX5_scan_100 : decode cX5_scan 100 = .ok (.istore 5, 2) := by decide +kernel
theorem dX5_scan_102 : decode cX5_scan 102 = .ok (.aload_n 0, 1) := by decide +kernel
theorem dX5_scan_103 : decode cX5_scan 103 = .ok (.getfield 11, 3) := by decide +kernel
theorem dX5_scan_106 : decode cX5_scan 106 = .ok (.iload_n 1, 1) := by decide +kernel
theorem dX5_scan_107 : decode cX5_scan 107 = .ok (.sipush 400, 3) := by decide +kernel
theorem dX5_scan_110 : decode cX5_scan 110 = .ok (.aload_n 0, 1) := by decide +kernel
theorem dX5_scan_111 : decode cX5_scan 111 = .ok (.iload_n 2, 1) := by decide +kernel
theorem dX5_scan_112 : decode cX5_scan 112 = .ok (.iload 5, 2) := by decide +kernel
theorem dX5_scan_114 : decode cX5_scan 114 = .ok (.invokevirtual 86, 3) := by decide +kernel
theorem dX5_scan_117 : decode cX5_scan 117 = .ok (.iadd, 1) := by decide +kernel
theorem dX5_scan_118 : decode cX5_scan 118 = .ok (.iastore, 1) := by decide +kernel
theorem dX5_scan_119 : decode cX5_scan 119 = .ok (.goto 11, 3) := by decide +kernel
theorem dX5_scan_122 : decode cX5_scan 122 = .ok (.aload_n 0, 1) := by decide +kernel
theorem dX5_scan_123 : decode cX5_scan 123 = .ok (.getfield 11, 3) := by decide +kernel
theorem dX5_scan_126 : decode cX5_scan 126 = .ok (.iload_n 1, 1) := by decide +kernel
theorem dX5_scan_127 : decode cX5_scan 127 = .ok (.iload 4, 2) := by decide +kernel
theorem dX5_scan_129 : decode cX5_scan 129 = .ok (.iastore, 1) := by decide +kernel
theorem dX5_scan_130 : decode cX5_scan 130 = .ok (.iinc 1 1, 3) := by decide +kernel
theorem dX5_scan_133 : decode cX5_scan 133 = .ok (.iload 5, 2) := by decide +kernel
theorem dX5_scan_135 : decode cX5_scan 135 = .ok (.istore_n 2, 1) := by decide +kernel
theorem dX5_scan_136 : decode cX5_scan 136 = .ok (.iinc 3 1, 3) := by decide +kernel
theorem dX5_scan_139 : decode cX5_scan 139 = .ok (.goto (-133), 3) := by decide +kernel
theorem dX5_scan_142 : decode cX5_scan 142 = .ok (.aload_n 0, 1) := by decide +kernel
theorem dX5_scan_143 : decode cX5_scan 143 = .ok (.getfield 11, 3) := by decide +kernel
theorem dX5_scan_146 : decode cX5_scan 146 = .ok (.iload_n 1, 1) := by decide +kernel
theorem dX5_scan_147 : decode cX5_scan 147 = .ok (.iconst (-1), 1) := by decide +kernel
theorem dX5_scan_148 : decode cX5_scan 148 = .ok (.iastore, 1) := by decide +kernel
theorem dX5_scan_149 : decode cX5_scan 149 = .ok (.aload_n 0, 1) := by decide +kernel
theorem dX5_scan_150 : decode cX5_scan 150 = .ok (.getfield 15, 3) := by decide +kernel
theorem dX5_scan_153 : decode cX5_scan 153 = .ok (.iload_n 1, 1) := by decide +kernel
theorem dX5_scan_154 : decode cX5_scan 154 = .ok (.aload_n 0, 1) := by decide +kernel
theorem dX5_scan_155 : decode cX5_scan 155 = .ok (.getfield 18, 3) := by decide +kernel
theorem dX5_scan_158 : decode cX5_scan 158 = .ok (.getfield 61, 3) := by decide +kernel
theorem dX5_scan_161 : decode cX5_scan 161 = .ok (.iastore, 1) := by decide +kernel
theorem dX5_scan_162 : decode cX5_scan 162 = .ok (.return_, 1) := by decide +kernel
theorem dX5_isLetter_0 : decode cX5_isLetter 0 = .ok (.iload_n 0, 1) := by decide +kernel
theorem dX5_isLetter_1 : decode cX5_isLetter 1 = .ok (.bipush 97, 2) := by decide +kernel
theorem dX5_isLetter_3 : decode cX5_isLetter 3 = .ok (.if_icmp .lt 13, 3) := by decide +kernel
theorem dX5_isLetter_6 : decode cX5_isLetter 6 = .ok (.iload_n 0, 1) := by decide +kernel
theorem dX5_isLetter_7 : decode cX5_isLetter 7 = .ok (.bipush 122, 2) := by decide +kernel
theorem dX5_isLetter_9 : decode cX5_isLetter 9 = .ok (.if_icmp .gt 7, 3) := by decide +kernel
theorem dX5_isLetter_12 : decode cX5_isLetter 12 = .ok (.iconst 1, 1) := by decide +kernel
theorem dX5_isLetter_13 : decode cX5_isLetter 13 = .ok (.goto 4, 3) := by decide +kernel
theorem dX5_isLetter_16 : decode cX5_isLetter 16 = .ok (.iconst 0, 1) := by decide +kernel
theorem dX5_isLetter_17 : decode cX5_isLetter 17 = .ok (.ireturn, 1) := by decide +kernel
theorem dX5_isDigit_0 : decode cX5_isDigit 0 = .ok (.iload_n 0, 1) := by decide +kernel
theorem dX5_isDigit_1 : decode cX5_isDigit 1 = .ok (.bipush 48, 2) := by decide +kernel
theorem dX5_isDigit_3 : decode cX5_isDigit 3 = .ok (.if_icmp .lt 13, 3) := by decide +kernel
theorem dX5_isDigit_6 : decode cX5_isDigit 6 = .ok (.iload_n 0, 1) := by decide +kernel
theorem dX5_isDigit_7 : decode cX5_isDigit 7 = .ok (.bipush 57, 2) := by decide +kernel
theorem dX5_isDigit_9 : decode cX5_isDigit 9 = .ok (.if_icmp .gt 7, 3) := by decide +kernel
theorem dX5_isDigit_12 : decode cX5_isDigit 12 = .ok (.iconst 1, 1) := by decide +kernel
theorem dX5_isDigit_13 : decode cX5_isDigit 13 = .ok (.goto 4, 3) := by decide +kernel
theorem dX5_isDigit_16 : decode cX5_isDigit 16 = .ok (.iconst 0, 1) := by decide +kernel
theorem dX5_isDigit_17 : decode cX5_isDigit 17 = .ok (.ireturn, 1) := by decide +kernel
theorem dX5_endOfLetters_0 : decode cX5_endOfLetters 0 = .ok (.iload_n 1, 1) := by decide +kernel
theorem dX5_endOfLetters_1 : decode cX5_endOfLetters 1 = .ok (.istore_n 2, 1) := by decide +kernel
theorem dX5_endOfLetters_2 : decode cX5_endOfLetters 2 = .ok (.iload_n 2, 1) := by decide +kernel
theorem dX5_endOfLetters_3 : decode cX5_endOfLetters 3 = .ok (.aload_n 0, 1) := by decide +kernel
theorem dX5_endOfLetters_4 : decode cX5_endOfLetters 4 = .ok (.getfield 18, 3) := by decide +kernel
theorem dX5_endOfLetters_7 : decode cX5_endOfLetters 7 = .ok (.getfield 61, 3) := by decide +kernel
theorem dX5_endOfLetters_10 : decode cX5_endOfLetters 10 = .ok (.if_icmp .ge 24, 3) := by decide +kernel
theorem dX5_endOfLetters_13 : decode cX5_endOfLetters 13 = .ok (.aload_n 0, 1) := by decide +kernel
theorem dX5_endOfLetters_14 : decode cX5_endOfLetters 14 = .ok (.getfield 18, 3) := by decide +kernel
theorem dX5_endOfLetters_17 : decode cX5_endOfLetters 17 = .ok (.getfield 66, 3) := by decide +kernel
theorem dX5_endOfLetters_20 : decode cX5_endOfLetters 20 = .ok (.iload_n 2, 1) := by decide +kernel
theorem dX5_endOfLetters_21 : decode cX5_endOfLetters 21 = .ok (.iaload, 1) := by decide +kernel
theorem dX5_endOfLetters_22 : decode cX5_endOfLetters 22 = .ok (.invokestatic 69, 3) := by decide +kernel
theorem dX5_endOfLetters_25 : decode cX5_endOfLetters 25 = .ok (.ifCond .eq 9, 3) := by decide +kernel
theorem dX5_endOfLetters_28 : decode cX5_endOfLetters 28 = .ok (.iinc 2 1, 3) := by decide +kernel
theorem dX5_endOfLetters_31 : decode cX5_endOfLetters 31 = .ok (.goto (-29), 3) := by decide +kernel
theorem dX5_endOfLetters_34 : decode cX5_endOfLetters 34 = .ok (.iload_n 2, 1) := by decide +kernel
theorem dX5_endOfLetters_35 : decode cX5_endOfLetters 35 = .ok (.ireturn, 1) := by decide +kernel
theorem dX5_endOfDigits_0 : decode cX5_endOfDigits 0 = .ok (.iload_n 1, 1) := by decide +kernel
theorem dX5_endOfDigits_1 : decode cX5_endOfDigits 1 = .ok (.istore_n 2, 1) := by decide +kernel
theorem dX5_endOfDigits_2 : decode cX5_endOfDigits 2 = .ok (.iload_n 2, 1) := by decide +kernel
theorem dX5_endOfDigits_3 : decode cX5_endOfDigits 3 = .ok (.aload_n 0, 1) := by decide +kernel
theorem dX5_endOfDigits_4 : decode cX5_endOfDigits 4 = .ok (.getfield 18, 3) := by decide +kernel
theorem dX5_endOfDigits_7 : decode cX5_endOfDigits 7 = .ok (.getfield 61, 3) := by decide +kernel
theorem dX5_endOfDigits_10 : decode cX5_endOfDigits 10 = .ok (.if_icmp .ge 24, 3) := by decide +kernel
theorem dX5_endOfDigits_13 : decode cX5_endOfDigits 13 = .ok (.aload_n 0, 1) := by decide +kernel
theorem dX5_endOfDigits_14 : decode cX5_endOfDigits 14 = .ok (.getfield 18, 3) := by decide +kernel
theorem dX5_endOfDigits_17 : decode cX5_endOfDigits 17 = .ok (.getfield 66, 3) := by decide +kernel
theorem dX5_endOfDigits_20 : decode cX5_endOfDigits 20 = .ok (.iload_n 2, 1) := by decide +kernel
theorem dX5_endOfDigits_21 : decode cX5_endOfDigits 21 = .ok (.iaload, 1) := by decide +kernel
theorem dX5_endOfDigits_22 : decode cX5_endOfDigits 22 = .ok (.invokestatic 80, 3) := by decide +kernel
theorem dX5_endOfDigits_25 : decode cX5_endOfDigits 25 = .ok (.ifCond .eq 9, 3) := by decide +kernel
theorem dX5_endOfDigits_28 : decode cX5_endOfDigits 28 = .ok (.iinc 2 1, 3) := by decide +kernel
theorem dX5_endOfDigits_31 : decode cX5_endOfDigits 31 = .ok (.goto (-29), 3) := by decide +kernel
theorem dX5_endOfDigits_34 : decode cX5_endOfDigits 34 = .ok (.iload_n 2, 1) := by decide +kernel
theorem dX5_endOfDigits_35 : decode cX5_endOfDigits 35 = .ok (.ireturn, 1) := by decide +kernel
theorem dX5_valueFrom_0 : decode cX5_valueFrom 0 = .ok (.iconst 0, 1) := by decide +kernel
theorem dX5_valueFrom_1 : decode cX5_valueFrom 1 = .ok (.istore_n 3, 1) := by decide +kernel
theorem dX5_valueFrom_2 : decode cX5_valueFrom 2 = .ok (.iload_n 1, 1) := by decide +kernel
theorem dX5_valueFrom_3 : decode cX5_valueFrom 3 = .ok (.istore 4, 2) := by decide +kernel
theorem dX5_valueFrom_5 : decode cX5_valueFrom 5 = .ok (.iload 4, 2) := by decide +kernel
theorem dX5_valueFrom_7 : decode cX5_valueFrom 7 = .ok (.iload_n 2, 1) := by decide +kernel
theorem dX5_valueFrom_8 : decode cX5_valueFrom 8 = .ok (.if_icmp .ge 34, 3) := by decide +kernel
theorem dX5_valueFrom_11 : decode cX5_valueFrom 11 = .ok (.iload_n 3, 1) := by decide +kernel
theorem dX5_valueFrom_12 : decode cX5_valueFrom 12 = .ok (.bipush 10, 2) := by decide +kernel
theorem dX5_valueFrom_14 : decode cX5_valueFrom 14 = .ok (.imul, 1) := by decide +kernel
theorem dX5_valueFrom_15 : decode cX5_valueFrom 15 = .ok (.aload_n 0, 1) := by decide +kernel
theorem dX5_valueFrom_16 : decode cX5_valueFrom 16 = .ok (.getfield 18, 3) := by decide +kernel
theorem dX5_valueFrom_19 : decode cX5_valueFrom 19 = .ok (.getfield 66, 3) := by decide +kernel
theorem dX5_valueFrom_22 : decode cX5_valueFrom 22 = .ok (.iload 4, 2) := by decide +kernel
theorem dX5_valueFrom_24 : decode cX5_valueFrom 24 = .ok (.iaload, 1) := by decide +kernel
theorem dX5_valueFrom_25 : decode cX5_valueFrom 25 = .ok (.iadd, 1) := by decide +kernel
theorem dX5_valueFrom_26 : decode cX5_valueFrom 26 = .ok (.bipush 48, 2) := by decide +kernel
theorem dX5_valueFrom_28 : decode cX5_valueFrom 28 = .ok (.isub, 1) := by decide +kernel
theorem dX5_valueFrom_29 : decode cX5_valueFrom 29 = .ok (.sipush 1001, 3) := by decide +kernel
theorem dX5_valueFrom_32 : decode cX5_valueFrom 32 = .ok (.invokestatic 89, 3) := by decide +kernel
theorem dX5_valueFrom_35 : decode cX5_valueFrom 35 = .ok (.istore_n 3, 1) := by decide +kernel
theorem dX5_valueFrom_36 : decode cX5_valueFrom 36 = .ok (.iinc 4 1, 3) := by decide +kernel
theorem dX5_valueFrom_39 : decode cX5_valueFrom 39 = .ok (.goto (-34), 3) := by decide +kernel
theorem dX5_valueFrom_42 : decode cX5_valueFrom 42 = .ok (.iload_n 3, 1) := by decide +kernel
theorem dX5_valueFrom_43 : decode cX5_valueFrom 43 = .ok (.ireturn, 1) := by decide +kernel
