section
theorem dX0_init_0 : decode cX0_init 0 = .ok (.aload_n 0, 1) := by decide +kernel
theorem dX0_init_1 : decode cX0_init 1 = .ok (.invokespecial 3, 3) := by decide +kernel
theorem dX0_init_4 : decode cX0_init 4 = .ok (.aload_n 0, 1) := by decide +kernel
theorem dX0_init_5 : decode cX0_init 5 = .ok (.sipush 200, 3) := by decide +kernel
theorem dX0_init_8 : decode cX0_init 8 = .ok (.newarray .long, 2) := by decide +kernel
theorem dX0_init_10 : decode cX0_init 10 = .ok (.putfield 9, 3) := by decide +kernel
theorem dX0_init_13 : decode cX0_init 13 = .ok (.return_, 1) := by decide +kernel
theorem dX0_fewer_0 : decode cX0_fewer 0 = .ok (.aload_n 0, 1) := by decide +kernel
theorem dX0_fewer_1 : decode cX0_fewer 1 = .ok (.iload_n 2, 1) := by decide +kernel
theorem dX0_fewer_2 : decode cX0_fewer 2 = .ok (.invokevirtual 13, 3) := by decide +kernel
theorem dX0_fewer_5 : decode cX0_fewer 5 = .ok (.iconst 0, 1) := by decide +kernel
theorem dX0_fewer_6 : decode cX0_fewer 6 = .ok (.istore 4, 2) := by decide +kernel
theorem dX0_fewer_8 : decode cX0_fewer 8 = .ok (.iload 4, 2) := by decide +kernel
theorem dX0_fewer_10 : decode cX0_fewer 10 = .ok (.iload_n 2, 1) := by decide +kernel
theorem dX0_fewer_11 : decode cX0_fewer 11 = .ok (.if_icmp .ge 32, 3) := by decide +kernel
theorem dX0_fewer_14 : decode cX0_fewer 14 = .ok (.iload_n 1, 1) := by decide +kernel
theorem dX0_fewer_15 : decode cX0_fewer 15 = .ok (.iconst 1, 1) := by decide +kernel
theorem dX0_fewer_16 : decode cX0_fewer 16 = .ok (.isub, 1) := by decide +kernel
theorem dX0_fewer_17 : decode cX0_fewer 17 = .ok (.istore 5, 2) := by decide +kernel
theorem dX0_fewer_19 : decode cX0_fewer 19 = .ok (.iload 5, 2) := by decide +kernel
theorem dX0_fewer_21 : decode cX0_fewer 21 = .ok (.ifCond .lt 16, 3) := by decide +kernel
theorem dX0_fewer_24 : decode cX0_fewer 24 = .ok (.aload_n 0, 1) := by decide +kernel
theorem dX0_fewer_25 : decode cX0_fewer 25 = .ok (.iload 5, 2) := by decide +kernel
theorem dX0_fewer_27 : decode cX0_fewer 27 = .ok (.iload_n 3, 1) := by decide +kernel
theorem dX0_fewer_28 : decode cX0_fewer 28 = .ok (.invokevirtual 17, 3) := by decide +kernel
theorem dX0_fewer_31 : decode cX0_fewer 31 = .ok (.iinc 5 (-1), 3) := by decide +kernel
theorem dX0_fewer_34 : decode cX0_fewer 34 = .ok (.goto (-15), 3) := by decide +kernel
theorem dX0_fewer_37 : decode cX0_fewer 37 = .ok (.iinc 4 1, 3) := by decide +kernel
theorem dX0_fewer_40 : decode cX0_fewer 40 = .ok (.goto (-32), 3) := by decide +kernel
theorem dX0_fewer_43 : decode cX0_fewer 43 = .ok (.lconst 0, 1) := by decide +kernel
theorem dX0_fewer_44 : decode cX0_fewer 44 = .ok (.lstore 4, 2) := by decide +kernel
theorem dX0_fewer_46 : decode cX0_fewer 46 = .ok (.iconst 0, 1) := by decide +kernel
theorem dX0_fewer_47 : decode cX0_fewer 47 = .ok (.istore 6, 2) := by decide +kernel
theorem dX0_fewer_49 : decode cX0_fewer 49 = .ok (.iload 6, 2) := by decide +kernel
theorem dX0_fewer_51 : decode cX0_fewer 51 = .ok (.iload_n 1, 1) := by decide +kernel
theorem dX0_fewer_52 : decode cX0_fewer 52 = .ok (.if_icmp .ge 47, 3) := by decide +kernel
theorem dX0_fewer_55 : decode cX0_fewer 55 = .ok (.lload 4, 2) := by decide +kernel
theorem dX0_fewer_57 : decode cX0_fewer 57 = .ok (.aload_n 0, 1) := by decide +kernel
theorem dX0_fewer_58 : decode cX0_fewer 58 = .ok (.getfield 9, 3) := by decide +kernel
theorem dX0_fewer_61 : decode cX0_fewer 61 = .ok (.iload 6, 2) := by decide +kernel
theorem dX0_fewer_63 : decode cX0_fewer 63 = .ok (.bipush 10, 2) := by decide +kernel
theorem dX0_fewer_65 : decode cX0_fewer 65 = .ok (.imul, 1) := by decide +kernel
theorem dX0_fewer_66 : decode cX0_fewer 66 = .ok (.bipush 9, 2) := by decide +kernel
theorem dX0_fewer_68 : decode cX0_fewer 68 = .ok (.iadd, 1) := by decide +kernel
theorem dX0_fewer_69 : decode cX0_fewer 69 = .ok (.laload, 1) := by decide +kernel
theorem dX0_fewer_70 : decode cX0_fewer 70 = .ok (.ldc2_w 21, 3) := by decide +kernel
theorem dX0_fewer_73 : decode cX0_fewer 73 = .ok (.lmul, 1) := by decide +kernel
theorem dX0_fewer_74 : decode cX0_fewer 74 = .ok (.aload_n 0, 1) := by decide +kernel
theorem dX0_fewer_75 : decode cX0_fewer 75 = .ok (.getfield 9, 3) := by decide +kernel
theorem dX0_fewer_78 : decode cX0_fewer 78 = .ok (.iload 6, 2) := by decide +kernel
theorem dX0_fewer_80 : decode cX0_fewer 80 = .ok (.bipush 10, 2) := by decide +kernel
theorem dX0_fewer_82 : decode cX0_fewer 82 = .ok (.imul, 1) := by decide +kernel
theorem dX0_fewer_83 : decode cX0_fewer 83 = .ok (.bipush 9, 2) := by decide +kernel
theorem dX0_fewer_85 : decode cX0_fewer 85 = .ok (.iadd, 1) := by decide +kernel
theorem dX0_fewer_86 : decode cX0_fewer 86 = .ok (.iconst 1, 1) := by decide +kernel
theorem dX0_fewer_87 : decode cX0_fewer 87 = .ok (.isub, 1) := by decide +kernel
theorem dX0_fewer_88 : decode cX0_fewer 88 = .ok (.laload, 1) := by decide +kernel
theorem dX0_fewer_89 : decode cX0_fewer 89 = .ok (.ladd, 1) := by decide +kernel
theorem dX0_fewer_90 : decode cX0_fewer 90 = .ok (.ladd, 1) := by decide +kernel
theorem dX0_fewer_91 : decode cX0_fewer 91 = .ok (.lstore 4, 2) := by decide +kernel
theorem dX0_fewer_93 : decode cX0_fewer 93 = .ok (.iinc 6 1, 3) := by decide +kernel
theorem dX0_fewer_96 : decode cX0_fewer 96 = .ok (.goto (-47), 3) := by decide +kernel
theorem dX0_fewer_99 : decode cX0_fewer 99 = .ok (.lload 4, 2) := by decide +kernel
theorem dX0_fewer_101 : decode cX0_fewer 101 = .ok (.lreturn, 1) := by decide +kernel
theorem dX0_setStart_0 : decode cX0_setStart 0 = .ok (.aload_n 0, 1) := by decide +kernel
theorem dX0_setStart_1 : decode cX0_setStart 1 = .ok (.getfield 9, 3) := by decide +kernel
theorem dX0_setStart_4 : decode cX0_setStart 4 = .ok (.lconst 0, 1) := by decide +kernel
theorem dX0_setStart_5 : decode cX0_setStart 5 = .ok (.invokestatic 23, 3) := by decide +kernel
theorem dX0_setStart_8 : decode cX0_setStart 8 = .ok (.bipush 108, 2) := by decide +kernel
theorem dX0_setStart_10 : decode cX0_setStart 10 = .ok (.iload_n 1, 1) := by decide +kernel
theorem dX0_setStart_11 : decode cX0_setStart 11 = .ok (.isub, 1) := by decide +kernel
theorem dX0_setStart_12 : decode cX0_setStart 12 = .ok (.istore_n 2, 1) := by decide +kernel
theorem dX0_setStart_13 : decode cX0_setStart 13 = .ok (.lconst 1, 1) := by decide +kernel
theorem dX0_setStart_14 : decode cX0_setStart 14 = .ok (.lstore_n 3, 1) := by decide +kernel
theorem dX0_setStart_15 : decode cX0_setStart 15 = .ok (.iconst 0, 1) := by decide +kernel
theorem dX0_setStart_16 : decode cX0_setStart 16 = .ok (.istore 5, 2) := by decide +kernel
theorem dX0_setStart_18 : decode cX0_setStart 18 = .ok (.iload 5, 2) := by decide +kernel
theorem dX0_setStart_20 : decode cX0_setStart 20 = .ok (.iload_n 2, 1) := by decide +kernel
theorem dX0_setStart_21 : decode cX0_setStart 21 = .ok (.bipush 12, 2) := by decide +kernel
theorem dX0_setStart_23 : decode cX0_setStart 23 = .ok (.irem, 1) := by decide +kernel
theorem dX0_setStart_24 : decode cX0_setStart 24 = .ok (.if_icmp .ge 15, 3) := by decide +kernel
theorem dX0_setStart_27 : decode cX0_setStart 27 = .ok (.lload_n 3, 1) := by decide +kernel
theorem dX0_setStart_28 : decode cX0_setStart 28 = .ok (.ldc2_w 29, 3) := by decide +kernel
theorem dX0_setStart_31 : decode cX0_setStart 31 = .ok (.lmul, 1) := by decide +kernel
theorem dX0_setStart_32 : decode cX0_setStart 32 = .ok (.lstore_n 3, 1) := by decide +kernel
theorem dX0_setStart_33 : decode cX0_setStart 33 = .ok (.iinc 5 1, 3) := by decide +kernel
theorem dX0_setStart_36 : decode cX0_setStart 36 = .ok (.goto (-18), 3) := by decide +kernel
theorem dX0_setStart_39 : decode cX0_setStart 39 = .ok (.iload_n 2, 1) := by decide +kernel
theorem dX0_setStart_40 : decode cX0_setStart 40 = .ok (.ifCond .lt 13, 3) := by decide +kernel
theorem dX0_setStart_43 : decode cX0_setStart 43 = .ok (.aload_n 0, 1) := by decide +kernel
theorem dX0_setStart_44 : decode cX0_setStart 44 = .ok (.getfield 9, 3) := by decide +kernel
theorem dX0_setStart_47 : decode cX0_setStart 47 = .ok (.iload_n 2, 1) := by decide +kernel
theorem dX0_setStart_48 : decode cX0_setStart 48 = .ok (.bipush 12, 2) := by decide +kernel
theorem dX0_setStart_50 : decode cX0_setStart 50 = .ok (.idiv, 1) := by decide +kernel
theorem dX0_setStart_51 : decode cX0_setStart 51 = .ok (.lload_n 3, 1) := by decide +kernel
theorem dX0_setStart_52 : decode cX0_setStart 52 = .ok (.lastore, 1) := by decide +kernel
theorem dX0_setStart_53 : decode cX0_setStart 53 = .ok (.return_, 1) := by decide +kernel
theorem dX0_addOneMore_0 : decode cX0_addOneMore 0 = .ok (.lconst 0, 1) := by decide +kernel
theorem dX0_addOneMore_1 : decode cX0_addOneMore 1 = .ok (.lstore_n 3, 1) := by decide +kernel
theorem dX0_addOneMore_2 : decode cX0_addOneMore 2 = .ok (.iconst 0, 1) := by decide +kernel
theorem dX0_addOneMore_3 : decode cX0_addOneMore 3 = .ok (.istore 5, 2) := by decide +kernel
theorem dX0_addOneMore_5 : decode cX0_addOneMore 5 = .ok (.iload 5, 2) := by decide +kernel
theorem dX0_addOneMore_7 : decode cX0_addOneMore 7 = .ok (.bipush 10, 2) := by decide +kernel
theorem dX0_addOneMore_9 : decode cX0_addOneMore 9 = .ok (.if_icmp .ge 77, 3) := by decide +kernel
theorem dX0_addOneMore_12 : decode cX0_addOneMore 12 = .ok (.iload_n 1, 1) := by decide +kernel
theorem dX0_addOneMore_13 : decode cX0_addOneMore 13 = .ok (.bipush 10, 2) := by decide +kernel
theorem dX0_addOneMore_15 : decode cX0_addOneMore 15 = .ok (.imul, 1) := by decide +kernel
theorem dX0_addOneMore_16 : decode cX0_addOneMore 16 = .ok (.iload 5, 2) := by decide +kernel
theorem dX0_addOneMore_18 : decode cX0_addOneMore 18 = .ok (.iadd, 1) := by decide +kernel
theorem dX0_addOneMore_19 : decode cX0_addOneMore 19 = .ok (.istore 6, 2) := by decide +kernel
theorem dX0_addOneMore_21 : decode cX0_addOneMore 21 = .ok (.aload_n 0, 1) := by decide +kernel
theorem dX0_addOneMore_22 : decode cX0_addOneMore 22 = .ok (.getfield 9, 3) := by decide +kernel
theorem dX0_addOneMore_25 : decode cX0_addOneMore 25 = .ok (.iload 6, 2) := by decide +kernel
theorem dX0_addOneMore_27 : decode cX0_addOneMore 27 = .ok (.laload, 1) := by decide +kernel
theorem dX0_addOneMore_28 : decode cX0_addOneMore 28 = .ok (.bipush 10, 2) := by decide +kernel
theorem dX0_addOneMore_30 : decode cX0_addOneMore 30 = .ok (.iload_n 2, 1) := by decide +kernel
theorem dX0_addOneMore_31 : decode cX0_addOneMore 31 = .ok (.isub, 1) := by decide +kernel
theorem dX0_addOneMore_32 : decode cX0_addOneMore 32 = .ok (.i2l, 1) := by decide +kernel
theorem dX0_addOneMore_33 : decode cX0_addOneMore 33 = .ok (.lmul, 1) := by decide +kernel
theorem dX0_addOneMore_34 : decode cX0_addOneMore 34 = .ok (.lload_n 3, 1) := by decide +kernel
theorem dX0_addOneMore_35 : decode cX0_addOneMore 35 = .ok (.ladd, 1) := by decide +kernel
theorem dX0_addOneMore_36 : decode cX0_addOneMore 36 = .ok (.lstore 7, 2) := by decide +kernel
theorem dX0_addOneMore_38 : decode cX0_addOneMore 38 = .ok (.iload_n 1, 1) := by decide +kernel
theorem dX0_addOneMore_39 : decode cX0_addOneMore 39 = .ok (.ifCond .le 21, 3) := by decide +kernel
theorem dX0_addOneMore_42 : decode cX0_addOneMore 42 = .ok (.lload 7, 2) := by decide +kernel
theorem dX0_addOneMore_44 : decode cX0_addOneMore 44 = .ok (.aload_n 0, 1) := by decide +kernel
theorem dX0_addOneMore_45 : decode cX0_addOneMore 45 = .ok (.getfield 9, 3) := by decide +kernel
theorem dX0_addOneMore_48 : decode cX0_addOneMore 48 = .ok (.iload 6, 2) := by decide +kernel
theorem dX0_addOneMore_50 : decode cX0_addOneMore 50 = .ok (.bipush 10, 2) := by decide +kernel
theorem dX0_addOneMore_52 : decode cX0_addOneMore 52 = .ok (.isub, 1) := by decide +kernel
theorem dX0_addOneMore_53 : decode cX0_addOneMore 53 = .ok (.laload, 1) := by decide +kernel
theorem dX0_addOneMore_54 : decode cX0_addOneMore 54 = .ok (.iload_n 2, 1) := by decide +kernel
theorem dX0_addOneMore_55 : decode cX0_addOneMore 55 = .ok (.i2l, 1) := by decide +kernel
theorem dX0_addOneMore_56 : decode cX0_addOneMore 56 = .ok (.lmul, 1) := by decide +kernel
theorem dX0_addOneMore_57 : decode cX0_addOneMore 57 = .ok (.ladd, 1) := by decide +kernel
theorem dX0_addOneMore_58 : decode cX0_addOneMore 58 = .ok (.lstore 7, 2) := by decide +kernel
theorem dX0_addOneMore_60 : decode cX0_addOneMore 60 = .ok (.aload_n 0, 1) := by decide +kernel
theorem dX0_addOneMore_61 : decode cX0_addOneMore 61 = .ok (.getfield 9, 3) := by decide +kernel
theorem dX0_addOneMore_64 : decode cX0_addOneMore 64 = .ok (.iload 6, 2) := by decide +kernel
theorem dX0_addOneMore_66 : decode cX0_addOneMore 66 = .ok (.lload 7, 2) := by decide +kernel
theorem dX0_addOneMore_68 : decode cX0_addOneMore 68 = .ok (.ldc2_w 21, 3) := by decide +kernel
theorem dX0_addOneMore_71 : decode cX0_addOneMore 71 = .ok (.lrem, 1) := by decide +kernel
theorem dX0_addOneMore_72 : decode cX0_addOneMore 72 = .ok (.lastore, 1) := by decide +kernel
theorem dX0_addOneMore_73 : decode cX0_addOneMore 73 = .ok (.lload 7, 2) := by decide +kernel
theorem dX0_addOneMore_75 : decode cX0_addOneMore 75 = .ok (.ldc2_w 21, 3) := by decide +kernel
theorem dX0_addOneMore_78 : decode cX0_addOneMore 78 = .ok (.ldiv, 1) := by decide +kernel
theorem dX0_addOneMore_79 : decode cX0_addOneMore 79 = .ok (.lstore_n 3, 1) := by decide +kernel
theorem dX0_addOneMore_80 : decode cX0_addOneMore 80 = .ok (.iinc 5 1, 3) := by decide +kernel
theorem dX0_addOneMore_83 : decode cX0_addOneMore 83 = .ok (.goto (-78), 3) := by decide +kernel
theorem dX0_addOneMore_86 : decode cX0_addOneMore 86 = .ok (.return_, 1) := by decide +kernel
theorem dX1_init_0 : decode cX1_init 0 = .ok (.aload_n 0, 1) := by decide +kernel
theorem dX1_init_1 : decode cX1_init 1 = .ok (.invokespecial 3, 3) := by decide +kernel
theorem dX1_init_4 : decode cX1_init 4 = .ok (.aload_n 0, 1) := by decide +kernel
theorem dX1_init_5 : decode cX1_init 5 = .ok (.bipush 9, 2) := by decide +kernel
theorem dX1_init_7 : decode cX1_init 7 = .ok (.newarray .int, 2) := by decide +kernel
theorem dX1_init_9 : decode cX1_init 9 = .ok (.putfield 9, 3) := by decide +kernel
theorem dX1_init_12 : decode cX1_init 12 = .ok (.aload_n 0, 1) := by decide +kernel
theorem dX1_init_13 : decode cX1_init 13 = .ok (.bipush 9, 2) := by decide +kernel
theorem dX1_init_15 : decode cX1_init 15 = .ok (.newarray .int, 2) := by decide +kernel
theorem dX1_init_17 : decode cX1_init 17 = .ok (.putfield 15, 3) := by decide +kernel
theorem dX1_init_20 : decode cX1_init 20 = .ok (.aload_n 0, 1) := by decide +kernel
theorem dX1_init_21 : decode cX1_init 21 = .ok (.bipush 9, 2) := by decide +kernel
theorem dX1_init_23 : decode cX1_init 23 = .ok (.newarray .int, 2) := by decide +kernel
theorem dX1_init_25 : decode cX1_init 25 = .ok (.putfield 18, 3) := by decide +kernel
theorem dX1_init_28 : decode cX1_init 28 = .ok (.aload_n 0, 1) := by decide +kernel
theorem dX1_init_29 : decode cX1_init 29 = .ok (.bipush 9, 2) := by decide +kernel
theorem dX1_init_31 : decode cX1_init 31 = .ok (.newarray .int, 2) := by decide +kernel
theorem dX1_init_33 : decode cX1_init 33 = .ok (.putfield 21, 3) := by decide +kernel
theorem dX1_init_36 : decode cX1_init 36 = .ok (.aload_n 0, 1) := by decide +kernel
theorem dX1_init_37 : decode cX1_init 37 = .ok (.bipush 9, 2) := by decide +kernel
theorem dX1_init_39 : decode cX1_init 39 = .ok (.newarray .int, 2) := by decide +kernel
theorem dX1_init_41 : decode cX1_init 41 = .ok (.putfield 24, 3) := by decide +kernel
theorem dX1_init_44 : decode cX1_init 44 = .ok (.aload_n 0, 1) := by decide +kernel
theorem dX1_init_45 : decode cX1_init 45 = .ok (.iconst 3, 1) := by decide +kernel
theorem dX1_init_46 : decode cX1_init 46 = .ok (.newarray .int, 2) := by decide +kernel
theorem dX1_init_48 : decode cX1_init 48 = .ok (.putfield 27, 3) := by decide +kernel
theorem dX1_init_51 : decode cX1_init 51 = .ok (.aload_n 0, 1) := by decide +kernel
theorem dX1_init_52 : decode cX1_init 52 = .ok (.bipush 12, 2) := by decide +kernel
theorem dX1_init_54 : decode cX1_init 54 = .ok (.newarray .int, 2) := by decide +kernel
theorem dX1_init_56 : decode cX1_init 56 = .ok (.putfield 30, 3) := by decide +kernel
theorem dX1_init_59 : decode cX1_init 59 = .ok (.aload_n 0, 1) := by decide +kernel
theorem dX1_init_60 : decode cX1_init 60 = .ok (.iconst 0, 1) := by decide +kernel
theorem dX1_init_61 : decode cX1_init 61 = .ok (.putfield 33, 3) := by decide +kernel
theorem dX1_init_64 : decode cX1_init 64 = .ok (.aload_n 0, 1) := by decide +kernel
theorem dX1_init_65 : decode cX1_init 65 = .ok (.bipush 8, 2) := by decide +kernel
theorem dX1_init_67 : decode cX1_init 67 = .ok (.putfield 37, 3) := by decide +kernel
theorem dX1_init_70 : decode cX1_init 70 = .ok (.aload_n 0, 1) := by decide +kernel
theorem dX1_init_71 : decode cX1_init 71 = .ok (.bipush 8, 2) := by decide +kernel
theorem dX1_init_73 : decode cX1_init 73 = .ok (.putfield 40, 3) := by decide +kernel
theorem dX1_init_76 : decode cX1_init 76 = .ok (.aload_n 0, 1) := by decide +kernel
theorem dX1_init_77 : decode cX1_init 77 = .ok (.iconst 0, 1) := by decide +kernel
theorem dX1_init_78 : decode cX1_init 78 = .ok (.putfield 43, 3) := by decide +kernel
theorem dX1_init_81 : decode cX1_init 81 = .ok (.aload_n 0, 1) := by decide +kernel
theorem dX1_init_82 : decode cX1_init 82 = .ok (.getfield 27, 3) := by decide +kernel
theorem dX1_init_85 : decode cX1_init 85 = .ok (.iconst 1, 1) := by decide +kernel
theorem dX1_init_86 : decode cX1_init 86 = .ok (.iconst 1, 1) := by decide +kernel
theorem dX1_init_87 : decode cX1_init 87 = .ok (.iastore, 1) := by decide +kernel
theorem dX1_init_88 : decode cX1_init 88 = .ok (.return_, 1) := by decide +kernel
theorem dX1_copyFrom_0 : decode cX1_copyFrom 0 = .ok (.aload_n 1, 1) := by decide +kernel
theorem dX1_copyFrom_1 : decode cX1_copyFrom 1 = .ok (.getfield 9, 3) := by decide +kernel
theorem dX1_copyFrom_4 : decode cX1_copyFrom 4 = .ok (.iconst 0, 1) := by decide +kernel
theorem dX1_copyFrom_5 : decode cX1_copyFrom 5 = .ok (.aload_n 0, 1) := by decide +kernel
theorem dX1_copyFrom_6 : decode cX1_copyFrom 6 = .ok (.getfield 9, 3) := by decide +kernel
theorem dX1_copyFrom_9 : decode cX1_copyFrom 9 = .ok (.iconst 0, 1) := by decide +kernel
theorem dX1_copyFrom_10 : decode cX1_copyFrom 10 = .ok (.bipush 9, 2) := by decide +kernel
theorem dX1_copyFrom_12 : decode cX1_copyFrom 12 = .ok (.invokestatic 46, 3) := by decide +kernel
theorem dX1_copyFrom_15 : decode cX1_copyFrom 15 = .ok (.aload_n 1, 1) := by decide +kernel
theorem dX1_copyFrom_16 : decode cX1_copyFrom 16 = .ok (.getfield 15, 3) := by decide +kernel
theorem dX1_copyFrom_19 : decode cX1_copyFrom 19 = .ok (.iconst 0, 1) := by decide +kernel
theorem dX1_copyFrom_20 : decode cX1_copyFrom 20 = .ok (.aload_n 0, 1) := by decide +kernel
theorem dX1_copyFrom_21 : decode cX1_copyFrom 21 = .ok (.getfield 15, 3) := by decide +kernel
theorem dX1_copyFrom_24 : decode cX1_copyFrom 24 = .ok (.iconst 0, 1) := by decide +kernel
theorem dX1_copyFrom_25 : decode cX1_copyFrom 25 = .ok (.bipush 9, 2) := by decide +kernel
theorem dX1_copyFrom_27 : decode cX1_copyFrom 27 = .ok (.invokestatic 46, 3) := by decide +kernel
theorem dX1_copyFrom_30 : decode cX1_copyFrom 30 = .ok (.aload_n 1, 1) := by decide +kernel
theorem dX1_copyFrom_31 : decode cX1_copyFrom 31 = .ok (.getfield 18, 3) := by decide +kernel
theorem dX1_copyFrom_34 : decode cX1_copyFrom 34 = .ok (.iconst 0, 1) := by decide +kernel
theorem dX1_copyFrom_35 : decode cX1_copyFrom 35 = .ok (.aload_n 0, 1) := by decide +kernel
theorem dX1_copyFrom_36 : decode cX1_copyFrom 36 = .ok (.getfield 18, 3) := by decide +kernel
theorem dX1_copyFrom_39 : decode cX1_copyFrom 39 = .ok (.iconst 0, 1) := by decide +kernel
theorem dX1_copyFrom_40 : decode cX1_copyFrom 40 = .ok (.bipush 9, 2) := by decide +kernel
theorem dX1_copyFrom_42 : decode cX1_copyFrom 42 = .ok (.invokestatic 46, 3) := by decide +kernel
theorem dX1_copyFrom_45 : decode cX1_copyFrom 45 = .ok (.aload_n 1, 1) := by decide +kernel
theorem dX1_copyFrom_46 : decode cX1_copyFrom 46 = .ok (.getfield 21, 3) := by decide +kernel
theorem dX1_copyFrom_49 : decode cX1_copyFrom 49 = .ok (.iconst 0, 1) := by decide +kernel
theorem dX1_copyFrom_50 : decode cX1_copyFrom 50 = .ok (.aload_n 0, 1) := by decide +kernel
theorem dX1_copyFrom_51 : decode cX1_copyFrom 51 = .ok (.getfield 21, 3) := by decide +kernel
theorem dX1_copyFrom_54 : decode cX1_copyFrom 54 = .ok (.iconst 0, 1) := by decide +kernel
theorem dX1_copyFrom_55 : decode cX1_copyFrom 55 = .ok (.bipush 9, 2) := by decide +kernel
theorem dX1_copyFrom_57 : decode cX1_copyFrom 57 = .ok (.invokestatic 46, 3) := by decide +kernel
theorem dX1_copyFrom_60 : decode cX1_copyFrom 60 = .ok (.aload_n 1, 1) := by decide +kernel
theorem dX1_copyFrom_61 : decode cX1_copyFrom 61 = .ok (.getfield 24, 3) := by decide +kernel
theorem dX1_copyFrom_64 : decode cX1_copyFrom 64 = .ok (.iconst 0, 1) := by decide +kernel
theorem dX1_copyFrom_65 : decode cX1_copyFrom 65 = .ok (.aload_n 0, 1) := by decide +kernel
theorem dX1_copyFrom_66 : decode cX1_copyFrom 66 = .ok (.getfield 24, 3) := by decide +kernel
theorem dX1_copyFrom_69 : decode cX1_copyFrom 69 = .ok (.iconst 0, 1) := by decide +kernel
theorem dX1_copyFrom_70 : decode cX1_copyFrom 70 = .ok (.bipush 9, 2) := by decide +kernel
theorem dX1_copyFrom_72 : decode cX1_copyFrom 72 = .ok (.invokestatic 46, 3) := by decide +kernel
theorem dX1_copyFrom_75 : decode cX1_copyFrom 75 = .ok (.aload_n 1, 1) := by decide +kernel
theorem dX1_copyFrom_76 : decode cX1_copyFrom 76 = .ok (.getfield 27, 3) := by decide +kernel
theorem dX1_copyFrom_79 : decode cX1_copyFrom 79 = .ok (.iconst 0, 1) := by decide +kernel
theorem dX1_copyFrom_80 : decode cX1_copyFrom 80 = .ok (.aload_n 0, 1) := by decide +kernel
theorem dX1_copyFrom_81 : decode cX1_copyFrom 81 = .ok (.getfield 27, 3) := by decide +kernel
theorem dX1_copyFrom_84 : decode cX1_copyFrom 84 = .ok (.iconst 0, 1) := by decide +kernel
theorem dX1_copyFrom_85 : decode cX1_copyFrom 85 = .ok (.iconst 3, 1) := by decide +kernel
theorem dX1_copyFrom_86 : decode cX1_copyFrom 86 = .ok (.invokestatic 46, 3) := by decide +kernel
theorem dX1_copyFrom_89 : decode cX1_copyFrom 89 = .ok (.aload_n 0, 1) := by decide +kernel
theorem dX1_copyFrom_90 : decode cX1_copyFrom 90 = .ok (.aload_n 1, 1) := by decide +kernel
theorem dX1_copyFrom_91 : decode cX1_copyFrom 91 = .ok (.getfield 33, 3) := by decide +kernel
theorem dX1_copyFrom_94 : decode cX1_copyFrom 94 = .ok (.putfield 33, 3) := by decide +kernel
theorem dX1_copyFrom_97 : decode cX1_copyFrom 97 = .ok (.aload_n 0, 1) := by decide +kernel
theorem dX1_copyFrom_98 : decode cX1_copyFrom 98 = .ok (.aload_n 1, 1) := by decide +kernel
theorem dX1_copyFrom_99 : decode cX1_copyFrom 99 = .ok (.getfield 37, 3) := by decide +kernel
theorem dX1_copyFrom_102 : decode cX1_copyFrom 102 = .ok (.putfield 37, 3) := by decide +kernel
theorem dX1_copyFrom_105 : decode cX1_copyFrom 105 = .ok (.aload_n 0, 1) := by decide +kernel
theorem dX1_copyFrom_106 : decode cX1_copyFrom 106 = .ok (.aload_n 1, 1) := by decide +kernel
theorem dX1_copyFrom_107 : decode cX1_copyFrom 107 = .ok (.getfield 40, 3) := by decide +kernel
theorem dX1_copyFrom_110 : decode cX1_copyFrom 110 = .ok (.putfield 40, 3) := by decide +kernel
theorem dX1_copyFrom_113 : decode cX1_copyFrom 113 = .ok (.aload_n 0, 1) := by decide +kernel
theorem dX1_copyFrom_114 : decode cX1_copyFrom 114 = .ok (.aload_n 1, 1) := by decide +kernel
theorem dX1_copyFrom_115 : decode cX1_copyFrom 115 = .ok (.getfield 43, 3) := by decide +kernel
theorem dX1_copyFrom_118 : decode cX1_copyFrom 118 = .ok (.putfield 43, 3) := by decide +kernel
theorem dX1_copyFrom_121 : decode cX1_copyFrom 121 = .ok (.return_, 1) := by decide +kernel
theorem dX1_add_0 : decode cX1_add 0 = .ok (.iload_n 1, 1) := by decide +kernel
theorem dX1_add_1 : decode cX1_add 1 = .ok (.iconst 1, 1) := by decide +kernel
theorem dX1_add_2 : decode cX1_add 2 = .ok (.if_icmp .lt 28, 3) := by decide +kernel
theorem dX1_add_5 : decode cX1_add 5 = .ok (.iload_n 1, 1) := by decide +kernel
theorem dX1_add_6 : decode cX1_add 6 = .ok (.bipush 12, 2) := by decide +kernel
theorem dX1_add_8 : decode cX1_add 8 = .ok (.if_icmp .gt 22, 3) := by decide +kernel
theorem dX1_add_11 : decode cX1_add 11 = .ok (.iload_n 2, 1) := by decide +kernel
theorem dX1_add_12 : decode cX1_add 12 = .ok (.ifCond .lt 18, 3) := by decide +kernel
theorem dX1_add_15 : decode cX1_add 15 = .ok (.iload_n 2, 1) := by decide +kernel
theorem dX1_add_16 : decode cX1_add 16 = .ok (.iconst 3, 1) := by decide +kernel
theorem dX1_add_17 : decode cX1_add 17 = .ok (.if_icmp .gt 13, 3) := by decide +kernel
theorem dX1_add_20 : decode cX1_add 20 = .ok (.iload_n 3, 1) := by decide +kernel
theorem dX1_add_21 : decode cX1_add 21 = .ok (.ifCond .lt 9, 3) := by decide +kernel
theorem dX1_add_24 : decode cX1_add 24 = .ok (.iload_n 3, 1) := by decide +kernel
theorem dX1_add_25 : decode cX1_add 25 = .ok (.bipush 9, 2) := by decide +kernel
theorem dX1_add_27 : decode cX1_add 27 = .ok (.if_icmp .le 5, 3) := by decide +kernel
theorem dX1_add_30 : decode cX1_add 30 = .ok (.iconst (-1), 1) := by decide +kernel
theorem dX1_add_31 : decode cX1_add 31 = .ok (.ireturn, 1) := by decide +kernel
theorem dX1_add_32 : decode cX1_add 32 = .ok (.aload_n 0, 1) := by decide +kernel
theorem dX1_add_33 : decode cX1_add 33 = .ok (.getfield 33, 3) := by decide +kernel
theorem dX1_add_36 : decode cX1_add 36 = .ok (.bipush 9, 2) := by decide +kernel
theorem dX1_add_38 : decode cX1_add 38 = .ok (.if_icmp .lt 6, 3) := by decide +kernel
theorem dX1_add_41 : decode cX1_add 41 = .ok (.bipush (-5), 2) := by decide +kernel
theorem dX1_add_43 : decode cX1_add 43 = .ok (.ireturn, 1) := by decide +kernel
theorem dX1_add_44 : decode cX1_add 44 = .ok (.aload_n 0, 1) := by decide +kernel
theorem dX1_add_45 : decode cX1_add 45 = .ok (.getfield 9, 3) := by decide +kernel
theorem dX1_add_48 : decode cX1_add 48 = .ok (.aload_n 0, 1) := by decide +kernel
theorem dX1_add_49 : decode cX1_add 49 = .ok (.getfield 33, 3) := by decide +kernel
theorem dX1_add_52 : decode cX1_add 52 = .ok (.iload_n 1, 1) := by decide +kernel
theorem dX1_add_53 : decode cX1_add 53 = .ok (.iastore, 1) := by decide +kernel
theorem dX1_add_54 : decode cX1_add 54 = .ok (.aload_n 0, 1) := by decide +kernel
theorem dX1_add_55 : decode cX1_add 55 = .ok (.getfield 15, 3) := by decide +kernel
theorem dX1_add_58 : decode cX1_add 58 = .ok (.aload_n 0, 1) := by decide +kernel
theorem dX1_add_59 : decode cX1_add 59 = .ok (.getfield 33, 3) := by decide +kernel
theorem dX1_add_62 : decode cX1_add 62 = .ok (.iload_n 2, 1) := by decide +kernel
theorem dX1_add_63 : decode cX1_add 63 = .ok (.iastore, 1) := by decide +kernel
theorem dX1_add_64 : decode cX1_add 64 = .ok (.aload_n 0, 1) := by decide +kernel
theorem dX1_add_65 : decode cX1_add 65 = .ok (.getfield 18, 3) := by decide +kernel
theorem dX1_add_68 : decode cX1_add 68 = .ok (.aload_n 0, 1) := by decide +kernel
theorem dX1_add_69 : decode cX1_add 69 = .ok (.getfield 33, 3) := by decide +kernel
theorem dX1_add_72 : decode cX1_add 72 = .ok (.iload_n 3, 1) := by decide +kernel
theorem dX1_add_73 : decode cX1_add 73 = .ok (.iastore, 1) := by decide +kernel
theorem dX1_add_74 : decode cX1_add 74 = .ok (.aload_n 0, 1) := by decide +kernel
theorem dX1_add_75 : decode cX1_add 75 = .ok (.getfield 21, 3) := by decide +kernel
theorem dX1_add_78 : decode cX1_add 78 = .ok (.aload_n 0, 1) := by decide +kernel
theorem dX1_add_79 : decode cX1_add 79 = .ok (.getfield 33, 3) := by decide +kernel
theorem dX1_add_82 : decode cX1_add 82 = .ok (.iconst (-1), 1) := by decide +kernel
theorem dX1_add_83 : decode cX1_add 83 = .ok (.iastore, 1) := by decide +kernel
theorem dX1_add_84 : decode cX1_add 84 = .ok (.aload_n 0, 1) := by decide +kernel
theorem dX1_add_85 : decode cX1_add 85 = .ok (.getfield 24, 3) := by decide +kernel
theorem dX1_add_88 : decode cX1_add 88 = .ok (.aload_n 0, 1) := by decide +kernel
theorem dX1_add_89 : decode cX1_add 89 = .ok (.getfield 33, 3) := by decide +kernel
theorem dX1_add_92 : decode cX1_add 92 = .ok (.iconst (-1), 1) := by decide +kernel
theorem dX1_add_93 : decode cX1_add 93 = .ok (.iastore, 1) := by decide +kernel
theorem dX1_add_94 : decode cX1_add 94 = .ok (.aload_n 0, 1) := by decide +kernel
theorem dX1_add_95 : decode cX1_add 95 = .ok (.dup, 1) := by decide +kernel
theorem dX1_add_96 : decode cX1_add 96 = .ok (.getfield 33, 3) := by decide +kernel
theorem dX1_add_99 : decode cX1_add 99 = .ok (.iconst 1, 1) := by decide +kernel
theorem dX1_add_100 : decode cX1_add 100 = .ok (.iadd, 1) := by decide +kernel
theorem dX1_add_101 : decode cX1_add 101 = .ok (.putfield 33, 3) := by decide +kernel
theorem dX1_add_104 : decode cX1_add 104 = .ok (.aload_n 0, 1) := by decide +kernel
theorem dX1_add_105 : decode cX1_add 105 = .ok (.getfield 33, 3) := by decide +kernel
theorem dX1_add_108 : decode cX1_add 108 = .ok (.iconst 1, 1) := by decide +kernel
theorem dX1_add_109 : decode cX1_add 109 = .ok (.isub, 1) := by decide +kernel
theorem dX1_add_110 : decode cX1_add 110 = .ok (.ireturn, 1) := by decide +kernel
theorem dX1_has_0 : decode cX1_has 0 = .ok (.iload_n 1, 1) := by decide +kernel
theorem dX1_has_1 : decode cX1_has 1 = .ok (.ifCond .lt 15, 3) := by decide +kernel
theorem dX1_has_4 : decode cX1_has 4 = .ok (.iload_n 1, 1) := by decide +kernel
theorem dX1_has_5 : decode cX1_has 5 = .ok (.aload_n 0, 1) := by decide +kernel
theorem dX1_has_6 : decode cX1_has 6 = .ok (.getfield 33, 3) := by decide +kernel
theorem dX1_has_9 : decode cX1_has 9 = .ok (.if_icmp .ge 7, 3) := by decide +kernel
theorem dX1_has_12 : decode cX1_has 12 = .ok (.iconst 1, 1) := by decide +kernel
theorem dX1_has_13 : decode cX1_has 13 = .ok (.goto 4, 3) := by decide +kernel
theorem dX1_has_16 : decode cX1_has 16 = .ok (.iconst 0, 1) := by decide +kernel
theorem dX1_has_17 : decode cX1_has 17 = .ok (.ireturn, 1) := by decide +kernel
theorem dX1_isLaid_0 : decode cX1_isLaid 0 = .ok (.aload_n 0, 1) := by decide +kernel
theorem dX1_isLaid_1 : decode cX1_isLaid 1 = .ok (.iload_n 1, 1) := by decide +kernel
theorem dX1_isLaid_2 : decode cX1_isLaid 2 = .ok (.invokevirtual 52, 3) := by decide +kernel
theorem dX1_isLaid_5 : decode cX1_isLaid 5 = .ok (.ifCond .eq 17, 3) := by decide +kernel
theorem dX1_isLaid_8 : decode cX1_isLaid 8 = .ok (.aload_n 0, 1) := by decide +kernel
theorem dX1_isLaid_9 : decode cX1_isLaid 9 = .ok (.getfield 21, 3) := by decide +kernel
theorem dX1_isLaid_12 : decode cX1_isLaid 12 = .ok (.iload_n 1, 1) := by decide +kernel
theorem dX1_isLaid_13 : decode cX1_isLaid 13 = .ok (.iaload, 1) := by decide +kernel
theorem dX1_isLaid_14 : decode cX1_isLaid 14 = .ok (.iconst (-1), 1) := by decide +kernel
theorem dX1_isLaid_15 : decode cX1_isLaid 15 = .ok (.if_icmp .eq 7, 3) := by decide +kernel
theorem dX1_isLaid_18 : decode cX1_isLaid 18 = .ok (.iconst 1, 1) := by decide +kernel
theorem dX1_isLaid_19 : decode cX1_isLaid 19 = .ok (.goto 4, 3) := by decide +kernel
theorem dX1_isLaid_22 : decode cX1_isLaid 22 = .ok (.iconst 0, 1) := by decide +kernel
theorem dX1_isLaid_23 : decode cX1_isLaid 23 = .ok (.ireturn, 1) := by decide +kernel
theorem dX1_isReady_0 : decode cX1_isReady 0 = .ok (.aload_n 0, 1) := by decide +kernel
theorem dX1_isReady_1 : decode cX1_isReady 1 = .ok (.iload_n 1, 1) := by decide +kernel
theorem dX1_isReady_2 : decode cX1_isReady 2 = .ok (.invokevirtual 52, 3) := by decide +kernel
theorem dX1_isReady_5 : decode cX1_isReady 5 = .ok (.ifCond .eq 26, 3) := by decide +kernel
theorem dX1_isReady_8 : decode cX1_isReady 8 = .ok (.aload_n 0, 1) := by decide +kernel
theorem dX1_isReady_9 : decode cX1_isReady 9 = .ok (.getfield 21, 3) := by decide +kernel
theorem dX1_isReady_12 : decode cX1_isReady 12 = .ok (.iload_n 1, 1) := by decide +kernel
theorem dX1_isReady_13 : decode cX1_isReady 13 = .ok (.iaload, 1) := by decide +kernel
theorem dX1_isReady_14 : decode cX1_isReady 14 = .ok (.iconst (-1), 1) := by decide +kernel
theorem dX1_isReady_15 : decode cX1_isReady 15 = .ok (.if_icmp .ne 16, 3) := by decide +kernel
theorem dX1_isReady_18 : decode cX1_isReady 18 = .ok (.aload_n 0, 1) := by decide +kernel
theorem dX1_isReady_19 : decode cX1_isReady 19 = .ok (.getfield 18, 3) := by decide +kernel
theorem dX1_isReady_22 : decode cX1_isReady 22 = .ok (.iload_n 1, 1) := by decide +kernel
theorem dX1_isReady_23 : decode cX1_isReady 23 = .ok (.iaload, 1) := by decide +kernel
theorem dX1_isReady_24 : decode cX1_isReady 24 = .ok (.ifCond .le 7, 3) := by decide +kernel
theorem dX1_isReady_27 : decode cX1_isReady 27 = .ok (.iconst 1, 1) := by decide +kernel
theorem dX1_isReady_28 : decode cX1_isReady 28 = .ok (.goto 4, 3) := by decide +kernel
theorem dX1_isReady_31 : decode cX1_isReady 31 = .ok (.iconst 0, 1) := by decide +kernel
theorem dX1_isReady_32 : decode cX1_isReady 32 = .ok (.ireturn, 1) := by decide +kernel
theorem dX1_laidCarpets_0 : decode cX1_laidCarpets 0 = .ok (.iconst 0, 1) := by decide +kernel
theorem dX1_laidCarpets_1 : decode cX1_laidCarpets 1 = .ok (.istore_n 1, 1) := by decide +kernel
theorem dX1_laidCarpets_2 : decode cX1_laidCarpets 2 = .ok (.iconst 0, 1) := by decide +kernel
theorem dX1_laidCarpets_3 : decode cX1_laidCarpets 3 = .ok (.istore_n 2, 1) := by decide +kernel
theorem dX1_laidCarpets_4 : decode cX1_laidCarpets 4 = .ok (.iload_n 2, 1) := by decide +kernel
theorem dX1_laidCarpets_5 : decode cX1_laidCarpets 5 = .ok (.aload_n 0, 1) := by decide +kernel
theorem dX1_laidCarpets_6 : decode cX1_laidCarpets 6 = .ok (.getfield 33, 3) := by decide +kernel
theorem dX1_laidCarpets_9 : decode cX1_laidCarpets 9 = .ok (.if_icmp .ge 25, 3) := by decide +kernel
theorem dX1_laidCarpets_12 : decode cX1_laidCarpets 12 = .ok (.iload_n 1, 1) := by decide +kernel
theorem dX1_laidCarpets_13 : decode cX1_laidCarpets 13 = .ok (.aload_n 0, 1) := by decide +kernel
theorem dX1_laidCarpets_14 : decode cX1_laidCarpets 14 = .ok (.iload_n 2, 1) := by decide +kernel
theorem dX1_laidCarpets_15 : decode cX1_laidCarpets 15 = .ok (.invokevirtual 56, 3) := by decide +kernel
theorem dX1_laidCarpets_18 : decode cX1_laidCarpets 18 = .ok (.ifCond .eq 7, 3) := by decide +kernel
theorem dX1_laidCarpets_21 : decode cX1_laidCarpets 21 = .ok (.iconst 1, 1) := by decide +kernel
theorem dX1_laidCarpets_22 : decode cX1_laidCarpets 22 = .ok (.goto 4, 3) := by decide +kernel
theorem dX1_laidCarpets_25 : decode cX1_laidCarpets 25 = .ok (.iconst 0, 1) := by decide +kernel
theorem dX1_laidCarpets_26 : decode cX1_laidCarpets 26 = .ok (.iadd, 1) := by decide +kernel
theorem dX1_laidCarpets_27 : decode cX1_laidCarpets 27 = .ok (.istore_n 1, 1) := by decide +kernel
theorem dX1_laidCarpets_28 : decode cX1_laidCarpets 28 = .ok (.iinc 2 1, 3) := by decide +kernel
theorem dX1_laidCarpets_31 : decode cX1_laidCarpets 31 = .ok (.goto (-27), 3) := by decide +kernel
theorem dX1_laidCarpets_34 : decode cX1_laidCarpets 34 = .ok (.iload_n 1, 1) := by decide +kernel
theorem dX1_laidCarpets_35 : decode cX1_laidCarpets 35 = .ok (.ireturn, 1) := by decide +kernel
theorem dX1_rags_0 : decode cX1_rags 0 = .ok (.iconst 0, 1) := by decide +kernel
theorem dX1_rags_1 : decode cX1_rags 1 = .ok (.istore_n 1, 1) := by decide +kernel
theorem dX1_rags_2 : decode cX1_rags 2 = .ok (.iconst 0, 1) := by decide +kernel
theorem dX1_rags_3 : decode cX1_rags 3 = .ok (.istore_n 2, 1) := by decide +kernel
theorem dX1_rags_4 : decode cX1_rags 4 = .ok (.iload_n 2, 1) := by decide +kernel
theorem dX1_rags_5 : decode cX1_rags 5 = .ok (.aload_n 0, 1) := by decide +kernel
theorem dX1_rags_6 : decode cX1_rags 6 = .ok (.getfield 33, 3) := by decide +kernel
theorem dX1_rags_9 : decode cX1_rags 9 = .ok (.if_icmp .ge 26, 3) := by decide +kernel
theorem dX1_rags_12 : decode cX1_rags 12 = .ok (.iload_n 1, 1) := by decide +kernel
theorem dX1_rags_13 : decode cX1_rags 13 = .ok (.aload_n 0, 1) := by decide +kernel
theorem dX1_rags_14 : decode cX1_rags 14 = .ok (.getfield 18, 3) := by decide +kernel
theorem dX1_rags_17 : decode cX1_rags 17 = .ok (.iload_n 2, 1) := by decide +kernel
theorem dX1_rags_18 : decode cX1_rags 18 = .ok (.iaload, 1) := by decide +kernel
theorem dX1_rags_19 : decode cX1_rags 19 = .ok (.ifCond .ne 7, 3) := by decide +kernel
theorem dX1_rags_22 : decode cX1_rags 22 = .ok (.iconst 1, 1) := by decide +kernel
theorem dX1_rags_23 : decode cX1_rags 23 = .ok (.goto 4, 3) := by decide +kernel
theorem dX1_rags_26 : decode cX1_rags 26 = .ok (.iconst 0, 1) := by decide +kernel
theorem dX1_rags_27 : decode cX1_rags 27 = .ok (.iadd, 1) := by decide +kernel
theorem dX1_rags_28 : decode cX1_rags 28 = .ok (.istore_n 1, 1) := by decide +kernel
theorem dX1_rags_29 : decode cX1_rags 29 = .ok (.iinc 2 1, 3) := by decide +kernel
theorem dX1_rags_32 : decode cX1_rags 32 = .ok (.goto (-28), 3) := by decide +kernel
theorem dX1_rags_35 : decode cX1_rags 35 = .ok (.iload_n 1, 1) := by decide +kernel
theorem dX1_rags_36 : decode cX1_rags 36 = .ok (.ireturn, 1) := by decide +kernel
theorem dX1_areaWithoutRags_0 : decode cX1_areaWithoutRags 0 = .ok (.iconst 0, 1) := by decide +kernel
theorem dX1_areaWithoutRags_1 : decode cX1_areaWithoutRags 1 = .ok (.istore_n 1, 1) := by decide +kernel
theorem dX1_areaWithoutRags_2 : decode cX1_areaWithoutRags 2 = .ok (.iconst 0, 1) := by decide +kernel
theorem dX1_areaWithoutRags_3 : decode cX1_areaWithoutRags 3 = .ok (.istore_n 2, 1) := by decide +kernel
theorem dX1_areaWithoutRags_4 : decode cX1_areaWithoutRags 4 = .ok (.iload_n 2, 1) := by decide +kernel
theorem dX1_areaWithoutRags_5 : decode cX1_areaWithoutRags 5 = .ok (.aload_n 0, 1) := by decide +kernel
theorem dX1_areaWithoutRags_6 : decode cX1_areaWithoutRags 6 = .ok (.getfield 33, 3) := by decide +kernel
theorem dX1_areaWithoutRags_9 : decode cX1_areaWithoutRags 9 = .ok (.if_icmp .ge 38, 3) := by decide +kernel
theorem dX1_areaWithoutRags_12 : decode cX1_areaWithoutRags 12 = .ok (.iload_n 1, 1) := by decide +kernel
theorem dX1_areaWithoutRags_13 : decode cX1_areaWithoutRags 13 = .ok (.aload_n 0, 1) := by decide +kernel
theorem dX1_areaWithoutRags_14 : decode cX1_areaWithoutRags 14 = .ok (.getfield 18, 3) := by decide +kernel
theorem dX1_areaWithoutRags_17 : decode cX1_areaWithoutRags 17 = .ok (.iload_n 2, 1) := by decide +kernel
theorem dX1_areaWithoutRags_18 : decode cX1_areaWithoutRags 18 = .ok (.iaload, 1) := by decide +kernel
theorem dX1_areaWithoutRags_19 : decode cX1_areaWithoutRags 19 = .ok (.ifCond .le 19, 3) := by decide +kernel
theorem dX1_areaWithoutRags_22 : decode cX1_areaWithoutRags 22 = .ok (.aload_n 0, 1) := by decide +kernel
theorem dX1_areaWithoutRags_23 : decode cX1_areaWithoutRags 23 = .ok (.getfield 9, 3) := by decide +kernel
theorem dX1_areaWithoutRags_26 : decode cX1_areaWithoutRags 26 = .ok (.iload_n 2, 1) := by decide +kernel
theorem dX1_areaWithoutRags_27 : decode cX1_areaWithoutRags 27 = .ok (.iaload, 1) := by decide +kernel
theorem dX1_areaWithoutRags_28 : decode cX1_areaWithoutRags 28 = .ok (.aload_n 0, 1) := by decide +kernel
theorem dX1_areaWithoutRags_29 : decode cX1_areaWithoutRags 29 = .ok (.getfield 9, 3) := by decide +kernel
theorem dX1_areaWithoutRags_32 : decode cX1_areaWithoutRags 32 = .ok (.iload_n 2, 1) := by decide +kernel
theorem dX1_areaWithoutRags_33 : decode cX1_areaWithoutRags 33 = .ok (.iaload, 1) := by decide +kernel
theorem dX1_areaWithoutRags_34 : decode cX1_areaWithoutRags 34 = .ok (.imul, 1) := by decide +kernel
theorem dX1_areaWithoutRags_35 : decode cX1_areaWithoutRags 35 = .ok (.goto 4, 3) := by decide +kernel
theorem dX1_areaWithoutRags_38 : decode cX1_areaWithoutRags 38 = .ok (.iconst 0, 1) := by decide +kernel
theorem dX1_areaWithoutRags_39 : decode cX1_areaWithoutRags 39 = .ok (.iadd, 1) := by decide +kernel
theorem dX1_areaWithoutRags_40 : decode cX1_areaWithoutRags 40 = .ok (.istore_n 1, 1) := by decide +kernel
theorem dX1_areaWithoutRags_41 : decode cX1_areaWithoutRags 41 = .ok (.iinc 2 1, 3) := by decide +kernel
theorem dX1_areaWithoutRags_44 : decode cX1_areaWithoutRags 44 = .ok (.goto (-40), 3) := by decide +kernel
theorem dX1_areaWithoutRags_47 : decode cX1_areaWithoutRags 47 = .ok (.iload_n 1, 1) := by decide +kernel
theorem dX1_areaWithoutRags_48 : decode cX1_areaWithoutRags 48 = .ok (.ireturn, 1) := by decide +kernel
theorem dX1_bareCells_0 : decode cX1_bareCells 0 = .ok (.aload_n 0, 1) := by decide +kernel
theorem dX1_bareCells_1 : decode cX1_bareCells 1 = .ok (.getfield 37, 3) := by decide +kernel
theorem dX1_bareCells_4 : decode cX1_bareCells 4 = .ok (.aload_n 0, 1) := by decide +kernel
theorem dX1_bareCells_5 : decode cX1_bareCells 5 = .ok (.getfield 40, 3) := by decide +kernel
theorem dX1_bareCells_8 : decode cX1_bareCells 8 = .ok (.imul, 1) := by decide +kernel
theorem dX1_bareCells_9 : decode cX1_bareCells 9 = .ok (.istore_n 1, 1) := by decide +kernel
theorem dX1_bareCells_10 : decode cX1_bareCells 10 = .ok (.iconst 0, 1) := by decide +kernel
theorem dX1_bareCells_11 : decode cX1_bareCells 11 = .ok (.istore_n 2, 1) := by decide +kernel
theorem dX1_bareCells_12 : decode cX1_bareCells 12 = .ok (.iload_n 2, 1) := by decide +kernel
theorem dX1_bareCells_13 : decode cX1_bareCells 13 = .ok (.aload_n 0, 1) := by decide +kernel
theorem dX1_bareCells_14 : decode cX1_bareCells 14 = .ok (.getfield 33, 3) := by decide +kernel
theorem dX1_bareCells_17 : decode cX1_bareCells 17 = .ok (.if_icmp .ge 37, 3) := by decide +kernel
theorem dX1_bareCells_20 : decode cX1_bareCells 20 = .ok (.iload_n 1, 1) := by decide +kernel
theorem dX1_bareCells_21 : decode cX1_bareCells 21 = .ok (.aload_n 0, 1) := by decide +kernel
theorem dX1_bareCells_22 : decode cX1_bareCells 22 = .ok (.iload_n 2, 1) := by decide +kernel
theorem dX1_bareCells_23 : decode cX1_bareCells 23 = .ok (.invokevirtual 56, 3) := by decide +kernel
theorem dX1_bareCells_26 : decode cX1_bareCells 26 = .ok (.ifCond .eq 19, 3) := by decide +kernel
theorem dX1_bareCells_29 : decode cX1_bareCells 29 = .ok (.aload_n 0, 1) := by decide +kernel
theorem dX1_bareCells_30 : decode cX1_bareCells 30 = .ok (.getfield 9, 3) := by decide +kernel
theorem dX1_bareCells_33 : decode cX1_bareCells 33 = .ok (.iload_n 2, 1) := by decide +kernel
theorem dX1_bareCells_34 : decode cX1_bareCells 34 = .ok (.iaload, 1) := by decide +kernel
theorem dX1_bareCells_35 : decode cX1_bareCells 35 = .ok (.aload_n 0, 1) := by decide +kernel
theorem dX1_bareCells_36 : decode cX1_bareCells 36 = .ok (.getfield 9, 3) := by decide +kernel
theorem dX1_bareCells_39 : decode cX1_bareCells 39 = .ok (.iload_n 2, 1) := by decide +kernel
theorem dX1_bareCells_40 : decode cX1_bareCells 40 = .ok (.iaload, 1) := by decide +kernel
theorem dX1_bareCells_41 : decode cX1_bareCells 41 = .ok (.imul, 1) := by decide +kernel
theorem dX1_bareCells_42 : decode cX1_bareCells 42 = .ok (.goto 4, 3) := by decide +kernel
theorem dX1_bareCells_45 : decode cX1_bareCells 45 = .ok (.iconst 0, 1) := by decide +kernel
theorem dX1_bareCells_46 : decode cX1_bareCells 46 = .ok (.isub, 1) := by decide +kernel
theorem dX1_bareCells_47 : decode cX1_bareCells 47 = .ok (.istore_n 1, 1) := by decide +kernel
theorem dX1_bareCells_48 : decode cX1_bareCells 48 = .ok (.iinc 2 1, 3) := by decide +kernel
theorem dX1_bareCells_51 : decode cX1_bareCells 51 = .ok (.goto (-39), 3) := by decide +kernel
theorem dX1_bareCells_54 : decode cX1_bareCells 54 = .ok (.iload_n 1, 1) := by decide +kernel
theorem dX1_bareCells_55 : decode cX1_bareCells 55 = .ok (.ireturn, 1) := by decide +kernel
theorem dX1_carpetOn_0 : decode cX1_carpetOn 0 = .ok (.iconst 0, 1) := by decide +kernel
theorem dX1_carpetOn_1 : decode cX1_carpetOn 1 = .ok (.istore_n 3, 1) := by decide +kernel
theorem dX1_carpetOn_2 : decode cX1_carpetOn 2 = .ok (.iload_n 3, 1) := by decide +kernel
theorem dX1_carpetOn_3 : decode cX1_carpetOn 3 = .ok (.aload_n 0, 1) := by decide +kernel
theorem dX1_carpetOn_4 : decode cX1_carpetOn 4 = .ok (.getfield 33, 3) := by decide +kernel
theorem dX1_carpetOn_7 : decode cX1_carpetOn 7 = .ok (.if_icmp .ge 73, 3) := by decide +kernel
theorem dX1_carpetOn_10 : decode cX1_carpetOn 10 = .ok (.aload_n 0, 1) := by decide +kernel
theorem dX1_carpetOn_11 : decode cX1_carpetOn 11 = .ok (.iload_n 3, 1) := by decide +kernel
theorem dX1_carpetOn_12 : decode cX1_carpetOn 12 = .ok (.invokevirtual 56, 3) := by decide +kernel
theorem dX1_carpetOn_15 : decode cX1_carpetOn 15 = .ok (.ifCond .eq 59, 3) := by decide +kernel
theorem dX1_carpetOn_18 : decode cX1_carpetOn 18 = .ok (.iload_n 1, 1) := by decide +kernel
theorem dX1_carpetOn_19 : decode cX1_carpetOn 19 = .ok (.aload_n 0, 1) := by decide +kernel
theorem dX1_carpetOn_20 : decode cX1_carpetOn 20 = .ok (.getfield 21, 3) := by decide +kernel
theorem dX1_carpetOn_23 : decode cX1_carpetOn 23 = .ok (.iload_n 3, 1) := by decide +kernel
theorem dX1_carpetOn_24 : decode cX1_carpetOn 24 = .ok (.iaload, 1) := by decide +kernel
theorem dX1_carpetOn_25 : decode cX1_carpetOn 25 = .ok (.if_icmp .lt 49, 3) := by decide +kernel
theorem dX1_carpetOn_28 : decode cX1_carpetOn 28 = .ok (.iload_n 1, 1) := by decide +kernel
theorem dX1_carpetOn_29 : decode cX1_carpetOn 29 = .ok (.aload_n 0, 1) := by decide +kernel
theorem dX1_carpetOn_30 : decode cX1_carpetOn 30 = .ok (.getfield 21, 3) := by decide +kernel
theorem dX1_carpetOn_33 : decode cX1_carpetOn 33 = .ok (.iload_n 3, 1) := by decide +kernel
theorem dX1_carpetOn_34 : decode cX1_carpetOn 34 = .ok (.iaload, 1) := by decide +kernel
theorem dX1_carpetOn_35 : decode cX1_carpetOn 35 = .ok (.aload_n 0, 1) := by decide +kernel
theorem dX1_carpetOn_36 : decode cX1_carpetOn 36 = .ok (.getfield 9, 3) := by decide +kernel
theorem dX1_carpetOn_39 : decode cX1_carpetOn 39 = .ok (.iload_n 3, 1) := by decide +kernel
theorem dX1_carpetOn_40 : decode cX1_carpetOn 40 = .ok (.iaload, 1) := by decide +kernel
theorem dX1_carpetOn_41 : decode cX1_carpetOn 41 = .ok (.iadd, 1) := by decide +kernel
theorem dX1_carpetOn_42 : decode cX1_carpetOn 42 = .ok (.if_icmp .ge 32, 3) := by decide +kernel
theorem dX1_carpetOn_45 : decode cX1_carpetOn 45 = .ok (.iload_n 2, 1) := by decide +kernel
theorem dX1_carpetOn_46 : decode cX1_carpetOn 46 = .ok (.aload_n 0, 1) := by decide +kernel
theorem dX1_carpetOn_47 : decode cX1_carpetOn 47 = .ok (.getfield 24, 3) := by decide +kernel
theorem dX1_carpetOn_50 : decode cX1_carpetOn 50 = .ok (.iload_n 3, 1) := by decide +kernel
theorem dX1_carpetOn_51 : decode cX1_carpetOn 51 = .ok (.iaload, 1) := by decide +kernel
theorem dX1_carpetOn_52 : decode cX1_carpetOn 52 = .ok (.if_icmp .lt 22, 3) := by decide +kernel
theorem dX1_carpetOn_55 : decode cX1_carpetOn 55 = .ok (.iload_n 2, 1) := by decide +kernel
theorem dX1_carpetOn_56 : decode cX1_carpetOn 56 = .ok (.aload_n 0, 1) := by decide +kernel
theorem dX1_carpetOn_57 : decode cX1_carpetOn 57 = .ok (.getfield 24, 3) := by decide +kernel
theorem dX1_carpetOn_60 : decode cX1_carpetOn 60 = .ok (.iload_n 3, 1) := by decide +kernel
theorem dX1_carpetOn_61 : decode cX1_carpetOn 61 = .ok (.iaload, 1) := by decide +kernel
theorem dX1_carpetOn_62 : decode cX1_carpetOn 62 = .ok (.aload_n 0, 1) := by decide +kernel
theorem dX1_carpetOn_63 : decode cX1_carpetOn 63 = .ok (.getfield 9, 3) := by decide +kernel
theorem dX1_carpetOn_66 : decode cX1_carpetOn 66 = .ok (.iload_n 3, 1) := by decide +kernel
theorem dX1_carpetOn_67 : decode cX1_carpetOn 67 = .ok (.iaload, 1) := by decide +kernel
theorem dX1_carpetOn_68 : decode cX1_carpetOn 68 = .ok (.iadd, 1) := by decide +kernel
theorem dX1_carpetOn_69 : decode cX1_carpetOn 69 = .ok (.if_icmp .ge 5, 3) := by decide +kernel
theorem dX1_carpetOn_72 : decode cX1_carpetOn 72 = .ok (.iload_n 3, 1) := by decide +kernel
theorem dX1_carpetOn_73 : decode cX1_carpetOn 73 = .ok (.ireturn, 1) := by decide +kernel
theorem dX1_carpetOn_74 : decode cX1_carpetOn 74 = .ok (.iinc 3 1, 3) := by decide +kernel
theorem dX1_carpetOn_77 : decode cX1_carpetOn 77 = .ok (.goto (-75), 3) := by decide +kernel
theorem dX1_carpetOn_80 : decode cX1_carpetOn 80 = .ok (.iconst (-1), 1) := by decide +kernel
theorem dX1_carpetOn_81 : decode cX1_carpetOn 81 = .ok (.ireturn, 1) := by decide +kernel
theorem dX1_hasPlaceFor_0 : decode cX1_hasPlaceFor 0 = .ok (.aload_n 0, 1) := by decide +kernel
theorem dX1_hasPlaceFor_1 : decode cX1_hasPlaceFor 1 = .ok (.iload_n 1, 1) := by decide +kernel
theorem dX1_hasPlaceFor_2 : decode cX1_hasPlaceFor 2 = .ok (.invokevirtual 59, 3) := by decide +kernel
theorem dX1_hasPlaceFor_5 : decode cX1_hasPlaceFor 5 = .ok (.ifCond .eq 41, 3) := by decide +kernel
theorem dX1_hasPlaceFor_8 : decode cX1_hasPlaceFor 8 = .ok (.iload_n 2, 1) := by decide +kernel
theorem dX1_hasPlaceFor_9 : decode cX1_hasPlaceFor 9 = .ok (.ifCond .lt 37, 3) := by decide +kernel
theorem dX1_hasPlaceFor_12 : decode cX1_hasPlaceFor 12 = .ok (.iload_n 3, 1) := by decide +kernel
theorem dX1_hasPlaceFor_13 : decode cX1_hasPlaceFor 13 = .ok (.ifCond .lt 33, 3) := by decide +kernel
theorem dX1_hasPlaceFor_16 : decode cX1_hasPlaceFor 16 = .ok (.iload_n 2, 1) := by decide +kernel
theorem dX1_hasPlaceFor_17 : decode cX1_hasPlaceFor 17 = .ok (.aload_n 0, 1) := by decide +kernel
theorem dX1_hasPlaceFor_18 : decode cX1_hasPlaceFor 18 = .ok (.getfield 37, 3) := by decide +kernel
theorem dX1_hasPlaceFor_21 : decode cX1_hasPlaceFor 21 = .ok (.aload_n 0, 1) := by decide +kernel
theorem dX1_hasPlaceFor_22 : decode cX1_hasPlaceFor 22 = .ok (.getfield 9, 3) := by decide +kernel
theorem dX1_hasPlaceFor_25 : decode cX1_hasPlaceFor 25 = .ok (.iload_n 1, 1) := by decide +kernel
theorem dX1_hasPlaceFor_26 : decode cX1_hasPlaceFor 26 = .ok (.iaload, 1) := by decide +kernel
theorem dX1_hasPlaceFor_27 : decode cX1_hasPlaceFor 27 = .ok (.isub, 1) := by decide +kernel
theorem dX1_hasPlaceFor_28 : decode cX1_hasPlaceFor 28 = .ok (.if_icmp .gt 18, 3) := by decide +kernel
theorem dX1_hasPlaceFor_31 : decode cX1_hasPlaceFor 31 = .ok (.iload_n 3, 1) := by decide +kernel
theorem dX1_hasPlaceFor_32 : decode cX1_hasPlaceFor 32 = .ok (.aload_n 0, 1) := by decide +kernel
theorem dX1_hasPlaceFor_33 : decode cX1_hasPlaceFor 33 = .ok (.getfield 40, 3) := by decide +kernel
theorem dX1_hasPlaceFor_36 : decode cX1_hasPlaceFor 36 = .ok (.aload_n 0, 1) := by decide +kernel
theorem dX1_hasPlaceFor_37 : decode cX1_hasPlaceFor 37 = .ok (.getfield 9, 3) := by decide +kernel
theorem dX1_hasPlaceFor_40 : decode cX1_hasPlaceFor 40 = .ok (.iload_n 1, 1) := by decide +kernel
theorem dX1_hasPlaceFor_41 : decode cX1_hasPlaceFor 41 = .ok (.iaload, 1) := by decide +kernel
theorem dX1_hasPlaceFor_42 : decode cX1_hasPlaceFor 42 = .ok (.isub, 1) := by decide +kernel
theorem dX1_hasPlaceFor_43 : decode cX1_hasPlaceFor 43 = .ok (.if_icmp .le 5, 3) := by decide +kernel
theorem dX1_hasPlaceFor_46 : decode cX1_hasPlaceFor 46 = .ok (.iconst 0, 1) := by decide +kernel
theorem dX1_hasPlaceFor_47 : decode cX1_hasPlaceFor 47 = .ok (.ireturn, 1) := by decide +kernel
theorem dX1_hasPlaceFor_48 : decode cX1_hasPlaceFor 48 = .ok (.iconst 0, 1) := by decide +kernel
theorem dX1_hasPlaceFor_49 : decode cX1_hasPlaceFor 49 = .ok (.istore 4, 2) := by decide +kernel
theorem dX1_hasPlaceFor_51 : decode cX1_hasPlaceFor 51 = .ok (.iload 4, 2) := by decide +kernel
theorem dX1_hasPlaceFor_53 : decode cX1_hasPlaceFor 53 = .ok (.aload_n 0, 1) := by decide +kernel
theorem dX1_hasPlaceFor_54 : decode cX1_hasPlaceFor 54 = .ok (.getfield 33, 3) := by decide +kernel
theorem dX1_hasPlaceFor_57 : decode cX1_hasPlaceFor 57 = .ok (.if_icmp .ge 94, 3) := by decide +kernel
theorem dX1_hasPlaceFor_60 : decode cX1_hasPlaceFor 60 = .ok (.aload_n 0, 1) := by decide +kernel
theorem dX1_hasPlaceFor_61 : decode cX1_hasPlaceFor 61 = .ok (.iload 4, 2) := by decide +kernel
theorem dX1_hasPlaceFor_63 : decode cX1_hasPlaceFor 63 = .ok (.invokevirtual 56, 3) := by decide +kernel
theorem dX1_hasPlaceFor_66 : decode cX1_hasPlaceFor 66 = .ok (.ifCond .eq 79, 3) := by decide +kernel
theorem dX1_hasPlaceFor_69 : decode cX1_hasPlaceFor 69 = .ok (.iload_n 2, 1) := by decide +kernel
theorem dX1_hasPlaceFor_70 : decode cX1_hasPlaceFor 70 = .ok (.aload_n 0, 1) := by decide +kernel
theorem dX1_hasPlaceFor_71 : decode cX1_hasPlaceFor 71 = .ok (.getfield 21, 3) := by decide +kernel
theorem dX1_hasPlaceFor_74 : decode cX1_hasPlaceFor 74 = .ok (.iload 4, 2) := by decide +kernel
theorem dX1_hasPlaceFor_76 : decode cX1_hasPlaceFor 76 = .ok (.iaload, 1) := by decide +kernel
theorem dX1_hasPlaceFor_77 : decode cX1_hasPlaceFor 77 = .ok (.aload_n 0, 1) := by decide +kernel
theorem dX1_hasPlaceFor_78 : decode cX1_hasPlaceFor 78 = .ok (.getfield 9, 3) := by decide +kernel
theorem dX1_hasPlaceFor_81 : decode cX1_hasPlaceFor 81 = .ok (.iload 4, 2) := by decide +kernel
theorem dX1_hasPlaceFor_83 : decode cX1_hasPlaceFor 83 = .ok (.iaload, 1) := by decide +kernel
theorem dX1_hasPlaceFor_84 : decode cX1_hasPlaceFor 84 = .ok (.iadd, 1) := by decide +kernel
theorem dX1_hasPlaceFor_85 : decode cX1_hasPlaceFor 85 = .ok (.if_icmp .ge 60, 3) := by decide +kernel
theorem dX1_hasPlaceFor_88 : decode cX1_hasPlaceFor 88 = .ok (.aload_n 0, 1) := by decide +kernel
theorem dX1_hasPlaceFor_89 : decode cX1_hasPlaceFor 89 = .ok (.getfield 21, 3) := by decide +kernel
theorem dX1_hasPlaceFor_92 : decode cX1_hasPlaceFor 92 = .ok (.iload 4, 2) := by decide +kernel
theorem dX1_hasPlaceFor_94 : decode cX1_hasPlaceFor 94 = .ok (.iaload, 1) := by decide +kernel
theorem dX1_hasPlaceFor_95 : decode cX1_hasPlaceFor 95 = .ok (.iload_n 2, 1) := by decide +kernel
theorem dX1_hasPlaceFor_96 : decode cX1_hasPlaceFor 96 = .ok (.aload_n 0, 1) := by decide +kernel
theorem dX1_hasPlaceFor_97 : decode cX1_hasPlaceFor 97 = .ok (.getfield 9, 3) := by decide +kernel
theorem dX1_hasPlaceFor_100 : decode cX1_hasPlaceFor 100 = .ok (.iload_n 1, 1) := by decide +kernel
theorem dX1_hasPlaceFor_101 : decode cX1_hasPlaceFor 101 = .ok (.iaload, 1) := by decide +kernel
theorem dX1_hasPlaceFor_102 : decode cX1_hasPlaceFor 102 = .ok (.iadd, 1) := by decide +kernel
theorem dX1_hasPlaceFor_103 : decode cX1_hasPlaceFor 103 = .ok (.if_icmp .ge 42, 3) := by decide +kernel
theorem dX1_hasPlaceFor_106 : decode cX1_hasPlaceFor 106 = .ok (.iload_n 3, 1) := by decide +kernel
theorem dX1_hasPlaceFor_107 : decode cX1_hasPlaceFor 107 = .ok (.aload_n 0, 1) := by decide +kernel
theorem dX1_hasPlaceFor_108 : decode cX1_hasPlaceFor 108 = .ok (.getfield 24, 3) := by decide +kernel
theorem dX1_hasPlaceFor_111 : decode cX1_hasPlaceFor 111 = .ok (.iload 4, 2) := by decide +kernel
theorem dX1_hasPlaceFor_113 : decode cX1_hasPlaceFor 113 = .ok (.iaload, 1) := by decide +kernel
theorem dX1_hasPlaceFor_114 : decode cX1_hasPlaceFor 114 = .ok (.aload_n 0, 1) := by decide +kernel
theorem dX1_hasPlaceFor_115 : decode cX1_hasPlaceFor 115 = .ok (.getfield 9, 3) := by decide +kernel
theorem dX1_hasPlaceFor_118 : decode cX1_hasPlaceFor 118 = .ok (.iload 4, 2) := by decide +kernel
theorem dX1_hasPlaceFor_120 : decode cX1_hasPlaceFor 120 = .ok (.iaload, 1) := by decide +kernel
theorem dX1_hasPlaceFor_121 : decode cX1_hasPlaceFor 121 = .ok (.iadd, 1) := by decide +kernel
theorem dX1_hasPlaceFor_122 : decode cX1_hasPlaceFor 122 = .ok (.if_icmp .ge 23, 3) := by decide +kernel
theorem dX1_hasPlaceFor_125 : decode cX1_hasPlaceFor 125 = .ok (.aload_n 0, 1) := by decide +kernel
theorem dX1_hasPlaceFor_126 : decode cX1_hasPlaceFor 126 = .ok (.getfield 24, 3) := by decide +kernel
theorem dX1_hasPlaceFor_129 : decode cX1_hasPlaceFor 129 = .ok (.iload 4, 2) := by decide +kernel
theorem dX1_hasPlaceFor_131 : decode cX1_hasPlaceFor 131 = .ok (.iaload, 1) := by decide +kernel
theorem dX1_hasPlaceFor_132 : decode cX1_hasPlaceFor 132 = .ok (.iload_n 3, 1) := by decide +kernel
theorem dX1_hasPlaceFor_133 : decode cX1_hasPlaceFor 133 = .ok (.aload_n 0, 1) := by decide +kernel
theorem dX1_hasPlaceFor_134 : decode cX1_hasPlaceFor 134 = .ok (.getfield 9, 3) := by decide +kernel
theorem dX1_hasPlaceFor_137 : decode cX1_hasPlaceFor 137 = .ok (.iload_n 1, 1) := by decide +kernel
theorem dX1_hasPlaceFor_138 : decode cX1_hasPlaceFor 138 = .ok (.iaload, 1) := by decide +kernel
theorem dX1_hasPlaceFor_139 : decode cX1_hasPlaceFor 139 = .ok (.iadd, 1) := by decide +kernel
theorem dX1_hasPlaceFor_140 : decode cX1_hasPlaceFor 140 = .ok (.if_icmp .ge 5, 3) := by decide +kernel
theorem dX1_hasPlaceFor_143 : decode cX1_hasPlaceFor 143 = .ok (.iconst 0, 1) := by decide +kernel
theorem dX1_hasPlaceFor_144 : decode cX1_hasPlaceFor 144 = .ok (.ireturn, 1) := by decide +kernel
theorem dX1_hasPlaceFor_145 : decode cX1_hasPlaceFor 145 = .ok (.iinc 4 1, 3) := by decide +kernel
theorem dX1_hasPlaceFor_148 : decode cX1_hasPlaceFor 148 = .ok (.goto (-97), 3) := by decide +kernel
theorem dX1_hasPlaceFor_151 : decode cX1_hasPlaceFor 151 = .ok (.iconst 1, 1) := by decide +kernel
theorem dX1_hasPlaceFor_152 : decode cX1_hasPlaceFor 152 = .ok (.ireturn, 1) := by decide +kernel
theorem dX1_rollUp_0 : decode cX1_rollUp 0 = .ok (.aload_n 0, 1) := by decide +kernel
theorem dX1_rollUp_1 : decode cX1_rollUp 1 = .ok (.iload_n 1, 1) := by decide +kernel
theorem dX1_rollUp_2 : decode cX1_rollUp 2 = .ok (.invokevirtual 52, 3) := by decide +kernel
theorem dX1_rollUp_5 : decode cX1_rollUp 5 = .ok (.ifCond .eq 17, 3) := by decide +kernel
theorem dX1_rollUp_8 : decode cX1_rollUp 8 = .ok (.aload_n 0, 1) := by decide +kernel
theorem dX1_rollUp_9 : decode cX1_rollUp 9 = .ok (.getfield 21, 3) := by decide +kernel
theorem dX1_rollUp_12 : decode cX1_rollUp 12 = .ok (.iload_n 1, 1) := by decide +kernel
theorem dX1_rollUp_13 : decode cX1_rollUp 13 = .ok (.iconst (-1), 1) := by decide +kernel
theorem dX1_rollUp_14 : decode cX1_rollUp 14 = .ok (.iastore, 1) := by decide +kernel
theorem dX1_rollUp_15 : decode cX1_rollUp 15 = .ok (.aload_n 0, 1) := by decide +kernel
theorem dX1_rollUp_16 : decode cX1_rollUp 16 = .ok (.getfield 24, 3) := by decide +kernel
theorem dX1_rollUp_19 : decode cX1_rollUp 19 = .ok (.iload_n 1, 1) := by decide +kernel
theorem dX1_rollUp_20 : decode cX1_rollUp 20 = .ok (.iconst (-1), 1) := by decide +kernel
theorem dX1_rollUp_21 : decode cX1_rollUp 21 = .ok (.iastore, 1) := by decide +kernel
theorem dX1_rollUp_22 : decode cX1_rollUp 22 = .ok (.return_, 1) := by decide +kernel
theorem dX1_emptyInto_0 : decode cX1_emptyInto 0 = .ok (.iconst 0, 1) := by decide +kernel
theorem dX1_emptyInto_1 : decode cX1_emptyInto 1 = .ok (.istore_n 3, 1) := by decide +kernel
theorem dX1_emptyInto_2 : decode cX1_emptyInto 2 = .ok (.iload_n 3, 1) := by decide +kernel
theorem dX1_emptyInto_3 : decode cX1_emptyInto 3 = .ok (.aload_n 0, 1) := by decide +kernel
theorem dX1_emptyInto_4 : decode cX1_emptyInto 4 = .ok (.getfield 33, 3) := by decide +kernel
theorem dX1_emptyInto_7 : decode cX1_emptyInto 7 = .ok (.if_icmp .ge 14, 3) := by decide +kernel
theorem dX1_emptyInto_10 : decode cX1_emptyInto 10 = .ok (.aload_n 0, 1) := by decide +kernel
theorem dX1_emptyInto_11 : decode cX1_emptyInto 11 = .ok (.iload_n 3, 1) := by decide +kernel
theorem dX1_emptyInto_12 : decode cX1_emptyInto 12 = .ok (.invokevirtual 62, 3) := by decide +kernel
theorem dX1_emptyInto_15 : decode cX1_emptyInto 15 = .ok (.iinc 3 1, 3) := by decide +kernel
theorem dX1_emptyInto_18 : decode cX1_emptyInto 18 = .ok (.goto (-16), 3) := by decide +kernel
theorem dX1_emptyInto_21 : decode cX1_emptyInto 21 = .ok (.aload_n 0, 1) := by decide +kernel
theorem dX1_emptyInto_22 : decode cX1_emptyInto 22 = .ok (.iload_n 1, 1) := by decide +kernel
theorem dX1_emptyInto_23 : decode cX1_emptyInto 23 = .ok (.putfield 37, 3) := by decide +kernel
theorem dX1_emptyInto_26 : decode cX1_emptyInto 26 = .ok (.aload_n 0, 1) := by decide +kernel
theorem dX1_emptyInto_27 : decode cX1_emptyInto 27 = .ok (.iload_n 2, 1) := by decide +kernel
theorem dX1_emptyInto_28 : decode cX1_emptyInto 28 = .ok (.putfield 40, 3) := by decide +kernel
theorem dX1_emptyInto_31 : decode cX1_emptyInto 31 = .ok (.return_, 1) := by decide +kernel
theorem dX1_turnOver_0 : decode cX1_turnOver 0 = .ok (.iconst 0, 1) := by decide +kernel
theorem dX1_turnOver_1 : decode cX1_turnOver 1 = .ok (.istore_n 1, 1) := by decide +kernel
theorem dX1_turnOver_2 : decode cX1_turnOver 2 = .ok (.iconst 0, 1) := by decide +kernel
theorem dX1_turnOver_3 : decode cX1_turnOver 3 = .ok (.istore_n 2, 1) := by decide +kernel
theorem dX1_turnOver_4 : decode cX1_turnOver 4 = .ok (.iload_n 2, 1) := by decide +kernel
theorem dX1_turnOver_5 : decode cX1_turnOver 5 = .ok (.aload_n 0, 1) := by decide +kernel
theorem dX1_turnOver_6 : decode cX1_turnOver 6 = .ok (.getfield 33, 3) := by decide +kernel
theorem dX1_turnOver_9 : decode cX1_turnOver 9 = .ok (.if_icmp .ge 44, 3) := by decide +kernel
theorem dX1_turnOver_12 : decode cX1_turnOver 12 = .ok (.aload_n 0, 1) := by decide +kernel
theorem dX1_turnOver_13 : decode cX1_turnOver 13 = .ok (.iload_n 2, 1) := by decide +kernel
theorem dX1_turnOver_14 : decode cX1_turnOver 14 = .ok (.invokevirtual 56, 3) := by decide +kernel
theorem dX1_turnOver_17 : decode cX1_turnOver 17 = .ok (.ifCond .eq 30, 3) := by decide +kernel
theorem dX1_turnOver_20 : decode cX1_turnOver 20 = .ok (.aload_n 0, 1) := by decide +kernel
theorem dX1_turnOver_21 : decode cX1_turnOver 21 = .ok (.getfield 21, 3) := by decide +kernel
theorem dX1_turnOver_24 : decode cX1_turnOver 24 = .ok (.iload_n 2, 1) := by decide +kernel
theorem dX1_turnOver_25 : decode cX1_turnOver 25 = .ok (.aload_n 0, 1) := by decide +kernel
theorem dX1_turnOver_26 : decode cX1_turnOver 26 = .ok (.getfield 37, 3) := by decide +kernel
theorem dX1_turnOver_29 : decode cX1_turnOver 29 = .ok (.aload_n 0, 1) := by decide +kernel
theorem dX1_turnOver_30 : decode cX1_turnOver 30 = .ok (.getfield 21, 3) := by decide +kernel
theorem dX1_turnOver_33 : decode cX1_turnOver 33 = .ok (.iload_n 2, 1) := by decide +kernel
theorem dX1_turnOver_34 : decode cX1_turnOver 34 = .ok (.iaload, 1) := by decide +kernel
theorem dX1_turnOver_35 : decode cX1_turnOver 35 = .ok (.isub, 1) := by decide +kernel
theorem dX1_turnOver_36 : decode cX1_turnOver 36 = .ok (.aload_n 0, 1) := by decide +kernel
theorem dX1_turnOver_37 : decode cX1_turnOver 37 = .ok (.getfield 9, 3) := by decide +kernel
theorem dX1_turnOver_40 : decode cX1_turnOver 40 = .ok (.iload_n 2, 1) := by decide +kernel
theorem dX1_turnOver_41 : decode cX1_turnOver 41 = .ok (.iaload, 1) := by decide +kernel
theorem dX1_turnOver_42 : decode cX1_turnOver 42 = .ok (.isub, 1) := by decide +kernel
theorem dX1_turnOver_43 : decode cX1_turnOver 43 = .ok (.iastore, 1) := by decide +kernel
theorem dX1_turnOver_44 : decode cX1_turnOver 44 = .ok (.iinc 1 1, 3) := by decide +kernel
theorem dX1_turnOver_47 : decode cX1_turnOver 47 = .ok (.iinc 2 1, 3) := by decide +kernel
theorem dX1_turnOver_50 : decode cX1_turnOver 50 = .ok (.goto (-46), 3) := by decide +kernel
theorem dX1_turnOver_53 : decode cX1_turnOver 53 = .ok (.iload_n 1, 1) := by decide +kernel
theorem dX1_turnOver_54 : decode cX1_turnOver 54 = .ok (.ireturn, 1) := by decide +kernel
theorem dX1_wearAYear_0 : decode cX1_wearAYear 0 = .ok (.iconst 0, 1) := by decide +kernel
theorem dX1_wearAYear_1 : decode cX1_wearAYear 1 = .ok (.istore_n 3, 1) := by decide +kernel
theorem dX1_wearAYear_2 : decode cX1_wearAYear 2 = .ok (.iconst 0, 1) := by decide +kernel
theorem dX1_wearAYear_3 : decode cX1_wearAYear 3 = .ok (.istore 4, 2) := by decide +kernel
theorem dX1_wearAYear_5 : decode cX1_wearAYear 5 = .ok (.iload 4, 2) := by decide +kernel
theorem dX1_wearAYear_7 : decode cX1_wearAYear 7 = .ok (.aload_n 0, 1) := by decide +kernel
theorem dX1_wearAYear_8 : decode cX1_wearAYear 8 = .ok (.getfield 33, 3) := by decide +kernel
theorem dX1_wearAYear_11 : decode cX1_wearAYear 11 = .ok (.if_icmp .ge 67, 3) := by decide +kernel
theorem dX1_wearAYear_14 : decode cX1_wearAYear 14 = .ok (.aload_n 0, 1) := by decide +kernel
theorem dX1_wearAYear_15 : decode cX1_wearAYear 15 = .ok (.iload 4, 2) := by decide +kernel
theorem dX1_wearAYear_17 : decode cX1_wearAYear 17 = .ok (.invokevirtual 56, 3) := by decide +kernel
theorem dX1_wearAYear_20 : decode cX1_wearAYear 20 = .ok (.ifCond .ne 6, 3) := by decide +kernel
theorem dX1_wearAYear_23 : decode cX1_wearAYear 23 = .ok (.goto 49, 3) := by decide +kernel
theorem dX1_wearAYear_26 : decode cX1_wearAYear 26 = .ok (.aload_n 0, 1) := by decide +kernel
theorem dX1_wearAYear_27 : decode cX1_wearAYear 27 = .ok (.getfield 18, 3) := by decide +kernel
theorem dX1_wearAYear_30 : decode cX1_wearAYear 30 = .ok (.iload 4, 2) := by decide +kernel
theorem dX1_wearAYear_32 : decode cX1_wearAYear 32 = .ok (.iconst 0, 1) := by decide +kernel
theorem dX1_wearAYear_33 : decode cX1_wearAYear 33 = .ok (.aload_n 0, 1) := by decide +kernel
theorem dX1_wearAYear_34 : decode cX1_wearAYear 34 = .ok (.getfield 18, 3) := by decide +kernel
theorem dX1_wearAYear_37 : decode cX1_wearAYear 37 = .ok (.iload 4, 2) := by decide +kernel
theorem dX1_wearAYear_39 : decode cX1_wearAYear 39 = .ok (.iaload, 1) := by decide +kernel
theorem dX1_wearAYear_40 : decode cX1_wearAYear 40 = .ok (.aload_n 1, 1) := by decide +kernel
theorem dX1_wearAYear_41 : decode cX1_wearAYear 41 = .ok (.aload_n 2, 1) := by decide +kernel
theorem dX1_wearAYear_42 : decode cX1_wearAYear 42 = .ok (.aload_n 0, 1) := by decide +kernel
theorem dX1_wearAYear_43 : decode cX1_wearAYear 43 = .ok (.iload 4, 2) := by decide +kernel
theorem dX1_wearAYear_45 : decode cX1_wearAYear 45 = .ok (.invokevirtual 66, 3) := by decide +kernel
theorem dX1_wearAYear_48 : decode cX1_wearAYear 48 = .ok (.isub, 1) := by decide +kernel
theorem dX1_wearAYear_49 : decode cX1_wearAYear 49 = .ok (.invokestatic 72, 3) := by decide +kernel
theorem dX1_wearAYear_52 : decode cX1_wearAYear 52 = .ok (.iastore, 1) := by decide +kernel
theorem dX1_wearAYear_53 : decode cX1_wearAYear 53 = .ok (.aload_n 0, 1) := by decide +kernel
theorem dX1_wearAYear_54 : decode cX1_wearAYear 54 = .ok (.getfield 18, 3) := by decide +kernel
theorem dX1_wearAYear_57 : decode cX1_wearAYear 57 = .ok (.iload 4, 2) := by decide +kernel
theorem dX1_wearAYear_59 : decode cX1_wearAYear 59 = .ok (.iaload, 1) := by decide +kernel
theorem dX1_wearAYear_60 : decode cX1_wearAYear 60 = .ok (.ifCond .ne 12, 3) := by decide +kernel
theorem dX1_wearAYear_63 : decode cX1_wearAYear 63 = .ok (.aload_n 0, 1) := by decide +kernel
theorem dX1_wearAYear_64 : decode cX1_wearAYear 64 = .ok (.iload 4, 2) := by decide +kernel
theorem dX1_wearAYear_66 : decode cX1_wearAYear 66 = .ok (.invokevirtual 62, 3) := by decide +kernel
theorem dX1_wearAYear_69 : decode cX1_wearAYear 69 = .ok (.iinc 3 1, 3) := by decide +kernel
theorem dX1_wearAYear_72 : decode cX1_wearAYear 72 = .ok (.iinc 4 1, 3) := by decide +kernel
theorem dX1_wearAYear_75 : decode cX1_wearAYear 75 = .ok (.goto (-70), 3) := by decide +kernel
theorem dX1_wearAYear_78 : decode cX1_wearAYear 78 = .ok (.aload_n 0, 1) := by decide +kernel
theorem dX1_wearAYear_79 : decode cX1_wearAYear 79 = .ok (.getfield 27, 3) := by decide +kernel
theorem dX1_wearAYear_82 : decode cX1_wearAYear 82 = .ok (.iconst 0, 1) := by decide +kernel
theorem dX1_wearAYear_83 : decode cX1_wearAYear 83 = .ok (.dup2, 1) := by decide +kernel
theorem dX1_wearAYear_84 : decode cX1_wearAYear 84 = .ok (.iaload, 1) := by decide +kernel
theorem dX1_wearAYear_85 : decode cX1_wearAYear 85 = .ok (.iconst 1, 1) := by decide +kernel
theorem dX1_wearAYear_86 : decode cX1_wearAYear 86 = .ok (.iadd, 1) := by decide +kernel
theorem dX1_wearAYear_87 : decode cX1_wearAYear 87 = .ok (.iastore, 1) := by decide +kernel
theorem dX1_wearAYear_88 : decode cX1_wearAYear 88 = .ok (.iload_n 3, 1) := by decide +kernel
theorem dX1_wearAYear_89 : decode cX1_wearAYear 89 = .ok (.ireturn, 1) := by decide +kernel
theorem dX1_drawRows_0 : decode cX1_drawRows 0 = .ok (.aload_n 0, 1) := by decide +kernel
theorem dX1_drawRows_1 : decode cX1_drawRows 1 = .ok (.getfield 30, 3) := by decide +kernel
theorem dX1_drawRows_4 : decode cX1_drawRows 4 = .ok (.iconst 0, 1) := by decide +kernel
theorem dX1_drawRows_5 : decode cX1_drawRows 5 = .ok (.invokestatic 78, 3) := by decide +kernel
theorem dX1_drawRows_8 : decode cX1_drawRows 8 = .ok (.iconst 0, 1) := by decide +kernel
theorem dX1_drawRows_9 : decode cX1_drawRows 9 = .ok (.istore_n 1, 1) := by decide +kernel
theorem dX1_drawRows_10 : decode cX1_drawRows 10 = .ok (.iload_n 1, 1) := by decide +kernel
theorem dX1_drawRows_11 : decode cX1_drawRows 11 = .ok (.aload_n 0, 1) := by decide +kernel
theorem dX1_drawRows_12 : decode cX1_drawRows 12 = .ok (.getfield 33, 3) := by decide +kernel
theorem dX1_drawRows_15 : decode cX1_drawRows 15 = .ok (.if_icmp .ge 84, 3) := by decide +kernel
theorem dX1_drawRows_18 : decode cX1_drawRows 18 = .ok (.aload_n 0, 1) := by decide +kernel
theorem dX1_drawRows_19 : decode cX1_drawRows 19 = .ok (.iload_n 1, 1) := by decide +kernel
theorem dX1_drawRows_20 : decode cX1_drawRows 20 = .ok (.invokevirtual 56, 3) := by decide +kernel
theorem dX1_drawRows_23 : decode cX1_drawRows 23 = .ok (.ifCond .ne 6, 3) := by decide +kernel
theorem dX1_drawRows_26 : decode cX1_drawRows 26 = .ok (.goto 67, 3) := by decide +kernel
theorem dX1_drawRows_29 : decode cX1_drawRows 29 = .ok (.iconst 1, 1) := by decide +kernel
theorem dX1_drawRows_30 : decode cX1_drawRows 30 = .ok (.aload_n 0, 1) := by decide +kernel
theorem dX1_drawRows_31 : decode cX1_drawRows 31 = .ok (.getfield 9, 3) := by decide +kernel
theorem dX1_drawRows_34 : decode cX1_drawRows 34 = .ok (.iload_n 1, 1) := by decide +kernel
theorem dX1_drawRows_35 : decode cX1_drawRows 35 = .ok (.iaload, 1) := by decide +kernel
theorem dX1_drawRows_36 : decode cX1_drawRows 36 = .ok (.ishl, 1) := by decide +kernel
theorem dX1_drawRows_37 : decode cX1_drawRows 37 = .ok (.iconst 1, 1) := by decide +kernel
theorem dX1_drawRows_38 : decode cX1_drawRows 38 = .ok (.isub, 1) := by decide +kernel
theorem dX1_drawRows_39 : decode cX1_drawRows 39 = .ok (.aload_n 0, 1) := by decide +kernel
theorem dX1_drawRows_40 : decode cX1_drawRows 40 = .ok (.getfield 21, 3) := by decide +kernel
theorem dX1_drawRows_43 : decode cX1_drawRows 43 = .ok (.iload_n 1, 1) := by decide +kernel
theorem dX1_drawRows_44 : decode cX1_drawRows 44 = .ok (.iaload, 1) := by decide +kernel
theorem dX1_drawRows_45 : decode cX1_drawRows 45 = .ok (.ishl, 1) := by decide +kernel
theorem dX1_drawRows_46 : decode cX1_drawRows 46 = .ok (.istore_n 2, 1) := by decide +kernel
theorem dX1_drawRows_47 : decode cX1_drawRows 47 = .ok (.aload_n 0, 1) := by decide +kernel
theorem dX1_drawRows_48 : decode cX1_drawRows 48 = .ok (.getfield 24, 3) := by decide +kernel
theorem dX1_drawRows_51 : decode cX1_drawRows 51 = .ok (.iload_n 1, 1) := by decide +kernel
theorem dX1_drawRows_52 : decode cX1_drawRows 52 = .ok (.iaload, 1) := by decide +kernel
theorem dX1_drawRows_53 : decode cX1_drawRows 53 = .ok (.istore_n 3, 1) := by decide +kernel
theorem dX1_drawRows_54 : decode cX1_drawRows 54 = .ok (.iload_n 3, 1) := by decide +kernel
theorem dX1_drawRows_55 : decode cX1_drawRows 55 = .ok (.aload_n 0, 1) := by decide +kernel
theorem dX1_drawRows_56 : decode cX1_drawRows 56 = .ok (.getfield 24, 3) := by decide +kernel
theorem dX1_drawRows_59 : decode cX1_drawRows 59 = .ok (.iload_n 1, 1) := by decide +kernel
theorem dX1_drawRows_60 : decode cX1_drawRows 60 = .ok (.iaload, 1) := by decide +kernel
theorem dX1_drawRows_61 : decode cX1_drawRows 61 = .ok (.aload_n 0, 1) := by decide +kernel
theorem dX1_drawRows_62 : decode cX1_drawRows 62 = .ok (.getfield 9, 3) := by decide +kernel
theorem dX1_drawRows_65 : decode cX1_drawRows 65 = .ok (.iload_n 1, 1) := by decide +kernel
theorem dX1_drawRows_66 : decode cX1_drawRows 66 = .ok (.iaload, 1) := by decide +kernel
theorem dX1_drawRows_67 : decode cX1_drawRows 67 = .ok (.iadd, 1) := by decide +kernel
theorem dX1_drawRows_68 : decode cX1_drawRows 68 = .ok (.if_icmp .ge 25, 3) := by decide +kernel
theorem dX1_drawRows_71 : decode cX1_drawRows 71 = .ok (.iload_n 3, 1) := by decide +kernel
theorem dX1_drawRows_72 : decode cX1_drawRows 72 = .ok (.bipush 12, 2) := by decide +kernel
theorem dX1_drawRows_74 : decode cX1_drawRows 74 = .ok (.if_icmp .ge 19, 3) := by decide +kernel
theorem dX1_drawRows_77 : decode cX1_drawRows 77 = .ok (.aload_n 0, 1) := by decide +kernel
theorem dX1_drawRows_78 : decode cX1_drawRows 78 = .ok (.getfield 30, 3) := by decide +kernel
theorem dX1_drawRows_81 : decode cX1_drawRows 81 = .ok (.iload_n 3, 1) := by decide +kernel
theorem dX1_drawRows_82 : decode cX1_drawRows 82 = .ok (.dup2, 1) := by decide +kernel
theorem dX1_drawRows_83 : decode cX1_drawRows 83 = .ok (.iaload, 1) := by decide +kernel
theorem dX1_drawRows_84 : decode cX1_drawRows 84 = .ok (.iload_n 2, 1) := by decide +kernel
theorem dX1_drawRows_85 : decode cX1_drawRows 85 = .ok (.ior, 1) := by decide +kernel
theorem dX1_drawRows_86 : decode cX1_drawRows 86 = .ok (.iastore, 1) := by decide +kernel
theorem dX1_drawRows_87 : decode cX1_drawRows 87 = .ok (.iinc 3 1, 3) := by decide +kernel
theorem dX1_drawRows_90 : decode cX1_drawRows 90 = .ok (.goto (-36), 3) := by decide +kernel
theorem dX1_drawRows_93 : decode cX1_drawRows 93 = .ok (.iinc 1 1, 3) := by decide +kernel
theorem dX1_drawRows_96 : decode cX1_drawRows 96 = .ok (.goto (-86), 3) := by decide +kernel
theorem dX1_drawRows_99 : decode cX1_drawRows 99 = .ok (.return_, 1) := by decide +kernel
theorem dX1_firstBareCell_0 : decode cX1_firstBareCell 0 = .ok (.aload_n 0, 1) := by decide +kernel
theorem dX1_firstBareCell_1 : decode cX1_firstBareCell 1 = .ok (.invokevirtual 84, 3) := by decide +kernel
theorem dX1_firstBareCell_4 : decode cX1_firstBareCell 4 = .ok (.iconst 0, 1) := by decide +kernel
theorem dX1_firstBareCell_5 : decode cX1_firstBareCell 5 = .ok (.istore_n 1, 1) := by decide +kernel
theorem dX1_firstBareCell_6 : decode cX1_firstBareCell 6 = .ok (.iload_n 1, 1) := by decide +kernel
theorem dX1_firstBareCell_7 : decode cX1_firstBareCell 7 = .ok (.sipush 144, 3) := by decide +kernel
theorem dX1_firstBareCell_10 : decode cX1_firstBareCell 10 = .ok (.if_icmp .ge 50, 3) := by decide +kernel
theorem dX1_firstBareCell_13 : decode cX1_firstBareCell 13 = .ok (.iload_n 1, 1) := by decide +kernel
theorem dX1_firstBareCell_14 : decode cX1_firstBareCell 14 = .ok (.bipush 12, 2) := by decide +kernel
theorem dX1_firstBareCell_16 : decode cX1_firstBareCell 16 = .ok (.irem, 1) := by decide +kernel
theorem dX1_firstBareCell_17 : decode cX1_firstBareCell 17 = .ok (.istore_n 2, 1) := by decide +kernel
theorem dX1_firstBareCell_18 : decode cX1_firstBareCell 18 = .ok (.iload_n 1, 1) := by decide +kernel
theorem dX1_firstBareCell_19 : decode cX1_firstBareCell 19 = .ok (.bipush 12, 2) := by decide +kernel
theorem dX1_firstBareCell_21 : decode cX1_firstBareCell 21 = .ok (.idiv, 1) := by decide +kernel
theorem dX1_firstBareCell_22 : decode cX1_firstBareCell 22 = .ok (.istore_n 3, 1) := by decide +kernel
theorem dX1_firstBareCell_23 : decode cX1_firstBareCell 23 = .ok (.iload_n 2, 1) := by decide +kernel
theorem dX1_firstBareCell_24 : decode cX1_firstBareCell 24 = .ok (.aload_n 0, 1) := by decide +kernel
theorem dX1_firstBareCell_25 : decode cX1_firstBareCell 25 = .ok (.getfield 37, 3) := by decide +kernel
theorem dX1_firstBareCell_28 : decode cX1_firstBareCell 28 = .ok (.if_icmp .ge 26, 3) := by decide +kernel
theorem dX1_firstBareCell_31 : decode cX1_firstBareCell 31 = .ok (.iload_n 3, 1) := by decide +kernel
theorem dX1_firstBareCell_32 : decode cX1_firstBareCell 32 = .ok (.aload_n 0, 1) := by decide +kernel
theorem dX1_firstBareCell_33 : decode cX1_firstBareCell 33 = .ok (.getfield 40, 3) := by decide +kernel
theorem dX1_firstBareCell_36 : decode cX1_firstBareCell 36 = .ok (.if_icmp .ge 18, 3) := by decide +kernel
theorem dX1_firstBareCell_39 : decode cX1_firstBareCell 39 = .ok (.aload_n 0, 1) := by decide +kernel
theorem dX1_firstBareCell_40 : decode cX1_firstBareCell 40 = .ok (.getfield 30, 3) := by decide +kernel
theorem dX1_firstBareCell_43 : decode cX1_firstBareCell 43 = .ok (.iload_n 3, 1) := by decide +kernel
theorem dX1_firstBareCell_44 : decode cX1_firstBareCell 44 = .ok (.iaload, 1) := by decide +kernel
theorem dX1_firstBareCell_45 : decode cX1_firstBareCell 45 = .ok (.iload_n 2, 1) := by decide +kernel
theorem dX1_firstBareCell_46 : decode cX1_firstBareCell 46 = .ok (.ishr, 1) := by decide +kernel
theorem dX1_firstBareCell_47 : decode cX1_firstBareCell 47 = .ok (.iconst 1, 1) := by decide +kernel
theorem dX1_firstBareCell_48 : decode cX1_firstBareCell 48 = .ok (.iand, 1) := by decide +kernel
theorem dX1_firstBareCell_49 : decode cX1_firstBareCell 49 = .ok (.ifCond .ne 5, 3) := by decide +kernel
theorem dX1_firstBareCell_52 : decode cX1_firstBareCell 52 = .ok (.iload_n 1, 1) := by decide +kernel
theorem dX1_firstBareCell_53 : decode cX1_firstBareCell 53 = .ok (.ireturn, 1) := by decide +kernel
theorem dX1_firstBareCell_54 : decode cX1_firstBareCell 54 = .ok (.iinc 1 1, 3) := by decide +kernel
theorem dX1_firstBareCell_57 : decode cX1_firstBareCell 57 = .ok (.goto (-51), 3) := by decide +kernel
theorem dX1_firstBareCell_60 : decode cX1_firstBareCell 60 = .ok (.iconst (-1), 1) := by decide +kernel
theorem dX1_firstBareCell_61 : decode cX1_firstBareCell 61 = .ok (.ireturn, 1) := by decide +kernel
theorem dX1_placesFor_0 : decode cX1_placesFor 0 = .ok (.aload_n 0, 1) := by decide +kernel
theorem dX1_placesFor_1 : decode cX1_placesFor 1 = .ok (.invokevirtual 84, 3) := by decide +kernel
theorem dX1_placesFor_4 : decode cX1_placesFor 4 = .ok (.iconst 1, 1) := by decide +kernel
theorem dX1_placesFor_5 : decode cX1_placesFor 5 = .ok (.iload_n 1, 1) := by decide +kernel
theorem dX1_placesFor_6 : decode cX1_placesFor 6 = .ok (.ishl, 1) := by decide +kernel
theorem dX1_placesFor_7 : decode cX1_placesFor 7 = .ok (.iconst 1, 1) := by decide +kernel
theorem dX1_placesFor_8 : decode cX1_placesFor 8 = .ok (.isub, 1) := by decide +kernel
theorem dX1_placesFor_9 : decode cX1_placesFor 9 = .ok (.istore_n 2, 1) := by decide +kernel
theorem dX1_placesFor_10 : decode cX1_placesFor 10 = .ok (.iconst 0, 1) := by decide +kernel
theorem dX1_placesFor_11 : decode cX1_placesFor 11 = .ok (.istore_n 3, 1) := by decide +kernel
theorem dX1_placesFor_12 : decode cX1_placesFor 12 = .ok (.iconst 0, 1) := by decide +kernel
theorem dX1_placesFor_13 : decode cX1_placesFor 13 = .ok (.istore 4, 2) := by decide +kernel
theorem dX1_placesFor_15 : decode cX1_placesFor 15 = .ok (.iload 4, 2) := by decide +kernel
theorem dX1_placesFor_17 : decode cX1_placesFor 17 = .ok (.iload_n 1, 1) := by decide +kernel
theorem dX1_placesFor_18 : decode cX1_placesFor 18 = .ok (.iadd, 1) := by decide +kernel
theorem dX1_placesFor_19 : decode cX1_placesFor 19 = .ok (.aload_n 0, 1) := by decide +kernel
theorem dX1_placesFor_20 : decode cX1_placesFor 20 = .ok (.getfield 40, 3) := by decide +kernel
theorem dX1_placesFor_23 : decode cX1_placesFor 23 = .ok (.if_icmp .gt 88, 3) := by decide +kernel
theorem dX1_placesFor_26 : decode cX1_placesFor 26 = .ok (.iconst 0, 1) := by decide +kernel
theorem dX1_placesFor_27 : decode cX1_placesFor 27 = .ok (.istore 5, 2) := by decide +kernel
theorem dX1_placesFor_29 : decode cX1_placesFor 29 = .ok (.iload 4, 2) := by decide +kernel
theorem dX1_placesFor_31 : decode cX1_placesFor 31 = .ok (.istore 6, 2) := by decide +kernel
theorem dX1_placesFor_33 : decode cX1_placesFor 33 = .ok (.iload 6, 2) := by decide +kernel
theorem dX1_placesFor_35 : decode cX1_placesFor 35 = .ok (.iload 4, 2) := by decide +kernel
theorem dX1_placesFor_37 : decode cX1_placesFor 37 = .ok (.iload_n 1, 1) := by decide +kernel
theorem dX1_placesFor_38 : decode cX1_placesFor 38 = .ok (.iadd, 1) := by decide +kernel
theorem dX1_placesFor_39 : decode cX1_placesFor 39 = .ok (.if_icmp .ge 28, 3) := by decide +kernel
theorem dX1_placesFor_42 : decode cX1_placesFor 42 = .ok (.iload 6, 2) := by decide +kernel
theorem dX1_placesFor_44 : decode cX1_placesFor 44 = .ok (.bipush 12, 2) := by decide +kernel
theorem dX1_placesFor_46 : decode cX1_placesFor 46 = .ok (.if_icmp .ge 21, 3) := by decide +kernel
theorem dX1_placesFor_49 : decode cX1_placesFor 49 = .ok (.iload 5, 2) := by decide +kernel
theorem dX1_placesFor_51 : decode cX1_placesFor 51 = .ok (.aload_n 0, 1) := by decide +kernel
theorem dX1_placesFor_52 : decode cX1_placesFor 52 = .ok (.getfield 30, 3) := by decide +kernel
theorem dX1_placesFor_55 : decode cX1_placesFor 55 = .ok (.iload 6, 2) := by decide +kernel
theorem dX1_placesFor_57 : decode cX1_placesFor 57 = .ok (.iaload, 1) := by decide +kernel
theorem dX1_placesFor_58 : decode cX1_placesFor 58 = .ok (.ior, 1) := by decide +kernel
theorem dX1_placesFor_59 : decode cX1_placesFor 59 = .ok (.istore 5, 2) := by decide +kernel
theorem dX1_placesFor_61 : decode cX1_placesFor 61 = .ok (.iinc 6 1, 3) := by decide +kernel
theorem dX1_placesFor_64 : decode cX1_placesFor 64 = .ok (.goto (-31), 3) := by decide +kernel
theorem dX1_placesFor_67 : decode cX1_placesFor 67 = .ok (.iconst 0, 1) := by decide +kernel
theorem dX1_placesFor_68 : decode cX1_placesFor 68 = .ok (.istore 6, 2) := by decide +kernel
theorem dX1_placesFor_70 : decode cX1_placesFor 70 = .ok (.iload 6, 2) := by decide +kernel
theorem dX1_placesFor_72 : decode cX1_placesFor 72 = .ok (.iload_n 1, 1) := by decide +kernel
theorem dX1_placesFor_73 : decode cX1_placesFor 73 = .ok (.iadd, 1) := by decide +kernel
theorem dX1_placesFor_74 : decode cX1_placesFor 74 = .ok (.aload_n 0, 1) := by decide +kernel
theorem dX1_placesFor_75 : decode cX1_placesFor 75 = .ok (.getfield 37, 3) := by decide +kernel
theorem dX1_placesFor_78 : decode cX1_placesFor 78 = .ok (.if_icmp .gt 27, 3) := by decide +kernel
theorem dX1_placesFor_81 : decode cX1_placesFor 81 = .ok (.iload_n 3, 1) := by decide +kernel
theorem dX1_placesFor_82 : decode cX1_placesFor 82 = .ok (.iload 5, 2) := by decide +kernel
theorem dX1_placesFor_84 : decode cX1_placesFor 84 = .ok (.iload 6, 2) := by decide +kernel
theorem dX1_placesFor_86 : decode cX1_placesFor 86 = .ok (.ishr, 1) := by decide +kernel
theorem dX1_placesFor_87 : decode cX1_placesFor 87 = .ok (.iload_n 2, 1) := by decide +kernel
theorem dX1_placesFor_88 : decode cX1_placesFor 88 = .ok (.iand, 1) := by decide +kernel
theorem dX1_placesFor_89 : decode cX1_placesFor 89 = .ok (.ifCond .ne 7, 3) := by decide +kernel
theorem dX1_placesFor_92 : decode cX1_placesFor 92 = .ok (.iconst 1, 1) := by decide +kernel
theorem dX1_placesFor_93 : decode cX1_placesFor 93 = .ok (.goto 4, 3) := by decide +kernel
theorem dX1_placesFor_96 : decode cX1_placesFor 96 = .ok (.iconst 0, 1) := by decide +kernel
theorem dX1_placesFor_97 : decode cX1_placesFor 97 = .ok (.iadd, 1) := by decide +kernel
theorem dX1_placesFor_98 : decode cX1_placesFor 98 = .ok (.istore_n 3, 1) := by decide +kernel
theorem dX1_placesFor_99 : decode cX1_placesFor 99 = .ok (.iinc 6 1, 3) := by decide +kernel
theorem dX1_placesFor_102 : decode cX1_placesFor 102 = .ok (.goto (-32), 3) := by decide +kernel
theorem dX1_placesFor_105 : decode cX1_placesFor 105 = .ok (.iinc 4 1, 3) := by decide +kernel
theorem dX1_placesFor_108 : decode cX1_placesFor 108 = .ok (.goto (-93), 3) := by decide +kernel
theorem dX1_placesFor_111 : decode cX1_placesFor 111 = .ok (.iload_n 3, 1) := by decide +kernel
theorem dX1_placesFor_112 : decode cX1_placesFor 112 = .ok (.ireturn, 1) := by decide +kernel
theorem dX1_innerHalls_0 : decode cX1_innerHalls 0 = .ok (.iconst 0, 1) := by decide +kernel
theorem dX1_innerHalls_1 : decode cX1_innerHalls 1 = .ok (.istore_n 1, 1) := by decide +kernel
theorem dX1_innerHalls_2 : decode cX1_innerHalls 2 = .ok (.iconst 0, 1) := by decide +kernel
theorem dX1_innerHalls_3 : decode cX1_innerHalls 3 = .ok (.istore_n 2, 1) := by decide +kernel
theorem dX1_innerHalls_4 : decode cX1_innerHalls 4 = .ok (.iload_n 2, 1) := by decide +kernel
theorem dX1_innerHalls_5 : decode cX1_innerHalls 5 = .ok (.iconst 1, 1) := by decide +kernel
theorem dX1_innerHalls_6 : decode cX1_innerHalls 6 = .ok (.aload_n 0, 1) := by decide +kernel
theorem dX1_innerHalls_7 : decode cX1_innerHalls 7 = .ok (.getfield 33, 3) := by decide +kernel
theorem dX1_innerHalls_10 : decode cX1_innerHalls 10 = .ok (.ishl, 1) := by decide +kernel
theorem dX1_innerHalls_11 : decode cX1_innerHalls 11 = .ok (.if_icmp .ge 28, 3) := by decide +kernel
theorem dX1_innerHalls_14 : decode cX1_innerHalls 14 = .ok (.iload_n 2, 1) := by decide +kernel
theorem dX1_innerHalls_15 : decode cX1_innerHalls 15 = .ok (.invokestatic 87, 3) := by decide +kernel
theorem dX1_innerHalls_18 : decode cX1_innerHalls 18 = .ok (.iconst 2, 1) := by decide +kernel
theorem dX1_innerHalls_19 : decode cX1_innerHalls 19 = .ok (.if_icmp .lt 14, 3) := by decide +kernel
theorem dX1_innerHalls_22 : decode cX1_innerHalls 22 = .ok (.aload_n 0, 1) := by decide +kernel
theorem dX1_innerHalls_23 : decode cX1_innerHalls 23 = .ok (.iload_n 2, 1) := by decide +kernel
theorem dX1_innerHalls_24 : decode cX1_innerHalls 24 = .ok (.invokevirtual 93, 3) := by decide +kernel
theorem dX1_innerHalls_27 : decode cX1_innerHalls 27 = .ok (.ifCond .eq 6, 3) := by decide +kernel
theorem dX1_innerHalls_30 : decode cX1_innerHalls 30 = .ok (.iinc 1 1, 3) := by decide +kernel
theorem dX1_innerHalls_33 : decode cX1_innerHalls 33 = .ok (.iinc 2 1, 3) := by decide +kernel
theorem dX1_innerHalls_36 : decode cX1_innerHalls 36 = .ok (.goto (-32), 3) := by decide +kernel
theorem dX1_innerHalls_39 : decode cX1_innerHalls 39 = .ok (.iload_n 1, 1) := by decide +kernel
theorem dX1_innerHalls_40 : decode cX1_innerHalls 40 = .ok (.ireturn, 1) := by decide +kernel
theorem dX1_isInnerHall_0 : decode cX1_isInnerHall 0 = .ok (.bipush 12, 2) := by decide +kernel
theorem dX1_isInnerHall_2 : decode cX1_isInnerHall 2 = .ok (.istore_n 2, 1) := by decide +kernel
theorem dX1_isInnerHall_3 : decode cX1_isInnerHall 3 = .ok (.iconst 0, 1) := by decide +kernel
theorem dX1_isInnerHall_4 : decode cX1_isInnerHall 4 = .ok (.istore_n 3, 1) := by decide +kernel
theorem dX1_isInnerHall_5 : decode cX1_isInnerHall 5 = .ok (.bipush 12, 2) := by decide +kernel
theorem dX1_isInnerHall_7 : decode cX1_isInnerHall 7 = .ok (.istore 4, 2) := by decide +kernel
theorem dX1_isInnerHall_9 : decode cX1_isInnerHall 9 = .ok (.iconst 0, 1) := by decide +kernel
theorem dX1_isInnerHall_10 : decode cX1_isInnerHall 10 = .ok (.istore 5, 2) := by decide +kernel
theorem dX1_isInnerHall_12 : decode cX1_isInnerHall 12 = .ok (.iconst 0, 1) := by decide +kernel
theorem dX1_isInnerHall_13 : decode cX1_isInnerHall 13 = .ok (.istore 6, 2) := by decide +kernel
theorem dX1_isInnerHall_15 : decode cX1_isInnerHall 15 = .ok (.iconst 0, 1) := by decide +kernel
theorem dX1_isInnerHall_16 : decode cX1_isInnerHall 16 = .ok (.istore 7, 2) := by decide +kernel
theorem dX1_isInnerHall_18 : decode cX1_isInnerHall 18 = .ok (.iload 7, 2) := by decide +kernel
theorem dX1_isInnerHall_20 : decode cX1_isInnerHall 20 = .ok (.aload_n 0, 1) := by decide +kernel
theorem dX1_isInnerHall_21 : decode cX1_isInnerHall 21 = .ok (.getfield 33, 3) := by decide +kernel
theorem dX1_isInnerHall_24 : decode cX1_isInnerHall 24 = .ok (.if_icmp .ge 120, 3) := by decide +kernel
theorem dX1_isInnerHall_27 : decode cX1_isInnerHall 27 = .ok (.iload_n 1, 1) := by decide +kernel
theorem dX1_isInnerHall_28 : decode cX1_isInnerHall 28 = .ok (.iload 7, 2) := by decide +kernel
theorem dX1_isInnerHall_30 : decode cX1_isInnerHall 30 = .ok (.ishr, 1) := by decide +kernel
theorem dX1_isInnerHall_31 : decode cX1_isInnerHall 31 = .ok (.iconst 1, 1) := by decide +kernel
theorem dX1_isInnerHall_32 : decode cX1_isInnerHall 32 = .ok (.iand, 1) := by decide +kernel
theorem dX1_isInnerHall_33 : decode cX1_isInnerHall 33 = .ok (.ifCond .ne 6, 3) := by decide +kernel
theorem dX1_isInnerHall_36 : decode cX1_isInnerHall 36 = .ok (.goto 102, 3) := by decide +kernel
theorem dX1_isInnerHall_39 : decode cX1_isInnerHall 39 = .ok (.aload_n 0, 1) := by decide +kernel
theorem dX1_isInnerHall_40 : decode cX1_isInnerHall 40 = .ok (.iload 7, 2) := by decide +kernel
theorem dX1_isInnerHall_42 : decode cX1_isInnerHall 42 = .ok (.invokevirtual 56, 3) := by decide +kernel
theorem dX1_isInnerHall_45 : decode cX1_isInnerHall 45 = .ok (.ifCond .ne 5, 3) := by decide +kernel
theorem dX1_isInnerHall_48 : decode cX1_isInnerHall 48 = .ok (.iconst 0, 1) := by decide +kernel
theorem dX1_isInnerHall_49 : decode cX1_isInnerHall 49 = .ok (.ireturn, 1) := by decide +kernel
theorem dX1_isInnerHall_50 : decode cX1_isInnerHall 50 = .ok (.iload_n 2, 1) := by decide +kernel
theorem dX1_isInnerHall_51 : decode cX1_isInnerHall 51 = .ok (.aload_n 0, 1) := by decide +kernel
theorem dX1_isInnerHall_52 : decode cX1_isInnerHall 52 = .ok (.getfield 21, 3) := by decide +kernel
theorem dX1_isInnerHall_55 : decode cX1_isInnerHall 55 = .ok (.iload 7, 2) := by decide +kernel
theorem dX1_isInnerHall_57 : decode cX1_isInnerHall 57 = .ok (.iaload, 1) := by decide +kernel
theorem dX1_isInnerHall_58 : decode cX1_isInnerHall 58 = .ok (.invokestatic 96, 3) := by decide +kernel
theorem dX1_isInnerHall_61 : decode cX1_isInnerHall 61 = .ok (.istore_n 2, 1) := by decide +kernel
theorem dX1_isInnerHall_62 : decode cX1_isInnerHall 62 = .ok (.iload_n 3, 1) := by decide +kernel
theorem dX1_isInnerHall_63 : decode cX1_isInnerHall 63 = .ok (.aload_n 0, 1) := by decide +kernel
theorem dX1_isInnerHall_64 : decode cX1_isInnerHall 64 = .ok (.getfield 21, 3) := by decide +kernel
theorem dX1_isInnerHall_67 : decode cX1_isInnerHall 67 = .ok (.iload 7, 2) := by decide +kernel
theorem dX1_isInnerHall_69 : decode cX1_isInnerHall 69 = .ok (.iaload, 1) := by decide +kernel
theorem dX1_isInnerHall_70 : decode cX1_isInnerHall 70 = .ok (.aload_n 0, 1) := by decide +kernel
theorem dX1_isInnerHall_71 : decode cX1_isInnerHall 71 = .ok (.getfield 9, 3) := by decide +kernel
theorem dX1_isInnerHall_74 : decode cX1_isInnerHall 74 = .ok (.iload 7, 2) := by decide +kernel
theorem dX1_isInnerHall_76 : decode cX1_isInnerHall 76 = .ok (.iaload, 1) := by decide +kernel
theorem dX1_isInnerHall_77 : decode cX1_isInnerHall 77 = .ok (.iadd, 1) := by decide +kernel
theorem dX1_isInnerHall_78 : decode cX1_isInnerHall 78 = .ok (.invokestatic 72, 3) := by decide +kernel
theorem dX1_isInnerHall_81 : decode cX1_isInnerHall 81 = .ok (.istore_n 3, 1) := by decide +kernel
theorem dX1_isInnerHall_82 : decode cX1_isInnerHall 82 = .ok (.iload 4, 2) := by decide +kernel
theorem dX1_isInnerHall_84 : decode cX1_isInnerHall 84 = .ok (.aload_n 0, 1) := by decide +kernel
theorem dX1_isInnerHall_85 : decode cX1_isInnerHall 85 = .ok (.getfield 24, 3) := by decide +kernel
theorem dX1_isInnerHall_88 : decode cX1_isInnerHall 88 = .ok (.iload 7, 2) := by decide +kernel
theorem dX1_isInnerHall_90 : decode cX1_isInnerHall 90 = .ok (.iaload, 1) := by decide +kernel
theorem dX1_isInnerHall_91 : decode cX1_isInnerHall 91 = .ok (.invokestatic 96, 3) := by decide +kernel
theorem dX1_isInnerHall_94 : decode cX1_isInnerHall 94 = .ok (.istore 4, 2) := by decide +kernel
theorem dX1_isInnerHall_96 : decode cX1_isInnerHall 96 = .ok (.iload 5, 2) := by decide +kernel
theorem dX1_isInnerHall_98 : decode cX1_isInnerHall 98 = .ok (.aload_n 0, 1) := by decide +kernel
theorem dX1_isInnerHall_99 : decode cX1_isInnerHall 99 = .ok (.getfield 24, 3) := by decide +kernel
theorem dX1_isInnerHall_102 : decode cX1_isInnerHall 102 = .ok (.iload 7, 2) := by decide +kernel
theorem dX1_isInnerHall_104 : decode cX1_isInnerHall 104 = .ok (.iaload, 1) := by decide +kernel
theorem dX1_isInnerHall_105 : decode cX1_isInnerHall 105 = .ok (.aload_n 0, 1) := by decide +kernel
theorem dX1_isInnerHall_106 : decode cX1_isInnerHall 106 = .ok (.getfield 9, 3) := by decide +kernel
theorem dX1_isInnerHall_109 : decode cX1_isInnerHall 109 = .ok (.iload 7, 2) := by decide +kernel
theorem dX1_isInnerHall_111 : decode cX1_isInnerHall 111 = .ok (.iaload, 1) := by decide +kernel
theorem dX1_isInnerHall_112 : decode cX1_isInnerHall 112 = .ok (.iadd, 1) := by decide +kernel
theorem dX1_isInnerHall_113 : decode cX1_isInnerHall 113 = .ok (.invokestatic 72, 3) := by decide +kernel
theorem dX1_isInnerHall_116 : decode cX1_isInnerHall 116 = .ok (.istore 5, 2) := by decide +kernel
theorem dX1_isInnerHall_118 : decode cX1_isInnerHall 118 = .ok (.iload 6, 2) := by decide +kernel
theorem dX1_isInnerHall_120 : decode cX1_isInnerHall 120 = .ok (.aload_n 0, 1) := by decide +kernel
theorem dX1_isInnerHall_121 : decode cX1_isInnerHall 121 = .ok (.getfield 9, 3) := by decide +kernel
theorem dX1_isInnerHall_124 : decode cX1_isInnerHall 124 = .ok (.iload 7, 2) := by decide +kernel
theorem dX1_isInnerHall_126 : decode cX1_isInnerHall 126 = .ok (.iaload, 1) := by decide +kernel
theorem dX1_isInnerHall_127 : decode cX1_isInnerHall 127 = .ok (.aload_n 0, 1) := by decide +kernel
theorem dX1_isInnerHall_128 : decode cX1_isInnerHall 128 = .ok (.getfield 9, 3) := by decide +kernel
theorem dX1_isInnerHall_131 : decode cX1_isInnerHall 131 = .ok (.iload 7, 2) := by decide +kernel
theorem dX1_isInnerHall_133 : decode cX1_isInnerHall 133 = .ok (.iaload, 1) := by decide +kernel
theorem dX1_isInnerHall_134 : decode cX1_isInnerHall 134 = .ok (.imul, 1) := by decide +kernel
theorem dX1_isInnerHall_135 : decode cX1_isInnerHall 135 = .ok (.iadd, 1) := by decide +kernel
theorem dX1_isInnerHall_136 : decode cX1_isInnerHall 136 = .ok (.istore 6, 2) := by decide +kernel
theorem dX1_isInnerHall_138 : decode cX1_isInnerHall 138 = .ok (.iinc 7 1, 3) := by decide +kernel
theorem dX1_isInnerHall_141 : decode cX1_isInnerHall 141 = .ok (.goto (-123), 3) := by decide +kernel
theorem dX1_isInnerHall_144 : decode cX1_isInnerHall 144 = .ok (.iload_n 3, 1) := by decide +kernel
theorem dX1_isInnerHall_145 : decode cX1_isInnerHall 145 = .ok (.iload_n 2, 1) := by decide +kernel
theorem dX1_isInnerHall_146 : decode cX1_isInnerHall 146 = .ok (.isub, 1) := by decide +kernel
theorem dX1_isInnerHall_147 : decode cX1_isInnerHall 147 = .ok (.iload 5, 2) := by decide +kernel
theorem dX1_isInnerHall_149 : decode cX1_isInnerHall 149 = .ok (.iload 4, 2) := by decide +kernel
theorem dX1_isInnerHall_151 : decode cX1_isInnerHall 151 = .ok (.isub, 1) := by decide +kernel
theorem dX1_isInnerHall_152 : decode cX1_isInnerHall 152 = .ok (.imul, 1) := by decide +kernel
theorem dX1_isInnerHall_153 : decode cX1_isInnerHall 153 = .ok (.iload 6, 2) := by decide +kernel
theorem dX1_isInnerHall_155 : decode cX1_isInnerHall 155 = .ok (.if_icmp .ne 21, 3) := by decide +kernel
theorem dX1_isInnerHall_158 : decode cX1_isInnerHall 158 = .ok (.iload 6, 2) := by decide +kernel
theorem dX1_isInnerHall_160 : decode cX1_isInnerHall 160 = .ok (.aload_n 0, 1) := by decide +kernel
theorem dX1_isInnerHall_161 : decode cX1_isInnerHall 161 = .ok (.getfield 37, 3) := by decide +kernel
theorem dX1_isInnerHall_164 : decode cX1_isInnerHall 164 = .ok (.aload_n 0, 1) := by decide +kernel
theorem dX1_isInnerHall_165 : decode cX1_isInnerHall 165 = .ok (.getfield 40, 3) := by decide +kernel
theorem dX1_isInnerHall_168 : decode cX1_isInnerHall 168 = .ok (.imul, 1) := by decide +kernel
theorem dX1_isInnerHall_169 : decode cX1_isInnerHall 169 = .ok (.if_icmp .ge 7, 3) := by decide +kernel
theorem dX1_isInnerHall_172 : decode cX1_isInnerHall 172 = .ok (.iconst 1, 1) := by decide +kernel
theorem dX1_isInnerHall_173 : decode cX1_isInnerHall 173 = .ok (.goto 4, 3) := by decide +kernel
theorem dX1_isInnerHall_176 : decode cX1_isInnerHall 176 = .ok (.iconst 0, 1) := by decide +kernel
theorem dX1_isInnerHall_177 : decode cX1_isInnerHall 177 = .ok (.ireturn, 1) := by decide +kernel
theorem dX1_crossPoints_0 : decode cX1_crossPoints 0 = .ok (.iconst 0, 1) := by decide +kernel
theorem dX1_crossPoints_1 : decode cX1_crossPoints 1 = .ok (.istore_n 1, 1) := by decide +kernel
theorem dX1_crossPoints_2 : decode cX1_crossPoints 2 = .ok (.iconst 0, 1) := by decide +kernel
theorem dX1_crossPoints_3 : decode cX1_crossPoints 3 = .ok (.istore_n 2, 1) := by decide +kernel
theorem dX1_crossPoints_4 : decode cX1_crossPoints 4 = .ok (.iload_n 2, 1) := by decide +kernel
theorem dX1_crossPoints_5 : decode cX1_crossPoints 5 = .ok (.aload_n 0, 1) := by decide +kernel
theorem dX1_crossPoints_6 : decode cX1_crossPoints 6 = .ok (.getfield 33, 3) := by decide +kernel
theorem dX1_crossPoints_9 : decode cX1_crossPoints 9 = .ok (.if_icmp .ge 53, 3) := by decide +kernel
theorem dX1_crossPoints_12 : decode cX1_crossPoints 12 = .ok (.aload_n 0, 1) := by decide +kernel
theorem dX1_crossPoints_13 : decode cX1_crossPoints 13 = .ok (.iload_n 2, 1) := by decide +kernel
theorem dX1_crossPoints_14 : decode cX1_crossPoints 14 = .ok (.invokevirtual 56, 3) := by decide +kernel
theorem dX1_crossPoints_17 : decode cX1_crossPoints 17 = .ok (.ifCond .eq 39, 3) := by decide +kernel
theorem dX1_crossPoints_20 : decode cX1_crossPoints 20 = .ok (.aload_n 0, 1) := by decide +kernel
theorem dX1_crossPoints_21 : decode cX1_crossPoints 21 = .ok (.aload_n 0, 1) := by decide +kernel
theorem dX1_crossPoints_22 : decode cX1_crossPoints 22 = .ok (.getfield 21, 3) := by decide +kernel
theorem dX1_crossPoints_25 : decode cX1_crossPoints 25 = .ok (.iload_n 2, 1) := by decide +kernel
theorem dX1_crossPoints_26 : decode cX1_crossPoints 26 = .ok (.iaload, 1) := by decide +kernel
theorem dX1_crossPoints_27 : decode cX1_crossPoints 27 = .ok (.aload_n 0, 1) := by decide +kernel
theorem dX1_crossPoints_28 : decode cX1_crossPoints 28 = .ok (.getfield 9, 3) := by decide +kernel
theorem dX1_crossPoints_31 : decode cX1_crossPoints 31 = .ok (.iload_n 2, 1) := by decide +kernel
theorem dX1_crossPoints_32 : decode cX1_crossPoints 32 = .ok (.iaload, 1) := by decide +kernel
theorem dX1_crossPoints_33 : decode cX1_crossPoints 33 = .ok (.iadd, 1) := by decide +kernel
theorem dX1_crossPoints_34 : decode cX1_crossPoints 34 = .ok (.aload_n 0, 1) := by decide +kernel
theorem dX1_crossPoints_35 : decode cX1_crossPoints 35 = .ok (.getfield 24, 3) := by decide +kernel
theorem dX1_crossPoints_38 : decode cX1_crossPoints 38 = .ok (.iload_n 2, 1) := by decide +kernel
theorem dX1_crossPoints_39 : decode cX1_crossPoints 39 = .ok (.iaload, 1) := by decide +kernel
theorem dX1_crossPoints_40 : decode cX1_crossPoints 40 = .ok (.aload_n 0, 1) := by decide +kernel
theorem dX1_crossPoints_41 : decode cX1_crossPoints 41 = .ok (.getfield 9, 3) := by decide +kernel
theorem dX1_crossPoints_44 : decode cX1_crossPoints 44 = .ok (.iload_n 2, 1) := by decide +kernel
theorem dX1_crossPoints_45 : decode cX1_crossPoints 45 = .ok (.iaload, 1) := by decide +kernel
theorem dX1_crossPoints_46 : decode cX1_crossPoints 46 = .ok (.iadd, 1) := by decide +kernel
theorem dX1_crossPoints_47 : decode cX1_crossPoints 47 = .ok (.invokevirtual 99, 3) := by decide +kernel
theorem dX1_crossPoints_50 : decode cX1_crossPoints 50 = .ok (.ifCond .eq 6, 3) := by decide +kernel
theorem dX1_crossPoints_53 : decode cX1_crossPoints 53 = .ok (.iinc 1 1, 3) := by decide +kernel
theorem dX1_crossPoints_56 : decode cX1_crossPoints 56 = .ok (.iinc 2 1, 3) := by decide +kernel
theorem dX1_crossPoints_59 : decode cX1_crossPoints 59 = .ok (.goto (-55), 3) := by decide +kernel
theorem dX1_crossPoints_62 : decode cX1_crossPoints 62 = .ok (.iload_n 1, 1) := by decide +kernel
theorem dX1_crossPoints_63 : decode cX1_crossPoints 63 = .ok (.ireturn, 1) := by decide +kernel
theorem dX1_threeMoreMeetAt_0 : decode cX1_threeMoreMeetAt 0 = .ok (.iconst 0, 1) := by decide +kernel
theorem dX1_threeMoreMeetAt_1 : decode cX1_threeMoreMeetAt 1 = .ok (.istore_n 3, 1) := by decide +kernel
theorem dX1_threeMoreMeetAt_2 : decode cX1_threeMoreMeetAt 2 = .ok (.iconst 0, 1) := by decide +kernel
theorem dX1_threeMoreMeetAt_3 : decode cX1_threeMoreMeetAt 3 = .ok (.istore 4, 2) := by decide +kernel
theorem dX1_threeMoreMeetAt_5 : decode cX1_threeMoreMeetAt 5 = .ok (.iload 4, 2) := by decide +kernel
theorem dX1_threeMoreMeetAt_7 : decode cX1_threeMoreMeetAt 7 = .ok (.aload_n 0, 1) := by decide +kernel
theorem dX1_threeMoreMeetAt_8 : decode cX1_threeMoreMeetAt 8 = .ok (.getfield 33, 3) := by decide +kernel
theorem dX1_threeMoreMeetAt_11 : decode cX1_threeMoreMeetAt 11 = .ok (.if_icmp .ge 147, 3) := by decide +kernel
theorem dX1_threeMoreMeetAt_14 : decode cX1_threeMoreMeetAt 14 = .ok (.aload_n 0, 1) := by decide +kernel
theorem dX1_threeMoreMeetAt_15 : decode cX1_threeMoreMeetAt 15 = .ok (.iload 4, 2) := by decide +kernel
theorem dX1_threeMoreMeetAt_17 : decode cX1_threeMoreMeetAt 17 = .ok (.invokevirtual 56, 3) := by decide +kernel
theorem dX1_threeMoreMeetAt_20 : decode cX1_threeMoreMeetAt 20 = .ok (.ifCond .ne 6, 3) := by decide +kernel
theorem dX1_threeMoreMeetAt_23 : decode cX1_threeMoreMeetAt 23 = .ok (.goto 129, 3) := by decide +kernel
theorem dX1_threeMoreMeetAt_26 : decode cX1_threeMoreMeetAt 26 = .ok (.aload_n 0, 1) := by decide +kernel
theorem dX1_threeMoreMeetAt_27 : decode cX1_threeMoreMeetAt 27 = .ok (.getfield 21, 3) := by decide +kernel
theorem dX1_threeMoreMeetAt_30 : decode cX1_threeMoreMeetAt 30 = .ok (.iload 4, 2) := by decide +kernel
theorem dX1_threeMoreMeetAt_32 : decode cX1_threeMoreMeetAt 32 = .ok (.iaload, 1) := by decide +kernel
theorem dX1_threeMoreMeetAt_33 : decode cX1_threeMoreMeetAt 33 = .ok (.iload_n 1, 1) := by decide +kernel
theorem dX1_threeMoreMeetAt_34 : decode cX1_threeMoreMeetAt 34 = .ok (.if_icmp .ne 7, 3) := by decide +kernel
theorem dX1_threeMoreMeetAt_37 : decode cX1_threeMoreMeetAt 37 = .ok (.iconst 1, 1) := by decide +kernel
theorem dX1_threeMoreMeetAt_38 : decode cX1_threeMoreMeetAt 38 = .ok (.goto 4, 3) := by decide +kernel
theorem dX1_threeMoreMeetAt_41 : decode cX1_threeMoreMeetAt 41 = .ok (.iconst 0, 1) := by decide +kernel
theorem dX1_threeMoreMeetAt_42 : decode cX1_threeMoreMeetAt 42 = .ok (.istore 5, 2) := by decide +kernel
theorem dX1_threeMoreMeetAt_44 : decode cX1_threeMoreMeetAt 44 = .ok (.aload_n 0, 1) := by decide +kernel
theorem dX1_threeMoreMeetAt_45 : decode cX1_threeMoreMeetAt 45 = .ok (.getfield 21, 3) := by decide +kernel
theorem dX1_threeMoreMeetAt_48 : decode cX1_threeMoreMeetAt 48 = .ok (.iload 4, 2) := by decide +kernel
theorem dX1_threeMoreMeetAt_50 : decode cX1_threeMoreMeetAt 50 = .ok (.iaload, 1) := by decide +kernel
theorem dX1_threeMoreMeetAt_51 : decode cX1_threeMoreMeetAt 51 = .ok (.aload_n 0, 1) := by decide +kernel
theorem dX1_threeMoreMeetAt_52 : decode cX1_threeMoreMeetAt 52 = .ok (.getfield 9, 3) := by decide +kernel
theorem dX1_threeMoreMeetAt_55 : decode cX1_threeMoreMeetAt 55 = .ok (.iload 4, 2) := by decide +kernel
theorem dX1_threeMoreMeetAt_57 : decode cX1_threeMoreMeetAt 57 = .ok (.iaload, 1) := by decide +kernel
theorem dX1_threeMoreMeetAt_58 : decode cX1_threeMoreMeetAt 58 = .ok (.iadd, 1) := by decide +kernel
theorem dX1_threeMoreMeetAt_59 : decode cX1_threeMoreMeetAt 59 = .ok (.iload_n 1, 1) := by decide +kernel
theorem dX1_threeMoreMeetAt_60 : decode cX1_threeMoreMeetAt 60 = .ok (.if_icmp .ne 7, 3) := by decide +kernel
theorem dX1_threeMoreMeetAt_63 : decode cX1_threeMoreMeetAt 63 = .ok (.iconst 1, 1) := by decide +kernel
theorem dX1_threeMoreMeetAt_64 : decode cX1_threeMoreMeetAt 64 = .ok (.goto 4, 3) := by decide +kernel
theorem dX1_threeMoreMeetAt_67 : decode cX1_threeMoreMeetAt 67 = .ok (.iconst 0, 1) := by decide +kernel
theorem dX1_threeMoreMeetAt_68 : decode cX1_threeMoreMeetAt 68 = .ok (.istore 6, 2) := by decide +kernel
theorem dX1_threeMoreMeetAt_70 : decode cX1_threeMoreMeetAt 70 = .ok (.aload_n 0, 1) := by decide +kernel
theorem dX1_threeMoreMeetAt_71 : decode cX1_threeMoreMeetAt 71 = .ok (.getfield 24, 3) := by decide +kernel
theorem dX1_threeMoreMeetAt_74 : decode cX1_threeMoreMeetAt 74 = .ok (.iload 4, 2) := by decide +kernel
theorem dX1_threeMoreMeetAt_76 : decode cX1_threeMoreMeetAt 76 = .ok (.iaload, 1) := by decide +kernel
theorem dX1_threeMoreMeetAt_77 : decode cX1_threeMoreMeetAt 77 = .ok (.iload_n 2, 1) := by decide +kernel
theorem dX1_threeMoreMeetAt_78 : decode cX1_threeMoreMeetAt 78 = .ok (.if_icmp .ne 7, 3) := by decide +kernel
theorem dX1_threeMoreMeetAt_81 : decode cX1_threeMoreMeetAt 81 = .ok (.iconst 1, 1) := by decide +kernel
theorem dX1_threeMoreMeetAt_82 : decode cX1_threeMoreMeetAt 82 = .ok (.goto 4, 3) := by decide +kernel
theorem dX1_threeMoreMeetAt_85 : decode cX1_threeMoreMeetAt 85 = .ok (.iconst 0, 1) := by decide +kernel
theorem dX1_threeMoreMeetAt_86 : decode cX1_threeMoreMeetAt 86 = .ok (.istore 7, 2) := by decide +kernel
theorem dX1_threeMoreMeetAt_88 : decode cX1_threeMoreMeetAt 88 = .ok (.aload_n 0, 1) := by decide +kernel
theorem dX1_threeMoreMeetAt_89 : decode cX1_threeMoreMeetAt 89 = .ok (.getfield 24, 3) := by decide +kernel
theorem dX1_threeMoreMeetAt_92 : decode cX1_threeMoreMeetAt 92 = .ok (.iload 4, 2) := by decide +kernel
theorem dX1_threeMoreMeetAt_94 : decode cX1_threeMoreMeetAt 94 = .ok (.iaload, 1) := by decide +kernel
theorem dX1_threeMoreMeetAt_95 : decode cX1_threeMoreMeetAt 95 = .ok (.aload_n 0, 1) := by decide +kernel
theorem dX1_threeMoreMeetAt_96 : decode cX1_threeMoreMeetAt 96 = .ok (.getfield 9, 3) := by decide +kernel
theorem dX1_threeMoreMeetAt_99 : decode cX1_threeMoreMeetAt 99 = .ok (.iload 4, 2) := by decide +kernel
theorem dX1_threeMoreMeetAt_101 : decode cX1_threeMoreMeetAt 101 = .ok (.iaload, 1) := by decide +kernel
theorem dX1_threeMoreMeetAt_102 : decode cX1_threeMoreMeetAt 102 = .ok (.iadd, 1) := by decide +kernel
theorem dX1_threeMoreMeetAt_103 : decode cX1_threeMoreMeetAt 103 = .ok (.iload_n 2, 1) := by decide +kernel
theorem dX1_threeMoreMeetAt_104 : decode cX1_threeMoreMeetAt 104 = .ok (.if_icmp .ne 7, 3) := by decide +kernel
theorem dX1_threeMoreMeetAt_107 : decode cX1_threeMoreMeetAt 107 = .ok (.iconst 1, 1) := by decide +kernel
theorem dX1_threeMoreMeetAt_108 : decode cX1_threeMoreMeetAt 108 = .ok (.goto 4, 3) := by decide +kernel
theorem dX1_threeMoreMeetAt_111 : decode cX1_threeMoreMeetAt 111 = .ok (.iconst 0, 1) := by decide +kernel
theorem dX1_threeMoreMeetAt_112 : decode cX1_threeMoreMeetAt 112 = .ok (.istore 8, 2) := by decide +kernel
theorem dX1_threeMoreMeetAt_114 : decode cX1_threeMoreMeetAt 114 = .ok (.iload_n 3, 1) := by decide +kernel
theorem dX1_threeMoreMeetAt_115 : decode cX1_threeMoreMeetAt 115 = .ok (.iload 5, 2) := by decide +kernel
theorem dX1_threeMoreMeetAt_117 : decode cX1_threeMoreMeetAt 117 = .ok (.ifCond .eq 8, 3) := by decide +kernel
theorem dX1_threeMoreMeetAt_120 : decode cX1_threeMoreMeetAt 120 = .ok (.iload 7, 2) := by decide +kernel
theorem dX1_threeMoreMeetAt_122 : decode cX1_threeMoreMeetAt 122 = .ok (.ifCond .ne 23, 3) := by decide +kernel
theorem dX1_threeMoreMeetAt_125 : decode cX1_threeMoreMeetAt 125 = .ok (.iload 5, 2) := by decide +kernel
theorem dX1_threeMoreMeetAt_127 : decode cX1_threeMoreMeetAt 127 = .ok (.ifCond .eq 8, 3) := by decide +kernel
theorem dX1_threeMoreMeetAt_130 : decode cX1_threeMoreMeetAt 130 = .ok (.iload 8, 2) := by decide +kernel
theorem dX1_threeMoreMeetAt_132 : decode cX1_threeMoreMeetAt 132 = .ok (.ifCond .ne 13, 3) := by decide +kernel
theorem dX1_threeMoreMeetAt_135 : decode cX1_threeMoreMeetAt 135 = .ok (.iload 6, 2) := by decide +kernel
theorem dX1_threeMoreMeetAt_137 : decode cX1_threeMoreMeetAt 137 = .ok (.ifCond .eq 12, 3) := by decide +kernel
theorem dX1_threeMoreMeetAt_140 : decode cX1_threeMoreMeetAt 140 = .ok (.iload 7, 2) := by decide +kernel
theorem dX1_threeMoreMeetAt_142 : decode cX1_threeMoreMeetAt 142 = .ok (.ifCond .eq 7, 3) := by decide +kernel
theorem dX1_threeMoreMeetAt_145 : decode cX1_threeMoreMeetAt 145 = .ok (.iconst 1, 1) := by decide +kernel
theorem dX1_threeMoreMeetAt_146 : decode cX1_threeMoreMeetAt 146 = .ok (.goto 4, 3) := by decide +kernel
theorem dX1_threeMoreMeetAt_149 : decode cX1_threeMoreMeetAt 149 = .ok (.iconst 0, 1) := by decide +kernel
theorem dX1_threeMoreMeetAt_150 : decode cX1_threeMoreMeetAt 150 = .ok (.iadd, 1) := by decide +kernel
theorem dX1_threeMoreMeetAt_151 : decode cX1_threeMoreMeetAt 151 = .ok (.istore_n 3, 1) := by decide +kernel
theorem dX1_threeMoreMeetAt_152 : decode cX1_threeMoreMeetAt 152 = .ok (.iinc 4 1, 3) := by decide +kernel
theorem dX1_threeMoreMeetAt_155 : decode cX1_threeMoreMeetAt 155 = .ok (.goto (-150), 3) := by decide +kernel
theorem dX1_threeMoreMeetAt_158 : decode cX1_threeMoreMeetAt 158 = .ok (.iload_n 3, 1) := by decide +kernel
theorem dX1_threeMoreMeetAt_159 : decode cX1_threeMoreMeetAt 159 = .ok (.iconst 3, 1) := by decide +kernel
theorem dX1_threeMoreMeetAt_160 : decode cX1_threeMoreMeetAt 160 = .ok (.if_icmp .ne 7, 3) := by decide +kernel
theorem dX1_threeMoreMeetAt_163 : decode cX1_threeMoreMeetAt 163 = .ok (.iconst 1, 1) := by decide +kernel
theorem dX1_threeMoreMeetAt_164 : decode cX1_threeMoreMeetAt 164 = .ok (.goto 4, 3) := by decide +kernel
theorem dX1_threeMoreMeetAt_167 : decode cX1_threeMoreMeetAt 167 = .ok (.iconst 0, 1) := by decide +kernel
theorem dX1_threeMoreMeetAt_168 : decode cX1_threeMoreMeetAt 168 = .ok (.ireturn, 1) := by decide +kernel
theorem dX1_sidesAtLine_0 : decode cX1_sidesAtLine 0 = .ok (.iconst 0, 1) := by decide +kernel
theorem dX1_sidesAtLine_1 : decode cX1_sidesAtLine 1 = .ok (.istore_n 3, 1) := by decide +kernel
theorem dX1_sidesAtLine_2 : decode cX1_sidesAtLine 2 = .ok (.iconst 0, 1) := by decide +kernel
theorem dX1_sidesAtLine_3 : decode cX1_sidesAtLine 3 = .ok (.istore 4, 2) := by decide +kernel
theorem dX1_sidesAtLine_5 : decode cX1_sidesAtLine 5 = .ok (.iload 4, 2) := by decide +kernel
theorem dX1_sidesAtLine_7 : decode cX1_sidesAtLine 7 = .ok (.aload_n 0, 1) := by decide +kernel
theorem dX1_sidesAtLine_8 : decode cX1_sidesAtLine 8 = .ok (.getfield 33, 3) := by decide +kernel
theorem dX1_sidesAtLine_11 : decode cX1_sidesAtLine 11 = .ok (.if_icmp .ge 55, 3) := by decide +kernel
theorem dX1_sidesAtLine_14 : decode cX1_sidesAtLine 14 = .ok (.aload_n 0, 1) := by decide +kernel
theorem dX1_sidesAtLine_15 : decode cX1_sidesAtLine 15 = .ok (.iload 4, 2) := by decide +kernel
theorem dX1_sidesAtLine_17 : decode cX1_sidesAtLine 17 = .ok (.invokevirtual 56, 3) := by decide +kernel
theorem dX1_sidesAtLine_20 : decode cX1_sidesAtLine 20 = .ok (.ifCond .eq 40, 3) := by decide +kernel
theorem dX1_sidesAtLine_23 : decode cX1_sidesAtLine 23 = .ok (.aload_n 0, 1) := by decide +kernel
theorem dX1_sidesAtLine_24 : decode cX1_sidesAtLine 24 = .ok (.getfield 24, 3) := by decide +kernel
theorem dX1_sidesAtLine_27 : decode cX1_sidesAtLine 27 = .ok (.iload 4, 2) := by decide +kernel
theorem dX1_sidesAtLine_29 : decode cX1_sidesAtLine 29 = .ok (.iaload, 1) := by decide +kernel
theorem dX1_sidesAtLine_30 : decode cX1_sidesAtLine 30 = .ok (.iload_n 2, 1) := by decide +kernel
theorem dX1_sidesAtLine_31 : decode cX1_sidesAtLine 31 = .ok (.ifCond .eq 13, 3) := by decide +kernel
theorem dX1_sidesAtLine_34 : decode cX1_sidesAtLine 34 = .ok (.aload_n 0, 1) := by decide +kernel
theorem dX1_sidesAtLine_35 : decode cX1_sidesAtLine 35 = .ok (.getfield 9, 3) := by decide +kernel
theorem dX1_sidesAtLine_38 : decode cX1_sidesAtLine 38 = .ok (.iload 4, 2) := by decide +kernel
theorem dX1_sidesAtLine_40 : decode cX1_sidesAtLine 40 = .ok (.iaload, 1) := by decide +kernel
theorem dX1_sidesAtLine_41 : decode cX1_sidesAtLine 41 = .ok (.goto 4, 3) := by decide +kernel
theorem dX1_sidesAtLine_44 : decode cX1_sidesAtLine 44 = .ok (.iconst 0, 1) := by decide +kernel
theorem dX1_sidesAtLine_45 : decode cX1_sidesAtLine 45 = .ok (.iadd, 1) := by decide +kernel
theorem dX1_sidesAtLine_46 : decode cX1_sidesAtLine 46 = .ok (.iload_n 1, 1) := by decide +kernel
theorem dX1_sidesAtLine_47 : decode cX1_sidesAtLine 47 = .ok (.if_icmp .ne 13, 3) := by decide +kernel
theorem dX1_sidesAtLine_50 : decode cX1_sidesAtLine 50 = .ok (.iload_n 3, 1) := by decide +kernel
theorem dX1_sidesAtLine_51 : decode cX1_sidesAtLine 51 = .ok (.aload_n 0, 1) := by decide +kernel
theorem dX1_sidesAtLine_52 : decode cX1_sidesAtLine 52 = .ok (.getfield 9, 3) := by decide +kernel
theorem dX1_sidesAtLine_55 : decode cX1_sidesAtLine 55 = .ok (.iload 4, 2) := by decide +kernel
theorem dX1_sidesAtLine_57 : decode cX1_sidesAtLine 57 = .ok (.iaload, 1) := by decide +kernel
theorem dX1_sidesAtLine_58 : decode cX1_sidesAtLine 58 = .ok (.iadd, 1) := by decide +kernel
theorem dX1_sidesAtLine_59 : decode cX1_sidesAtLine 59 = .ok (.istore_n 3, 1) := by decide +kernel
theorem dX1_sidesAtLine_60 : decode cX1_sidesAtLine 60 = .ok (.iinc 4 1, 3) := by decide +kernel
theorem dX1_sidesAtLine_63 : decode cX1_sidesAtLine 63 = .ok (.goto (-58), 3) := by decide +kernel
theorem dX1_sidesAtLine_66 : decode cX1_sidesAtLine 66 = .ok (.iload_n 3, 1) := by decide +kernel
theorem dX1_sidesAtLine_67 : decode cX1_sidesAtLine 67 = .ok (.ireturn, 1) := by decide +kernel
theorem dX1_twosOfOneSide_0 : decode cX1_twosOfOneSide 0 = .ok (.iconst 0, 1) := by decide +kernel
theorem dX1_twosOfOneSide_1 : decode cX1_twosOfOneSide 1 = .ok (.istore_n 1, 1) := by decide +kernel
theorem dX1_twosOfOneSide_2 : decode cX1_twosOfOneSide 2 = .ok (.iconst 0, 1) := by decide +kernel
theorem dX1_twosOfOneSide_3 : decode cX1_twosOfOneSide 3 = .ok (.istore_n 2, 1) := by decide +kernel
theorem dX1_twosOfOneSide_4 : decode cX1_twosOfOneSide 4 = .ok (.iload_n 2, 1) := by decide +kernel
theorem dX1_twosOfOneSide_5 : decode cX1_twosOfOneSide 5 = .ok (.aload_n 0, 1) := by decide +kernel
theorem dX1_twosOfOneSide_6 : decode cX1_twosOfOneSide 6 = .ok (.getfield 33, 3) := by decide +kernel
theorem dX1_twosOfOneSide_9 : decode cX1_twosOfOneSide 9 = .ok (.if_icmp .ge 66, 3) := by decide +kernel
theorem dX1_twosOfOneSide_12 : decode cX1_twosOfOneSide 12 = .ok (.iload_n 2, 1) := by decide +kernel
theorem dX1_twosOfOneSide_13 : decode cX1_twosOfOneSide 13 = .ok (.iconst 1, 1) := by decide +kernel
theorem dX1_twosOfOneSide_14 : decode cX1_twosOfOneSide 14 = .ok (.iadd, 1) := by decide +kernel
theorem dX1_twosOfOneSide_15 : decode cX1_twosOfOneSide 15 = .ok (.istore_n 3, 1) := by decide +kernel
theorem dX1_twosOfOneSide_16 : decode cX1_twosOfOneSide 16 = .ok (.iload_n 3, 1) := by decide +kernel
theorem dX1_twosOfOneSide_17 : decode cX1_twosOfOneSide 17 = .ok (.aload_n 0, 1) := by decide +kernel
theorem dX1_twosOfOneSide_18 : decode cX1_twosOfOneSide 18 = .ok (.getfield 33, 3) := by decide +kernel
theorem dX1_twosOfOneSide_21 : decode cX1_twosOfOneSide 21 = .ok (.if_icmp .ge 48, 3) := by decide +kernel
theorem dX1_twosOfOneSide_24 : decode cX1_twosOfOneSide 24 = .ok (.iload_n 1, 1) := by decide +kernel
theorem dX1_twosOfOneSide_25 : decode cX1_twosOfOneSide 25 = .ok (.aload_n 0, 1) := by decide +kernel
theorem dX1_twosOfOneSide_26 : decode cX1_twosOfOneSide 26 = .ok (.iload_n 2, 1) := by decide +kernel
theorem dX1_twosOfOneSide_27 : decode cX1_twosOfOneSide 27 = .ok (.invokevirtual 56, 3) := by decide +kernel
theorem dX1_twosOfOneSide_30 : decode cX1_twosOfOneSide 30 = .ok (.ifCond .eq 30, 3) := by decide +kernel
theorem dX1_twosOfOneSide_33 : decode cX1_twosOfOneSide 33 = .ok (.aload_n 0, 1) := by decide +kernel
theorem dX1_twosOfOneSide_34 : decode cX1_twosOfOneSide 34 = .ok (.iload_n 3, 1) := by decide +kernel
theorem dX1_twosOfOneSide_35 : decode cX1_twosOfOneSide 35 = .ok (.invokevirtual 56, 3) := by decide +kernel
theorem dX1_twosOfOneSide_38 : decode cX1_twosOfOneSide 38 = .ok (.ifCond .eq 22, 3) := by decide +kernel
theorem dX1_twosOfOneSide_41 : decode cX1_twosOfOneSide 41 = .ok (.aload_n 0, 1) := by decide +kernel
theorem dX1_twosOfOneSide_42 : decode cX1_twosOfOneSide 42 = .ok (.getfield 9, 3) := by decide +kernel
theorem dX1_twosOfOneSide_45 : decode cX1_twosOfOneSide 45 = .ok (.iload_n 2, 1) := by decide +kernel
theorem dX1_twosOfOneSide_46 : decode cX1_twosOfOneSide 46 = .ok (.iaload, 1) := by decide +kernel
theorem dX1_twosOfOneSide_47 : decode cX1_twosOfOneSide 47 = .ok (.aload_n 0, 1) := by decide +kernel
theorem dX1_twosOfOneSide_48 : decode cX1_twosOfOneSide 48 = .ok (.getfield 9, 3) := by decide +kernel
theorem dX1_twosOfOneSide_51 : decode cX1_twosOfOneSide 51 = .ok (.iload_n 3, 1) := by decide +kernel
theorem dX1_twosOfOneSide_52 : decode cX1_twosOfOneSide 52 = .ok (.iaload, 1) := by decide +kernel
theorem dX1_twosOfOneSide_53 : decode cX1_twosOfOneSide 53 = .ok (.if_icmp .ne 7, 3) := by decide +kernel
theorem dX1_twosOfOneSide_56 : decode cX1_twosOfOneSide 56 = .ok (.iconst 1, 1) := by decide +kernel
theorem dX1_twosOfOneSide_57 : decode cX1_twosOfOneSide 57 = .ok (.goto 4, 3) := by decide +kernel
theorem dX1_twosOfOneSide_60 : decode cX1_twosOfOneSide 60 = .ok (.iconst 0, 1) := by decide +kernel
theorem dX1_twosOfOneSide_61 : decode cX1_twosOfOneSide 61 = .ok (.iadd, 1) := by decide +kernel
theorem dX1_twosOfOneSide_62 : decode cX1_twosOfOneSide 62 = .ok (.istore_n 1, 1) := by decide +kernel
theorem dX1_twosOfOneSide_63 : decode cX1_twosOfOneSide 63 = .ok (.iinc 3 1, 3) := by decide +kernel
theorem dX1_twosOfOneSide_66 : decode cX1_twosOfOneSide 66 = .ok (.goto (-50), 3) := by decide +kernel
theorem dX1_twosOfOneSide_69 : decode cX1_twosOfOneSide 69 = .ok (.iinc 2 1, 3) := by decide +kernel
theorem dX1_twosOfOneSide_72 : decode cX1_twosOfOneSide 72 = .ok (.goto (-68), 3) := by decide +kernel
theorem dX1_twosOfOneSide_75 : decode cX1_twosOfOneSide 75 = .ok (.iload_n 1, 1) := by decide +kernel
theorem dX1_twosOfOneSide_76 : decode cX1_twosOfOneSide 76 = .ok (.ireturn, 1) := by decide +kernel
theorem dX2_init_0 : decode cX2_init 0 = .ok (.aload_n 0, 1) := by decide +kernel
theorem dX2_init_1 : decode cX2_init 1 = .ok (.invokespecial 3, 3) := by decide +kernel
theorem dX2_init_4 : decode cX2_init 4 = .ok (.aload_n 0, 1) := by decide +kernel
theorem dX2_init_5 : decode cX2_init 5 = .ok (.new 9, 3) := by decide +kernel
theorem dX2_init_8 : decode cX2_init 8 = .ok (.dup, 1) := by decide +kernel
theorem dX2_init_9 : decode cX2_init 9 = .ok (.invokespecial 11, 3) := by decide +kernel
theorem dX2_init_12 : decode cX2_init 12 = .ok (.putfield 12, 3) := by decide +kernel
theorem dX2_init_15 : decode cX2_init 15 = .ok (.return_, 1) := by decide +kernel
theorem dX2_costOf_0 : decode cX2_costOf 0 = .ok (.aload_n 0, 1) := by decide +kernel
theorem dX2_costOf_1 : decode cX2_costOf 1 = .ok (.getfield 12, 3) := by decide +kernel
theorem dX2_costOf_4 : decode cX2_costOf 4 = .ok (.aload_n 2, 1) := by decide +kernel
theorem dX2_costOf_5 : decode cX2_costOf 5 = .ok (.iload_n 3, 1) := by decide +kernel
theorem dX2_costOf_6 : decode cX2_costOf 6 = .ok (.iload 4, 2) := by decide +kernel
theorem dX2_costOf_8 : decode cX2_costOf 8 = .ok (.iload 5, 2) := by decide +kernel
theorem dX2_costOf_10 : decode cX2_costOf 10 = .ok (.invokevirtual 18, 3) := by decide +kernel
theorem dX2_costOf_13 : decode cX2_costOf 13 = .ok (.aload_n 0, 1) := by decide +kernel
theorem dX2_costOf_14 : decode cX2_costOf 14 = .ok (.aload_n 1, 1) := by decide +kernel
theorem dX2_costOf_15 : decode cX2_costOf 15 = .ok (.iconst 0, 1) := by decide +kernel
theorem dX2_costOf_16 : decode cX2_costOf 16 = .ok (.invokevirtual 24, 3) := by decide +kernel
theorem dX2_costOf_19 : decode cX2_costOf 19 = .ok (.ifCond .eq 24, 3) := by decide +kernel
theorem dX2_costOf_22 : decode cX2_costOf 22 = .ok (.iconst 0, 1) := by decide +kernel
theorem dX2_costOf_23 : decode cX2_costOf 23 = .ok (.bipush 99, 2) := by decide +kernel
theorem dX2_costOf_25 : decode cX2_costOf 25 = .ok (.aload_n 0, 1) := by decide +kernel
theorem dX2_costOf_26 : decode cX2_costOf 26 = .ok (.getfield 12, 3) := by decide +kernel
theorem dX2_costOf_29 : decode cX2_costOf 29 = .ok (.getfield 28, 3) := by decide +kernel
theorem dX2_costOf_32 : decode cX2_costOf 32 = .ok (.iconst 0, 1) := by decide +kernel
theorem dX2_costOf_33 : decode cX2_costOf 33 = .ok (.iaload, 1) := by decide +kernel
theorem dX2_costOf_34 : decode cX2_costOf 34 = .ok (.invokestatic 32, 3) := by decide +kernel
theorem dX2_costOf_37 : decode cX2_costOf 37 = .ok (.invokestatic 38, 3) := by decide +kernel
theorem dX2_costOf_40 : decode cX2_costOf 40 = .ok (.goto 9, 3) := by decide +kernel
theorem dX2_costOf_43 : decode cX2_costOf 43 = .ok (.aload_n 2, 1) := by decide +kernel
theorem dX2_costOf_44 : decode cX2_costOf 44 = .ok (.getfield 41, 3) := by decide +kernel
theorem dX2_costOf_47 : decode cX2_costOf 47 = .ok (.iload_n 3, 1) := by decide +kernel
theorem dX2_costOf_48 : decode cX2_costOf 48 = .ok (.iaload, 1) := by decide +kernel
theorem dX2_costOf_49 : decode cX2_costOf 49 = .ok (.ireturn, 1) := by decide +kernel
theorem dX2_wearOf_0 : decode cX2_wearOf 0 = .ok (.aload_n 0, 1) := by decide +kernel
theorem dX2_wearOf_1 : decode cX2_wearOf 1 = .ok (.getfield 12, 3) := by decide +kernel
theorem dX2_wearOf_4 : decode cX2_wearOf 4 = .ok (.aload_n 2, 1) := by decide +kernel
theorem dX2_wearOf_5 : decode cX2_wearOf 5 = .ok (.iload_n 3, 1) := by decide +kernel
theorem dX2_wearOf_6 : decode cX2_wearOf 6 = .ok (.aload_n 2, 1) := by decide +kernel
theorem dX2_wearOf_7 : decode cX2_wearOf 7 = .ok (.getfield 46, 3) := by decide +kernel
theorem dX2_wearOf_10 : decode cX2_wearOf 10 = .ok (.iload_n 3, 1) := by decide +kernel
theorem dX2_wearOf_11 : decode cX2_wearOf 11 = .ok (.iaload, 1) := by decide +kernel
theorem dX2_wearOf_12 : decode cX2_wearOf 12 = .ok (.aload_n 2, 1) := by decide +kernel
theorem dX2_wearOf_13 : decode cX2_wearOf 13 = .ok (.getfield 49, 3) := by decide +kernel
theorem dX2_wearOf_16 : decode cX2_wearOf 16 = .ok (.iload_n 3, 1) := by decide +kernel
theorem dX2_wearOf_17 : decode cX2_wearOf 17 = .ok (.iaload, 1) := by decide +kernel
theorem dX2_wearOf_18 : decode cX2_wearOf 18 = .ok (.invokevirtual 18, 3) := by decide +kernel
theorem dX2_wearOf_21 : decode cX2_wearOf 21 = .ok (.aload_n 0, 1) := by decide +kernel
theorem dX2_wearOf_22 : decode cX2_wearOf 22 = .ok (.aload_n 1, 1) := by decide +kernel
theorem dX2_wearOf_23 : decode cX2_wearOf 23 = .ok (.iconst 1, 1) := by decide +kernel
theorem dX2_wearOf_24 : decode cX2_wearOf 24 = .ok (.invokevirtual 24, 3) := by decide +kernel
theorem dX2_wearOf_27 : decode cX2_wearOf 27 = .ok (.ifCond .eq 24, 3) := by decide +kernel
theorem dX2_wearOf_30 : decode cX2_wearOf 30 = .ok (.iconst 0, 1) := by decide +kernel
theorem dX2_wearOf_31 : decode cX2_wearOf 31 = .ok (.bipush 9, 2) := by decide +kernel
theorem dX2_wearOf_33 : decode cX2_wearOf 33 = .ok (.aload_n 0, 1) := by decide +kernel
theorem dX2_wearOf_34 : decode cX2_wearOf 34 = .ok (.getfield 12, 3) := by decide +kernel
theorem dX2_wearOf_37 : decode cX2_wearOf 37 = .ok (.getfield 28, 3) := by decide +kernel
theorem dX2_wearOf_40 : decode cX2_wearOf 40 = .ok (.iconst 0, 1) := by decide +kernel
theorem dX2_wearOf_41 : decode cX2_wearOf 41 = .ok (.iaload, 1) := by decide +kernel
theorem dX2_wearOf_42 : decode cX2_wearOf 42 = .ok (.invokestatic 32, 3) := by decide +kernel
theorem dX2_wearOf_45 : decode cX2_wearOf 45 = .ok (.invokestatic 38, 3) := by decide +kernel
theorem dX2_wearOf_48 : decode cX2_wearOf 48 = .ok (.goto 4, 3) := by decide +kernel
theorem dX2_wearOf_51 : decode cX2_wearOf 51 = .ok (.iconst 1, 1) := by decide +kernel
theorem dX2_wearOf_52 : decode cX2_wearOf 52 = .ok (.ireturn, 1) := by decide +kernel
theorem dX2_isBarred_0 : decode cX2_isBarred 0 = .ok (.aload_n 0, 1) := by decide +kernel
theorem dX2_isBarred_1 : decode cX2_isBarred 1 = .ok (.getfield 12, 3) := by decide +kernel
theorem dX2_isBarred_4 : decode cX2_isBarred 4 = .ok (.aload_n 2, 1) := by decide +kernel
theorem dX2_isBarred_5 : decode cX2_isBarred 5 = .ok (.iload_n 3, 1) := by decide +kernel
theorem dX2_isBarred_6 : decode cX2_isBarred 6 = .ok (.iload 4, 2) := by decide +kernel
theorem dX2_isBarred_8 : decode cX2_isBarred 8 = .ok (.iload 5, 2) := by decide +kernel
theorem dX2_isBarred_10 : decode cX2_isBarred 10 = .ok (.invokevirtual 18, 3) := by decide +kernel
theorem dX2_isBarred_13 : decode cX2_isBarred 13 = .ok (.aload_n 0, 1) := by decide +kernel
theorem dX2_isBarred_14 : decode cX2_isBarred 14 = .ok (.aload_n 1, 1) := by decide +kernel
theorem dX2_isBarred_15 : decode cX2_isBarred 15 = .ok (.iconst 2, 1) := by decide +kernel
theorem dX2_isBarred_16 : decode cX2_isBarred 16 = .ok (.invokevirtual 24, 3) := by decide +kernel
theorem dX2_isBarred_19 : decode cX2_isBarred 19 = .ok (.ireturn, 1) := by decide +kernel
theorem dX2_holds_0 : decode cX2_holds 0 = .ok (.aload_n 1, 1) := by decide +kernel
theorem dX2_holds_1 : decode cX2_holds 1 = .ok (.ifnonnull 7, 3) := by decide +kernel
theorem dX2_holds_4 : decode cX2_holds 4 = .ok (.iconst (-1), 1) := by decide +kernel
theorem dX2_holds_5 : decode cX2_holds 5 = .ok (.goto 9, 3) := by decide +kernel
theorem dX2_holds_8 : decode cX2_holds 8 = .ok (.aload_n 1, 1) := by decide +kernel
theorem dX2_holds_9 : decode cX2_holds 9 = .ok (.getfield 52, 3) := by decide +kernel
theorem dX2_holds_12 : decode cX2_holds 12 = .ok (.iconst 1, 1) := by decide +kernel
theorem dX2_holds_13 : decode cX2_holds 13 = .ok (.isub, 1) := by decide +kernel
theorem dX2_holds_14 : decode cX2_holds 14 = .ok (.istore_n 3, 1) := by decide +kernel
theorem dX2_holds_15 : decode cX2_holds 15 = .ok (.iload_n 3, 1) := by decide +kernel
theorem dX2_holds_16 : decode cX2_holds 16 = .ok (.ifCond .lt 45, 3) := by decide +kernel
theorem dX2_holds_19 : decode cX2_holds 19 = .ok (.aload_n 1, 1) := by decide +kernel
theorem dX2_holds_20 : decode cX2_holds 20 = .ok (.iload_n 3, 1) := by decide +kernel
theorem dX2_holds_21 : decode cX2_holds 21 = .ok (.iconst 0, 1) := by decide +kernel
theorem dX2_holds_22 : decode cX2_holds 22 = .ok (.invokevirtual 58, 3) := by decide +kernel
theorem dX2_holds_25 : decode cX2_holds 25 = .ok (.iload_n 2, 1) := by decide +kernel
theorem dX2_holds_26 : decode cX2_holds 26 = .ok (.if_icmp .ne 29, 3) := by decide +kernel
theorem dX2_holds_29 : decode cX2_holds 29 = .ok (.aload_n 0, 1) := by decide +kernel
theorem dX2_holds_30 : decode cX2_holds 30 = .ok (.getfield 12, 3) := by decide +kernel
theorem dX2_holds_33 : decode cX2_holds 33 = .ok (.aload_n 1, 1) := by decide +kernel
theorem dX2_holds_34 : decode cX2_holds 34 = .ok (.iload_n 3, 1) := by decide +kernel
theorem dX2_holds_35 : decode cX2_holds 35 = .ok (.invokevirtual 61, 3) := by decide +kernel
theorem dX2_holds_38 : decode cX2_holds 38 = .ok (.ifCond .eq 17, 3) := by decide +kernel
theorem dX2_holds_41 : decode cX2_holds 41 = .ok (.aload_n 0, 1) := by decide +kernel
theorem dX2_holds_42 : decode cX2_holds 42 = .ok (.getfield 12, 3) := by decide +kernel
theorem dX2_holds_45 : decode cX2_holds 45 = .ok (.aload_n 1, 1) := by decide +kernel
theorem dX2_holds_46 : decode cX2_holds 46 = .ok (.iload_n 3, 1) := by decide +kernel
theorem dX2_holds_47 : decode cX2_holds 47 = .ok (.invokevirtual 64, 3) := by decide +kernel
theorem dX2_holds_50 : decode cX2_holds 50 = .ok (.ifCond .eq 5, 3) := by decide +kernel
theorem dX2_holds_53 : decode cX2_holds 53 = .ok (.iconst 1, 1) := by decide +kernel
theorem dX2_holds_54 : decode cX2_holds 54 = .ok (.ireturn, 1) := by decide +kernel
theorem dX2_holds_55 : decode cX2_holds 55 = .ok (.iinc 3 (-1), 3) := by decide +kernel
theorem dX2_holds_58 : decode cX2_holds 58 = .ok (.goto (-43), 3) := by decide +kernel
theorem dX2_holds_61 : decode cX2_holds 61 = .ok (.iconst 0, 1) := by decide +kernel
theorem dX2_holds_62 : decode cX2_holds 62 = .ok (.ireturn, 1) := by decide +kernel
theorem dX3_init_0 : decode cX3_init 0 = .ok (.aload_n 0, 1) := by decide +kernel
theorem dX3_init_1 : decode cX3_init 1 = .ok (.invokespecial 3, 3) := by decide +kernel
theorem dX3_init_4 : decode cX3_init 4 = .ok (.aload_n 0, 1) := by decide +kernel
theorem dX3_init_5 : decode cX3_init 5 = .ok (.bipush 10, 2) := by decide +kernel
theorem dX3_init_7 : decode cX3_init 7 = .ok (.putfield 11, 3) := by decide +kernel
theorem dX3_init_10 : decode cX3_init 10 = .ok (.aload_n 0, 1) := by decide +kernel
theorem dX3_init_11 : decode cX3_init 11 = .ok (.sipush 1024, 3) := by decide +kernel
theorem dX3_init_14 : decode cX3_init 14 = .ok (.newarray .long, 2) := by decide +kernel
theorem dX3_init_16 : decode cX3_init 16 = .ok (.putfield 15, 3) := by decide +kernel
theorem dX3_init_19 : decode cX3_init 19 = .ok (.aload_n 0, 1) := by decide +kernel
theorem dX3_init_20 : decode cX3_init 20 = .ok (.sipush 1024, 3) := by decide +kernel
theorem dX3_init_23 : decode cX3_init 23 = .ok (.newarray .int, 2) := by decide +kernel
theorem dX3_init_25 : decode cX3_init 25 = .ok (.putfield 19, 3) := by decide +kernel
theorem dX3_init_28 : decode cX3_init 28 = .ok (.aload_n 0, 1) := by decide +kernel
theorem dX3_init_29 : decode cX3_init 29 = .ok (.sipush 1024, 3) := by decide +kernel
theorem dX3_init_32 : decode cX3_init 32 = .ok (.newarray .int, 2) := by decide +kernel
theorem dX3_init_34 : decode cX3_init 34 = .ok (.putfield 23, 3) := by decide +kernel
theorem dX3_init_37 : decode cX3_init 37 = .ok (.aload_n 0, 1) := by decide +kernel
theorem dX3_init_38 : decode cX3_init 38 = .ok (.sipush 512, 3) := by decide +kernel
theorem dX3_init_41 : decode cX3_init 41 = .ok (.newarray .int, 2) := by decide +kernel
theorem dX3_init_43 : decode cX3_init 43 = .ok (.putfield 26, 3) := by decide +kernel
theorem dX3_init_46 : decode cX3_init 46 = .ok (.aload_n 0, 1) := by decide +kernel
theorem dX3_init_47 : decode cX3_init 47 = .ok (.iconst 0, 1) := by decide +kernel
theorem dX3_init_48 : decode cX3_init 48 = .ok (.putfield 29, 3) := by decide +kernel
theorem dX3_init_51 : decode cX3_init 51 = .ok (.aload_n 0, 1) := by decide +kernel
theorem dX3_init_52 : decode cX3_init 52 = .ok (.iconst 0, 1) := by decide +kernel
theorem dX3_init_53 : decode cX3_init 53 = .ok (.putfield 32, 3) := by decide +kernel
theorem dX3_init_56 : decode cX3_init 56 = .ok (.aload_n 0, 1) := by decide +kernel
theorem dX3_init_57 : decode cX3_init 57 = .ok (.getfield 15, 3) := by decide +kernel
theorem dX3_init_60 : decode cX3_init 60 = .ok (.ldc2_w 36, 3) := by decide +kernel
theorem dX3_init_63 : decode cX3_init 63 = .ok (.invokestatic 38, 3) := by decide +kernel
theorem dX3_init_66 : decode cX3_init 66 = .ok (.return_, 1) := by decide +kernel
theorem dX3_clear_0 : decode cX3_clear 0 = .ok (.iconst 0, 1) := by decide +kernel
theorem dX3_clear_1 : decode cX3_clear 1 = .ok (.istore_n 1, 1) := by decide +kernel
theorem dX3_clear_2 : decode cX3_clear 2 = .ok (.iload_n 1, 1) := by decide +kernel
theorem dX3_clear_3 : decode cX3_clear 3 = .ok (.aload_n 0, 1) := by decide +kernel
theorem dX3_clear_4 : decode cX3_clear 4 = .ok (.getfield 29, 3) := by decide +kernel
theorem dX3_clear_7 : decode cX3_clear 7 = .ok (.if_icmp .ge 23, 3) := by decide +kernel
theorem dX3_clear_10 : decode cX3_clear 10 = .ok (.aload_n 0, 1) := by decide +kernel
theorem dX3_clear_11 : decode cX3_clear 11 = .ok (.getfield 15, 3) := by decide +kernel
theorem dX3_clear_14 : decode cX3_clear 14 = .ok (.aload_n 0, 1) := by decide +kernel
theorem dX3_clear_15 : decode cX3_clear 15 = .ok (.getfield 26, 3) := by decide +kernel
theorem dX3_clear_18 : decode cX3_clear 18 = .ok (.iload_n 1, 1) := by decide +kernel
theorem dX3_clear_19 : decode cX3_clear 19 = .ok (.iaload, 1) := by decide +kernel
theorem dX3_clear_20 : decode cX3_clear 20 = .ok (.ldc2_w 36, 3) := by decide +kernel
theorem dX3_clear_23 : decode cX3_clear 23 = .ok (.lastore, 1) := by decide +kernel
theorem dX3_clear_24 : decode cX3_clear 24 = .ok (.iinc 1 1, 3) := by decide +kernel
theorem dX3_clear_27 : decode cX3_clear 27 = .ok (.goto (-25), 3) := by decide +kernel
theorem dX3_clear_30 : decode cX3_clear 30 = .ok (.aload_n 0, 1) := by decide +kernel
theorem dX3_clear_31 : decode cX3_clear 31 = .ok (.iconst 0, 1) := by decide +kernel
theorem dX3_clear_32 : decode cX3_clear 32 = .ok (.putfield 29, 3) := by decide +kernel
theorem dX3_clear_35 : decode cX3_clear 35 = .ok (.aload_n 0, 1) := by decide +kernel
theorem dX3_clear_36 : decode cX3_clear 36 = .ok (.iconst 0, 1) := by decide +kernel
theorem dX3_clear_37 : decode cX3_clear 37 = .ok (.putfield 32, 3) := by decide +kernel
theorem dX3_clear_40 : decode cX3_clear 40 = .ok (.return_, 1) := by decide +kernel
theorem dX3_slotFor_0 : decode cX3_slotFor 0 = .ok (.lload_n 1, 1) := by decide +kernel
theorem dX3_slotFor_1 : decode cX3_slotFor 1 = .ok (.ldc2_w 44, 3) := by decide +kernel
theorem dX3_slotFor_4 : decode cX3_slotFor 4 = .ok (.lmul, 1) := by decide +kernel
theorem dX3_slotFor_5 : decode cX3_slotFor 5 = .ok (.bipush 64, 2) := by decide +kernel
theorem dX3_slotFor_7 : decode cX3_slotFor 7 = .ok (.aload_n 0, 1) := by decide +kernel
theorem dX3_slotFor_8 : decode cX3_slotFor 8 = .ok (.getfield 11, 3) := by decide +kernel
theorem dX3_slotFor_11 : decode cX3_slotFor 11 = .ok (.isub, 1) := by decide +kernel
theorem dX3_slotFor_12 : decode cX3_slotFor 12 = .ok (.lushr, 1) := by decide +kernel
theorem dX3_slotFor_13 : decode cX3_slotFor 13 = .ok (.l2i, 1) := by decide +kernel
theorem dX3_slotFor_14 : decode cX3_slotFor 14 = .ok (.istore_n 3, 1) := by decide +kernel
theorem dX3_slotFor_15 : decode cX3_slotFor 15 = .ok (.iconst 0, 1) := by decide +kernel
theorem dX3_slotFor_16 : decode cX3_slotFor 16 = .ok (.istore 4, 2) := by decide +kernel
theorem dX3_slotFor_18 : decode cX3_slotFor 18 = .ok (.iload 4, 2) := by decide +kernel
theorem dX3_slotFor_20 : decode cX3_slotFor 20 = .ok (.aload_n 0, 1) := by decide +kernel
theorem dX3_slotFor_21 : decode cX3_slotFor 21 = .ok (.getfield 15, 3) := by decide +kernel
theorem dX3_slotFor_24 : decode cX3_slotFor 24 = .ok (.arraylength, 1) := by decide +kernel
theorem dX3_slotFor_25 : decode cX3_slotFor 25 = .ok (.if_icmp .ge 45, 3) := by decide +kernel
theorem dX3_slotFor_28 : decode cX3_slotFor 28 = .ok (.aload_n 0, 1) := by decide +kernel
theorem dX3_slotFor_29 : decode cX3_slotFor 29 = .ok (.getfield 15, 3) := by decide +kernel
theorem dX3_slotFor_32 : decode cX3_slotFor 32 = .ok (.iload_n 3, 1) := by decide +kernel
theorem dX3_slotFor_33 : decode cX3_slotFor 33 = .ok (.laload, 1) := by decide +kernel
theorem dX3_slotFor_34 : decode cX3_slotFor 34 = .ok (.ldc2_w 36, 3) := by decide +kernel
theorem dX3_slotFor_37 : decode cX3_slotFor 37 = .ok (.lcmp, 1) := by decide +kernel
theorem dX3_slotFor_38 : decode cX3_slotFor 38 = .ok (.ifCond .eq 32, 3) := by decide +kernel
theorem dX3_slotFor_41 : decode cX3_slotFor 41 = .ok (.aload_n 0, 1) := by decide +kernel
theorem dX3_slotFor_42 : decode cX3_slotFor 42 = .ok (.getfield 15, 3) := by decide +kernel
theorem dX3_slotFor_45 : decode cX3_slotFor 45 = .ok (.iload_n 3, 1) := by decide +kernel
theorem dX3_slotFor_46 : decode cX3_slotFor 46 = .ok (.laload, 1) := by decide +kernel
theorem dX3_slotFor_47 : decode cX3_slotFor 47 = .ok (.lload_n 1, 1) := by decide +kernel
theorem dX3_slotFor_48 : decode cX3_slotFor 48 = .ok (.lcmp, 1) := by decide +kernel
theorem dX3_slotFor_49 : decode cX3_slotFor 49 = .ok (.ifCond .eq 21, 3) := by decide +kernel
theorem dX3_slotFor_52 : decode cX3_slotFor 52 = .ok (.iload_n 3, 1) := by decide +kernel
theorem dX3_slotFor_53 : decode cX3_slotFor 53 = .ok (.iconst 1, 1) := by decide +kernel
theorem dX3_slotFor_54 : decode cX3_slotFor 54 = .ok (.iadd, 1) := by decide +kernel
theorem dX3_slotFor_55 : decode cX3_slotFor 55 = .ok (.aload_n 0, 1) := by decide +kernel
theorem dX3_slotFor_56 : decode cX3_slotFor 56 = .ok (.getfield 15, 3) := by decide +kernel
theorem dX3_slotFor_59 : decode cX3_slotFor 59 = .ok (.arraylength, 1) := by decide +kernel
theorem dX3_slotFor_60 : decode cX3_slotFor 60 = .ok (.iconst 1, 1) := by decide +kernel
theorem dX3_slotFor_61 : decode cX3_slotFor 61 = .ok (.isub, 1) := by decide +kernel
theorem dX3_slotFor_62 : decode cX3_slotFor 62 = .ok (.iand, 1) := by decide +kernel
theorem dX3_slotFor_63 : decode cX3_slotFor 63 = .ok (.istore_n 3, 1) := by decide +kernel
theorem dX3_slotFor_64 : decode cX3_slotFor 64 = .ok (.iinc 4 1, 3) := by decide +kernel
theorem dX3_slotFor_67 : decode cX3_slotFor 67 = .ok (.goto (-49), 3) := by decide +kernel
theorem dX3_slotFor_70 : decode cX3_slotFor 70 = .ok (.iload_n 3, 1) := by decide +kernel
theorem dX3_slotFor_71 : decode cX3_slotFor 71 = .ok (.ireturn, 1) := by decide +kernel
theorem dX3_find_0 : decode cX3_find 0 = .ok (.aload_n 0, 1) := by decide +kernel
theorem dX3_find_1 : decode cX3_find 1 = .ok (.lload_n 1, 1) := by decide +kernel
theorem dX3_find_2 : decode cX3_find 2 = .ok (.invokevirtual 46, 3) := by decide +kernel
theorem dX3_find_5 : decode cX3_find 5 = .ok (.istore_n 3, 1) := by decide +kernel
theorem dX3_find_6 : decode cX3_find 6 = .ok (.aload_n 0, 1) := by decide +kernel
theorem dX3_find_7 : decode cX3_find 7 = .ok (.getfield 15, 3) := by decide +kernel
theorem dX3_find_10 : decode cX3_find 10 = .ok (.iload_n 3, 1) := by decide +kernel
theorem dX3_find_11 : decode cX3_find 11 = .ok (.laload, 1) := by decide +kernel
theorem dX3_find_12 : decode cX3_find 12 = .ok (.lload_n 1, 1) := by decide +kernel
theorem dX3_find_13 : decode cX3_find 13 = .ok (.lcmp, 1) := by decide +kernel
theorem dX3_find_14 : decode cX3_find 14 = .ok (.ifCond .ne 7, 3) := by decide +kernel
theorem dX3_find_17 : decode cX3_find 17 = .ok (.iload_n 3, 1) := by decide +kernel
theorem dX3_find_18 : decode cX3_find 18 = .ok (.goto 4, 3) := by decide +kernel
theorem dX3_find_21 : decode cX3_find 21 = .ok (.iconst (-1), 1) := by decide +kernel
theorem dX3_find_22 : decode cX3_find 22 = .ok (.ireturn, 1) := by decide +kernel
theorem dX3_keep_0 : decode cX3_keep 0 = .ok (.aload_n 0, 1) := by decide +kernel
theorem dX3_keep_1 : decode cX3_keep 1 = .ok (.getfield 29, 3) := by decide +kernel
theorem dX3_keep_4 : decode cX3_keep 4 = .ok (.aload_n 0, 1) := by decide +kernel
theorem dX3_keep_5 : decode cX3_keep 5 = .ok (.getfield 26, 3) := by decide +kernel
theorem dX3_keep_8 : decode cX3_keep 8 = .ok (.arraylength, 1) := by decide +kernel
theorem dX3_keep_9 : decode cX3_keep 9 = .ok (.if_icmp .lt 16, 3) := by decide +kernel
theorem dX3_keep_12 : decode cX3_keep 12 = .ok (.aload_n 0, 1) := by decide +kernel
theorem dX3_keep_13 : decode cX3_keep 13 = .ok (.getfield 11, 3) := by decide +kernel
theorem dX3_keep_16 : decode cX3_keep 16 = .ok (.bipush 14, 2) := by decide +kernel
theorem dX3_keep_18 : decode cX3_keep 18 = .ok (.if_icmp .ge 7, 3) := by decide +kernel
theorem dX3_keep_21 : decode cX3_keep 21 = .ok (.aload_n 0, 1) := by decide +kernel
theorem dX3_keep_22 : decode cX3_keep 22 = .ok (.invokevirtual 50, 3) := by decide +kernel
theorem dX3_keep_25 : decode cX3_keep 25 = .ok (.aload_n 0, 1) := by decide +kernel
theorem dX3_keep_26 : decode cX3_keep 26 = .ok (.getfield 29, 3) := by decide +kernel
theorem dX3_keep_29 : decode cX3_keep 29 = .ok (.aload_n 0, 1) := by decide +kernel
theorem dX3_keep_30 : decode cX3_keep 30 = .ok (.getfield 26, 3) := by decide +kernel
theorem dX3_keep_33 : decode cX3_keep 33 = .ok (.arraylength, 1) := by decide +kernel
theorem dX3_keep_34 : decode cX3_keep 34 = .ok (.if_icmp .lt 9, 3) := by decide +kernel
theorem dX3_keep_37 : decode cX3_keep 37 = .ok (.aload_n 0, 1) := by decide +kernel
theorem dX3_keep_38 : decode cX3_keep 38 = .ok (.iconst 1, 1) := by decide +kernel
theorem dX3_keep_39 : decode cX3_keep 39 = .ok (.putfield 32, 3) := by decide +kernel
theorem dX3_keep_42 : decode cX3_keep 42 = .ok (.return_, 1) := by decide +kernel
theorem dX3_keep_43 : decode cX3_keep 43 = .ok (.aload_n 0, 1) := by decide +kernel
theorem dX3_keep_44 : decode cX3_keep 44 = .ok (.lload_n 1, 1) := by decide +kernel
theorem dX3_keep_45 : decode cX3_keep 45 = .ok (.iload_n 3, 1) := by decide +kernel
theorem dX3_keep_46 : decode cX3_keep 46 = .ok (.aload_n 0, 1) := by decide +kernel
theorem dX3_keep_47 : decode cX3_keep 47 = .ok (.getfield 29, 3) := by decide +kernel
theorem dX3_keep_50 : decode cX3_keep 50 = .ok (.invokevirtual 53, 3) := by decide +kernel
theorem dX3_keep_53 : decode cX3_keep 53 = .ok (.aload_n 0, 1) := by decide +kernel
theorem dX3_keep_54 : decode cX3_keep 54 = .ok (.dup, 1) := by decide +kernel
theorem dX3_keep_55 : decode cX3_keep 55 = .ok (.getfield 29, 3) := by decide +kernel
theorem dX3_keep_58 : decode cX3_keep 58 = .ok (.iconst 1, 1) := by decide +kernel
theorem dX3_keep_59 : decode cX3_keep 59 = .ok (.iadd, 1) := by decide +kernel
theorem dX3_keep_60 : decode cX3_keep 60 = .ok (.putfield 29, 3) := by decide +kernel
theorem dX3_keep_63 : decode cX3_keep 63 = .ok (.return_, 1) := by decide +kernel
theorem dX3_put_0 : decode cX3_put 0 = .ok (.aload_n 0, 1) := by decide +kernel
theorem dX3_put_1 : decode cX3_put 1 = .ok (.lload_n 1, 1) := by decide +kernel
theorem dX3_put_2 : decode cX3_put 2 = .ok (.invokevirtual 46, 3) := by decide +kernel
theorem dX3_put_5 : decode cX3_put 5 = .ok (.istore 5, 2) := by decide +kernel
theorem dX3_put_7 : decode cX3_put 7 = .ok (.aload_n 0, 1) := by decide +kernel
theorem dX3_put_8 : decode cX3_put 8 = .ok (.getfield 15, 3) := by decide +kernel
theorem dX3_put_11 : decode cX3_put 11 = .ok (.iload 5, 2) := by decide +kernel
theorem dX3_put_13 : decode cX3_put 13 = .ok (.lload_n 1, 1) := by decide +kernel
theorem dX3_put_14 : decode cX3_put 14 = .ok (.lastore, 1) := by decide +kernel
theorem dX3_put_15 : decode cX3_put 15 = .ok (.aload_n 0, 1) := by decide +kernel
theorem dX3_put_16 : decode cX3_put 16 = .ok (.getfield 19, 3) := by decide +kernel
theorem dX3_put_19 : decode cX3_put 19 = .ok (.iload 5, 2) := by decide +kernel
theorem dX3_put_21 : decode cX3_put 21 = .ok (.iload_n 3, 1) := by decide +kernel
theorem dX3_put_22 : decode cX3_put 22 = .ok (.iastore, 1) := by decide +kernel
theorem dX3_put_23 : decode cX3_put 23 = .ok (.aload_n 0, 1) := by decide +kernel
theorem dX3_put_24 : decode cX3_put 24 = .ok (.getfield 23, 3) := by decide +kernel
theorem dX3_put_27 : decode cX3_put 27 = .ok (.iload 5, 2) := by decide +kernel
theorem dX3_put_29 : decode cX3_put 29 = .ok (.iconst 0, 1) := by decide +kernel
theorem dX3_put_30 : decode cX3_put 30 = .ok (.iastore, 1) := by decide +kernel
theorem dX3_put_31 : decode cX3_put 31 = .ok (.aload_n 0, 1) := by decide +kernel
theorem dX3_put_32 : decode cX3_put 32 = .ok (.getfield 26, 3) := by decide +kernel
theorem dX3_put_35 : decode cX3_put 35 = .ok (.iload 4, 2) := by decide +kernel
theorem dX3_put_37 : decode cX3_put 37 = .ok (.iload 5, 2) := by decide +kernel
theorem dX3_put_39 : decode cX3_put 39 = .ok (.iastore, 1) := by decide +kernel
theorem dX3_put_40 : decode cX3_put 40 = .ok (.return_, 1) := by decide +kernel
theorem dX3_grow_0 : decode cX3_grow 0 = .ok (.aload_n 0, 1) := by decide +kernel
theorem dX3_grow_1 : decode cX3_grow 1 = .ok (.getfield 15, 3) := by decide +kernel
theorem dX3_grow_4 : decode cX3_grow 4 = .ok (.astore_n 1, 1) := by decide +kernel
theorem dX3_grow_5 : decode cX3_grow 5 = .ok (.aload_n 0, 1) := by decide +kernel
theorem dX3_grow_6 : decode cX3_grow 6 = .ok (.getfield 19, 3) := by decide +kernel
theorem dX3_grow_9 : decode cX3_grow 9 = .ok (.astore_n 2, 1) := by decide +kernel
theorem dX3_grow_10 : decode cX3_grow 10 = .ok (.aload_n 0, 1) := by decide +kernel
theorem dX3_grow_11 : decode cX3_grow 11 = .ok (.getfield 26, 3) := by decide +kernel
theorem dX3_grow_14 : decode cX3_grow 14 = .ok (.astore_n 3, 1) := by decide +kernel
theorem dX3_grow_15 : decode cX3_grow 15 = .ok (.aload_n 0, 1) := by decide +kernel
theorem dX3_grow_16 : decode cX3_grow 16 = .ok (.dup, 1) := by decide +kernel
theorem dX3_grow_17 : decode cX3_grow 17 = .ok (.getfield 11, 3) := by decide +kernel
theorem dX3_grow_20 : decode cX3_grow 20 = .ok (.iconst 2, 1) := by decide +kernel
theorem dX3_grow_21 : decode cX3_grow 21 = .ok (.iadd, 1) := by decide +kernel
theorem dX3_grow_22 : decode cX3_grow 22 = .ok (.putfield 11, 3) := by decide +kernel
theorem dX3_grow_25 : decode cX3_grow 25 = .ok (.aload_n 0, 1) := by decide +kernel
theorem dX3_grow_26 : decode cX3_grow 26 = .ok (.iconst 1, 1) := by decide +kernel
theorem dX3_grow_27 : decode cX3_grow 27 = .ok (.aload_n 0, 1) := by decide +kernel
theorem dX3_grow_28 : decode cX3_grow 28 = .ok (.getfield 11, 3) := by decide +kernel
theorem dX3_grow_31 : decode cX3_grow 31 = .ok (.ishl, 1) := by decide +kernel
theorem dX3_grow_32 : decode cX3_grow 32 = .ok (.newarray .long, 2) := by decide +kernel
theorem dX3_grow_34 : decode cX3_grow 34 = .ok (.putfield 15, 3) := by decide +kernel
theorem dX3_grow_37 : decode cX3_grow 37 = .ok (.aload_n 0, 1) := by decide +kernel
theorem dX3_grow_38 : decode cX3_grow 38 = .ok (.iconst 1, 1) := by decide +kernel
theorem dX3_grow_39 : decode cX3_grow 39 = .ok (.aload_n 0, 1) := by decide +kernel
theorem dX3_grow_40 : decode cX3_grow 40 = .ok (.getfield 11, 3) := by decide +kernel
theorem dX3_grow_43 : decode cX3_grow 43 = .ok (.ishl, 1) := by decide +kernel
theorem dX3_grow_44 : decode cX3_grow 44 = .ok (.newarray .int, 2) := by decide +kernel
theorem dX3_grow_46 : decode cX3_grow 46 = .ok (.putfield 19, 3) := by decide +kernel
theorem dX3_grow_49 : decode cX3_grow 49 = .ok (.aload_n 0, 1) := by decide +kernel
theorem dX3_grow_50 : decode cX3_grow 50 = .ok (.iconst 1, 1) := by decide +kernel
theorem dX3_grow_51 : decode cX3_grow 51 = .ok (.aload_n 0, 1) := by decide +kernel
theorem dX3_grow_52 : decode cX3_grow 52 = .ok (.getfield 11, 3) := by decide +kernel
theorem dX3_grow_55 : decode cX3_grow 55 = .ok (.ishl, 1) := by decide +kernel
theorem dX3_grow_56 : decode cX3_grow 56 = .ok (.newarray .int, 2) := by decide +kernel
theorem dX3_grow_58 : decode cX3_grow 58 = .ok (.putfield 23, 3) := by decide +kernel
theorem dX3_grow_61 : decode cX3_grow 61 = .ok (.aload_n 0, 1) := by decide +kernel
theorem dX3_grow_62 : decode cX3_grow 62 = .ok (.iconst 1, 1) := by decide +kernel
theorem dX3_grow_63 : decode cX3_grow 63 = .ok (.aload_n 0, 1) := by decide +kernel
theorem dX3_grow_64 : decode cX3_grow 64 = .ok (.getfield 11, 3) := by decide +kernel
theorem dX3_grow_67 : decode cX3_grow 67 = .ok (.iconst 1, 1) := by decide +kernel
theorem dX3_grow_68 : decode cX3_grow 68 = .ok (.isub, 1) := by decide +kernel
theorem dX3_grow_69 : decode cX3_grow 69 = .ok (.ishl, 1) := by decide +kernel
theorem dX3_grow_70 : decode cX3_grow 70 = .ok (.newarray .int, 2) := by decide +kernel
theorem dX3_grow_72 : decode cX3_grow 72 = .ok (.putfield 26, 3) := by decide +kernel
theorem dX3_grow_75 : decode cX3_grow 75 = .ok (.aload_n 0, 1) := by decide +kernel
theorem dX3_grow_76 : decode cX3_grow 76 = .ok (.getfield 15, 3) := by decide +kernel
theorem dX3_grow_79 : decode cX3_grow 79 = .ok (.ldc2_w 36, 3) := by decide +kernel
theorem dX3_grow_82 : decode cX3_grow 82 = .ok (.invokestatic 38, 3) := by decide +kernel
theorem dX3_grow_85 : decode cX3_grow 85 = .ok (.iconst 0, 1) := by decide +kernel
theorem dX3_grow_86 : decode cX3_grow 86 = .ok (.istore 4, 2) := by decide +kernel
theorem dX3_grow_88 : decode cX3_grow 88 = .ok (.iload 4, 2) := by decide +kernel
theorem dX3_grow_90 : decode cX3_grow 90 = .ok (.aload_n 0, 1) := by decide +kernel
theorem dX3_grow_91 : decode cX3_grow 91 = .ok (.getfield 29, 3) := by decide +kernel
theorem dX3_grow_94 : decode cX3_grow 94 = .ok (.if_icmp .ge 27, 3) := by decide +kernel
theorem dX3_grow_97 : decode cX3_grow 97 = .ok (.aload_n 0, 1) := by decide +kernel
theorem dX3_grow_98 : decode cX3_grow 98 = .ok (.aload_n 1, 1) := by decide +kernel
theorem dX3_grow_99 : decode cX3_grow 99 = .ok (.aload_n 3, 1) := by decide +kernel
theorem dX3_grow_100 : decode cX3_grow 100 = .ok (.iload 4, 2) := by decide +kernel
theorem dX3_grow_102 : decode cX3_grow 102 = .ok (.iaload, 1) := by decide +kernel
theorem dX3_grow_103 : decode cX3_grow 103 = .ok (.laload, 1) := by decide +kernel
theorem dX3_grow_104 : decode cX3_grow 104 = .ok (.aload_n 2, 1) := by decide +kernel
theorem dX3_grow_105 : decode cX3_grow 105 = .ok (.aload_n 3, 1) := by decide +kernel
theorem dX3_grow_106 : decode cX3_grow 106 = .ok (.iload 4, 2) := by decide +kernel
theorem dX3_grow_108 : decode cX3_grow 108 = .ok (.iaload, 1) := by decide +kernel
theorem dX3_grow_109 : decode cX3_grow 109 = .ok (.iaload, 1) := by decide +kernel
theorem dX3_grow_110 : decode cX3_grow 110 = .ok (.iload 4, 2) := by decide +kernel
theorem dX3_grow_112 : decode cX3_grow 112 = .ok (.invokevirtual 53, 3) := by decide +kernel
theorem dX3_grow_115 : decode cX3_grow 115 = .ok (.iinc 4 1, 3) := by decide +kernel
theorem dX3_grow_118 : decode cX3_grow 118 = .ok (.goto (-30), 3) := by decide +kernel
theorem dX3_grow_121 : decode cX3_grow 121 = .ok (.return_, 1) := by decide +kernel
theorem dX3_slotOfNth_0 : decode cX3_slotOfNth 0 = .ok (.iload_n 1, 1) := by decide +kernel
theorem dX3_slotOfNth_1 : decode cX3_slotOfNth 1 = .ok (.ifCond .lt 20, 3) := by decide +kernel
theorem dX3_slotOfNth_4 : decode cX3_slotOfNth 4 = .ok (.iload_n 1, 1) := by decide +kernel
theorem dX3_slotOfNth_5 : decode cX3_slotOfNth 5 = .ok (.aload_n 0, 1) := by decide +kernel
theorem dX3_slotOfNth_6 : decode cX3_slotOfNth 6 = .ok (.getfield 29, 3) := by decide +kernel
theorem dX3_slotOfNth_9 : decode cX3_slotOfNth 9 = .ok (.if_icmp .ge 12, 3) := by decide +kernel
theorem dX3_slotOfNth_12 : decode cX3_slotOfNth 12 = .ok (.aload_n 0, 1) := by decide +kernel
theorem dX3_slotOfNth_13 : decode cX3_slotOfNth 13 = .ok (.getfield 26, 3) := by decide +kernel
theorem dX3_slotOfNth_16 : decode cX3_slotOfNth 16 = .ok (.iload_n 1, 1) := by decide +kernel
theorem dX3_slotOfNth_17 : decode cX3_slotOfNth 17 = .ok (.iaload, 1) := by decide +kernel
theorem dX3_slotOfNth_18 : decode cX3_slotOfNth 18 = .ok (.goto 4, 3) := by decide +kernel
theorem dX3_slotOfNth_21 : decode cX3_slotOfNth 21 = .ok (.iconst (-1), 1) := by decide +kernel
theorem dX3_slotOfNth_22 : decode cX3_slotOfNth 22 = .ok (.ireturn, 1) := by decide +kernel
theorem dX3_keyIn_0 : decode cX3_keyIn 0 = .ok (.iload_n 1, 1) := by decide +kernel
theorem dX3_keyIn_1 : decode cX3_keyIn 1 = .ok (.ifCond .lt 21, 3) := by decide +kernel
theorem dX3_keyIn_4 : decode cX3_keyIn 4 = .ok (.iload_n 1, 1) := by decide +kernel
theorem dX3_keyIn_5 : decode cX3_keyIn 5 = .ok (.aload_n 0, 1) := by decide +kernel
theorem dX3_keyIn_6 : decode cX3_keyIn 6 = .ok (.getfield 15, 3) := by decide +kernel
theorem dX3_keyIn_9 : decode cX3_keyIn 9 = .ok (.arraylength, 1) := by decide +kernel
theorem dX3_keyIn_10 : decode cX3_keyIn 10 = .ok (.if_icmp .ge 12, 3) := by decide +kernel
theorem dX3_keyIn_13 : decode cX3_keyIn 13 = .ok (.aload_n 0, 1) := by decide +kernel
theorem dX3_keyIn_14 : decode cX3_keyIn 14 = .ok (.getfield 15, 3) := by decide +kernel
theorem dX3_keyIn_17 : decode cX3_keyIn 17 = .ok (.iload_n 1, 1) := by decide +kernel
theorem dX3_keyIn_18 : decode cX3_keyIn 18 = .ok (.laload, 1) := by decide +kernel
theorem dX3_keyIn_19 : decode cX3_keyIn 19 = .ok (.goto 6, 3) := by decide +kernel
theorem dX3_keyIn_22 : decode cX3_keyIn 22 = .ok (.ldc2_w 36, 3) := by decide +kernel
theorem dX3_keyIn_25 : decode cX3_keyIn 25 = .ok (.lreturn, 1) := by decide +kernel
theorem dX3_valueIn_0 : decode cX3_valueIn 0 = .ok (.iload_n 1, 1) := by decide +kernel
theorem dX3_valueIn_1 : decode cX3_valueIn 1 = .ok (.ifCond .lt 21, 3) := by decide +kernel
theorem dX3_valueIn_4 : decode cX3_valueIn 4 = .ok (.iload_n 1, 1) := by decide +kernel
theorem dX3_valueIn_5 : decode cX3_valueIn 5 = .ok (.aload_n 0, 1) := by decide +kernel
theorem dX3_valueIn_6 : decode cX3_valueIn 6 = .ok (.getfield 19, 3) := by decide +kernel
theorem dX3_valueIn_9 : decode cX3_valueIn 9 = .ok (.arraylength, 1) := by decide +kernel
theorem dX3_valueIn_10 : decode cX3_valueIn 10 = .ok (.if_icmp .ge 12, 3) := by decide +kernel
theorem dX3_valueIn_13 : decode cX3_valueIn 13 = .ok (.aload_n 0, 1) := by decide +kernel
theorem dX3_valueIn_14 : decode cX3_valueIn 14 = .ok (.getfield 19, 3) := by decide +kernel
theorem dX3_valueIn_17 : decode cX3_valueIn 17 = .ok (.iload_n 1, 1) := by decide +kernel
theorem dX3_valueIn_18 : decode cX3_valueIn 18 = .ok (.iaload, 1) := by decide +kernel
theorem dX3_valueIn_19 : decode cX3_valueIn 19 = .ok (.goto 4, 3) := by decide +kernel
theorem dX3_valueIn_22 : decode cX3_valueIn 22 = .ok (.iconst 0, 1) := by decide +kernel
theorem dX3_valueIn_23 : decode cX3_valueIn 23 = .ok (.ireturn, 1) := by decide +kernel
theorem dX3_flowIn_0 : decode cX3_flowIn 0 = .ok (.iload_n 1, 1) := by decide +kernel
theorem dX3_flowIn_1 : decode cX3_flowIn 1 = .ok (.ifCond .lt 21, 3) := by decide +kernel
theorem dX3_flowIn_4 : decode cX3_flowIn 4 = .ok (.iload_n 1, 1) := by decide +kernel
theorem dX3_flowIn_5 : decode cX3_flowIn 5 = .ok (.aload_n 0, 1) := by decide +kernel
theorem dX3_flowIn_6 : decode cX3_flowIn 6 = .ok (.getfield 23, 3) := by decide +kernel
theorem dX3_flowIn_9 : decode cX3_flowIn 9 = .ok (.arraylength, 1) := by decide +kernel
theorem dX3_flowIn_10 : decode cX3_flowIn 10 = .ok (.if_icmp .ge 12, 3) := by decide +kernel
theorem dX3_flowIn_13 : decode cX3_flowIn 13 = .ok (.aload_n 0, 1) := by decide +kernel
theorem dX3_flowIn_14 : decode cX3_flowIn 14 = .ok (.getfield 23, 3) := by decide +kernel
theorem dX3_flowIn_17 : decode cX3_flowIn 17 = .ok (.iload_n 1, 1) := by decide +kernel
theorem dX3_flowIn_18 : decode cX3_flowIn 18 = .ok (.iaload, 1) := by decide +kernel
theorem dX3_flowIn_19 : decode cX3_flowIn 19 = .ok (.goto 4, 3) := by decide +kernel
theorem dX3_flowIn_22 : decode cX3_flowIn 22 = .ok (.iconst 0, 1) := by decide +kernel
theorem dX3_flowIn_23 : decode cX3_flowIn 23 = .ok (.ireturn, 1) := by decide +kernel
theorem dX3_addFlow_0 : decode cX3_addFlow 0 = .ok (.iload_n 1, 1) := by decide +kernel
theorem dX3_addFlow_1 : decode cX3_addFlow 1 = .ok (.ifCond .lt 22, 3) := by decide +kernel
theorem dX3_addFlow_4 : decode cX3_addFlow 4 = .ok (.iload_n 1, 1) := by decide +kernel
theorem dX3_addFlow_5 : decode cX3_addFlow 5 = .ok (.aload_n 0, 1) := by decide +kernel
theorem dX3_addFlow_6 : decode cX3_addFlow 6 = .ok (.getfield 23, 3) := by decide +kernel
theorem dX3_addFlow_9 : decode cX3_addFlow 9 = .ok (.arraylength, 1) := by decide +kernel
theorem dX3_addFlow_10 : decode cX3_addFlow 10 = .ok (.if_icmp .ge 13, 3) := by decide +kernel
theorem dX3_addFlow_13 : decode cX3_addFlow 13 = .ok (.aload_n 0, 1) := by decide +kernel
theorem dX3_addFlow_14 : decode cX3_addFlow 14 = .ok (.getfield 23, 3) := by decide +kernel
theorem dX3_addFlow_17 : decode cX3_addFlow 17 = .ok (.iload_n 1, 1) := by decide +kernel
theorem dX3_addFlow_18 : decode cX3_addFlow 18 = .ok (.dup2, 1) := by decide +kernel
theorem dX3_addFlow_19 : decode cX3_addFlow 19 = .ok (.iaload, 1) := by decide +kernel
theorem dX3_addFlow_20 : decode cX3_addFlow 20 = .ok (.iload_n 2, 1) := by decide +kernel
theorem dX3_addFlow_21 : decode cX3_addFlow 21 = .ok (.iadd, 1) := by decide +kernel
theorem dX3_addFlow_22 : decode cX3_addFlow 22 = .ok (.iastore, 1) := by decide +kernel
theorem dX3_addFlow_23 : decode cX3_addFlow 23 = .ok (.return_, 1) := by decide +kernel
theorem dX4_init_0 : decode cX4_init 0 = .ok (.aload_n 0, 1) := by decide +kernel
theorem dX4_init_1 : decode cX4_init 1 = .ok (.invokespecial 3, 3) := by decide +kernel
theorem dX4_init_4 : decode cX4_init 4 = .ok (.aload_n 0, 1) := by decide +kernel
theorem dX4_init_5 : decode cX4_init 5 = .ok (.sipush 480, 3) := by decide +kernel
theorem dX4_init_8 : decode cX4_init 8 = .ok (.newarray .int, 2) := by decide +kernel
theorem dX4_init_10 : decode cX4_init 10 = .ok (.putfield 11, 3) := by decide +kernel
theorem dX4_init_13 : decode cX4_init 13 = .ok (.aload_n 0, 1) := by decide +kernel
theorem dX4_init_14 : decode cX4_init 14 = .ok (.sipush 480, 3) := by decide +kernel
theorem dX4_init_17 : decode cX4_init 17 = .ok (.newarray .int, 2) := by decide +kernel
theorem dX4_init_19 : decode cX4_init 19 = .ok (.putfield 15, 3) := by decide +kernel
theorem dX4_init_22 : decode cX4_init 22 = .ok (.aload_n 0, 1) := by decide +kernel
theorem dX4_init_23 : decode cX4_init 23 = .ok (.new 18, 3) := by decide +kernel
theorem dX4_init_26 : decode cX4_init 26 = .ok (.dup, 1) := by decide +kernel
theorem dX4_init_27 : decode cX4_init 27 = .ok (.invokespecial 20, 3) := by decide +kernel
theorem dX4_init_30 : decode cX4_init 30 = .ok (.putfield 21, 3) := by decide +kernel
theorem dX4_init_33 : decode cX4_init 33 = .ok (.aload_n 0, 1) := by decide +kernel
theorem dX4_init_34 : decode cX4_init 34 = .ok (.iconst 0, 1) := by decide +kernel
theorem dX4_init_35 : decode cX4_init 35 = .ok (.putfield 25, 3) := by decide +kernel
theorem dX4_init_38 : decode cX4_init 38 = .ok (.aload_n 0, 1) := by decide +kernel
theorem dX4_init_39 : decode cX4_init 39 = .ok (.iconst 0, 1) := by decide +kernel
theorem dX4_init_40 : decode cX4_init 40 = .ok (.putfield 29, 3) := by decide +kernel
theorem dX4_init_43 : decode cX4_init 43 = .ok (.return_, 1) := by decide +kernel
theorem dX4_clear_0 : decode cX4_clear 0 = .ok (.aload_n 0, 1) := by decide +kernel
theorem dX4_clear_1 : decode cX4_clear 1 = .ok (.iconst 0, 1) := by decide +kernel
theorem dX4_clear_2 : decode cX4_clear 2 = .ok (.putfield 29, 3) := by decide +kernel
theorem dX4_clear_5 : decode cX4_clear 5 = .ok (.return_, 1) := by decide +kernel
theorem dX4_note_0 : decode cX4_note 0 = .ok (.aload_n 0, 1) := by decide +kernel
theorem dX4_note_1 : decode cX4_note 1 = .ok (.getfield 29, 3) := by decide +kernel
theorem dX4_note_4 : decode cX4_note 4 = .ok (.bipush 16, 2) := by decide +kernel
theorem dX4_note_6 : decode cX4_note 6 = .ok (.if_icmp .lt 26, 3) := by decide +kernel
theorem dX4_note_9 : decode cX4_note 9 = .ok (.aload_n 0, 1) := by decide +kernel
theorem dX4_note_10 : decode cX4_note 10 = .ok (.getfield 11, 3) := by decide +kernel
theorem dX4_note_13 : decode cX4_note 13 = .ok (.bipush 30, 2) := by decide +kernel
theorem dX4_note_15 : decode cX4_note 15 = .ok (.aload_n 0, 1) := by decide +kernel
theorem dX4_note_16 : decode cX4_note 16 = .ok (.getfield 11, 3) := by decide +kernel
theorem dX4_note_19 : decode cX4_note 19 = .ok (.iconst 0, 1) := by decide +kernel
theorem dX4_note_20 : decode cX4_note 20 = .ok (.sipush 450, 3) := by decide +kernel
theorem dX4_note_23 : decode cX4_note 23 = .ok (.invokestatic 32, 3) := by decide +kernel
theorem dX4_note_26 : decode cX4_note 26 = .ok (.aload_n 0, 1) := by decide +kernel
theorem dX4_note_27 : decode cX4_note 27 = .ok (.bipush 15, 2) := by decide +kernel
theorem dX4_note_29 : decode cX4_note 29 = .ok (.putfield 29, 3) := by decide +kernel
theorem dX4_note_32 : decode cX4_note 32 = .ok (.aload_n 0, 1) := by decide +kernel
theorem dX4_note_33 : decode cX4_note 33 = .ok (.getfield 29, 3) := by decide +kernel
theorem dX4_note_36 : decode cX4_note 36 = .ok (.bipush 30, 2) := by decide +kernel
theorem dX4_note_38 : decode cX4_note 38 = .ok (.imul, 1) := by decide +kernel
theorem dX4_note_39 : decode cX4_note 39 = .ok (.istore_n 3, 1) := by decide +kernel
theorem dX4_note_40 : decode cX4_note 40 = .ok (.aload_n 0, 1) := by decide +kernel
theorem dX4_note_41 : decode cX4_note 41 = .ok (.getfield 11, 3) := by decide +kernel
theorem dX4_note_44 : decode cX4_note 44 = .ok (.iload_n 3, 1) := by decide +kernel
theorem dX4_note_45 : decode cX4_note 45 = .ok (.iload_n 1, 1) := by decide +kernel
theorem dX4_note_46 : decode cX4_note 46 = .ok (.iastore, 1) := by decide +kernel
theorem dX4_note_47 : decode cX4_note 47 = .ok (.aload_n 0, 1) := by decide +kernel
theorem dX4_note_48 : decode cX4_note 48 = .ok (.getfield 11, 3) := by decide +kernel
theorem dX4_note_51 : decode cX4_note 51 = .ok (.iload_n 3, 1) := by decide +kernel
theorem dX4_note_52 : decode cX4_note 52 = .ok (.iconst 1, 1) := by decide +kernel
theorem dX4_note_53 : decode cX4_note 53 = .ok (.iadd, 1) := by decide +kernel
theorem dX4_note_54 : decode cX4_note 54 = .ok (.aload_n 2, 1) := by decide +kernel
theorem dX4_note_55 : decode cX4_note 55 = .ok (.getfield 38, 3) := by decide +kernel
theorem dX4_note_58 : decode cX4_note 58 = .ok (.iastore, 1) := by decide +kernel
theorem dX4_note_59 : decode cX4_note 59 = .ok (.aload_n 0, 1) := by decide +kernel
theorem dX4_note_60 : decode cX4_note 60 = .ok (.getfield 11, 3) := by decide +kernel
theorem dX4_note_63 : decode cX4_note 63 = .ok (.iload_n 3, 1) := by decide +kernel
theorem dX4_note_64 : decode cX4_note 64 = .ok (.iconst 2, 1) := by decide +kernel
theorem dX4_note_65 : decode cX4_note 65 = .ok (.iadd, 1) := by decide +kernel
theorem dX4_note_66 : decode cX4_note 66 = .ok (.aload_n 2, 1) := by decide +kernel
theorem dX4_note_67 : decode cX4_note 67 = .ok (.getfield 41, 3) := by decide +kernel
theorem dX4_note_70 : decode cX4_note 70 = .ok (.iconst 0, 1) := by decide +kernel
theorem dX4_note_71 : decode cX4_note 71 = .ok (.iaload, 1) := by decide +kernel
theorem dX4_note_72 : decode cX4_note 72 = .ok (.iastore, 1) := by decide +kernel
theorem dX4_note_73 : decode cX4_note 73 = .ok (.aload_n 2, 1) := by decide +kernel
theorem dX4_note_74 : decode cX4_note 74 = .ok (.getfield 44, 3) := by decide +kernel
theorem dX4_note_77 : decode cX4_note 77 = .ok (.iconst 0, 1) := by decide +kernel
theorem dX4_note_78 : decode cX4_note 78 = .ok (.aload_n 0, 1) := by decide +kernel
theorem dX4_note_79 : decode cX4_note 79 = .ok (.getfield 11, 3) := by decide +kernel
theorem dX4_note_82 : decode cX4_note 82 = .ok (.iload_n 3, 1) := by decide +kernel
theorem dX4_note_83 : decode cX4_note 83 = .ok (.iconst 3, 1) := by decide +kernel
theorem dX4_note_84 : decode cX4_note 84 = .ok (.iadd, 1) := by decide +kernel
theorem dX4_note_85 : decode cX4_note 85 = .ok (.bipush 9, 2) := by decide +kernel
theorem dX4_note_87 : decode cX4_note 87 = .ok (.invokestatic 32, 3) := by decide +kernel
theorem dX4_note_90 : decode cX4_note 90 = .ok (.aload_n 2, 1) := by decide +kernel
theorem dX4_note_91 : decode cX4_note 91 = .ok (.getfield 47, 3) := by decide +kernel
theorem dX4_note_94 : decode cX4_note 94 = .ok (.iconst 0, 1) := by decide +kernel
theorem dX4_note_95 : decode cX4_note 95 = .ok (.aload_n 0, 1) := by decide +kernel
theorem dX4_note_96 : decode cX4_note 96 = .ok (.getfield 11, 3) := by decide +kernel
theorem dX4_note_99 : decode cX4_note 99 = .ok (.iload_n 3, 1) := by decide +kernel
theorem dX4_note_100 : decode cX4_note 100 = .ok (.iconst 3, 1) := by decide +kernel
theorem dX4_note_101 : decode cX4_note 101 = .ok (.iadd, 1) := by decide +kernel
theorem dX4_note_102 : decode cX4_note 102 = .ok (.bipush 9, 2) := by decide +kernel
theorem dX4_note_104 : decode cX4_note 104 = .ok (.iadd, 1) := by decide +kernel
theorem dX4_note_105 : decode cX4_note 105 = .ok (.bipush 9, 2) := by decide +kernel
theorem dX4_note_107 : decode cX4_note 107 = .ok (.invokestatic 32, 3) := by decide +kernel
theorem dX4_note_110 : decode cX4_note 110 = .ok (.aload_n 2, 1) := by decide +kernel
theorem dX4_note_111 : decode cX4_note 111 = .ok (.getfield 50, 3) := by decide +kernel
theorem dX4_note_114 : decode cX4_note 114 = .ok (.iconst 0, 1) := by decide +kernel
theorem dX4_note_115 : decode cX4_note 115 = .ok (.aload_n 0, 1) := by decide +kernel
theorem dX4_note_116 : decode cX4_note 116 = .ok (.getfield 11, 3) := by decide +kernel
theorem dX4_note_119 : decode cX4_note 119 = .ok (.iload_n 3, 1) := by decide +kernel
theorem dX4_note_120 : decode cX4_note 120 = .ok (.iconst 3, 1) := by decide +kernel
theorem dX4_note_121 : decode cX4_note 121 = .ok (.iadd, 1) := by decide +kernel
theorem dX4_note_122 : decode cX4_note 122 = .ok (.bipush 18, 2) := by decide +kernel
theorem dX4_note_124 : decode cX4_note 124 = .ok (.iadd, 1) := by decide +kernel
theorem dX4_note_125 : decode cX4_note 125 = .ok (.bipush 9, 2) := by decide +kernel
theorem dX4_note_127 : decode cX4_note 127 = .ok (.invokestatic 32, 3) := by decide +kernel
theorem dX4_note_130 : decode cX4_note 130 = .ok (.aload_n 0, 1) := by decide +kernel
theorem dX4_note_131 : decode cX4_note 131 = .ok (.dup, 1) := by decide +kernel
theorem dX4_note_132 : decode cX4_note 132 = .ok (.getfield 29, 3) := by decide +kernel
theorem dX4_note_135 : decode cX4_note 135 = .ok (.iconst 1, 1) := by decide +kernel
theorem dX4_note_136 : decode cX4_note 136 = .ok (.iadd, 1) := by decide +kernel
theorem dX4_note_137 : decode cX4_note 137 = .ok (.putfield 29, 3) := by decide +kernel
theorem dX4_note_140 : decode cX4_note 140 = .ok (.return_, 1) := by decide +kernel
theorem dX4_takeBack_0 : decode cX4_takeBack 0 = .ok (.aload_n 0, 1) := by decide +kernel
theorem dX4_takeBack_1 : decode cX4_takeBack 1 = .ok (.getfield 29, 3) := by decide +kernel
theorem dX4_takeBack_4 : decode cX4_takeBack 4 = .ok (.ifCond .gt 6, 3) := by decide +kernel
theorem dX4_takeBack_7 : decode cX4_takeBack 7 = .ok (.bipush (-3), 2) := by decide +kernel
theorem dX4_takeBack_9 : decode cX4_takeBack 9 = .ok (.ireturn, 1) := by decide +kernel
theorem dX4_takeBack_10 : decode cX4_takeBack 10 = .ok (.aload_n 0, 1) := by decide +kernel
theorem dX4_takeBack_11 : decode cX4_takeBack 11 = .ok (.dup, 1) := by decide +kernel
theorem dX4_takeBack_12 : decode cX4_takeBack 12 = .ok (.getfield 29, 3) := by decide +kernel
theorem dX4_takeBack_15 : decode cX4_takeBack 15 = .ok (.iconst 1, 1) := by decide +kernel
theorem dX4_takeBack_16 : decode cX4_takeBack 16 = .ok (.isub, 1) := by decide +kernel
theorem dX4_takeBack_17 : decode cX4_takeBack 17 = .ok (.putfield 29, 3) := by decide +kernel
theorem dX4_takeBack_20 : decode cX4_takeBack 20 = .ok (.aload_n 0, 1) := by decide +kernel
theorem dX4_takeBack_21 : decode cX4_takeBack 21 = .ok (.getfield 29, 3) := by decide +kernel
theorem dX4_takeBack_24 : decode cX4_takeBack 24 = .ok (.bipush 30, 2) := by decide +kernel
theorem dX4_takeBack_26 : decode cX4_takeBack 26 = .ok (.imul, 1) := by decide +kernel
theorem dX4_takeBack_27 : decode cX4_takeBack 27 = .ok (.istore_n 2, 1) := by decide +kernel
theorem dX4_takeBack_28 : decode cX4_takeBack 28 = .ok (.aload_n 1, 1) := by decide +kernel
theorem dX4_takeBack_29 : decode cX4_takeBack 29 = .ok (.aload_n 0, 1) := by decide +kernel
theorem dX4_takeBack_30 : decode cX4_takeBack 30 = .ok (.getfield 11, 3) := by decide +kernel
theorem dX4_takeBack_33 : decode cX4_takeBack 33 = .ok (.iload_n 2, 1) := by decide +kernel
theorem dX4_takeBack_34 : decode cX4_takeBack 34 = .ok (.iconst 1, 1) := by decide +kernel
theorem dX4_takeBack_35 : decode cX4_takeBack 35 = .ok (.iadd, 1) := by decide +kernel
theorem dX4_takeBack_36 : decode cX4_takeBack 36 = .ok (.iaload, 1) := by decide +kernel
theorem dX4_takeBack_37 : decode cX4_takeBack 37 = .ok (.putfield 38, 3) := by decide +kernel
theorem dX4_takeBack_40 : decode cX4_takeBack 40 = .ok (.aload_n 1, 1) := by decide +kernel
theorem dX4_takeBack_41 : decode cX4_takeBack 41 = .ok (.getfield 41, 3) := by decide +kernel
theorem dX4_takeBack_44 : decode cX4_takeBack 44 = .ok (.iconst 0, 1) := by decide +kernel
theorem dX4_takeBack_45 : decode cX4_takeBack 45 = .ok (.aload_n 0, 1) := by decide +kernel
theorem dX4_takeBack_46 : decode cX4_takeBack 46 = .ok (.getfield 11, 3) := by decide +kernel
theorem dX4_takeBack_49 : decode cX4_takeBack 49 = .ok (.iload_n 2, 1) := by decide +kernel
theorem dX4_takeBack_50 : decode cX4_takeBack 50 = .ok (.iconst 2, 1) := by decide +kernel
theorem dX4_takeBack_51 : decode cX4_takeBack 51 = .ok (.iadd, 1) := by decide +kernel
theorem dX4_takeBack_52 : decode cX4_takeBack 52 = .ok (.iaload, 1) := by decide +kernel
theorem dX4_takeBack_53 : decode cX4_takeBack 53 = .ok (.iastore, 1) := by decide +kernel
theorem dX4_takeBack_54 : decode cX4_takeBack 54 = .ok (.aload_n 0, 1) := by decide +kernel
theorem dX4_takeBack_55 : decode cX4_takeBack 55 = .ok (.getfield 11, 3) := by decide +kernel
theorem dX4_takeBack_58 : decode cX4_takeBack 58 = .ok (.iload_n 2, 1) := by decide +kernel
theorem dX4_takeBack_59 : decode cX4_takeBack 59 = .ok (.iconst 3, 1) := by decide +kernel
theorem dX4_takeBack_60 : decode cX4_takeBack 60 = .ok (.iadd, 1) := by decide +kernel
theorem dX4_takeBack_61 : decode cX4_takeBack 61 = .ok (.aload_n 1, 1) := by decide +kernel
theorem dX4_takeBack_62 : decode cX4_takeBack 62 = .ok (.getfield 44, 3) := by decide +kernel
theorem dX4_takeBack_65 : decode cX4_takeBack 65 = .ok (.iconst 0, 1) := by decide +kernel
theorem dX4_takeBack_66 : decode cX4_takeBack 66 = .ok (.bipush 9, 2) := by decide +kernel
theorem dX4_takeBack_68 : decode cX4_takeBack 68 = .ok (.invokestatic 32, 3) := by decide +kernel
theorem dX4_takeBack_71 : decode cX4_takeBack 71 = .ok (.aload_n 0, 1) := by decide +kernel
theorem dX4_takeBack_72 : decode cX4_takeBack 72 = .ok (.getfield 11, 3) := by decide +kernel
theorem dX4_takeBack_75 : decode cX4_takeBack 75 = .ok (.iload_n 2, 1) := by decide +kernel
theorem dX4_takeBack_76 : decode cX4_takeBack 76 = .ok (.iconst 3, 1) := by decide +kernel
theorem dX4_takeBack_77 : decode cX4_takeBack 77 = .ok (.iadd, 1) := by decide +kernel
theorem dX4_takeBack_78 : decode cX4_takeBack 78 = .ok (.bipush 9, 2) := by decide +kernel
theorem dX4_takeBack_80 : decode cX4_takeBack 80 = .ok (.iadd, 1) := by decide +kernel
theorem dX4_takeBack_81 : decode cX4_takeBack 81 = .ok (.aload_n 1, 1) := by decide +kernel
theorem dX4_takeBack_82 : decode cX4_takeBack 82 = .ok (.getfield 47, 3) := by decide +kernel
theorem dX4_takeBack_85 : decode cX4_takeBack 85 = .ok (.iconst 0, 1) := by decide +kernel
theorem dX4_takeBack_86 : decode cX4_takeBack 86 = .ok (.bipush 9, 2) := by decide +kernel
theorem dX4_takeBack_88 : decode cX4_takeBack 88 = .ok (.invokestatic 32, 3) := by decide +kernel
theorem dX4_takeBack_91 : decode cX4_takeBack 91 = .ok (.aload_n 0, 1) := by decide +kernel
theorem dX4_takeBack_92 : decode cX4_takeBack 92 = .ok (.getfield 11, 3) := by decide +kernel
theorem dX4_takeBack_95 : decode cX4_takeBack 95 = .ok (.iload_n 2, 1) := by decide +kernel
theorem dX4_takeBack_96 : decode cX4_takeBack 96 = .ok (.iconst 3, 1) := by decide +kernel
theorem dX4_takeBack_97 : decode cX4_takeBack 97 = .ok (.iadd, 1) := by decide +kernel
theorem dX4_takeBack_98 : decode cX4_takeBack 98 = .ok (.bipush 18, 2) := by decide +kernel
theorem dX4_takeBack_100 : decode cX4_takeBack 100 = .ok (.iadd, 1) := by decide +kernel
theorem dX4_takeBack_101 : decode cX4_takeBack 101 = .ok (.aload_n 1, 1) := by decide +kernel
theorem dX4_takeBack_102 : decode cX4_takeBack 102 = .ok (.getfield 50, 3) := by decide +kernel
theorem dX4_takeBack_105 : decode cX4_takeBack 105 = .ok (.iconst 0, 1) := by decide +kernel
theorem dX4_takeBack_106 : decode cX4_takeBack 106 = .ok (.bipush 9, 2) := by decide +kernel
theorem dX4_takeBack_108 : decode cX4_takeBack 108 = .ok (.invokestatic 32, 3) := by decide +kernel
theorem dX4_takeBack_111 : decode cX4_takeBack 111 = .ok (.aload_n 0, 1) := by decide +kernel
theorem dX4_takeBack_112 : decode cX4_takeBack 112 = .ok (.getfield 11, 3) := by decide +kernel
theorem dX4_takeBack_115 : decode cX4_takeBack 115 = .ok (.iload_n 2, 1) := by decide +kernel
theorem dX4_takeBack_116 : decode cX4_takeBack 116 = .ok (.iaload, 1) := by decide +kernel
theorem dX4_takeBack_117 : decode cX4_takeBack 117 = .ok (.ireturn, 1) := by decide +kernel
theorem dX4_save_0 : decode cX4_save 0 = .ok (.aload_n 0, 1) := by decide +kernel
theorem dX4_save_1 : decode cX4_save 1 = .ok (.getfield 21, 3) := by decide +kernel
theorem dX4_save_4 : decode cX4_save 4 = .ok (.aload_n 1, 1) := by decide +kernel
theorem dX4_save_5 : decode cX4_save 5 = .ok (.invokevirtual 53, 3) := by decide +kernel
theorem dX4_save_8 : decode cX4_save 8 = .ok (.aload_n 0, 1) := by decide +kernel
theorem dX4_save_9 : decode cX4_save 9 = .ok (.getfield 11, 3) := by decide +kernel
theorem dX4_save_12 : decode cX4_save 12 = .ok (.iconst 0, 1) := by decide +kernel
theorem dX4_save_13 : decode cX4_save 13 = .ok (.aload_n 0, 1) := by decide +kernel
theorem dX4_save_14 : decode cX4_save 14 = .ok (.getfield 15, 3) := by decide +kernel
theorem dX4_save_17 : decode cX4_save 17 = .ok (.iconst 0, 1) := by decide +kernel
theorem dX4_save_18 : decode cX4_save 18 = .ok (.aload_n 0, 1) := by decide +kernel
theorem dX4_save_19 : decode cX4_save 19 = .ok (.getfield 11, 3) := by decide +kernel
theorem dX4_save_22 : decode cX4_save 22 = .ok (.arraylength, 1) := by decide +kernel
theorem dX4_save_23 : decode cX4_save 23 = .ok (.invokestatic 32, 3) := by decide +kernel
theorem dX4_save_26 : decode cX4_save 26 = .ok (.aload_n 0, 1) := by decide +kernel
theorem dX4_save_27 : decode cX4_save 27 = .ok (.aload_n 0, 1) := by decide +kernel
theorem dX4_save_28 : decode cX4_save 28 = .ok (.getfield 29, 3) := by decide +kernel
theorem dX4_save_31 : decode cX4_save 31 = .ok (.putfield 25, 3) := by decide +kernel
theorem dX4_save_34 : decode cX4_save 34 = .ok (.return_, 1) := by decide +kernel
theorem dX4_restore_0 : decode cX4_restore 0 = .ok (.aload_n 1, 1) := by decide +kernel
theorem dX4_restore_1 : decode cX4_restore 1 = .ok (.aload_n 0, 1) := by decide +kernel
theorem dX4_restore_2 : decode cX4_restore 2 = .ok (.getfield 21, 3) := by decide +kernel
theorem dX4_restore_5 : decode cX4_restore 5 = .ok (.invokevirtual 53, 3) := by decide +kernel
theorem dX4_restore_8 : decode cX4_restore 8 = .ok (.aload_n 0, 1) := by decide +kernel
theorem dX4_restore_9 : decode cX4_restore 9 = .ok (.getfield 15, 3) := by decide +kernel
theorem dX4_restore_12 : decode cX4_restore 12 = .ok (.iconst 0, 1) := by decide +kernel
theorem dX4_restore_13 : decode cX4_restore 13 = .ok (.aload_n 0, 1) := by decide +kernel
theorem dX4_restore_14 : decode cX4_restore 14 = .ok (.getfield 11, 3) := by decide +kernel
theorem dX4_restore_17 : decode cX4_restore 17 = .ok (.iconst 0, 1) := by decide +kernel
theorem dX4_restore_18 : decode cX4_restore 18 = .ok (.aload_n 0, 1) := by decide +kernel
theorem dX4_restore_19 : decode cX4_restore 19 = .ok (.getfield 11, 3) := by decide +kernel
theorem dX4_restore_22 : decode cX4_restore 22 = .ok (.arraylength, 1) := by decide +kernel
theorem dX4_restore_23 : decode cX4_restore 23 = .ok (.invokestatic 32, 3) := by decide +kernel
theorem dX4_restore_26 : decode cX4_restore 26 = .ok (.aload_n 0, 1) := by decide +kernel
theorem dX4_restore_27 : decode cX4_restore 27 = .ok (.aload_n 0, 1) := by decide +kernel
theorem dX4_restore_28 : decode cX4_restore 28 = .ok (.getfield 25, 3) := by decide +kernel
theorem dX4_restore_31 : decode cX4_restore 31 = .ok (.putfield 29, 3) := by decide +kernel
theorem dX4_restore_34 : decode cX4_restore 34 = .ok (.return_, 1) := by decide +kernel
theorem dX5_init_0 : decode cX5_init 0 = .ok (.aload_n 0, 1) := by decide +kernel
theorem dX5_init_1 : decode cX5_init 1 = .ok (.invokespecial 5, 3) := by decide +kernel
theorem dX5_init_4 : decode cX5_init 4 = .ok (.aload_n 0, 1) := by decide +kernel
theorem dX5_init_5 : decode cX5_init 5 = .ok (.sipush 401, 3) := by decide +kernel
theorem dX5_init_8 : decode cX5_init 8 = .ok (.newarray .int, 2) := by decide +kernel
theorem dX5_init_10 : decode cX5_init 10 = .ok (.putfield 11, 3) := by decide +kernel
theorem dX5_init_13 : decode cX5_init 13 = .ok (.aload_n 0, 1) := by decide +kernel
theorem dX5_init_14 : decode cX5_init 14 = .ok (.sipush 401, 3) := by decide +kernel
theorem dX5_init_17 : decode cX5_init 17 = .ok (.newarray .int, 2) := by decide +kernel
theorem dX5_init_19 : decode cX5_init 19 = .ok (.putfield 15, 3) := by decide +kernel
theorem dX5_init_22 : decode cX5_init 22 = .ok (.return_, 1) := by decide +kernel
theorem dX5_read_0 : decode cX5_read 0 = .ok (.aload_n 0, 1) := by decide +kernel
theorem dX5_read_1 : decode cX5_read 1 = .ok (.aload_n 1, 1) := by decide +kernel
theorem dX5_read_2 : decode cX5_read 2 = .ok (.putfield 18, 3) := by decide +kernel
theorem dX5_read_5 : decode cX5_read 5 = .ok (.aload_n 0, 1) := by decide +kernel
theorem dX5_read_6 : decode cX5_read 6 = .ok (.aload_n 2, 1) := by decide +kernel
theorem dX5_read_7 : decode cX5_read 7 = .ok (.putfield 22, 3) := by decide +kernel
theorem dX5_read_10 : decode cX5_read 10 = .ok (.aload_n 0, 1) := by decide +kernel
theorem dX5_read_11 : decode cX5_read 11 = .ok (.iload_n 3, 1) := by decide +kernel
theorem dX5_read_12 : decode cX5_read 12 = .ok (.putfield 26, 3) := by decide +kernel
theorem dX5_read_15 : decode cX5_read 15 = .ok (.aload_n 0, 1) := by decide +kernel
theorem dX5_read_16 : decode cX5_read 16 = .ok (.iconst 0, 1) := by decide +kernel
theorem dX5_read_17 : decode cX5_read 17 = .ok (.putfield 30, 3) := by decide +kernel
theorem dX5_read_20 : decode cX5_read 20 = .ok (.aload_n 0, 1) := by decide +kernel
theorem dX5_read_21 : decode cX5_read 21 = .ok (.iconst 0, 1) := by decide +kernel
theorem dX5_read_22 : decode cX5_read 22 = .ok (.putfield 34, 3) := by decide +kernel
theorem dX5_read_25 : decode cX5_read 25 = .ok (.aload_n 0, 1) := by decide +kernel
theorem dX5_read_26 : decode cX5_read 26 = .ok (.iconst 0, 1) := by decide +kernel
theorem dX5_read_27 : decode cX5_read 27 = .ok (.putfield 37, 3) := by decide +kernel
theorem dX5_read_30 : decode cX5_read 30 = .ok (.aload_n 0, 1) := by decide +kernel
theorem dX5_read_31 : decode cX5_read 31 = .ok (.iconst (-1), 1) := by decide +kernel
theorem dX5_read_32 : decode cX5_read 32 = .ok (.putfield 40, 3) := by decide +kernel
theorem dX5_read_35 : decode cX5_read 35 = .ok (.aload_n 0, 1) := by decide +kernel
theorem dX5_read_36 : decode cX5_read 36 = .ok (.getfield 22, 3) := by decide +kernel
theorem dX5_read_39 : decode cX5_read 39 = .ok (.invokevirtual 43, 3) := by decide +kernel
theorem dX5_read_42 : decode cX5_read 42 = .ok (.aload_n 0, 1) := by decide +kernel
theorem dX5_read_43 : decode cX5_read 43 = .ok (.invokevirtual 48, 3) := by decide +kernel
theorem dX5_read_46 : decode cX5_read 46 = .ok (.iconst 0, 1) := by decide +kernel
theorem dX5_read_47 : decode cX5_read 47 = .ok (.istore 4, 2) := by decide +kernel
theorem dX5_read_49 : decode cX5_read 49 = .ok (.iload 4, 2) := by decide +kernel
theorem dX5_read_51 : decode cX5_read 51 = .ok (.bipush 12, 2) := by decide +kernel
theorem dX5_read_53 : decode cX5_read 53 = .ok (.if_icmp .ge 52, 3) := by decide +kernel
theorem dX5_read_56 : decode cX5_read 56 = .ok (.aload_n 0, 1) := by decide +kernel
theorem dX5_read_57 : decode cX5_read 57 = .ok (.getfield 40, 3) := by decide +kernel
theorem dX5_read_60 : decode cX5_read 60 = .ok (.iconst (-1), 1) := by decide +kernel
theorem dX5_read_61 : decode cX5_read 61 = .ok (.if_icmp .ne 44, 3) := by decide +kernel
theorem dX5_read_64 : decode cX5_read 64 = .ok (.aload_n 0, 1) := by decide +kernel
theorem dX5_read_65 : decode cX5_read 65 = .ok (.invokevirtual 51, 3) := by decide +kernel
theorem dX5_read_68 : decode cX5_read 68 = .ok (.aload_n 0, 1) := by decide +kernel
theorem dX5_read_69 : decode cX5_read 69 = .ok (.bipush 59, 2) := by decide +kernel
theorem dX5_read_71 : decode cX5_read 71 = .ok (.invokevirtual 54, 3) := by decide +kernel
theorem dX5_read_74 : decode cX5_read 74 = .ok (.ifCond .ne 25, 3) := by decide +kernel
theorem dX5_read_77 : decode cX5_read 77 = .ok (.aload_n 0, 1) := by decide +kernel
theorem dX5_read_78 : decode cX5_read 78 = .ok (.getfield 11, 3) := by decide +kernel
theorem dX5_read_81 : decode cX5_read 81 = .ok (.aload_n 0, 1) := by decide +kernel
theorem dX5_read_82 : decode cX5_read 82 = .ok (.getfield 30, 3) := by decide +kernel
theorem dX5_read_85 : decode cX5_read 85 = .ok (.iaload, 1) := by decide +kernel
theorem dX5_read_86 : decode cX5_read 86 = .ok (.iconst (-1), 1) := by decide +kernel
theorem dX5_read_87 : decode cX5_read 87 = .ok (.if_icmp .eq 7, 3) := by decide +kernel
theorem dX5_read_90 : decode cX5_read 90 = .ok (.aload_n 0, 1) := by decide +kernel
theorem dX5_read_91 : decode cX5_read 91 = .ok (.invokevirtual 58, 3) := by decide +kernel
theorem dX5_read_94 : decode cX5_read 94 = .ok (.aload_n 0, 1) := by decide +kernel
theorem dX5_read_95 : decode cX5_read 95 = .ok (.getfield 40, 3) := by decide +kernel
theorem dX5_read_98 : decode cX5_read 98 = .ok (.ireturn, 1) := by decide +kernel
theorem dX5_read_99 : decode cX5_read 99 = .ok (.iinc 4 1, 3) := by decide +kernel
theorem dX5_read_102 : decode cX5_read 102 = .ok (.goto (-53), 3) := by decide +kernel
theorem dX5_read_105 : decode cX5_read 105 = .ok (.aload_n 0, 1) := by decide +kernel
theorem dX5_read_106 : decode cX5_read 106 = .ok (.invokevirtual 58, 3) := by decide +kernel
theorem dX5_read_109 : decode cX5_read 109 = .ok (.aload_n 0, 1) := by decide +kernel
theorem dX5_read_110 : decode cX5_read 110 = .ok (.getfield 40, 3) := by decide +kernel
theorem dX5_read_113 : decode cX5_read 113 = .ok (.ireturn, 1) := by decide +kernel
theorem dX5_scan_0 : decode cX5_scan 0 = .ok (.iconst 0, 1) := by decide +kernel
theorem dX5_scan_1 : decode cX5_scan 1 = .ok (.istore_n 1, 1) := by decide +kernel
theorem dX5_scan_2 : decode cX5_scan 2 = .ok (.iconst 0, 1) := by decide +kernel
theorem dX5_scan_3 : decode cX5_scan 3 = .ok (.istore_n 2, 1) := by decide +kernel
theorem dX5_scan_4 : decode cX5_scan 4 = .ok (.iconst 0, 1) := by decide +kernel
theorem dX5_scan_5 : decode cX5_scan 5 = .ok (.istore_n 3, 1) := by decide +kernel
theorem dX5_scan_6 : decode cX5_scan 6 = .ok (.iload_n 3, 1) := by decide +kernel
theorem dX5_scan_7 : decode cX5_scan 7 = .ok (.sipush 400, 3) := by decide +kernel
theorem dX5_scan_10 : decode cX5_scan 10 = .ok (.if_icmp .ge 132, 3) := by decide +kernel
theorem dX5_scan_13 : decode cX5_scan 13 = .ok (.iload_n 2, 1) := by decide +kernel
theorem dX5_scan_14 : decode cX5_scan 14 = .ok (.aload_n 0, 1) := by decide +kernel
theorem dX5_scan_15 : decode cX5_scan 15 = .ok (.getfield 18, 3) := by decide +kernel
theorem dX5_scan_18 : decode cX5_scan 18 = .ok (.getfield 61, 3) := by decide +kernel
theorem dX5_scan_21 : decode cX5_scan 21 = .ok (.if_icmp .ge 121, 3) := by decide +kernel
theorem dX5_scan_24 : decode cX5_scan 24 = .ok (.aload_n 0, 1) := by decide +kernel
theorem dX5_scan_25 : decode cX5_scan 25 = .ok (.getfield 18, 3) := by decide +kernel
theorem dX5_scan_28 : decode cX5_scan 28 = .ok (.getfield 66, 3) := by decide +kernel
theorem dX5_scan_31 : decode cX5_scan 31 = .ok (.iload_n 2, 1) := by decide +kernel
theorem dX5_scan_32 : decode cX5_scan 32 = .ok (.iaload, 1) := by decide +kernel
theorem dX5_scan_33 : decode cX5_scan 33 = .ok (.istore 4, 2) := by decide +kernel
theorem dX5_scan_35 : decode cX5_scan 35 = .ok (.iload_n 2, 1) := by decide +kernel
theorem dX5_scan_36 : decode cX5_scan 36 = .ok (.iconst 1, 1) := by decide +kernel
theorem dX5_scan_37 : decode cX5_scan 37 = .ok (.iadd, 1) := by decide +kernel
theorem dX5_scan_38 : decode cX5_scan 38 = .ok (.istore 5, 2) := by decide +kernel
theorem dX5_scan_40 : decode cX5_scan 40 = .ok (.iload 4, 2) := by decide +kernel
theorem dX5_scan_42 : decode cX5_scan 42 = .ok (.bipush 32, 2) := by decide +kernel
theorem dX5_scan_44 : decode cX5_scan 44 = .ok (.if_icmp .eq 89, 3) := by decide +kernel
theorem dX5_scan_47 : decode cX5_scan 47 = .ok (.aload_n 0, 1) := by decide +kernel
theorem dX5_scan_48 : decode cX5_scan 48 = .ok (.getfield 15, 3) := by decide +kernel
theorem dX5_scan_51 : decode cX5_scan 51 = .ok (.iload_n 1, 1) := by decide +kernel
theorem dX5_scan_52 : decode cX5_scan 52 = .ok (.iload_n 2, 1) := by decide +kernel
theorem dX5_scan_53 : decode cX5_scan 53 = .ok (.iastore, 1) := by decide +kernel
theorem dX5_scan_54 : decode cX5_scan 54 = .ok (.iload 4, 2) := by decide +kernel
theorem dX5_scan_56 : decode cX5_scan 56 = .ok (.invokestatic 69, 3) := by decide +kernel
theorem dX5_scan_59 : decode cX5_scan 59 = .ok (.ifCond .eq 27, 3) := by decide +kernel
theorem dX5_scan_62 : decode cX5_scan 62 = .ok (.aload_n 0, 1) := by decide +kernel
theorem dX5_scan_63 : decode cX5_scan 63 = .ok (.iload 5, 2) := by decide +kernel
theorem dX5_scan_65 : decode cX5_scan 65 = .ok (.invokevirtual 72, 3) := by decide +kernel
theorem dX5_scan_68 : decode cX5_scan 68 = .ok (.istore 5, 2) := by decide +kernel
theorem dX5_scan_70 : decode cX5_scan 70 = .ok (.aload_n 0, 1) := by decide +kernel
theorem dX5_scan_71 : decode cX5_scan 71 = .ok (.getfield 11, 3) := by decide +kernel
theorem dX5_scan_74 : decode cX5_scan 74 = .ok (.iload_n 1, 1) := by decide +kernel
theorem dX5_scan_75 : decode cX5_scan 75 = .ok (.aload_n 0, 1) := by decide +kernel
theorem dX5_scan_76 : decode cX5_scan 76 = .ok (.iload_n 2, 1) := by decide +kernel
theorem dX5_scan_77 : decode cX5_scan 77 = .ok (.iload 5, 2) := by decide +kernel
theorem dX5_scan_79 : decode cX5_scan 79 = .ok (.invokevirtual 76, 3) := by decide +kernel
theorem dX5_scan_82 : decode cX5_scan 82 = .ok (.iastore, 1) := by decide +kernel
theorem dX5_scan_83 : decode cX5_scan 83 = .ok (.goto 47, 3) := by decide +kernel
theorem dX5_scan_86 : decode cX5_scan 86 = .ok (.iload 4, 2) := by decide +kernel
theorem dX5_scan_88 : decode cX5_scan 88 = .ok (.invokestatic 80, 3) := by decide +kernel
theorem dX5_scan_91 : decode cX5_scan 91 = .ok (.ifCond .eq 31, 3) := by decide +kernel
theorem dX5_scan_94 : decode cX5_scan 94 = .ok (.aload_n 0, 1) := by decide +kernel
theorem dX5_scan_95 : decode cX5_scan 95 = .ok (.iload 5, 2) := by decide +kernel
theorem dX5_scan_97 : decode cX5_scan 97 = .ok (.invokevirtual 83, 3) := by decide +kernel
theorem dX5_scan_100 : decode cX5_scan 100 = .ok (.istore 5, 2) := by decide +kernel
theorem dX5_scan_102 : decode cX5_scan 102 = .ok (.aload_n 0, 1) := by decide +kernel
theorem dX5_scan_103 : decode cX5_scan 103 = .ok (.getfield 11, 3) := by decide +kernel
theorem dX5_scan_106 : decode cX5_scan 106 = .ok (.iload_n 1, 1) := by decide +kernel
theorem dX5_scan_107 : decode cX5_scan 107 = .ok (.sipush 400, 3) := by decide +kernel
theorem dX5_scan_110 : decode cX5_scan 110 = .ok (.aload_n 0, 1) := by decide +kernel
theorem dX5_scan_111 : decode cX5_scan 111 = .ok (.iload_n 2, 1) := by decide +kernel
theorem dX5_scan_112 : decode cX5_scan 112 = .ok (.iload 5, 2) := by decide +kernel
theorem dX5_scan_114 : decode cX5_scan 114 = .ok (.invokevirtual 86, 3) := by decide +kernel
theorem dX5_scan_117 : decode cX5_scan 117 = .ok (.iadd, 1) := by decide +kernel
theorem dX5_scan_118 : decode cX5_scan 118 = .ok (.iastore, 1) := by decide +kernel
theorem dX5_scan_119 : decode cX5_scan 119 = .ok (.goto 11, 3) := by decide +kernel
theorem dX5_scan_122 : decode cX5_scan 122 = .ok (.aload_n 0, 1) := by decide +kernel
theorem dX5_scan_123 : decode cX5_scan 123 = .ok (.getfield 11, 3) := by decide +kernel
theorem dX5_scan_126 : decode cX5_scan 126 = .ok (.iload_n 1, 1) := by decide +kernel
theorem dX5_scan_127 : decode cX5_scan 127 = .ok (.iload 4, 2) := by decide +kernel
theorem dX5_scan_129 : decode cX5_scan 129 = .ok (.iastore, 1) := by decide +kernel
theorem dX5_scan_130 : decode cX5_scan 130 = .ok (.iinc 1 1, 3) := by decide +kernel
theorem dX5_scan_133 : decode cX5_scan 133 = .ok (.iload 5, 2) := by decide +kernel
theorem dX5_scan_135 : decode cX5_scan 135 = .ok (.istore_n 2, 1) := by decide +kernel
theorem dX5_scan_136 : decode cX5_scan 136 = .ok (.iinc 3 1, 3) := by decide +kernel
theorem dX5_scan_139 : decode cX5_scan 139 = .ok (.goto (-133), 3) := by decide +kernel
theorem dX5_scan_142 : decode cX5_scan 142 = .ok (.aload_n 0, 1) := by decide +kernel
theorem dX5_scan_143 : decode cX5_scan 143 = .ok (.getfield 11, 3) := by decide +kernel
theorem dX5_scan_146 : decode cX5_scan 146 = .ok (.iload_n 1, 1) := by decide +kernel
theorem dX5_scan_147 : decode cX5_scan 147 = .ok (.iconst (-1), 1) := by decide +kernel
theorem dX5_scan_148 : decode cX5_scan 148 = .ok (.iastore, 1) := by decide +kernel
theorem dX5_scan_149 : decode cX5_scan 149 = .ok (.aload_n 0, 1) := by decide +kernel
theorem dX5_scan_150 : decode cX5_scan 150 = .ok (.getfield 15, 3) := by decide +kernel
theorem dX5_scan_153 : decode cX5_scan 153 = .ok (.iload_n 1, 1) := by decide +kernel
theorem dX5_scan_154 : decode cX5_scan 154 = .ok (.aload_n 0, 1) := by decide +kernel
theorem dX5_scan_155 : decode cX5_scan 155 = .ok (.getfield 18, 3) := by decide +kernel
theorem dX5_scan_158 : decode cX5_scan 158 = .ok (.getfield 61, 3) := by decide +kernel
theorem dX5_scan_161 : decode cX5_scan 161 = .ok (.iastore, 1) := by decide +kernel
theorem dX5_scan_162 : decode cX5_scan 162 = .ok (.return_, 1) := by decide +kernel
theorem dX5_isLetter_0 : decode cX5_isLetter 0 = .ok (.iload_n 0, 1) := by decide +kernel
theorem dX5_isLetter_1 : decode cX5_isLetter 1 = .ok (.bipush 97, 2) := by decide +kernel
theorem dX5_isLetter_3 : decode cX5_isLetter 3 = .ok (.if_icmp .lt 13, 3) := by decide +kernel
theorem dX5_isLetter_6 : decode cX5_isLetter 6 = .ok (.iload_n 0, 1) := by decide +kernel
theorem dX5_isLetter_7 : decode cX5_isLetter 7 = .ok (.bipush 122, 2) := by decide +kernel
theorem dX5_isLetter_9 : decode cX5_isLetter 9 = .ok (.if_icmp .gt 7, 3) := by decide +kernel
theorem dX5_isLetter_12 : decode cX5_isLetter 12 = .ok (.iconst 1, 1) := by decide +kernel
theorem dX5_isLetter_13 : decode cX5_isLetter 13 = .ok (.goto 4, 3) := by decide +kernel
theorem dX5_isLetter_16 : decode cX5_isLetter 16 = .ok (.iconst 0, 1) := by decide +kernel
theorem dX5_isLetter_17 : decode cX5_isLetter 17 = .ok (.ireturn, 1) := by decide +kernel
theorem dX5_isDigit_0 : decode cX5_isDigit 0 = .ok (.iload_n 0, 1) := by decide +kernel
theorem dX5_isDigit_1 : decode cX5_isDigit 1 = .ok (.bipush 48, 2) := by decide +kernel
theorem dX5_isDigit_3 : decode cX5_isDigit 3 = .ok (.if_icmp .lt 13, 3) := by decide +kernel
theorem dX5_isDigit_6 : decode cX5_isDigit 6 = .ok (.iload_n 0, 1) := by decide +kernel
theorem dX5_isDigit_7 : decode cX5_isDigit 7 = .ok (.bipush 57, 2) := by decide +kernel
theorem dX5_isDigit_9 : decode cX5_isDigit 9 = .ok (.if_icmp .gt 7, 3) := by decide +kernel
theorem dX5_isDigit_12 : decode cX5_isDigit 12 = .ok (.iconst 1, 1) := by decide +kernel
theorem dX5_isDigit_13 : decode cX5_isDigit 13 = .ok (.goto 4, 3) := by decide +kernel
theorem dX5_isDigit_16 : decode cX5_isDigit 16 = .ok (.iconst 0, 1) := by decide +kernel
theorem dX5_isDigit_17 : decode cX5_isDigit 17 = .ok (.ireturn, 1) := by decide +kernel
theorem dX5_endOfLetters_0 : decode cX5_endOfLetters 0 = .ok (.iload_n 1, 1) := by decide +kernel
theorem dX5_endOfLetters_1 : decode cX5_endOfLetters 1 = .ok (.istore_n 2, 1) := by decide +kernel
theorem dX5_endOfLetters_2 : decode cX5_endOfLetters 2 = .ok (.iload_n 2, 1) := by decide +kernel
theorem dX5_endOfLetters_3 : decode cX5_endOfLetters 3 = .ok (.aload_n 0, 1) := by decide +kernel
theorem dX5_endOfLetters_4 : decode cX5_endOfLetters 4 = .ok (.getfield 18, 3) := by decide +kernel
theorem dX5_endOfLetters_7 : decode cX5_endOfLetters 7 = .ok (.getfield 61, 3) := by decide +kernel
theorem dX5_endOfLetters_10 : decode cX5_endOfLetters 10 = .ok (.if_icmp .ge 24, 3) := by decide +kernel
theorem dX5_endOfLetters_13 : decode cX5_endOfLetters 13 = .ok (.aload_n 0, 1) := by decide +kernel
theorem dX5_endOfLetters_14 : decode cX5_endOfLetters 14 = .ok (.getfield 18, 3) := by decide +kernel
theorem dX5_endOfLetters_17 : decode cX5_endOfLetters 17 = .ok (.getfield 66, 3) := by decide +kernel
theorem dX5_endOfLetters_20 : decode cX5_endOfLetters 20 = .ok (.iload_n 2, 1) := by decide +kernel
theorem dX5_endOfLetters_21 : decode cX5_endOfLetters 21 = .ok (.iaload, 1) := by decide +kernel
theorem dX5_endOfLetters_22 : decode cX5_endOfLetters 22 = .ok (.invokestatic 69, 3) := by decide +kernel
theorem dX5_endOfLetters_25 : decode cX5_endOfLetters 25 = .ok (.ifCond .eq 9, 3) := by decide +kernel
theorem dX5_endOfLetters_28 : decode cX5_endOfLetters 28 = .ok (.iinc 2 1, 3) := by decide +kernel
theorem dX5_endOfLetters_31 : decode cX5_endOfLetters 31 = .ok (.goto (-29), 3) := by decide +kernel
theorem dX5_endOfLetters_34 : decode cX5_endOfLetters 34 = .ok (.iload_n 2, 1) := by decide +kernel
theorem dX5_endOfLetters_35 : decode cX5_endOfLetters 35 = .ok (.ireturn, 1) := by decide +kernel
theorem dX5_endOfDigits_0 : decode cX5_endOfDigits 0 = .ok (.iload_n 1, 1) := by decide +kernel
theorem dX5_endOfDigits_1 : decode cX5_endOfDigits 1 = .ok (.istore_n 2, 1) := by decide +kernel
theorem dX5_endOfDigits_2 : decode cX5_endOfDigits 2 = .ok (.iload_n 2, 1) := by decide +kernel
theorem dX5_endOfDigits_3 : decode cX5_endOfDigits 3 = .ok (.aload_n 0, 1) := by decide +kernel
theorem dX5_endOfDigits_4 : decode cX5_endOfDigits 4 = .ok (.getfield 18, 3) := by decide +kernel
theorem dX5_endOfDigits_7 : decode cX5_endOfDigits 7 = .ok (.getfield 61, 3) := by decide +kernel
theorem dX5_endOfDigits_10 : decode cX5_endOfDigits 10 = .ok (.if_icmp .ge 24, 3) := by decide +kernel
theorem dX5_endOfDigits_13 : decode cX5_endOfDigits 13 = .ok (.aload_n 0, 1) := by decide +kernel
theorem dX5_endOfDigits_14 : decode cX5_endOfDigits 14 = .ok (.getfield 18, 3) := by decide +kernel
theorem dX5_endOfDigits_17 : decode cX5_endOfDigits 17 = .ok (.getfield 66, 3) := by decide +kernel
theorem dX5_endOfDigits_20 : decode cX5_endOfDigits 20 = .ok (.iload_n 2, 1) := by decide +kernel
theorem dX5_endOfDigits_21 : decode cX5_endOfDigits 21 = .ok (.iaload, 1) := by decide +kernel
theorem dX5_endOfDigits_22 : decode cX5_endOfDigits 22 = .ok (.invokestatic 80, 3) := by decide +kernel
theorem dX5_endOfDigits_25 : decode cX5_endOfDigits 25 = .ok (.ifCond .eq 9, 3) := by decide +kernel
theorem dX5_endOfDigits_28 : decode cX5_endOfDigits 28 = .ok (.iinc 2 1, 3) := by decide +kernel
theorem dX5_endOfDigits_31 : decode cX5_endOfDigits 31 = .ok (.goto (-29), 3) := by decide +kernel
theorem dX5_endOfDigits_34 : decode cX5_endOfDigits 34 = .ok (.iload_n 2, 1) := by decide +kernel
theorem dX5_endOfDigits_35 : decode cX5_endOfDigits 35 = .ok (.ireturn, 1) := by decide +kernel
theorem dX5_valueFrom_0 : decode cX5_valueFrom 0 = .ok (.iconst 0, 1) := by decide +kernel
theorem dX5_valueFrom_1 : decode cX5_valueFrom 1 = .ok (.istore_n 3, 1) := by decide +kernel
theorem dX5_valueFrom_2 : decode cX5_valueFrom 2 = .ok (.iload_n 1, 1) := by decide +kernel
theorem dX5_valueFrom_3 : decode cX5_valueFrom 3 = .ok (.istore 4, 2) := by decide +kernel
theorem dX5_valueFrom_5 : decode cX5_valueFrom 5 = .ok (.iload 4, 2) := by decide +kernel
theorem dX5_valueFrom_7 : decode cX5_valueFrom 7 = .ok (.iload_n 2, 1) := by decide +kernel
theorem dX5_valueFrom_8 : decode cX5_valueFrom 8 = .ok (.if_icmp .ge 34, 3) := by decide +kernel
theorem dX5_valueFrom_11 : decode cX5_valueFrom 11 = .ok (.iload_n 3, 1) := by decide +kernel
theorem dX5_valueFrom_12 : decode cX5_valueFrom 12 = .ok (.bipush 10, 2) := by decide +kernel
theorem dX5_valueFrom_14 : decode cX5_valueFrom 14 = .ok (.imul, 1) := by decide +kernel
theorem dX5_valueFrom_15 : decode cX5_valueFrom 15 = .ok (.aload_n 0, 1) := by decide +kernel
theorem dX5_valueFrom_16 : decode cX5_valueFrom 16 = .ok (.getfield 18, 3) := by decide +kernel
theorem dX5_valueFrom_19 : decode cX5_valueFrom 19 = .ok (.getfield 66, 3) := by decide +kernel
theorem dX5_valueFrom_22 : decode cX5_valueFrom 22 = .ok (.iload 4, 2) := by decide +kernel
theorem dX5_valueFrom_24 : decode cX5_valueFrom 24 = .ok (.iaload, 1) := by decide +kernel
theorem dX5_valueFrom_25 : decode cX5_valueFrom 25 = .ok (.iadd, 1) := by decide +kernel
theorem dX5_valueFrom_26 : decode cX5_valueFrom 26 = .ok (.bipush 48, 2) := by decide +kernel
theorem dX5_valueFrom_28 : decode cX5_valueFrom 28 = .ok (.isub, 1) := by decide +kernel
theorem dX5_valueFrom_29 : decode cX5_valueFrom 29 = .ok (.sipush 1001, 3) := by decide +kernel
theorem dX5_valueFrom_32 : decode cX5_valueFrom 32 = .ok (.invokestatic 89, 3) := by decide +kernel
theorem dX5_valueFrom_35 : decode cX5_valueFrom 35 = .ok (.istore_n 3, 1) := by decide +kernel
theorem dX5_valueFrom_36 : decode cX5_valueFrom 36 = .ok (.iinc 4 1, 3) := by decide +kernel
theorem dX5_valueFrom_39 : decode cX5_valueFrom 39 = .ok (.goto (-34), 3) := by decide +kernel
theorem dX5_valueFrom_42 : decode cX5_valueFrom 42 = .ok (.iload_n 3, 1) := by decide +kernel
theorem dX5_valueFrom_43 : decode cX5_valueFrom 43 = .ok (.ireturn, 1) := by decide +kernel
end
section
theorem dX5_wordFrom_0 : decode cX5_wordFrom 0 = .ok (.aload_n 0, 1) := by decide +kernel
theorem dX5_wordFrom_1 : decode cX5_wordFrom 1 = .ok (.ldc 94, 2) := by decide +kernel
theorem dX5_wordFrom_3 : decode cX5_wordFrom 3 = .ok (.iload_n 1, 1) := by decide +kernel
theorem dX5_wordFrom_4 : decode cX5_wordFrom 4 = .ok (.iload_n 2, 1) := by decide +kernel
theorem dX5_wordFrom_5 : decode cX5_wordFrom 5 = .ok (.invokevirtual 96, 3) := by decide +kernel
theorem dX5_wordFrom_8 : decode cX5_wordFrom 8 = .ok (.ifCond .eq 9, 3) := by decide +kernel
theorem dX5_wordFrom_11 : decode cX5_wordFrom 11 = .ok (.sipush 301, 3) := by decide +kernel
theorem dX5_wordFrom_14 : decode cX5_wordFrom 14 = .ok (.goto 448, 3) := by decide +kernel
theorem dX5_wordFrom_17 : decode cX5_wordFrom 17 = .ok (.aload_n 0, 1) := by decide +kernel
theorem dX5_wordFrom_18 : decode cX5_wordFrom 18 = .ok (.ldc 100, 2) := by decide +kernel
theorem dX5_wordFrom_20 : decode cX5_wordFrom 20 = .ok (.iload_n 1, 1) := by decide +kernel
theorem dX5_wordFrom_21 : decode cX5_wordFrom 21 = .ok (.iload_n 2, 1) := by decide +kernel
theorem dX5_wordFrom_22 : decode cX5_wordFrom 22 = .ok (.invokevirtual 96, 3) := by decide +kernel
theorem dX5_wordFrom_25 : decode cX5_wordFrom 25 = .ok (.ifCond .eq 9, 3) := by decide +kernel
theorem dX5_wordFrom_28 : decode cX5_wordFrom 28 = .ok (.sipush 302, 3) := by decide +kernel
theorem dX5_wordFrom_31 : decode cX5_wordFrom 31 = .ok (.goto 431, 3) := by decide +kernel
theorem dX5_wordFrom_34 : decode cX5_wordFrom 34 = .ok (.aload_n 0, 1) := by decide +kernel
theorem dX5_wordFrom_35 : decode cX5_wordFrom 35 = .ok (.ldc 102, 2) := by decide +kernel
theorem dX5_wordFrom_37 : decode cX5_wordFrom 37 = .ok (.iload_n 1, 1) := by decide +kernel
theorem dX5_wordFrom_38 : decode cX5_wordFrom 38 = .ok (.iload_n 2, 1) := by decide +kernel
theorem dX5_wordFrom_39 : decode cX5_wordFrom 39 = .ok (.invokevirtual 96, 3) := by decide +kernel
theorem dX5_wordFrom_42 : decode cX5_wordFrom 42 = .ok (.ifCond .eq 9, 3) := by decide +kernel
theorem dX5_wordFrom_45 : decode cX5_wordFrom 45 = .ok (.sipush 303, 3) := by decide +kernel
theorem dX5_wordFrom_48 : decode cX5_wordFrom 48 = .ok (.goto 414, 3) := by decide +kernel
theorem dX5_wordFrom_51 : decode cX5_wordFrom 51 = .ok (.aload_n 0, 1) := by decide +kernel
theorem dX5_wordFrom_52 : decode cX5_wordFrom 52 = .ok (.ldc 104, 2) := by decide +kernel
theorem dX5_wordFrom_54 : decode cX5_wordFrom 54 = .ok (.iload_n 1, 1) := by decide +kernel
theorem dX5_wordFrom_55 : decode cX5_wordFrom 55 = .ok (.iload_n 2, 1) := by decide +kernel
theorem dX5_wordFrom_56 : decode cX5_wordFrom 56 = .ok (.invokevirtual 96, 3) := by decide +kernel
theorem dX5_wordFrom_59 : decode cX5_wordFrom 59 = .ok (.ifCond .eq 9, 3) := by decide +kernel
theorem dX5_wordFrom_62 : decode cX5_wordFrom 62 = .ok (.sipush 304, 3) := by decide +kernel
theorem dX5_wordFrom_65 : decode cX5_wordFrom 65 = .ok (.goto 397, 3) := by decide +kernel
theorem dX5_wordFrom_68 : decode cX5_wordFrom 68 = .ok (.aload_n 0, 1) := by decide +kernel
theorem dX5_wordFrom_69 : decode cX5_wordFrom 69 = .ok (.ldc 106, 2) := by decide +kernel
theorem dX5_wordFrom_71 : decode cX5_wordFrom 71 = .ok (.iload_n 1, 1) := by decide +kernel
theorem dX5_wordFrom_72 : decode cX5_wordFrom 72 = .ok (.iload_n 2, 1) := by decide +kernel
theorem dX5_wordFrom_73 : decode cX5_wordFrom 73 = .ok (.invokevirtual 96, 3) := by decide +kernel
theorem dX5_wordFrom_76 : decode cX5_wordFrom 76 = .ok (.ifCond .eq 9, 3) := by decide +kernel
theorem dX5_wordFrom_79 : decode cX5_wordFrom 79 = .ok (.sipush 305, 3) := by decide +kernel
theorem dX5_wordFrom_82 : decode cX5_wordFrom 82 = .ok (.goto 380, 3) := by decide +kernel
theorem dX5_wordFrom_85 : decode cX5_wordFrom 85 = .ok (.aload_n 0, 1) := by decide +kernel
theorem dX5_wordFrom_86 : decode cX5_wordFrom 86 = .ok (.ldc 108, 2) := by decide +kernel
theorem dX5_wordFrom_88 : decode cX5_wordFrom 88 = .ok (.iload_n 1, 1) := by decide +kernel
theorem dX5_wordFrom_89 : decode cX5_wordFrom 89 = .ok (.iload_n 2, 1) := by decide +kernel
theorem dX5_wordFrom_90 : decode cX5_wordFrom 90 = .ok (.invokevirtual 96, 3) := by decide +kernel
theorem dX5_wordFrom_93 : decode cX5_wordFrom 93 = .ok (.ifCond .eq 9, 3) := by decide +kernel
theorem dX5_wordFrom_96 : decode cX5_wordFrom 96 = .ok (.sipush 306, 3) := by decide +kernel
theorem dX5_wordFrom_99 : decode cX5_wordFrom 99 = .ok (.goto 363, 3) := by decide +kernel
theorem dX5_wordFrom_102 : decode cX5_wordFrom 102 = .ok (.aload_n 0, 1) := by decide +kernel
theorem dX5_wordFrom_103 : decode cX5_wordFrom 103 = .ok (.ldc 110, 2) := by decide +kernel
theorem dX5_wordFrom_105 : decode cX5_wordFrom 105 = .ok (.iload_n 1, 1) := by decide +kernel
theorem dX5_wordFrom_106 : decode cX5_wordFrom 106 = .ok (.iload_n 2, 1) := by decide +kernel
theorem dX5_wordFrom_107 : decode cX5_wordFrom 107 = .ok (.invokevirtual 96, 3) := by decide +kernel
theorem dX5_wordFrom_110 : decode cX5_wordFrom 110 = .ok (.ifCond .eq 9, 3) := by decide +kernel
theorem dX5_wordFrom_113 : decode cX5_wordFrom 113 = .ok (.sipush 307, 3) := by decide +kernel
theorem dX5_wordFrom_116 : decode cX5_wordFrom 116 = .ok (.goto 346, 3) := by decide +kernel
theorem dX5_wordFrom_119 : decode cX5_wordFrom 119 = .ok (.aload_n 0, 1) := by decide +kernel
theorem dX5_wordFrom_120 : decode cX5_wordFrom 120 = .ok (.ldc 112, 2) := by decide +kernel
theorem dX5_wordFrom_122 : decode cX5_wordFrom 122 = .ok (.iload_n 1, 1) := by decide +kernel
theorem dX5_wordFrom_123 : decode cX5_wordFrom 123 = .ok (.iload_n 2, 1) := by decide +kernel
theorem dX5_wordFrom_124 : decode cX5_wordFrom 124 = .ok (.invokevirtual 96, 3) := by decide +kernel
theorem dX5_wordFrom_127 : decode cX5_wordFrom 127 = .ok (.ifCond .eq 9, 3) := by decide +kernel
theorem dX5_wordFrom_130 : decode cX5_wordFrom 130 = .ok (.sipush 308, 3) := by decide +kernel
theorem dX5_wordFrom_133 : decode cX5_wordFrom 133 = .ok (.goto 329, 3) := by decide +kernel
theorem dX5_wordFrom_136 : decode cX5_wordFrom 136 = .ok (.aload_n 0, 1) := by decide +kernel
theorem dX5_wordFrom_137 : decode cX5_wordFrom 137 = .ok (.ldc 114, 2) := by decide +kernel
theorem dX5_wordFrom_139 : decode cX5_wordFrom 139 = .ok (.iload_n 1, 1) := by decide +kernel
theorem dX5_wordFrom_140 : decode cX5_wordFrom 140 = .ok (.iload_n 2, 1) := by decide +kernel
theorem dX5_wordFrom_141 : decode cX5_wordFrom 141 = .ok (.invokevirtual 96, 3) := by decide +kernel
theorem dX5_wordFrom_144 : decode cX5_wordFrom 144 = .ok (.ifCond .eq 9, 3) := by decide +kernel
theorem dX5_wordFrom_147 : decode cX5_wordFrom 147 = .ok (.sipush 309, 3) := by decide +kernel
theorem dX5_wordFrom_150 : decode cX5_wordFrom 150 = .ok (.goto 312, 3) := by decide +kernel
theorem dX5_wordFrom_153 : decode cX5_wordFrom 153 = .ok (.aload_n 0, 1) := by decide +kernel
theorem dX5_wordFrom_154 : decode cX5_wordFrom 154 = .ok (.ldc 116, 2) := by decide +kernel
theorem dX5_wordFrom_156 : decode cX5_wordFrom 156 = .ok (.iload_n 1, 1) := by decide +kernel
theorem dX5_wordFrom_157 : decode cX5_wordFrom 157 = .ok (.iload_n 2, 1) := by decide +kernel
theorem dX5_wordFrom_158 : decode cX5_wordFrom 158 = .ok (.invokevirtual 96, 3) := by decide +kernel
theorem dX5_wordFrom_161 : decode cX5_wordFrom 161 = .ok (.ifCond .eq 9, 3) := by decide +kernel
theorem dX5_wordFrom_164 : decode cX5_wordFrom 164 = .ok (.sipush 310, 3) := by decide +kernel
theorem dX5_wordFrom_167 : decode cX5_wordFrom 167 = .ok (.goto 295, 3) := by decide +kernel
theorem dX5_wordFrom_170 : decode cX5_wordFrom 170 = .ok (.aload_n 0, 1) := by decide +kernel
theorem dX5_wordFrom_171 : decode cX5_wordFrom 171 = .ok (.ldc 117, 2) := by decide +kernel
theorem dX5_wordFrom_173 : decode cX5_wordFrom 173 = .ok (.iload_n 1, 1) := by decide +kernel
theorem dX5_wordFrom_174 : decode cX5_wordFrom 174 = .ok (.iload_n 2, 1) := by decide +kernel
theorem dX5_wordFrom_175 : decode cX5_wordFrom 175 = .ok (.invokevirtual 96, 3) := by decide +kernel
theorem dX5_wordFrom_178 : decode cX5_wordFrom 178 = .ok (.ifCond .eq 9, 3) := by decide +kernel
theorem dX5_wordFrom_181 : decode cX5_wordFrom 181 = .ok (.sipush 311, 3) := by decide +kernel
theorem dX5_wordFrom_184 : decode cX5_wordFrom 184 = .ok (.goto 278, 3) := by decide +kernel
theorem dX5_wordFrom_187 : decode cX5_wordFrom 187 = .ok (.aload_n 0, 1) := by decide +kernel
theorem dX5_wordFrom_188 : decode cX5_wordFrom 188 = .ok (.ldc 119, 2) := by decide +kernel
theorem dX5_wordFrom_190 : decode cX5_wordFrom 190 = .ok (.iload_n 1, 1) := by decide +kernel
theorem dX5_wordFrom_191 : decode cX5_wordFrom 191 = .ok (.iload_n 2, 1) := by decide +kernel
theorem dX5_wordFrom_192 : decode cX5_wordFrom 192 = .ok (.invokevirtual 96, 3) := by decide +kernel
theorem dX5_wordFrom_195 : decode cX5_wordFrom 195 = .ok (.ifCond .eq 9, 3) := by decide +kernel
theorem dX5_wordFrom_198 : decode cX5_wordFrom 198 = .ok (.sipush 312, 3) := by decide +kernel
theorem dX5_wordFrom_201 : decode cX5_wordFrom 201 = .ok (.goto 261, 3) := by decide +kernel
theorem dX5_wordFrom_204 : decode cX5_wordFrom 204 = .ok (.aload_n 0, 1) := by decide +kernel
theorem dX5_wordFrom_205 : decode cX5_wordFrom 205 = .ok (.ldc 121, 2) := by decide +kernel
theorem dX5_wordFrom_207 : decode cX5_wordFrom 207 = .ok (.iload_n 1, 1) := by decide +kernel
theorem dX5_wordFrom_208 : decode cX5_wordFrom 208 = .ok (.iload_n 2, 1) := by decide +kernel
theorem dX5_wordFrom_209 : decode cX5_wordFrom 209 = .ok (.invokevirtual 96, 3) := by decide +kernel
theorem dX5_wordFrom_212 : decode cX5_wordFrom 212 = .ok (.ifCond .eq 9, 3) := by decide +kernel
theorem dX5_wordFrom_215 : decode cX5_wordFrom 215 = .ok (.sipush 313, 3) := by decide +kernel
theorem dX5_wordFrom_218 : decode cX5_wordFrom 218 = .ok (.goto 244, 3) := by decide +kernel
theorem dX5_wordFrom_221 : decode cX5_wordFrom 221 = .ok (.aload_n 0, 1) := by decide +kernel
theorem dX5_wordFrom_222 : decode cX5_wordFrom 222 = .ok (.ldc 123, 2) := by decide +kernel
theorem dX5_wordFrom_224 : decode cX5_wordFrom 224 = .ok (.iload_n 1, 1) := by decide +kernel
theorem dX5_wordFrom_225 : decode cX5_wordFrom 225 = .ok (.iload_n 2, 1) := by decide +kernel
theorem dX5_wordFrom_226 : decode cX5_wordFrom 226 = .ok (.invokevirtual 96, 3) := by decide +kernel
theorem dX5_wordFrom_229 : decode cX5_wordFrom 229 = .ok (.ifCond .eq 9, 3) := by decide +kernel
theorem dX5_wordFrom_232 : decode cX5_wordFrom 232 = .ok (.sipush 314, 3) := by decide +kernel
theorem dX5_wordFrom_235 : decode cX5_wordFrom 235 = .ok (.goto 227, 3) := by decide +kernel
theorem dX5_wordFrom_238 : decode cX5_wordFrom 238 = .ok (.aload_n 0, 1) := by decide +kernel
theorem dX5_wordFrom_239 : decode cX5_wordFrom 239 = .ok (.ldc 125, 2) := by decide +kernel
theorem dX5_wordFrom_241 : decode cX5_wordFrom 241 = .ok (.iload_n 1, 1) := by decide +kernel
theorem dX5_wordFrom_242 : decode cX5_wordFrom 242 = .ok (.iload_n 2, 1) := by decide +kernel
theorem dX5_wordFrom_243 : decode cX5_wordFrom 243 = .ok (.invokevirtual 96, 3) := by decide +kernel
theorem dX5_wordFrom_246 : decode cX5_wordFrom 246 = .ok (.ifCond .eq 9, 3) := by decide +kernel
theorem dX5_wordFrom_249 : decode cX5_wordFrom 249 = .ok (.sipush 315, 3) := by decide +kernel
theorem dX5_wordFrom_252 : decode cX5_wordFrom 252 = .ok (.goto 210, 3) := by decide +kernel
theorem dX5_wordFrom_255 : decode cX5_wordFrom 255 = .ok (.aload_n 0, 1) := by decide +kernel
theorem dX5_wordFrom_256 : decode cX5_wordFrom 256 = .ok (.ldc 127, 2) := by decide +kernel
theorem dX5_wordFrom_258 : decode cX5_wordFrom 258 = .ok (.iload_n 1, 1) := by decide +kernel
theorem dX5_wordFrom_259 : decode cX5_wordFrom 259 = .ok (.iload_n 2, 1) := by decide +kernel
theorem dX5_wordFrom_260 : decode cX5_wordFrom 260 = .ok (.invokevirtual 96, 3) := by decide +kernel
theorem dX5_wordFrom_263 : decode cX5_wordFrom 263 = .ok (.ifCond .eq 9, 3) := by decide +kernel
theorem dX5_wordFrom_266 : decode cX5_wordFrom 266 = .ok (.sipush 316, 3) := by decide +kernel
theorem dX5_wordFrom_269 : decode cX5_wordFrom 269 = .ok (.goto 193, 3) := by decide +kernel
theorem dX5_wordFrom_272 : decode cX5_wordFrom 272 = .ok (.aload_n 0, 1) := by decide +kernel
theorem dX5_wordFrom_273 : decode cX5_wordFrom 273 = .ok (.ldc 129, 2) := by decide +kernel
theorem dX5_wordFrom_275 : decode cX5_wordFrom 275 = .ok (.iload_n 1, 1) := by decide +kernel
theorem dX5_wordFrom_276 : decode cX5_wordFrom 276 = .ok (.iload_n 2, 1) := by decide +kernel
theorem dX5_wordFrom_277 : decode cX5_wordFrom 277 = .ok (.invokevirtual 96, 3) := by decide +kernel
theorem dX5_wordFrom_280 : decode cX5_wordFrom 280 = .ok (.ifCond .eq 9, 3) := by decide +kernel
theorem dX5_wordFrom_283 : decode cX5_wordFrom 283 = .ok (.sipush 317, 3) := by decide +kernel
theorem dX5_wordFrom_286 : decode cX5_wordFrom 286 = .ok (.goto 176, 3) := by decide +kernel
theorem dX5_wordFrom_289 : decode cX5_wordFrom 289 = .ok (.aload_n 0, 1) := by decide +kernel
theorem dX5_wordFrom_290 : decode cX5_wordFrom 290 = .ok (.ldc 131, 2) := by decide +kernel
theorem dX5_wordFrom_292 : decode cX5_wordFrom 292 = .ok (.iload_n 1, 1) := by decide +kernel
theorem dX5_wordFrom_293 : decode cX5_wordFrom 293 = .ok (.iload_n 2, 1) := by decide +kernel
theorem dX5_wordFrom_294 : decode cX5_wordFrom 294 = .ok (.invokevirtual 96, 3) := by decide +kernel
theorem dX5_wordFrom_297 : decode cX5_wordFrom 297 = .ok (.ifCond .eq 9, 3) := by decide +kernel
theorem dX5_wordFrom_300 : decode cX5_wordFrom 300 = .ok (.sipush 318, 3) := by decide +kernel
theorem dX5_wordFrom_303 : decode cX5_wordFrom 303 = .ok (.goto 159, 3) := by decide +kernel
theorem dX5_wordFrom_306 : decode cX5_wordFrom 306 = .ok (.aload_n 0, 1) := by decide +kernel
theorem dX5_wordFrom_307 : decode cX5_wordFrom 307 = .ok (.ldc 133, 2) := by decide +kernel
theorem dX5_wordFrom_309 : decode cX5_wordFrom 309 = .ok (.iload_n 1, 1) := by decide +kernel
theorem dX5_wordFrom_310 : decode cX5_wordFrom 310 = .ok (.iload_n 2, 1) := by decide +kernel
theorem dX5_wordFrom_311 : decode cX5_wordFrom 311 = .ok (.invokevirtual 96, 3) := by decide +kernel
theorem dX5_wordFrom_314 : decode cX5_wordFrom 314 = .ok (.ifCond .eq 9, 3) := by decide +kernel
theorem dX5_wordFrom_317 : decode cX5_wordFrom 317 = .ok (.sipush 319, 3) := by decide +kernel
theorem dX5_wordFrom_320 : decode cX5_wordFrom 320 = .ok (.goto 142, 3) := by decide +kernel
theorem dX5_wordFrom_323 : decode cX5_wordFrom 323 = .ok (.aload_n 0, 1) := by decide +kernel
theorem dX5_wordFrom_324 : decode cX5_wordFrom 324 = .ok (.ldc 135, 2) := by decide +kernel
theorem dX5_wordFrom_326 : decode cX5_wordFrom 326 = .ok (.iload_n 1, 1) := by decide +kernel
theorem dX5_wordFrom_327 : decode cX5_wordFrom 327 = .ok (.iload_n 2, 1) := by decide +kernel
theorem dX5_wordFrom_328 : decode cX5_wordFrom 328 = .ok (.invokevirtual 96, 3) := by decide +kernel
theorem dX5_wordFrom_331 : decode cX5_wordFrom 331 = .ok (.ifCond .eq 9, 3) := by decide +kernel
theorem dX5_wordFrom_334 : decode cX5_wordFrom 334 = .ok (.sipush 320, 3) := by decide +kernel
theorem dX5_wordFrom_337 : decode cX5_wordFrom 337 = .ok (.goto 125, 3) := by decide +kernel
theorem dX5_wordFrom_340 : decode cX5_wordFrom 340 = .ok (.aload_n 0, 1) := by decide +kernel
theorem dX5_wordFrom_341 : decode cX5_wordFrom 341 = .ok (.ldc 137, 2) := by decide +kernel
theorem dX5_wordFrom_343 : decode cX5_wordFrom 343 = .ok (.iload_n 1, 1) := by decide +kernel
theorem dX5_wordFrom_344 : decode cX5_wordFrom 344 = .ok (.iload_n 2, 1) := by decide +kernel
theorem dX5_wordFrom_345 : decode cX5_wordFrom 345 = .ok (.invokevirtual 96, 3) := by decide +kernel
theorem dX5_wordFrom_348 : decode cX5_wordFrom 348 = .ok (.ifCond .eq 9, 3) := by decide +kernel
theorem dX5_wordFrom_351 : decode cX5_wordFrom 351 = .ok (.sipush 321, 3) := by decide +kernel
theorem dX5_wordFrom_354 : decode cX5_wordFrom 354 = .ok (.goto 108, 3) := by decide +kernel
theorem dX5_wordFrom_357 : decode cX5_wordFrom 357 = .ok (.aload_n 0, 1) := by decide +kernel
theorem dX5_wordFrom_358 : decode cX5_wordFrom 358 = .ok (.ldc 139, 2) := by decide +kernel
theorem dX5_wordFrom_360 : decode cX5_wordFrom 360 = .ok (.iload_n 1, 1) := by decide +kernel
theorem dX5_wordFrom_361 : decode cX5_wordFrom 361 = .ok (.iload_n 2, 1) := by decide +kernel
theorem dX5_wordFrom_362 : decode cX5_wordFrom 362 = .ok (.invokevirtual 96, 3) := by decide +kernel
theorem dX5_wordFrom_365 : decode cX5_wordFrom 365 = .ok (.ifCond .eq 9, 3) := by decide +kernel
theorem dX5_wordFrom_368 : decode cX5_wordFrom 368 = .ok (.sipush 322, 3) := by decide +kernel
theorem dX5_wordFrom_371 : decode cX5_wordFrom 371 = .ok (.goto 91, 3) := by decide +kernel
theorem dX5_wordFrom_374 : decode cX5_wordFrom 374 = .ok (.aload_n 0, 1) := by decide +kernel
theorem dX5_wordFrom_375 : decode cX5_wordFrom 375 = .ok (.ldc 141, 2) := by decide +kernel
theorem dX5_wordFrom_377 : decode cX5_wordFrom 377 = .ok (.iload_n 1, 1) := by decide +kernel
theorem dX5_wordFrom_378 : decode cX5_wordFrom 378 = .ok (.iload_n 2, 1) := by decide +kernel
theorem dX5_wordFrom_379 : decode cX5_wordFrom 379 = .ok (.invokevirtual 96, 3) := by decide +kernel
theorem dX5_wordFrom_382 : decode cX5_wordFrom 382 = .ok (.ifCond .eq 9, 3) := by decide +kernel
theorem dX5_wordFrom_385 : decode cX5_wordFrom 385 = .ok (.sipush 323, 3) := by decide +kernel
theorem dX5_wordFrom_388 : decode cX5_wordFrom 388 = .ok (.goto 74, 3) := by decide +kernel
theorem dX5_wordFrom_391 : decode cX5_wordFrom 391 = .ok (.aload_n 0, 1) := by decide +kernel
theorem dX5_wordFrom_392 : decode cX5_wordFrom 392 = .ok (.ldc 143, 2) := by decide +kernel
theorem dX5_wordFrom_394 : decode cX5_wordFrom 394 = .ok (.iload_n 1, 1) := by decide +kernel
theorem dX5_wordFrom_395 : decode cX5_wordFrom 395 = .ok (.iload_n 2, 1) := by decide +kernel
theorem dX5_wordFrom_396 : decode cX5_wordFrom 396 = .ok (.invokevirtual 96, 3) := by decide +kernel
theorem dX5_wordFrom_399 : decode cX5_wordFrom 399 = .ok (.ifCond .eq 9, 3) := by decide +kernel
theorem dX5_wordFrom_402 : decode cX5_wordFrom 402 = .ok (.sipush 324, 3) := by decide +kernel
theorem dX5_wordFrom_405 : decode cX5_wordFrom 405 = .ok (.goto 57, 3) := by decide +kernel
theorem dX5_wordFrom_408 : decode cX5_wordFrom 408 = .ok (.aload_n 0, 1) := by decide +kernel
theorem dX5_wordFrom_409 : decode cX5_wordFrom 409 = .ok (.ldc 145, 2) := by decide +kernel
theorem dX5_wordFrom_411 : decode cX5_wordFrom 411 = .ok (.iload_n 1, 1) := by decide +kernel
theorem dX5_wordFrom_412 : decode cX5_wordFrom 412 = .ok (.iload_n 2, 1) := by decide +kernel
theorem dX5_wordFrom_413 : decode cX5_wordFrom 413 = .ok (.invokevirtual 96, 3) := by decide +kernel
theorem dX5_wordFrom_416 : decode cX5_wordFrom 416 = .ok (.ifCond .eq 9, 3) := by decide +kernel
theorem dX5_wordFrom_419 : decode cX5_wordFrom 419 = .ok (.sipush 325, 3) := by decide +kernel
theorem dX5_wordFrom_422 : decode cX5_wordFrom 422 = .ok (.goto 40, 3) := by decide +kernel
theorem dX5_wordFrom_425 : decode cX5_wordFrom 425 = .ok (.aload_n 0, 1) := by decide +kernel
theorem dX5_wordFrom_426 : decode cX5_wordFrom 426 = .ok (.ldc 147, 2) := by decide +kernel
theorem dX5_wordFrom_428 : decode cX5_wordFrom 428 = .ok (.iload_n 1, 1) := by decide +kernel
theorem dX5_wordFrom_429 : decode cX5_wordFrom 429 = .ok (.iload_n 2, 1) := by decide +kernel
theorem dX5_wordFrom_430 : decode cX5_wordFrom 430 = .ok (.invokevirtual 96, 3) := by decide +kernel
theorem dX5_wordFrom_433 : decode cX5_wordFrom 433 = .ok (.ifCond .eq 9, 3) := by decide +kernel
theorem dX5_wordFrom_436 : decode cX5_wordFrom 436 = .ok (.sipush 326, 3) := by decide +kernel
theorem dX5_wordFrom_439 : decode cX5_wordFrom 439 = .ok (.goto 23, 3) := by decide +kernel
theorem dX5_wordFrom_442 : decode cX5_wordFrom 442 = .ok (.aload_n 0, 1) := by decide +kernel
theorem dX5_wordFrom_443 : decode cX5_wordFrom 443 = .ok (.ldc 149, 2) := by decide +kernel
theorem dX5_wordFrom_445 : decode cX5_wordFrom 445 = .ok (.iload_n 1, 1) := by decide +kernel
theorem dX5_wordFrom_446 : decode cX5_wordFrom 446 = .ok (.iload_n 2, 1) := by decide +kernel
theorem dX5_wordFrom_447 : decode cX5_wordFrom 447 = .ok (.invokevirtual 96, 3) := by decide +kernel
theorem dX5_wordFrom_450 : decode cX5_wordFrom 450 = .ok (.ifCond .eq 9, 3) := by decide +kernel
theorem dX5_wordFrom_453 : decode cX5_wordFrom 453 = .ok (.sipush 327, 3) := by decide +kernel
theorem dX5_wordFrom_456 : decode cX5_wordFrom 456 = .ok (.goto 6, 3) := by decide +kernel
theorem dX5_wordFrom_459 : decode cX5_wordFrom 459 = .ok (.sipush 300, 3) := by decide +kernel
theorem dX5_wordFrom_462 : decode cX5_wordFrom 462 = .ok (.ireturn, 1) := by decide +kernel
theorem dX5_is_0 : decode cX5_is 0 = .ok (.iload_n 3, 1) := by decide +kernel
theorem dX5_is_1 : decode cX5_is 1 = .ok (.iload_n 2, 1) := by decide +kernel
theorem dX5_is_2 : decode cX5_is 2 = .ok (.isub, 1) := by decide +kernel
theorem dX5_is_3 : decode cX5_is 3 = .ok (.aload_n 1, 1) := by decide +kernel
theorem dX5_is_4 : decode cX5_is 4 = .ok (.invokevirtual 151, 3) := by decide +kernel
theorem dX5_is_7 : decode cX5_is 7 = .ok (.if_icmp .eq 5, 3) := by decide +kernel
theorem dX5_is_10 : decode cX5_is 10 = .ok (.iconst 0, 1) := by decide +kernel
theorem dX5_is_11 : decode cX5_is 11 = .ok (.ireturn, 1) := by decide +kernel
theorem dX5_is_12 : decode cX5_is 12 = .ok (.iload_n 2, 1) := by decide +kernel
theorem dX5_is_13 : decode cX5_is 13 = .ok (.istore 4, 2) := by decide +kernel
theorem dX5_is_15 : decode cX5_is 15 = .ok (.iload 4, 2) := by decide +kernel
theorem dX5_is_17 : decode cX5_is 17 = .ok (.iload_n 3, 1) := by decide +kernel
theorem dX5_is_18 : decode cX5_is 18 = .ok (.if_icmp .ge 32, 3) := by decide +kernel
theorem dX5_is_21 : decode cX5_is 21 = .ok (.aload_n 0, 1) := by decide +kernel
theorem dX5_is_22 : decode cX5_is 22 = .ok (.getfield 18, 3) := by decide +kernel
theorem dX5_is_25 : decode cX5_is 25 = .ok (.getfield 66, 3) := by decide +kernel
theorem dX5_is_28 : decode cX5_is 28 = .ok (.iload 4, 2) := by decide +kernel
theorem dX5_is_30 : decode cX5_is 30 = .ok (.iaload, 1) := by decide +kernel
theorem dX5_is_31 : decode cX5_is 31 = .ok (.aload_n 1, 1) := by decide +kernel
theorem dX5_is_32 : decode cX5_is 32 = .ok (.iload 4, 2) := by decide +kernel
theorem dX5_is_34 : decode cX5_is 34 = .ok (.iload_n 2, 1) := by decide +kernel
theorem dX5_is_35 : decode cX5_is 35 = .ok (.isub, 1) := by decide +kernel
theorem dX5_is_36 : decode cX5_is 36 = .ok (.invokevirtual 156, 3) := by decide +kernel
theorem dX5_is_39 : decode cX5_is 39 = .ok (.if_icmp .eq 5, 3) := by decide +kernel
theorem dX5_is_42 : decode cX5_is 42 = .ok (.iconst 0, 1) := by decide +kernel
theorem dX5_is_43 : decode cX5_is 43 = .ok (.ireturn, 1) := by decide +kernel
theorem dX5_is_44 : decode cX5_is 44 = .ok (.iinc 4 1, 3) := by decide +kernel
theorem dX5_is_47 : decode cX5_is 47 = .ok (.goto (-32), 3) := by decide +kernel
theorem dX5_is_50 : decode cX5_is 50 = .ok (.iconst 1, 1) := by decide +kernel
theorem dX5_is_51 : decode cX5_is 51 = .ok (.ireturn, 1) := by decide +kernel
theorem dX5_fail_0 : decode cX5_fail 0 = .ok (.aload_n 0, 1) := by decide +kernel
theorem dX5_fail_1 : decode cX5_fail 1 = .ok (.getfield 40, 3) := by decide +kernel
theorem dX5_fail_4 : decode cX5_fail 4 = .ok (.iconst (-1), 1) := by decide +kernel
theorem dX5_fail_5 : decode cX5_fail 5 = .ok (.if_icmp .ne 16, 3) := by decide +kernel
theorem dX5_fail_8 : decode cX5_fail 8 = .ok (.aload_n 0, 1) := by decide +kernel
theorem dX5_fail_9 : decode cX5_fail 9 = .ok (.aload_n 0, 1) := by decide +kernel
theorem dX5_fail_10 : decode cX5_fail 10 = .ok (.getfield 15, 3) := by decide +kernel
theorem dX5_fail_13 : decode cX5_fail 13 = .ok (.aload_n 0, 1) := by decide +kernel
theorem dX5_fail_14 : decode cX5_fail 14 = .ok (.getfield 30, 3) := by decide +kernel
theorem dX5_fail_17 : decode cX5_fail 17 = .ok (.iaload, 1) := by decide +kernel
theorem dX5_fail_18 : decode cX5_fail 18 = .ok (.putfield 40, 3) := by decide +kernel
theorem dX5_fail_21 : decode cX5_fail 21 = .ok (.return_, 1) := by decide +kernel
theorem dX5_take_0 : decode cX5_take 0 = .ok (.aload_n 0, 1) := by decide +kernel
theorem dX5_take_1 : decode cX5_take 1 = .ok (.getfield 40, 3) := by decide +kernel
theorem dX5_take_4 : decode cX5_take 4 = .ok (.iconst (-1), 1) := by decide +kernel
theorem dX5_take_5 : decode cX5_take 5 = .ok (.if_icmp .ne 16, 3) := by decide +kernel
theorem dX5_take_8 : decode cX5_take 8 = .ok (.aload_n 0, 1) := by decide +kernel
theorem dX5_take_9 : decode cX5_take 9 = .ok (.getfield 11, 3) := by decide +kernel
theorem dX5_take_12 : decode cX5_take 12 = .ok (.aload_n 0, 1) := by decide +kernel
theorem dX5_take_13 : decode cX5_take 13 = .ok (.getfield 30, 3) := by decide +kernel
theorem dX5_take_16 : decode cX5_take 16 = .ok (.iaload, 1) := by decide +kernel
theorem dX5_take_17 : decode cX5_take 17 = .ok (.iload_n 1, 1) := by decide +kernel
theorem dX5_take_18 : decode cX5_take 18 = .ok (.if_icmp .eq 5, 3) := by decide +kernel
theorem dX5_take_21 : decode cX5_take 21 = .ok (.iconst 0, 1) := by decide +kernel
theorem dX5_take_22 : decode cX5_take 22 = .ok (.ireturn, 1) := by decide +kernel
theorem dX5_take_23 : decode cX5_take 23 = .ok (.aload_n 0, 1) := by decide +kernel
theorem dX5_take_24 : decode cX5_take 24 = .ok (.dup, 1) := by decide +kernel
theorem dX5_take_25 : decode cX5_take 25 = .ok (.getfield 30, 3) := by decide +kernel
theorem dX5_take_28 : decode cX5_take 28 = .ok (.iconst 1, 1) := by decide +kernel
theorem dX5_take_29 : decode cX5_take 29 = .ok (.iadd, 1) := by decide +kernel
theorem dX5_take_30 : decode cX5_take 30 = .ok (.putfield 30, 3) := by decide +kernel
theorem dX5_take_33 : decode cX5_take 33 = .ok (.iconst 1, 1) := by decide +kernel
theorem dX5_take_34 : decode cX5_take 34 = .ok (.ireturn, 1) := by decide +kernel
theorem dX5_seenToken_0 : decode cX5_seenToken 0 = .ok (.aload_n 0, 1) := by decide +kernel
theorem dX5_seenToken_1 : decode cX5_seenToken 1 = .ok (.getfield 40, 3) := by decide +kernel
theorem dX5_seenToken_4 : decode cX5_seenToken 4 = .ok (.iconst (-1), 1) := by decide +kernel
theorem dX5_seenToken_5 : decode cX5_seenToken 5 = .ok (.if_icmp .ne 15, 3) := by decide +kernel
theorem dX5_seenToken_8 : decode cX5_seenToken 8 = .ok (.aload_n 0, 1) := by decide +kernel
theorem dX5_seenToken_9 : decode cX5_seenToken 9 = .ok (.getfield 11, 3) := by decide +kernel
theorem dX5_seenToken_12 : decode cX5_seenToken 12 = .ok (.aload_n 0, 1) := by decide +kernel
theorem dX5_seenToken_13 : decode cX5_seenToken 13 = .ok (.getfield 30, 3) := by decide +kernel
theorem dX5_seenToken_16 : decode cX5_seenToken 16 = .ok (.iaload, 1) := by decide +kernel
theorem dX5_seenToken_17 : decode cX5_seenToken 17 = .ok (.goto 4, 3) := by decide +kernel
theorem dX5_seenToken_20 : decode cX5_seenToken 20 = .ok (.iconst (-1), 1) := by decide +kernel
theorem dX5_seenToken_21 : decode cX5_seenToken 21 = .ok (.ireturn, 1) := by decide +kernel
theorem dX5_takeNumber_0 : decode cX5_takeNumber 0 = .ok (.aload_n 0, 1) := by decide +kernel
theorem dX5_takeNumber_1 : decode cX5_takeNumber 1 = .ok (.getfield 11, 3) := by decide +kernel
theorem dX5_takeNumber_4 : decode cX5_takeNumber 4 = .ok (.aload_n 0, 1) := by decide +kernel
theorem dX5_takeNumber_5 : decode cX5_takeNumber 5 = .ok (.getfield 30, 3) := by decide +kernel
theorem dX5_takeNumber_8 : decode cX5_takeNumber 8 = .ok (.iaload, 1) := by decide +kernel
theorem dX5_takeNumber_9 : decode cX5_takeNumber 9 = .ok (.sipush 400, 3) := by decide +kernel
theorem dX5_takeNumber_12 : decode cX5_takeNumber 12 = .ok (.isub, 1) := by decide +kernel
theorem dX5_takeNumber_13 : decode cX5_takeNumber 13 = .ok (.istore_n 3, 1) := by decide +kernel
theorem dX5_takeNumber_14 : decode cX5_takeNumber 14 = .ok (.aload_n 0, 1) := by decide +kernel
theorem dX5_takeNumber_15 : decode cX5_takeNumber 15 = .ok (.getfield 40, 3) := by decide +kernel
theorem dX5_takeNumber_18 : decode cX5_takeNumber 18 = .ok (.iconst (-1), 1) := by decide +kernel
theorem dX5_takeNumber_19 : decode cX5_takeNumber 19 = .ok (.if_icmp .ne 13, 3) := by decide +kernel
theorem dX5_takeNumber_22 : decode cX5_takeNumber 22 = .ok (.iload_n 3, 1) := by decide +kernel
theorem dX5_takeNumber_23 : decode cX5_takeNumber 23 = .ok (.iload_n 1, 1) := by decide +kernel
theorem dX5_takeNumber_24 : decode cX5_takeNumber 24 = .ok (.if_icmp .lt 8, 3) := by decide +kernel
theorem dX5_takeNumber_27 : decode cX5_takeNumber 27 = .ok (.iload_n 3, 1) := by decide +kernel
theorem dX5_takeNumber_28 : decode cX5_takeNumber 28 = .ok (.iload_n 2, 1) := by decide +kernel
theorem dX5_takeNumber_29 : decode cX5_takeNumber 29 = .ok (.if_icmp .le 5, 3) := by decide +kernel
theorem dX5_takeNumber_32 : decode cX5_takeNumber 32 = .ok (.iconst (-1), 1) := by decide +kernel
theorem dX5_takeNumber_33 : decode cX5_takeNumber 33 = .ok (.ireturn, 1) := by decide +kernel
theorem dX5_takeNumber_34 : decode cX5_takeNumber 34 = .ok (.aload_n 0, 1) := by decide +kernel
theorem dX5_takeNumber_35 : decode cX5_takeNumber 35 = .ok (.dup, 1) := by decide +kernel
theorem dX5_takeNumber_36 : decode cX5_takeNumber 36 = .ok (.getfield 30, 3) := by decide +kernel
theorem dX5_takeNumber_39 : decode cX5_takeNumber 39 = .ok (.iconst 1, 1) := by decide +kernel
theorem dX5_takeNumber_40 : decode cX5_takeNumber 40 = .ok (.iadd, 1) := by decide +kernel
theorem dX5_takeNumber_41 : decode cX5_takeNumber 41 = .ok (.putfield 30, 3) := by decide +kernel
theorem dX5_takeNumber_44 : decode cX5_takeNumber 44 = .ok (.iload_n 3, 1) := by decide +kernel
theorem dX5_takeNumber_45 : decode cX5_takeNumber 45 = .ok (.ireturn, 1) := by decide +kernel
theorem dX5_readClause_0 : decode cX5_readClause 0 = .ok (.aload_n 0, 1) := by decide +kernel
theorem dX5_readClause_1 : decode cX5_readClause 1 = .ok (.getfield 11, 3) := by decide +kernel
theorem dX5_readClause_4 : decode cX5_readClause 4 = .ok (.aload_n 0, 1) := by decide +kernel
theorem dX5_readClause_5 : decode cX5_readClause 5 = .ok (.getfield 30, 3) := by decide +kernel
theorem dX5_readClause_8 : decode cX5_readClause 8 = .ok (.iaload, 1) := by decide +kernel
theorem dX5_readClause_9 : decode cX5_readClause 9 = .ok (.aload_n 0, 1) := by decide +kernel
theorem dX5_readClause_10 : decode cX5_readClause 10 = .ok (.getfield 26, 3) := by decide +kernel
theorem dX5_readClause_13 : decode cX5_readClause 13 = .ok (.ifCond .eq 9, 3) := by decide +kernel
theorem dX5_readClause_16 : decode cX5_readClause 16 = .ok (.sipush 304, 3) := by decide +kernel
theorem dX5_readClause_19 : decode cX5_readClause 19 = .ok (.goto 6, 3) := by decide +kernel
theorem dX5_readClause_22 : decode cX5_readClause 22 = .ok (.sipush 301, 3) := by decide +kernel
theorem dX5_readClause_25 : decode cX5_readClause 25 = .ok (.isub, 1) := by decide +kernel
theorem dX5_readClause_26 : decode cX5_readClause 26 = .ok (.istore_n 1, 1) := by decide +kernel
theorem dX5_readClause_27 : decode cX5_readClause 27 = .ok (.iload_n 1, 1) := by decide +kernel
theorem dX5_readClause_28 : decode cX5_readClause 28 = .ok (.ifCond .lt 19, 3) := by decide +kernel
theorem dX5_readClause_31 : decode cX5_readClause 31 = .ok (.iload_n 1, 1) := by decide +kernel
theorem dX5_readClause_32 : decode cX5_readClause 32 = .ok (.aload_n 0, 1) := by decide +kernel
theorem dX5_readClause_33 : decode cX5_readClause 33 = .ok (.getfield 26, 3) := by decide +kernel
theorem dX5_readClause_36 : decode cX5_readClause 36 = .ok (.ifCond .eq 7, 3) := by decide +kernel
theorem dX5_readClause_39 : decode cX5_readClause 39 = .ok (.iconst 3, 1) := by decide +kernel
theorem dX5_readClause_40 : decode cX5_readClause 40 = .ok (.goto 4, 3) := by decide +kernel
theorem dX5_readClause_43 : decode cX5_readClause 43 = .ok (.iconst 2, 1) := by decide +kernel
theorem dX5_readClause_44 : decode cX5_readClause 44 = .ok (.if_icmp .le 8, 3) := by decide +kernel
theorem dX5_readClause_47 : decode cX5_readClause 47 = .ok (.aload_n 0, 1) := by decide +kernel
theorem dX5_readClause_48 : decode cX5_readClause 48 = .ok (.invokevirtual 58, 3) := by decide +kernel
theorem dX5_readClause_51 : decode cX5_readClause 51 = .ok (.return_, 1) := by decide +kernel
theorem dX5_readClause_52 : decode cX5_readClause 52 = .ok (.aload_n 0, 1) := by decide +kernel
theorem dX5_readClause_53 : decode cX5_readClause 53 = .ok (.dup, 1) := by decide +kernel
theorem dX5_readClause_54 : decode cX5_readClause 54 = .ok (.getfield 30, 3) := by decide +kernel
theorem dX5_readClause_57 : decode cX5_readClause 57 = .ok (.iconst 1, 1) := by decide +kernel
theorem dX5_readClause_58 : decode cX5_readClause 58 = .ok (.iadd, 1) := by decide +kernel
theorem dX5_readClause_59 : decode cX5_readClause 59 = .ok (.putfield 30, 3) := by decide +kernel
theorem dX5_readClause_62 : decode cX5_readClause 62 = .ok (.aload_n 0, 1) := by decide +kernel
theorem dX5_readClause_63 : decode cX5_readClause 63 = .ok (.getfield 22, 3) := by decide +kernel
theorem dX5_readClause_66 : decode cX5_readClause 66 = .ok (.iload_n 1, 1) := by decide +kernel
theorem dX5_readClause_67 : decode cX5_readClause 67 = .ok (.invokevirtual 160, 3) := by decide +kernel
theorem dX5_readClause_70 : decode cX5_readClause 70 = .ok (.aload_n 0, 1) := by decide +kernel
theorem dX5_readClause_71 : decode cX5_readClause 71 = .ok (.aload_n 0, 1) := by decide +kernel
theorem dX5_readClause_72 : decode cX5_readClause 72 = .ok (.getfield 26, 3) := by decide +kernel
theorem dX5_readClause_75 : decode cX5_readClause 75 = .ok (.ifCond .eq 24, 3) := by decide +kernel
theorem dX5_readClause_78 : decode cX5_readClause 78 = .ok (.iload_n 1, 1) := by decide +kernel
theorem dX5_readClause_79 : decode cX5_readClause 79 = .ok (.ifCond .ne 7, 3) := by decide +kernel
theorem dX5_readClause_82 : decode cX5_readClause 82 = .ok (.iconst 3, 1) := by decide +kernel
theorem dX5_readClause_83 : decode cX5_readClause 83 = .ok (.goto 26, 3) := by decide +kernel
theorem dX5_readClause_86 : decode cX5_readClause 86 = .ok (.iload_n 1, 1) := by decide +kernel
theorem dX5_readClause_87 : decode cX5_readClause 87 = .ok (.iconst 1, 1) := by decide +kernel
theorem dX5_readClause_88 : decode cX5_readClause 88 = .ok (.if_icmp .ne 7, 3) := by decide +kernel
theorem dX5_readClause_91 : decode cX5_readClause 91 = .ok (.iconst 1, 1) := by decide +kernel
theorem dX5_readClause_92 : decode cX5_readClause 92 = .ok (.goto 17, 3) := by decide +kernel
theorem dX5_readClause_95 : decode cX5_readClause 95 = .ok (.iconst 0, 1) := by decide +kernel
theorem dX5_readClause_96 : decode cX5_readClause 96 = .ok (.goto 13, 3) := by decide +kernel
theorem dX5_readClause_99 : decode cX5_readClause 99 = .ok (.iload_n 1, 1) := by decide +kernel
theorem dX5_readClause_100 : decode cX5_readClause 100 = .ok (.iconst 2, 1) := by decide +kernel
theorem dX5_readClause_101 : decode cX5_readClause 101 = .ok (.if_icmp .ne 7, 3) := by decide +kernel
theorem dX5_readClause_104 : decode cX5_readClause 104 = .ok (.iconst 0, 1) := by decide +kernel
theorem dX5_readClause_105 : decode cX5_readClause 105 = .ok (.goto 4, 3) := by decide +kernel
theorem dX5_readClause_108 : decode cX5_readClause 108 = .ok (.iconst 1, 1) := by decide +kernel
theorem dX5_readClause_109 : decode cX5_readClause 109 = .ok (.invokevirtual 164, 3) := by decide +kernel
theorem dX5_readClause_112 : decode cX5_readClause 112 = .ok (.aload_n 0, 1) := by decide +kernel
theorem dX5_readClause_113 : decode cX5_readClause 113 = .ok (.getfield 26, 3) := by decide +kernel
theorem dX5_readClause_116 : decode cX5_readClause 116 = .ok (.ifCond .eq 39, 3) := by decide +kernel
theorem dX5_readClause_119 : decode cX5_readClause 119 = .ok (.aload_n 0, 1) := by decide +kernel
theorem dX5_readClause_120 : decode cX5_readClause 120 = .ok (.sipush 309, 3) := by decide +kernel
theorem dX5_readClause_123 : decode cX5_readClause 123 = .ok (.invokevirtual 54, 3) := by decide +kernel
theorem dX5_readClause_126 : decode cX5_readClause 126 = .ok (.ifCond .eq 29, 3) := by decide +kernel
theorem dX5_readClause_129 : decode cX5_readClause 129 = .ok (.aload_n 0, 1) := by decide +kernel
theorem dX5_readClause_130 : decode cX5_readClause 130 = .ok (.iconst 1, 1) := by decide +kernel
theorem dX5_readClause_131 : decode cX5_readClause 131 = .ok (.bipush 20, 2) := by decide +kernel
theorem dX5_readClause_133 : decode cX5_readClause 133 = .ok (.invokevirtual 167, 3) := by decide +kernel
theorem dX5_readClause_136 : decode cX5_readClause 136 = .ok (.istore_n 2, 1) := by decide +kernel
theorem dX5_readClause_137 : decode cX5_readClause 137 = .ok (.aload_n 0, 1) := by decide +kernel
theorem dX5_readClause_138 : decode cX5_readClause 138 = .ok (.getfield 22, 3) := by decide +kernel
theorem dX5_readClause_141 : decode cX5_readClause 141 = .ok (.iconst 1, 1) := by decide +kernel
theorem dX5_readClause_142 : decode cX5_readClause 142 = .ok (.iload_n 2, 1) := by decide +kernel
theorem dX5_readClause_143 : decode cX5_readClause 143 = .ok (.invokevirtual 170, 3) := by decide +kernel
theorem dX5_readClause_146 : decode cX5_readClause 146 = .ok (.iload_n 2, 1) := by decide +kernel
theorem dX5_readClause_147 : decode cX5_readClause 147 = .ok (.iconst (-1), 1) := by decide +kernel
theorem dX5_readClause_148 : decode cX5_readClause 148 = .ok (.if_icmp .ne 7, 3) := by decide +kernel
theorem dX5_readClause_151 : decode cX5_readClause 151 = .ok (.aload_n 0, 1) := by decide +kernel
theorem dX5_readClause_152 : decode cX5_readClause 152 = .ok (.invokevirtual 58, 3) := by decide +kernel
theorem dX5_readClause_155 : decode cX5_readClause 155 = .ok (.aload_n 0, 1) := by decide +kernel
theorem dX5_readClause_156 : decode cX5_readClause 156 = .ok (.getfield 22, 3) := by decide +kernel
theorem dX5_readClause_159 : decode cX5_readClause 159 = .ok (.bipush 6, 2) := by decide +kernel
theorem dX5_readClause_161 : decode cX5_readClause 161 = .ok (.aload_n 0, 1) := by decide +kernel
theorem dX5_readClause_162 : decode cX5_readClause 162 = .ok (.getfield 22, 3) := by decide +kernel
theorem dX5_readClause_165 : decode cX5_readClause 165 = .ok (.getfield 174, 3) := by decide +kernel
theorem dX5_readClause_168 : decode cX5_readClause 168 = .ok (.invokevirtual 170, 3) := by decide +kernel
theorem dX5_readClause_171 : decode cX5_readClause 171 = .ok (.aload_n 0, 1) := by decide +kernel
theorem dX5_readClause_172 : decode cX5_readClause 172 = .ok (.sipush 308, 3) := by decide +kernel
theorem dX5_readClause_175 : decode cX5_readClause 175 = .ok (.invokevirtual 54, 3) := by decide +kernel
theorem dX5_readClause_178 : decode cX5_readClause 178 = .ok (.ifCond .eq 7, 3) := by decide +kernel
theorem dX5_readClause_181 : decode cX5_readClause 181 = .ok (.aload_n 0, 1) := by decide +kernel
theorem dX5_readClause_182 : decode cX5_readClause 182 = .ok (.invokevirtual 177, 3) := by decide +kernel
theorem dX5_readClause_185 : decode cX5_readClause 185 = .ok (.aload_n 0, 1) := by decide +kernel
theorem dX5_readClause_186 : decode cX5_readClause 186 = .ok (.getfield 22, 3) := by decide +kernel
theorem dX5_readClause_189 : decode cX5_readClause 189 = .ok (.bipush 7, 2) := by decide +kernel
theorem dX5_readClause_191 : decode cX5_readClause 191 = .ok (.aload_n 0, 1) := by decide +kernel
theorem dX5_readClause_192 : decode cX5_readClause 192 = .ok (.getfield 22, 3) := by decide +kernel
theorem dX5_readClause_195 : decode cX5_readClause 195 = .ok (.getfield 174, 3) := by decide +kernel
theorem dX5_readClause_198 : decode cX5_readClause 198 = .ok (.invokevirtual 170, 3) := by decide +kernel
theorem dX5_readClause_201 : decode cX5_readClause 201 = .ok (.return_, 1) := by decide +kernel
theorem dX5_readSums_0 : decode cX5_readSums 0 = .ok (.aload_n 0, 1) := by decide +kernel
theorem dX5_readSums_1 : decode cX5_readSums 1 = .ok (.getfield 22, 3) := by decide +kernel
theorem dX5_readSums_4 : decode cX5_readSums 4 = .ok (.iconst 2, 1) := by decide +kernel
theorem dX5_readSums_5 : decode cX5_readSums 5 = .ok (.aload_n 0, 1) := by decide +kernel
theorem dX5_readSums_6 : decode cX5_readSums 6 = .ok (.getfield 22, 3) := by decide +kernel
theorem dX5_readSums_9 : decode cX5_readSums 9 = .ok (.getfield 174, 3) := by decide +kernel
theorem dX5_readSums_12 : decode cX5_readSums 12 = .ok (.invokevirtual 170, 3) := by decide +kernel
theorem dX5_readSums_15 : decode cX5_readSums 15 = .ok (.iconst 0, 1) := by decide +kernel
theorem dX5_readSums_16 : decode cX5_readSums 16 = .ok (.istore_n 2, 1) := by decide +kernel
theorem dX5_readSums_17 : decode cX5_readSums 17 = .ok (.iload_n 2, 1) := by decide +kernel
theorem dX5_readSums_18 : decode cX5_readSums 18 = .ok (.iconst 3, 1) := by decide +kernel
theorem dX5_readSums_19 : decode cX5_readSums 19 = .ok (.if_icmp .ge 69, 3) := by decide +kernel
theorem dX5_readSums_22 : decode cX5_readSums 22 = .ok (.iload_n 2, 1) := by decide +kernel
theorem dX5_readSums_23 : decode cX5_readSums 23 = .ok (.ifCond .le 33, 3) := by decide +kernel
theorem dX5_readSums_26 : decode cX5_readSums 26 = .ok (.iload_n 2, 1) := by decide +kernel
theorem dX5_readSums_27 : decode cX5_readSums 27 = .ok (.iload_n 1, 1) := by decide +kernel
theorem dX5_readSums_28 : decode cX5_readSums 28 = .ok (.if_icmp .ge 28, 3) := by decide +kernel
theorem dX5_readSums_31 : decode cX5_readSums 31 = .ok (.aload_n 0, 1) := by decide +kernel
theorem dX5_readSums_32 : decode cX5_readSums 32 = .ok (.iload_n 2, 1) := by decide +kernel
theorem dX5_readSums_33 : decode cX5_readSums 33 = .ok (.iconst 1, 1) := by decide +kernel
theorem dX5_readSums_34 : decode cX5_readSums 34 = .ok (.if_icmp .ne 9, 3) := by decide +kernel
theorem dX5_readSums_37 : decode cX5_readSums 37 = .ok (.sipush 310, 3) := by decide +kernel
theorem dX5_readSums_40 : decode cX5_readSums 40 = .ok (.goto 6, 3) := by decide +kernel
theorem dX5_readSums_43 : decode cX5_readSums 43 = .ok (.sipush 311, 3) := by decide +kernel
theorem dX5_readSums_46 : decode cX5_readSums 46 = .ok (.invokevirtual 54, 3) := by decide +kernel
theorem dX5_readSums_49 : decode cX5_readSums 49 = .ok (.ifCond .ne 7, 3) := by decide +kernel
theorem dX5_readSums_52 : decode cX5_readSums 52 = .ok (.aload_n 0, 1) := by decide +kernel
theorem dX5_readSums_53 : decode cX5_readSums 53 = .ok (.invokevirtual 58, 3) := by decide +kernel
theorem dX5_readSums_56 : decode cX5_readSums 56 = .ok (.iload_n 2, 1) := by decide +kernel
theorem dX5_readSums_57 : decode cX5_readSums 57 = .ok (.iload_n 1, 1) := by decide +kernel
theorem dX5_readSums_58 : decode cX5_readSums 58 = .ok (.if_icmp .ge 7, 3) := by decide +kernel
theorem dX5_readSums_61 : decode cX5_readSums 61 = .ok (.aload_n 0, 1) := by decide +kernel
theorem dX5_readSums_62 : decode cX5_readSums 62 = .ok (.invokevirtual 180, 3) := by decide +kernel
theorem dX5_readSums_65 : decode cX5_readSums 65 = .ok (.aload_n 0, 1) := by decide +kernel
theorem dX5_readSums_66 : decode cX5_readSums 66 = .ok (.getfield 22, 3) := by decide +kernel
theorem dX5_readSums_69 : decode cX5_readSums 69 = .ok (.iconst 3, 1) := by decide +kernel
theorem dX5_readSums_70 : decode cX5_readSums 70 = .ok (.iload_n 2, 1) := by decide +kernel
theorem dX5_readSums_71 : decode cX5_readSums 71 = .ok (.iadd, 1) := by decide +kernel
theorem dX5_readSums_72 : decode cX5_readSums 72 = .ok (.aload_n 0, 1) := by decide +kernel
theorem dX5_readSums_73 : decode cX5_readSums 73 = .ok (.getfield 22, 3) := by decide +kernel
theorem dX5_readSums_76 : decode cX5_readSums 76 = .ok (.getfield 174, 3) := by decide +kernel
theorem dX5_readSums_79 : decode cX5_readSums 79 = .ok (.invokevirtual 170, 3) := by decide +kernel
theorem dX5_readSums_82 : decode cX5_readSums 82 = .ok (.iinc 2 1, 3) := by decide +kernel
theorem dX5_readSums_85 : decode cX5_readSums 85 = .ok (.goto (-68), 3) := by decide +kernel
theorem dX5_readSums_88 : decode cX5_readSums 88 = .ok (.return_, 1) := by decide +kernel
theorem dX5_readTest_0 : decode cX5_readTest 0 = .ok (.aload_n 0, 1) := by decide +kernel
theorem dX5_readTest_1 : decode cX5_readTest 1 = .ok (.invokevirtual 183, 3) := by decide +kernel
theorem dX5_readTest_4 : decode cX5_readTest 4 = .ok (.iconst (-1), 1) := by decide +kernel
theorem dX5_readTest_5 : decode cX5_readTest 5 = .ok (.istore_n 1, 1) := by decide +kernel
theorem dX5_readTest_6 : decode cX5_readTest 6 = .ok (.iconst 0, 1) := by decide +kernel
theorem dX5_readTest_7 : decode cX5_readTest 7 = .ok (.istore_n 2, 1) := by decide +kernel
theorem dX5_readTest_8 : decode cX5_readTest 8 = .ok (.iload_n 2, 1) := by decide +kernel
theorem dX5_readTest_9 : decode cX5_readTest 9 = .ok (.sipush 400, 3) := by decide +kernel
theorem dX5_readTest_12 : decode cX5_readTest 12 = .ok (.if_icmp .ge 116, 3) := by decide +kernel
theorem dX5_readTest_15 : decode cX5_readTest 15 = .ok (.aload_n 0, 1) := by decide +kernel
theorem dX5_readTest_16 : decode cX5_readTest 16 = .ok (.invokevirtual 186, 3) := by decide +kernel
theorem dX5_readTest_19 : decode cX5_readTest 19 = .ok (.sipush 312, 3) := by decide +kernel
theorem dX5_readTest_22 : decode cX5_readTest 22 = .ok (.if_icmp .eq 13, 3) := by decide +kernel
theorem dX5_readTest_25 : decode cX5_readTest 25 = .ok (.aload_n 0, 1) := by decide +kernel
theorem dX5_readTest_26 : decode cX5_readTest 26 = .ok (.invokevirtual 186, 3) := by decide +kernel
theorem dX5_readTest_29 : decode cX5_readTest 29 = .ok (.sipush 313, 3) := by decide +kernel
theorem dX5_readTest_32 : decode cX5_readTest 32 = .ok (.if_icmp .ne 96, 3) := by decide +kernel
theorem dX5_readTest_35 : decode cX5_readTest 35 = .ok (.aload_n 0, 1) := by decide +kernel
theorem dX5_readTest_36 : decode cX5_readTest 36 = .ok (.sipush 312, 3) := by decide +kernel
theorem dX5_readTest_39 : decode cX5_readTest 39 = .ok (.invokevirtual 54, 3) := by decide +kernel
theorem dX5_readTest_42 : decode cX5_readTest 42 = .ok (.istore_n 3, 1) := by decide +kernel
theorem dX5_readTest_43 : decode cX5_readTest 43 = .ok (.iload_n 3, 1) := by decide +kernel
theorem dX5_readTest_44 : decode cX5_readTest 44 = .ok (.ifCond .eq 36, 3) := by decide +kernel
theorem dX5_readTest_47 : decode cX5_readTest 47 = .ok (.aload_n 0, 1) := by decide +kernel
theorem dX5_readTest_48 : decode cX5_readTest 48 = .ok (.getfield 22, 3) := by decide +kernel
theorem dX5_readTest_51 : decode cX5_readTest 51 = .ok (.iload_n 1, 1) := by decide +kernel
theorem dX5_readTest_52 : decode cX5_readTest 52 = .ok (.aload_n 0, 1) := by decide +kernel
theorem dX5_readTest_53 : decode cX5_readTest 53 = .ok (.getfield 22, 3) := by decide +kernel
theorem dX5_readTest_56 : decode cX5_readTest 56 = .ok (.getfield 174, 3) := by decide +kernel
theorem dX5_readTest_59 : decode cX5_readTest 59 = .ok (.invokevirtual 189, 3) := by decide +kernel
theorem dX5_readTest_62 : decode cX5_readTest 62 = .ok (.aload_n 0, 1) := by decide +kernel
theorem dX5_readTest_63 : decode cX5_readTest 63 = .ok (.getfield 22, 3) := by decide +kernel
theorem dX5_readTest_66 : decode cX5_readTest 66 = .ok (.sipush 3010, 3) := by decide +kernel
theorem dX5_readTest_69 : decode cX5_readTest 69 = .ok (.invokevirtual 192, 3) := by decide +kernel
theorem dX5_readTest_72 : decode cX5_readTest 72 = .ok (.istore_n 1, 1) := by decide +kernel
theorem dX5_readTest_73 : decode cX5_readTest 73 = .ok (.aload_n 0, 1) := by decide +kernel
theorem dX5_readTest_74 : decode cX5_readTest 74 = .ok (.invokevirtual 183, 3) := by decide +kernel
theorem dX5_readTest_77 : decode cX5_readTest 77 = .ok (.goto 45, 3) := by decide +kernel
theorem dX5_readTest_80 : decode cX5_readTest 80 = .ok (.aload_n 0, 1) := by decide +kernel
theorem dX5_readTest_81 : decode cX5_readTest 81 = .ok (.dup, 1) := by decide +kernel
theorem dX5_readTest_82 : decode cX5_readTest 82 = .ok (.getfield 30, 3) := by decide +kernel
theorem dX5_readTest_85 : decode cX5_readTest 85 = .ok (.iconst 1, 1) := by decide +kernel
theorem dX5_readTest_86 : decode cX5_readTest 86 = .ok (.iadd, 1) := by decide +kernel
theorem dX5_readTest_87 : decode cX5_readTest 87 = .ok (.putfield 30, 3) := by decide +kernel
theorem dX5_readTest_90 : decode cX5_readTest 90 = .ok (.aload_n 0, 1) := by decide +kernel
theorem dX5_readTest_91 : decode cX5_readTest 91 = .ok (.getfield 22, 3) := by decide +kernel
theorem dX5_readTest_94 : decode cX5_readTest 94 = .ok (.sipush 3009, 3) := by decide +kernel
theorem dX5_readTest_97 : decode cX5_readTest 97 = .ok (.invokevirtual 192, 3) := by decide +kernel
theorem dX5_readTest_100 : decode cX5_readTest 100 = .ok (.istore 4, 2) := by decide +kernel
theorem dX5_readTest_102 : decode cX5_readTest 102 = .ok (.aload_n 0, 1) := by decide +kernel
theorem dX5_readTest_103 : decode cX5_readTest 103 = .ok (.invokevirtual 183, 3) := by decide +kernel
theorem dX5_readTest_106 : decode cX5_readTest 106 = .ok (.aload_n 0, 1) := by decide +kernel
theorem dX5_readTest_107 : decode cX5_readTest 107 = .ok (.getfield 22, 3) := by decide +kernel
theorem dX5_readTest_110 : decode cX5_readTest 110 = .ok (.iload 4, 2) := by decide +kernel
theorem dX5_readTest_112 : decode cX5_readTest 112 = .ok (.aload_n 0, 1) := by decide +kernel
theorem dX5_readTest_113 : decode cX5_readTest 113 = .ok (.getfield 22, 3) := by decide +kernel
theorem dX5_readTest_116 : decode cX5_readTest 116 = .ok (.getfield 174, 3) := by decide +kernel
theorem dX5_readTest_119 : decode cX5_readTest 119 = .ok (.invokevirtual 189, 3) := by decide +kernel
theorem dX5_readTest_122 : decode cX5_readTest 122 = .ok (.iinc 2 1, 3) := by decide +kernel
theorem dX5_readTest_125 : decode cX5_readTest 125 = .ok (.goto (-117), 3) := by decide +kernel
theorem dX5_readTest_128 : decode cX5_readTest 128 = .ok (.aload_n 0, 1) := by decide +kernel
theorem dX5_readTest_129 : decode cX5_readTest 129 = .ok (.getfield 22, 3) := by decide +kernel
theorem dX5_readTest_132 : decode cX5_readTest 132 = .ok (.iload_n 1, 1) := by decide +kernel
theorem dX5_readTest_133 : decode cX5_readTest 133 = .ok (.aload_n 0, 1) := by decide +kernel
theorem dX5_readTest_134 : decode cX5_readTest 134 = .ok (.getfield 22, 3) := by decide +kernel
theorem dX5_readTest_137 : decode cX5_readTest 137 = .ok (.getfield 174, 3) := by decide +kernel
theorem dX5_readTest_140 : decode cX5_readTest 140 = .ok (.invokevirtual 189, 3) := by decide +kernel
theorem dX5_readTest_143 : decode cX5_readTest 143 = .ok (.return_, 1) := by decide +kernel
theorem dX5_readPlain_0 : decode cX5_readPlain 0 = .ok (.iconst 0, 1) := by decide +kernel
theorem dX5_readPlain_1 : decode cX5_readPlain 1 = .ok (.istore_n 1, 1) := by decide +kernel
theorem dX5_readPlain_2 : decode cX5_readPlain 2 = .ok (.iconst 0, 1) := by decide +kernel
theorem dX5_readPlain_3 : decode cX5_readPlain 3 = .ok (.istore_n 2, 1) := by decide +kernel
theorem dX5_readPlain_4 : decode cX5_readPlain 4 = .ok (.iload_n 2, 1) := by decide +kernel
theorem dX5_readPlain_5 : decode cX5_readPlain 5 = .ok (.sipush 400, 3) := by decide +kernel
theorem dX5_readPlain_8 : decode cX5_readPlain 8 = .ok (.if_icmp .ge 29, 3) := by decide +kernel
theorem dX5_readPlain_11 : decode cX5_readPlain 11 = .ok (.aload_n 0, 1) := by decide +kernel
theorem dX5_readPlain_12 : decode cX5_readPlain 12 = .ok (.sipush 314, 3) := by decide +kernel
theorem dX5_readPlain_15 : decode cX5_readPlain 15 = .ok (.invokevirtual 54, 3) := by decide +kernel
theorem dX5_readPlain_18 : decode cX5_readPlain 18 = .ok (.ifCond .eq 19, 3) := by decide +kernel
theorem dX5_readPlain_21 : decode cX5_readPlain 21 = .ok (.iload_n 1, 1) := by decide +kernel
theorem dX5_readPlain_22 : decode cX5_readPlain 22 = .ok (.ifCond .ne 7, 3) := by decide +kernel
theorem dX5_readPlain_25 : decode cX5_readPlain 25 = .ok (.iconst 1, 1) := by decide +kernel
theorem dX5_readPlain_26 : decode cX5_readPlain 26 = .ok (.goto 4, 3) := by decide +kernel
theorem dX5_readPlain_29 : decode cX5_readPlain 29 = .ok (.iconst 0, 1) := by decide +kernel
theorem dX5_readPlain_30 : decode cX5_readPlain 30 = .ok (.istore_n 1, 1) := by decide +kernel
theorem dX5_readPlain_31 : decode cX5_readPlain 31 = .ok (.iinc 2 1, 3) := by decide +kernel
theorem dX5_readPlain_34 : decode cX5_readPlain 34 = .ok (.goto (-30), 3) := by decide +kernel
theorem dX5_readPlain_37 : decode cX5_readPlain 37 = .ok (.aload_n 0, 1) := by decide +kernel
theorem dX5_readPlain_38 : decode cX5_readPlain 38 = .ok (.invokevirtual 186, 3) := by decide +kernel
theorem dX5_readPlain_41 : decode cX5_readPlain 41 = .ok (.bipush 40, 2) := by decide +kernel
theorem dX5_readPlain_43 : decode cX5_readPlain 43 = .ok (.if_icmp .ne 40, 3) := by decide +kernel
theorem dX5_readPlain_46 : decode cX5_readPlain 46 = .ok (.aload_n 0, 1) := by decide +kernel
theorem dX5_readPlain_47 : decode cX5_readPlain 47 = .ok (.invokevirtual 195, 3) := by decide +kernel
theorem dX5_readPlain_50 : decode cX5_readPlain 50 = .ok (.ifCond .eq 17, 3) := by decide +kernel
theorem dX5_readPlain_53 : decode cX5_readPlain 53 = .ok (.aload_n 0, 1) := by decide +kernel
theorem dX5_readPlain_54 : decode cX5_readPlain 54 = .ok (.invokevirtual 177, 3) := by decide +kernel
theorem dX5_readPlain_57 : decode cX5_readPlain 57 = .ok (.aload_n 0, 1) := by decide +kernel
theorem dX5_readPlain_58 : decode cX5_readPlain 58 = .ok (.dup, 1) := by decide +kernel
theorem dX5_readPlain_59 : decode cX5_readPlain 59 = .ok (.getfield 37, 3) := by decide +kernel
theorem dX5_readPlain_62 : decode cX5_readPlain 62 = .ok (.iconst 1, 1) := by decide +kernel
theorem dX5_readPlain_63 : decode cX5_readPlain 63 = .ok (.isub, 1) := by decide +kernel
theorem dX5_readPlain_64 : decode cX5_readPlain 64 = .ok (.putfield 37, 3) := by decide +kernel
theorem dX5_readPlain_67 : decode cX5_readPlain 67 = .ok (.aload_n 0, 1) := by decide +kernel
theorem dX5_readPlain_68 : decode cX5_readPlain 68 = .ok (.bipush 41, 2) := by decide +kernel
theorem dX5_readPlain_70 : decode cX5_readPlain 70 = .ok (.invokevirtual 54, 3) := by decide +kernel
theorem dX5_readPlain_73 : decode cX5_readPlain 73 = .ok (.ifCond .ne 83, 3) := by decide +kernel
theorem dX5_readPlain_76 : decode cX5_readPlain 76 = .ok (.aload_n 0, 1) := by decide +kernel
theorem dX5_readPlain_77 : decode cX5_readPlain 77 = .ok (.invokevirtual 58, 3) := by decide +kernel
theorem dX5_readPlain_80 : decode cX5_readPlain 80 = .ok (.goto 76, 3) := by decide +kernel
theorem dX5_readPlain_83 : decode cX5_readPlain 83 = .ok (.aload_n 0, 1) := by decide +kernel
theorem dX5_readPlain_84 : decode cX5_readPlain 84 = .ok (.invokevirtual 180, 3) := by decide +kernel
theorem dX5_readPlain_87 : decode cX5_readPlain 87 = .ok (.aload_n 0, 1) := by decide +kernel
theorem dX5_readPlain_88 : decode cX5_readPlain 88 = .ok (.bipush 60, 2) := by decide +kernel
theorem dX5_readPlain_90 : decode cX5_readPlain 90 = .ok (.invokevirtual 54, 3) := by decide +kernel
theorem dX5_readPlain_93 : decode cX5_readPlain 93 = .ok (.ifCond .eq 9, 3) := by decide +kernel
theorem dX5_readPlain_96 : decode cX5_readPlain 96 = .ok (.sipush 3005, 3) := by decide +kernel
theorem dX5_readPlain_99 : decode cX5_readPlain 99 = .ok (.goto 34, 3) := by decide +kernel
theorem dX5_readPlain_102 : decode cX5_readPlain 102 = .ok (.aload_n 0, 1) := by decide +kernel
theorem dX5_readPlain_103 : decode cX5_readPlain 103 = .ok (.bipush 62, 2) := by decide +kernel
theorem dX5_readPlain_105 : decode cX5_readPlain 105 = .ok (.invokevirtual 54, 3) := by decide +kernel
theorem dX5_readPlain_108 : decode cX5_readPlain 108 = .ok (.ifCond .eq 9, 3) := by decide +kernel
theorem dX5_readPlain_111 : decode cX5_readPlain 111 = .ok (.sipush 3006, 3) := by decide +kernel
theorem dX5_readPlain_114 : decode cX5_readPlain 114 = .ok (.goto 19, 3) := by decide +kernel
theorem dX5_readPlain_117 : decode cX5_readPlain 117 = .ok (.aload_n 0, 1) := by decide +kernel
theorem dX5_readPlain_118 : decode cX5_readPlain 118 = .ok (.bipush 61, 2) := by decide +kernel
theorem dX5_readPlain_120 : decode cX5_readPlain 120 = .ok (.invokevirtual 54, 3) := by decide +kernel
theorem dX5_readPlain_123 : decode cX5_readPlain 123 = .ok (.ifCond .eq 9, 3) := by decide +kernel
theorem dX5_readPlain_126 : decode cX5_readPlain 126 = .ok (.sipush 3007, 3) := by decide +kernel
theorem dX5_readPlain_129 : decode cX5_readPlain 129 = .ok (.goto 4, 3) := by decide +kernel
theorem dX5_readPlain_132 : decode cX5_readPlain 132 = .ok (.iconst (-1), 1) := by decide +kernel
theorem dX5_readPlain_133 : decode cX5_readPlain 133 = .ok (.istore_n 2, 1) := by decide +kernel
theorem dX5_readPlain_134 : decode cX5_readPlain 134 = .ok (.iload_n 2, 1) := by decide +kernel
theorem dX5_readPlain_135 : decode cX5_readPlain 135 = .ok (.iconst (-1), 1) := by decide +kernel
theorem dX5_readPlain_136 : decode cX5_readPlain 136 = .ok (.if_icmp .ne 8, 3) := by decide +kernel
theorem dX5_readPlain_139 : decode cX5_readPlain 139 = .ok (.aload_n 0, 1) := by decide +kernel
theorem dX5_readPlain_140 : decode cX5_readPlain 140 = .ok (.invokevirtual 58, 3) := by decide +kernel
theorem dX5_readPlain_143 : decode cX5_readPlain 143 = .ok (.return_, 1) := by decide +kernel
theorem dX5_readPlain_144 : decode cX5_readPlain 144 = .ok (.aload_n 0, 1) := by decide +kernel
theorem dX5_readPlain_145 : decode cX5_readPlain 145 = .ok (.invokevirtual 180, 3) := by decide +kernel
theorem dX5_readPlain_148 : decode cX5_readPlain 148 = .ok (.aload_n 0, 1) := by decide +kernel
theorem dX5_readPlain_149 : decode cX5_readPlain 149 = .ok (.getfield 22, 3) := by decide +kernel
theorem dX5_readPlain_152 : decode cX5_readPlain 152 = .ok (.iload_n 2, 1) := by decide +kernel
theorem dX5_readPlain_153 : decode cX5_readPlain 153 = .ok (.invokevirtual 199, 3) := by decide +kernel
theorem dX5_readPlain_156 : decode cX5_readPlain 156 = .ok (.iload_n 1, 1) := by decide +kernel
theorem dX5_readPlain_157 : decode cX5_readPlain 157 = .ok (.ifCond .eq 13, 3) := by decide +kernel
theorem dX5_readPlain_160 : decode cX5_readPlain 160 = .ok (.aload_n 0, 1) := by decide +kernel
theorem dX5_readPlain_161 : decode cX5_readPlain 161 = .ok (.getfield 22, 3) := by decide +kernel
theorem dX5_readPlain_164 : decode cX5_readPlain 164 = .ok (.sipush 3008, 3) := by decide +kernel
theorem dX5_readPlain_167 : decode cX5_readPlain 167 = .ok (.invokevirtual 199, 3) := by decide +kernel
theorem dX5_readPlain_170 : decode cX5_readPlain 170 = .ok (.return_, 1) := by decide +kernel
theorem dX5_openBracket_0 : decode cX5_openBracket 0 = .ok (.aload_n 0, 1) := by decide +kernel
theorem dX5_openBracket_1 : decode cX5_openBracket 1 = .ok (.getfield 37, 3) := by decide +kernel
theorem dX5_openBracket_4 : decode cX5_openBracket 4 = .ok (.bipush 8, 2) := by decide +kernel
theorem dX5_openBracket_6 : decode cX5_openBracket 6 = .ok (.if_icmp .lt 5, 3) := by decide +kernel
theorem dX5_openBracket_9 : decode cX5_openBracket 9 = .ok (.iconst 0, 1) := by decide +kernel
theorem dX5_openBracket_10 : decode cX5_openBracket 10 = .ok (.ireturn, 1) := by decide +kernel
theorem dX5_openBracket_11 : decode cX5_openBracket 11 = .ok (.aload_n 0, 1) := by decide +kernel
theorem dX5_openBracket_12 : decode cX5_openBracket 12 = .ok (.dup, 1) := by decide +kernel
theorem dX5_openBracket_13 : decode cX5_openBracket 13 = .ok (.getfield 37, 3) := by decide +kernel
theorem dX5_openBracket_16 : decode cX5_openBracket 16 = .ok (.iconst 1, 1) := by decide +kernel
theorem dX5_openBracket_17 : decode cX5_openBracket 17 = .ok (.iadd, 1) := by decide +kernel
theorem dX5_openBracket_18 : decode cX5_openBracket 18 = .ok (.putfield 37, 3) := by decide +kernel
theorem dX5_openBracket_21 : decode cX5_openBracket 21 = .ok (.aload_n 0, 1) := by decide +kernel
theorem dX5_openBracket_22 : decode cX5_openBracket 22 = .ok (.dup, 1) := by decide +kernel
theorem dX5_openBracket_23 : decode cX5_openBracket 23 = .ok (.getfield 30, 3) := by decide +kernel
theorem dX5_openBracket_26 : decode cX5_openBracket 26 = .ok (.iconst 1, 1) := by decide +kernel
theorem dX5_openBracket_27 : decode cX5_openBracket 27 = .ok (.iadd, 1) := by decide +kernel
theorem dX5_openBracket_28 : decode cX5_openBracket 28 = .ok (.putfield 30, 3) := by decide +kernel
theorem dX5_openBracket_31 : decode cX5_openBracket 31 = .ok (.iconst 1, 1) := by decide +kernel
theorem dX5_openBracket_32 : decode cX5_openBracket 32 = .ok (.ireturn, 1) := by decide +kernel
theorem dX5_readSum_0 : decode cX5_readSum 0 = .ok (.aload_n 0, 1) := by decide +kernel
theorem dX5_readSum_1 : decode cX5_readSum 1 = .ok (.invokevirtual 202, 3) := by decide +kernel
theorem dX5_readSum_4 : decode cX5_readSum 4 = .ok (.iconst (-1), 1) := by decide +kernel
theorem dX5_readSum_5 : decode cX5_readSum 5 = .ok (.istore_n 1, 1) := by decide +kernel
theorem dX5_readSum_6 : decode cX5_readSum 6 = .ok (.iconst 0, 1) := by decide +kernel
theorem dX5_readSum_7 : decode cX5_readSum 7 = .ok (.istore_n 2, 1) := by decide +kernel
theorem dX5_readSum_8 : decode cX5_readSum 8 = .ok (.iload_n 2, 1) := by decide +kernel
theorem dX5_readSum_9 : decode cX5_readSum 9 = .ok (.sipush 400, 3) := by decide +kernel
theorem dX5_readSum_12 : decode cX5_readSum 12 = .ok (.if_icmp .ge 78, 3) := by decide +kernel
theorem dX5_readSum_15 : decode cX5_readSum 15 = .ok (.aload_n 0, 1) := by decide +kernel
theorem dX5_readSum_16 : decode cX5_readSum 16 = .ok (.invokevirtual 186, 3) := by decide +kernel
theorem dX5_readSum_19 : decode cX5_readSum 19 = .ok (.invokestatic 205, 3) := by decide +kernel
theorem dX5_readSum_22 : decode cX5_readSum 22 = .ok (.istore_n 3, 1) := by decide +kernel
theorem dX5_readSum_23 : decode cX5_readSum 23 = .ok (.iload_n 3, 1) := by decide +kernel
theorem dX5_readSum_24 : decode cX5_readSum 24 = .ok (.iconst (-1), 1) := by decide +kernel
theorem dX5_readSum_25 : decode cX5_readSum 25 = .ok (.if_icmp .ne 6, 3) := by decide +kernel
theorem dX5_readSum_28 : decode cX5_readSum 28 = .ok (.goto 62, 3) := by decide +kernel
theorem dX5_readSum_31 : decode cX5_readSum 31 = .ok (.aload_n 0, 1) := by decide +kernel
theorem dX5_readSum_32 : decode cX5_readSum 32 = .ok (.dup, 1) := by decide +kernel
theorem dX5_readSum_33 : decode cX5_readSum 33 = .ok (.getfield 30, 3) := by decide +kernel
theorem dX5_readSum_36 : decode cX5_readSum 36 = .ok (.iconst 1, 1) := by decide +kernel
theorem dX5_readSum_37 : decode cX5_readSum 37 = .ok (.iadd, 1) := by decide +kernel
theorem dX5_readSum_38 : decode cX5_readSum 38 = .ok (.putfield 30, 3) := by decide +kernel
theorem dX5_readSum_41 : decode cX5_readSum 41 = .ok (.iload_n 3, 1) := by decide +kernel
theorem dX5_readSum_42 : decode cX5_readSum 42 = .ok (.sipush 3000, 3) := by decide +kernel
theorem dX5_readSum_45 : decode cX5_readSum 45 = .ok (.if_icmp .eq 10, 3) := by decide +kernel
theorem dX5_readSum_48 : decode cX5_readSum 48 = .ok (.iload_n 3, 1) := by decide +kernel
theorem dX5_readSum_49 : decode cX5_readSum 49 = .ok (.sipush 3001, 3) := by decide +kernel
theorem dX5_readSum_52 : decode cX5_readSum 52 = .ok (.if_icmp .ne 20, 3) := by decide +kernel
theorem dX5_readSum_55 : decode cX5_readSum 55 = .ok (.aload_n 0, 1) := by decide +kernel
theorem dX5_readSum_56 : decode cX5_readSum 56 = .ok (.getfield 22, 3) := by decide +kernel
theorem dX5_readSum_59 : decode cX5_readSum 59 = .ok (.iload_n 1, 1) := by decide +kernel
theorem dX5_readSum_60 : decode cX5_readSum 60 = .ok (.invokevirtual 199, 3) := by decide +kernel
theorem dX5_readSum_63 : decode cX5_readSum 63 = .ok (.iload_n 3, 1) := by decide +kernel
theorem dX5_readSum_64 : decode cX5_readSum 64 = .ok (.istore_n 1, 1) := by decide +kernel
theorem dX5_readSum_65 : decode cX5_readSum 65 = .ok (.aload_n 0, 1) := by decide +kernel
theorem dX5_readSum_66 : decode cX5_readSum 66 = .ok (.invokevirtual 202, 3) := by decide +kernel
theorem dX5_readSum_69 : decode cX5_readSum 69 = .ok (.goto 15, 3) := by decide +kernel
theorem dX5_readSum_72 : decode cX5_readSum 72 = .ok (.aload_n 0, 1) := by decide +kernel
theorem dX5_readSum_73 : decode cX5_readSum 73 = .ok (.invokevirtual 202, 3) := by decide +kernel
theorem dX5_readSum_76 : decode cX5_readSum 76 = .ok (.aload_n 0, 1) := by decide +kernel
theorem dX5_readSum_77 : decode cX5_readSum 77 = .ok (.getfield 22, 3) := by decide +kernel
theorem dX5_readSum_80 : decode cX5_readSum 80 = .ok (.iload_n 3, 1) := by decide +kernel
theorem dX5_readSum_81 : decode cX5_readSum 81 = .ok (.invokevirtual 199, 3) := by decide +kernel
theorem dX5_readSum_84 : decode cX5_readSum 84 = .ok (.iinc 2 1, 3) := by decide +kernel
theorem dX5_readSum_87 : decode cX5_readSum 87 = .ok (.goto (-79), 3) := by decide +kernel
theorem dX5_readSum_90 : decode cX5_readSum 90 = .ok (.aload_n 0, 1) := by decide +kernel
theorem dX5_readSum_91 : decode cX5_readSum 91 = .ok (.getfield 22, 3) := by decide +kernel
theorem dX5_readSum_94 : decode cX5_readSum 94 = .ok (.iload_n 1, 1) := by decide +kernel
theorem dX5_readSum_95 : decode cX5_readSum 95 = .ok (.invokevirtual 199, 3) := by decide +kernel
theorem dX5_readSum_98 : decode cX5_readSum 98 = .ok (.return_, 1) := by decide +kernel
theorem dX5_codeOf_0 : decode cX5_codeOf 0 = .ok (.iload_n 0, 1) := by decide +kernel
theorem dX5_codeOf_1 : decode cX5_codeOf 1 = .ok (.tableswitch 79 37 47 #[75, 79, 79, 79, 79, 67, 59, 79, 63, 79, 71], 59) := by decide +kernel
theorem dX5_codeOf_60 : decode cX5_codeOf 60 = .ok (.sipush 3000, 3) := by decide +kernel
theorem dX5_codeOf_63 : decode cX5_codeOf 63 = .ok (.ireturn, 1) := by decide +kernel
theorem dX5_codeOf_64 : decode cX5_codeOf 64 = .ok (.sipush 3001, 3) := by decide +kernel
theorem dX5_codeOf_67 : decode cX5_codeOf 67 = .ok (.ireturn, 1) := by decide +kernel
theorem dX5_codeOf_68 : decode cX5_codeOf 68 = .ok (.sipush 3002, 3) := by decide +kernel
theorem dX5_codeOf_71 : decode cX5_codeOf 71 = .ok (.ireturn, 1) := by decide +kernel
theorem dX5_codeOf_72 : decode cX5_codeOf 72 = .ok (.sipush 3003, 3) := by decide +kernel
theorem dX5_codeOf_75 : decode cX5_codeOf 75 = .ok (.ireturn, 1) := by decide +kernel
theorem dX5_codeOf_76 : decode cX5_codeOf 76 = .ok (.sipush 3004, 3) := by decide +kernel
theorem dX5_codeOf_79 : decode cX5_codeOf 79 = .ok (.ireturn, 1) := by decide +kernel
theorem dX5_codeOf_80 : decode cX5_codeOf 80 = .ok (.iconst (-1), 1) := by decide +kernel
theorem dX5_codeOf_81 : decode cX5_codeOf 81 = .ok (.ireturn, 1) := by decide +kernel
theorem dX5_readPart_0 : decode cX5_readPart 0 = .ok (.aload_n 0, 1) := by decide +kernel
theorem dX5_readPart_1 : decode cX5_readPart 1 = .ok (.invokevirtual 186, 3) := by decide +kernel
theorem dX5_readPart_4 : decode cX5_readPart 4 = .ok (.istore_n 1, 1) := by decide +kernel
theorem dX5_readPart_5 : decode cX5_readPart 5 = .ok (.iload_n 1, 1) := by decide +kernel
theorem dX5_readPart_6 : decode cX5_readPart 6 = .ok (.bipush 91, 2) := by decide +kernel
theorem dX5_readPart_8 : decode cX5_readPart 8 = .ok (.if_icmp .ne 38, 3) := by decide +kernel
theorem dX5_readPart_11 : decode cX5_readPart 11 = .ok (.aload_n 0, 1) := by decide +kernel
theorem dX5_readPart_12 : decode cX5_readPart 12 = .ok (.invokevirtual 195, 3) := by decide +kernel
theorem dX5_readPart_15 : decode cX5_readPart 15 = .ok (.ifCond .eq 17, 3) := by decide +kernel
theorem dX5_readPart_18 : decode cX5_readPart 18 = .ok (.aload_n 0, 1) := by decide +kernel
theorem dX5_readPart_19 : decode cX5_readPart 19 = .ok (.invokevirtual 180, 3) := by decide +kernel
theorem dX5_readPart_22 : decode cX5_readPart 22 = .ok (.aload_n 0, 1) := by decide +kernel
theorem dX5_readPart_23 : decode cX5_readPart 23 = .ok (.dup, 1) := by decide +kernel
theorem dX5_readPart_24 : decode cX5_readPart 24 = .ok (.getfield 37, 3) := by decide +kernel
theorem dX5_readPart_27 : decode cX5_readPart 27 = .ok (.iconst 1, 1) := by decide +kernel
theorem dX5_readPart_28 : decode cX5_readPart 28 = .ok (.isub, 1) := by decide +kernel
theorem dX5_readPart_29 : decode cX5_readPart 29 = .ok (.putfield 37, 3) := by decide +kernel
theorem dX5_readPart_32 : decode cX5_readPart 32 = .ok (.aload_n 0, 1) := by decide +kernel
theorem dX5_readPart_33 : decode cX5_readPart 33 = .ok (.bipush 93, 2) := by decide +kernel
theorem dX5_readPart_35 : decode cX5_readPart 35 = .ok (.invokevirtual 54, 3) := by decide +kernel
theorem dX5_readPart_38 : decode cX5_readPart 38 = .ok (.ifCond .ne 7, 3) := by decide +kernel
theorem dX5_readPart_41 : decode cX5_readPart 41 = .ok (.aload_n 0, 1) := by decide +kernel
theorem dX5_readPart_42 : decode cX5_readPart 42 = .ok (.invokevirtual 58, 3) := by decide +kernel
theorem dX5_readPart_45 : decode cX5_readPart 45 = .ok (.return_, 1) := by decide +kernel
theorem dX5_readPart_46 : decode cX5_readPart 46 = .ok (.aload_n 0, 1) := by decide +kernel
theorem dX5_readPart_47 : decode cX5_readPart 47 = .ok (.getfield 34, 3) := by decide +kernel
theorem dX5_readPart_50 : decode cX5_readPart 50 = .ok (.bipush 50, 2) := by decide +kernel
theorem dX5_readPart_52 : decode cX5_readPart 52 = .ok (.if_icmp .lt 8, 3) := by decide +kernel
theorem dX5_readPart_55 : decode cX5_readPart 55 = .ok (.aload_n 0, 1) := by decide +kernel
theorem dX5_readPart_56 : decode cX5_readPart 56 = .ok (.invokevirtual 58, 3) := by decide +kernel
theorem dX5_readPart_59 : decode cX5_readPart 59 = .ok (.return_, 1) := by decide +kernel
theorem dX5_readPart_60 : decode cX5_readPart 60 = .ok (.aload_n 0, 1) := by decide +kernel
theorem dX5_readPart_61 : decode cX5_readPart 61 = .ok (.dup, 1) := by decide +kernel
theorem dX5_readPart_62 : decode cX5_readPart 62 = .ok (.getfield 34, 3) := by decide +kernel
theorem dX5_readPart_65 : decode cX5_readPart 65 = .ok (.iconst 1, 1) := by decide +kernel
theorem dX5_readPart_66 : decode cX5_readPart 66 = .ok (.iadd, 1) := by decide +kernel
theorem dX5_readPart_67 : decode cX5_readPart 67 = .ok (.putfield 34, 3) := by decide +kernel
theorem dX5_readPart_70 : decode cX5_readPart 70 = .ok (.iload_n 1, 1) := by decide +kernel
theorem dX5_readPart_71 : decode cX5_readPart 71 = .ok (.sipush 400, 3) := by decide +kernel
theorem dX5_readPart_74 : decode cX5_readPart 74 = .ok (.if_icmp .lt 14, 3) := by decide +kernel
theorem dX5_readPart_77 : decode cX5_readPart 77 = .ok (.aload_n 0, 1) := by decide +kernel
theorem dX5_readPart_78 : decode cX5_readPart 78 = .ok (.iconst 0, 1) := by decide +kernel
theorem dX5_readPart_79 : decode cX5_readPart 79 = .ok (.sipush 1000, 3) := by decide +kernel
theorem dX5_readPart_82 : decode cX5_readPart 82 = .ok (.invokevirtual 167, 3) := by decide +kernel
theorem dX5_readPart_85 : decode cX5_readPart 85 = .ok (.goto 21, 3) := by decide +kernel
theorem dX5_readPart_88 : decode cX5_readPart 88 = .ok (.aload_n 0, 1) := by decide +kernel
theorem dX5_readPart_89 : decode cX5_readPart 89 = .ok (.getfield 26, 3) := by decide +kernel
theorem dX5_readPart_92 : decode cX5_readPart 92 = .ok (.ifCond .eq 10, 3) := by decide +kernel
theorem dX5_readPart_95 : decode cX5_readPart 95 = .ok (.iload_n 1, 1) := by decide +kernel
theorem dX5_readPart_96 : decode cX5_readPart 96 = .ok (.invokestatic 208, 3) := by decide +kernel
theorem dX5_readPart_99 : decode cX5_readPart 99 = .ok (.goto 7, 3) := by decide +kernel
theorem dX5_readPart_102 : decode cX5_readPart 102 = .ok (.iload_n 1, 1) := by decide +kernel
theorem dX5_readPart_103 : decode cX5_readPart 103 = .ok (.invokestatic 211, 3) := by decide +kernel
theorem dX5_readPart_106 : decode cX5_readPart 106 = .ok (.istore_n 2, 1) := by decide +kernel
theorem dX5_readPart_107 : decode cX5_readPart 107 = .ok (.aload_n 0, 1) := by decide +kernel
theorem dX5_readPart_108 : decode cX5_readPart 108 = .ok (.dup, 1) := by decide +kernel
theorem dX5_readPart_109 : decode cX5_readPart 109 = .ok (.getfield 30, 3) := by decide +kernel
theorem dX5_readPart_112 : decode cX5_readPart 112 = .ok (.iload_n 2, 1) := by decide +kernel
theorem dX5_readPart_113 : decode cX5_readPart 113 = .ok (.iconst (-1), 1) := by decide +kernel
theorem dX5_readPart_114 : decode cX5_readPart 114 = .ok (.if_icmp .eq 14, 3) := by decide +kernel
theorem dX5_readPart_117 : decode cX5_readPart 117 = .ok (.iload_n 1, 1) := by decide +kernel
theorem dX5_readPart_118 : decode cX5_readPart 118 = .ok (.sipush 400, 3) := by decide +kernel
theorem dX5_readPart_121 : decode cX5_readPart 121 = .ok (.if_icmp .ge 7, 3) := by decide +kernel
theorem dX5_readPart_124 : decode cX5_readPart 124 = .ok (.iconst 1, 1) := by decide +kernel
theorem dX5_readPart_125 : decode cX5_readPart 125 = .ok (.goto 4, 3) := by decide +kernel
theorem dX5_readPart_128 : decode cX5_readPart 128 = .ok (.iconst 0, 1) := by decide +kernel
theorem dX5_readPart_129 : decode cX5_readPart 129 = .ok (.iadd, 1) := by decide +kernel
theorem dX5_readPart_130 : decode cX5_readPart 130 = .ok (.putfield 30, 3) := by decide +kernel
theorem dX5_readPart_133 : decode cX5_readPart 133 = .ok (.aload_n 0, 1) := by decide +kernel
theorem dX5_readPart_134 : decode cX5_readPart 134 = .ok (.getfield 26, 3) := by decide +kernel
theorem dX5_readPart_137 : decode cX5_readPart 137 = .ok (.ifCond .eq 38, 3) := by decide +kernel
theorem dX5_readPart_140 : decode cX5_readPart 140 = .ok (.iload_n 1, 1) := by decide +kernel
theorem dX5_readPart_141 : decode cX5_readPart 141 = .ok (.sipush 318, 3) := by decide +kernel
theorem dX5_readPart_144 : decode cX5_readPart 144 = .ok (.if_icmp .eq 10, 3) := by decide +kernel
theorem dX5_readPart_147 : decode cX5_readPart 147 = .ok (.iload_n 1, 1) := by decide +kernel
theorem dX5_readPart_148 : decode cX5_readPart 148 = .ok (.sipush 327, 3) := by decide +kernel
theorem dX5_readPart_151 : decode cX5_readPart 151 = .ok (.if_icmp .ne 24, 3) := by decide +kernel
theorem dX5_readPart_154 : decode cX5_readPart 154 = .ok (.aload_n 0, 1) := by decide +kernel
theorem dX5_readPart_155 : decode cX5_readPart 155 = .ok (.iconst 0, 1) := by decide +kernel
theorem dX5_readPart_156 : decode cX5_readPart 156 = .ok (.bipush 8, 2) := by decide +kernel
theorem dX5_readPart_158 : decode cX5_readPart 158 = .ok (.invokevirtual 167, 3) := by decide +kernel
theorem dX5_readPart_161 : decode cX5_readPart 161 = .ok (.istore_n 3, 1) := by decide +kernel
theorem dX5_readPart_162 : decode cX5_readPart 162 = .ok (.iload_n 3, 1) := by decide +kernel
theorem dX5_readPart_163 : decode cX5_readPart 163 = .ok (.iconst (-1), 1) := by decide +kernel
theorem dX5_readPart_164 : decode cX5_readPart 164 = .ok (.if_icmp .ne 7, 3) := by decide +kernel
theorem dX5_readPart_167 : decode cX5_readPart 167 = .ok (.iconst (-1), 1) := by decide +kernel
theorem dX5_readPart_168 : decode cX5_readPart 168 = .ok (.goto 6, 3) := by decide +kernel
theorem dX5_readPart_171 : decode cX5_readPart 171 = .ok (.iload_n 2, 1) := by decide +kernel
theorem dX5_readPart_172 : decode cX5_readPart 172 = .ok (.iload_n 3, 1) := by decide +kernel
theorem dX5_readPart_173 : decode cX5_readPart 173 = .ok (.iadd, 1) := by decide +kernel
theorem dX5_readPart_174 : decode cX5_readPart 174 = .ok (.istore_n 2, 1) := by decide +kernel
theorem dX5_readPart_175 : decode cX5_readPart 175 = .ok (.iload_n 2, 1) := by decide +kernel
theorem dX5_readPart_176 : decode cX5_readPart 176 = .ok (.iconst (-1), 1) := by decide +kernel
theorem dX5_readPart_177 : decode cX5_readPart 177 = .ok (.if_icmp .ne 7, 3) := by decide +kernel
theorem dX5_readPart_180 : decode cX5_readPart 180 = .ok (.aload_n 0, 1) := by decide +kernel
theorem dX5_readPart_181 : decode cX5_readPart 181 = .ok (.invokevirtual 58, 3) := by decide +kernel
theorem dX5_readPart_184 : decode cX5_readPart 184 = .ok (.aload_n 0, 1) := by decide +kernel
theorem dX5_readPart_185 : decode cX5_readPart 185 = .ok (.getfield 22, 3) := by decide +kernel
theorem dX5_readPart_188 : decode cX5_readPart 188 = .ok (.iload_n 2, 1) := by decide +kernel
theorem dX5_readPart_189 : decode cX5_readPart 189 = .ok (.invokevirtual 199, 3) := by decide +kernel
theorem dX5_readPart_192 : decode cX5_readPart 192 = .ok (.return_, 1) := by decide +kernel
theorem dX5_orderCode_0 : decode cX5_orderCode 0 = .ok (.iload_n 0, 1) := by decide +kernel
theorem dX5_orderCode_1 : decode cX5_orderCode 1 = .ok (.sipush 323, 3) := by decide +kernel
theorem dX5_orderCode_4 : decode cX5_orderCode 4 = .ok (.if_icmp .lt 20, 3) := by decide +kernel
theorem dX5_orderCode_7 : decode cX5_orderCode 7 = .ok (.iload_n 0, 1) := by decide +kernel
theorem dX5_orderCode_8 : decode cX5_orderCode 8 = .ok (.sipush 326, 3) := by decide +kernel
theorem dX5_orderCode_11 : decode cX5_orderCode 11 = .ok (.if_icmp .gt 13, 3) := by decide +kernel
theorem dX5_orderCode_14 : decode cX5_orderCode 14 = .ok (.sipush 2001, 3) := by decide +kernel
theorem dX5_orderCode_17 : decode cX5_orderCode 17 = .ok (.iload_n 0, 1) := by decide +kernel
theorem dX5_orderCode_18 : decode cX5_orderCode 18 = .ok (.iadd, 1) := by decide +kernel
theorem dX5_orderCode_19 : decode cX5_orderCode 19 = .ok (.sipush 323, 3) := by decide +kernel
theorem dX5_orderCode_22 : decode cX5_orderCode 22 = .ok (.isub, 1) := by decide +kernel
theorem dX5_orderCode_23 : decode cX5_orderCode 23 = .ok (.ireturn, 1) := by decide +kernel
theorem dX5_orderCode_24 : decode cX5_orderCode 24 = .ok (.iload_n 0, 1) := by decide +kernel
theorem dX5_orderCode_25 : decode cX5_orderCode 25 = .ok (.sipush 321, 3) := by decide +kernel
theorem dX5_orderCode_28 : decode cX5_orderCode 28 = .ok (.if_icmp .ne 9, 3) := by decide +kernel
theorem dX5_orderCode_31 : decode cX5_orderCode 31 = .ok (.sipush 2000, 3) := by decide +kernel
theorem dX5_orderCode_34 : decode cX5_orderCode 34 = .ok (.goto 30, 3) := by decide +kernel
theorem dX5_orderCode_37 : decode cX5_orderCode 37 = .ok (.iload_n 0, 1) := by decide +kernel
theorem dX5_orderCode_38 : decode cX5_orderCode 38 = .ok (.sipush 318, 3) := by decide +kernel
theorem dX5_orderCode_41 : decode cX5_orderCode 41 = .ok (.if_icmp .ne 9, 3) := by decide +kernel
theorem dX5_orderCode_44 : decode cX5_orderCode 44 = .ok (.sipush 2005, 3) := by decide +kernel
theorem dX5_orderCode_47 : decode cX5_orderCode 47 = .ok (.goto 17, 3) := by decide +kernel
theorem dX5_orderCode_50 : decode cX5_orderCode 50 = .ok (.iload_n 0, 1) := by decide +kernel
theorem dX5_orderCode_51 : decode cX5_orderCode 51 = .ok (.sipush 327, 3) := by decide +kernel
theorem dX5_orderCode_54 : decode cX5_orderCode 54 = .ok (.if_icmp .ne 9, 3) := by decide +kernel
theorem dX5_orderCode_57 : decode cX5_orderCode 57 = .ok (.sipush 2014, 3) := by decide +kernel
theorem dX5_orderCode_60 : decode cX5_orderCode 60 = .ok (.goto 4, 3) := by decide +kernel
theorem dX5_orderCode_63 : decode cX5_orderCode 63 = .ok (.iconst (-1), 1) := by decide +kernel
theorem dX5_orderCode_64 : decode cX5_orderCode 64 = .ok (.ireturn, 1) := by decide +kernel
theorem dX5_lawCode_0 : decode cX5_lawCode 0 = .ok (.iload_n 0, 1) := by decide +kernel
theorem dX5_lawCode_1 : decode cX5_lawCode 1 = .ok (.sipush 315, 3) := by decide +kernel
theorem dX5_lawCode_4 : decode cX5_lawCode 4 = .ok (.if_icmp .lt 22, 3) := by decide +kernel
theorem dX5_lawCode_7 : decode cX5_lawCode 7 = .ok (.iload_n 0, 1) := by decide +kernel
theorem dX5_lawCode_8 : decode cX5_lawCode 8 = .ok (.sipush 322, 3) := by decide +kernel
theorem dX5_lawCode_11 : decode cX5_lawCode 11 = .ok (.if_icmp .gt 15, 3) := by decide +kernel
theorem dX5_lawCode_14 : decode cX5_lawCode 14 = .ok (.sipush 2000, 3) := by decide +kernel
theorem dX5_lawCode_17 : decode cX5_lawCode 17 = .ok (.iload_n 0, 1) := by decide +kernel
theorem dX5_lawCode_18 : decode cX5_lawCode 18 = .ok (.iadd, 1) := by decide +kernel
theorem dX5_lawCode_19 : decode cX5_lawCode 19 = .ok (.sipush 315, 3) := by decide +kernel
theorem dX5_lawCode_22 : decode cX5_lawCode 22 = .ok (.isub, 1) := by decide +kernel
theorem dX5_lawCode_23 : decode cX5_lawCode 23 = .ok (.goto 4, 3) := by decide +kernel
theorem dX5_lawCode_26 : decode cX5_lawCode 26 = .ok (.iconst (-1), 1) := by decide +kernel
theorem dX5_lawCode_27 : decode cX5_lawCode 27 = .ok (.ireturn, 1) := by decide +kernel
theorem dX6_init_0 : decode cX6_init 0 = .ok (.aload_n 0, 1) := by decide +kernel
theorem dX6_init_1 : decode cX6_init 1 = .ok (.invokespecial 3, 3) := by decide +kernel
theorem dX6_init_4 : decode cX6_init 4 = .ok (.aload_n 0, 1) := by decide +kernel
theorem dX6_init_5 : decode cX6_init 5 = .ok (.bipush 64, 2) := by decide +kernel
theorem dX6_init_7 : decode cX6_init 7 = .ok (.newarray .long, 2) := by decide +kernel
theorem dX6_init_9 : decode cX6_init 9 = .ok (.putfield 9, 3) := by decide +kernel
theorem dX6_init_12 : decode cX6_init 12 = .ok (.aload_n 0, 1) := by decide +kernel
theorem dX6_init_13 : decode cX6_init 13 = .ok (.bipush 23, 2) := by decide +kernel
theorem dX6_init_15 : decode cX6_init 15 = .ok (.newarray .int, 2) := by decide +kernel
theorem dX6_init_17 : decode cX6_init 17 = .ok (.putfield 17, 3) := by decide +kernel
theorem dX6_init_20 : decode cX6_init 20 = .ok (.aload_n 0, 1) := by decide +kernel
theorem dX6_init_21 : decode cX6_init 21 = .ok (.iconst 3, 1) := by decide +kernel
theorem dX6_init_22 : decode cX6_init 22 = .ok (.newarray .int, 2) := by decide +kernel
theorem dX6_init_24 : decode cX6_init 24 = .ok (.putfield 23, 3) := by decide +kernel
theorem dX6_init_27 : decode cX6_init 27 = .ok (.aload_n 0, 1) := by decide +kernel
theorem dX6_init_28 : decode cX6_init 28 = .ok (.iconst 0, 1) := by decide +kernel
theorem dX6_init_29 : decode cX6_init 29 = .ok (.putfield 26, 3) := by decide +kernel
theorem dX6_init_32 : decode cX6_init 32 = .ok (.return_, 1) := by decide +kernel
theorem dX6_setLawWords_0 : decode cX6_setLawWords 0 = .ok (.aload_n 0, 1) := by decide +kernel
theorem dX6_setLawWords_1 : decode cX6_setLawWords 1 = .ok (.getfield 17, 3) := by decide +kernel
theorem dX6_setLawWords_4 : decode cX6_setLawWords 4 = .ok (.iconst 0, 1) := by decide +kernel
theorem dX6_setLawWords_5 : decode cX6_setLawWords 5 = .ok (.iload_n 2, 1) := by decide +kernel
theorem dX6_setLawWords_6 : decode cX6_setLawWords 6 = .ok (.iastore, 1) := by decide +kernel
theorem dX6_setLawWords_7 : decode cX6_setLawWords 7 = .ok (.aload_n 0, 1) := by decide +kernel
theorem dX6_setLawWords_8 : decode cX6_setLawWords 8 = .ok (.getfield 17, 3) := by decide +kernel
theorem dX6_setLawWords_11 : decode cX6_setLawWords 11 = .ok (.iconst 1, 1) := by decide +kernel
theorem dX6_setLawWords_12 : decode cX6_setLawWords 12 = .ok (.aload_n 1, 1) := by decide +kernel
theorem dX6_setLawWords_13 : decode cX6_setLawWords 13 = .ok (.getfield 30, 3) := by decide +kernel
theorem dX6_setLawWords_16 : decode cX6_setLawWords 16 = .ok (.iload_n 2, 1) := by decide +kernel
theorem dX6_setLawWords_17 : decode cX6_setLawWords 17 = .ok (.iaload, 1) := by decide +kernel
theorem dX6_setLawWords_18 : decode cX6_setLawWords 18 = .ok (.iastore, 1) := by decide +kernel
theorem dX6_setLawWords_19 : decode cX6_setLawWords 19 = .ok (.aload_n 0, 1) := by decide +kernel
theorem dX6_setLawWords_20 : decode cX6_setLawWords 20 = .ok (.getfield 17, 3) := by decide +kernel
theorem dX6_setLawWords_23 : decode cX6_setLawWords 23 = .ok (.iconst 2, 1) := by decide +kernel
theorem dX6_setLawWords_24 : decode cX6_setLawWords 24 = .ok (.aload_n 1, 1) := by decide +kernel
theorem dX6_setLawWords_25 : decode cX6_setLawWords 25 = .ok (.getfield 35, 3) := by decide +kernel
theorem dX6_setLawWords_28 : decode cX6_setLawWords 28 = .ok (.iload_n 2, 1) := by decide +kernel
theorem dX6_setLawWords_29 : decode cX6_setLawWords 29 = .ok (.iaload, 1) := by decide +kernel
theorem dX6_setLawWords_30 : decode cX6_setLawWords 30 = .ok (.iastore, 1) := by decide +kernel
theorem dX6_setLawWords_31 : decode cX6_setLawWords 31 = .ok (.aload_n 0, 1) := by decide +kernel
theorem dX6_setLawWords_32 : decode cX6_setLawWords 32 = .ok (.getfield 17, 3) := by decide +kernel
theorem dX6_setLawWords_35 : decode cX6_setLawWords 35 = .ok (.iconst 3, 1) := by decide +kernel
theorem dX6_setLawWords_36 : decode cX6_setLawWords 36 = .ok (.aload_n 1, 1) := by decide +kernel
theorem dX6_setLawWords_37 : decode cX6_setLawWords 37 = .ok (.getfield 38, 3) := by decide +kernel
theorem dX6_setLawWords_40 : decode cX6_setLawWords 40 = .ok (.iload_n 2, 1) := by decide +kernel
theorem dX6_setLawWords_41 : decode cX6_setLawWords 41 = .ok (.iaload, 1) := by decide +kernel
theorem dX6_setLawWords_42 : decode cX6_setLawWords 42 = .ok (.iastore, 1) := by decide +kernel
theorem dX6_setLawWords_43 : decode cX6_setLawWords 43 = .ok (.aload_n 0, 1) := by decide +kernel
theorem dX6_setLawWords_44 : decode cX6_setLawWords 44 = .ok (.getfield 17, 3) := by decide +kernel
theorem dX6_setLawWords_47 : decode cX6_setLawWords 47 = .ok (.iconst 4, 1) := by decide +kernel
theorem dX6_setLawWords_48 : decode cX6_setLawWords 48 = .ok (.iload_n 3, 1) := by decide +kernel
theorem dX6_setLawWords_49 : decode cX6_setLawWords 49 = .ok (.iastore, 1) := by decide +kernel
theorem dX6_setLawWords_50 : decode cX6_setLawWords 50 = .ok (.aload_n 0, 1) := by decide +kernel
theorem dX6_setLawWords_51 : decode cX6_setLawWords 51 = .ok (.getfield 17, 3) := by decide +kernel
theorem dX6_setLawWords_54 : decode cX6_setLawWords 54 = .ok (.iconst 5, 1) := by decide +kernel
theorem dX6_setLawWords_55 : decode cX6_setLawWords 55 = .ok (.iload 4, 2) := by decide +kernel
theorem dX6_setLawWords_57 : decode cX6_setLawWords 57 = .ok (.iastore, 1) := by decide +kernel
theorem dX6_setLawWords_58 : decode cX6_setLawWords 58 = .ok (.aload_n 0, 1) := by decide +kernel
theorem dX6_setLawWords_59 : decode cX6_setLawWords 59 = .ok (.getfield 17, 3) := by decide +kernel
theorem dX6_setLawWords_62 : decode cX6_setLawWords 62 = .ok (.bipush 6, 2) := by decide +kernel
theorem dX6_setLawWords_64 : decode cX6_setLawWords 64 = .ok (.aload_n 1, 1) := by decide +kernel
theorem dX6_setLawWords_65 : decode cX6_setLawWords 65 = .ok (.getfield 41, 3) := by decide +kernel
theorem dX6_setLawWords_68 : decode cX6_setLawWords 68 = .ok (.iconst 0, 1) := by decide +kernel
theorem dX6_setLawWords_69 : decode cX6_setLawWords 69 = .ok (.iaload, 1) := by decide +kernel
theorem dX6_setLawWords_70 : decode cX6_setLawWords 70 = .ok (.iastore, 1) := by decide +kernel
theorem dX6_setLawWords_71 : decode cX6_setLawWords 71 = .ok (.aload_n 0, 1) := by decide +kernel
theorem dX6_setLawWords_72 : decode cX6_setLawWords 72 = .ok (.getfield 17, 3) := by decide +kernel
theorem dX6_setLawWords_75 : decode cX6_setLawWords 75 = .ok (.bipush 7, 2) := by decide +kernel
theorem dX6_setLawWords_77 : decode cX6_setLawWords 77 = .ok (.aload_n 1, 1) := by decide +kernel
theorem dX6_setLawWords_78 : decode cX6_setLawWords 78 = .ok (.getfield 41, 3) := by decide +kernel
theorem dX6_setLawWords_81 : decode cX6_setLawWords 81 = .ok (.iconst 2, 1) := by decide +kernel
theorem dX6_setLawWords_82 : decode cX6_setLawWords 82 = .ok (.iaload, 1) := by decide +kernel
theorem dX6_setLawWords_83 : decode cX6_setLawWords 83 = .ok (.iastore, 1) := by decide +kernel
theorem dX6_setLawWords_84 : decode cX6_setLawWords 84 = .ok (.return_, 1) := by decide +kernel
theorem dX6_setOrderWords_0 : decode cX6_setOrderWords 0 = .ok (.aload_n 0, 1) := by decide +kernel
theorem dX6_setOrderWords_1 : decode cX6_setOrderWords 1 = .ok (.getfield 17, 3) := by decide +kernel
theorem dX6_setOrderWords_4 : decode cX6_setOrderWords 4 = .ok (.iconst 0, 1) := by decide +kernel
theorem dX6_setOrderWords_5 : decode cX6_setOrderWords 5 = .ok (.aload_n 1, 1) := by decide +kernel
theorem dX6_setOrderWords_6 : decode cX6_setOrderWords 6 = .ok (.getfield 41, 3) := by decide +kernel
theorem dX6_setOrderWords_9 : decode cX6_setOrderWords 9 = .ok (.iconst 0, 1) := by decide +kernel
theorem dX6_setOrderWords_10 : decode cX6_setOrderWords 10 = .ok (.iaload, 1) := by decide +kernel
theorem dX6_setOrderWords_11 : decode cX6_setOrderWords 11 = .ok (.iastore, 1) := by decide +kernel
theorem dX6_setOrderWords_12 : decode cX6_setOrderWords 12 = .ok (.aload_n 0, 1) := by decide +kernel
theorem dX6_setOrderWords_13 : decode cX6_setOrderWords 13 = .ok (.getfield 17, 3) := by decide +kernel
theorem dX6_setOrderWords_16 : decode cX6_setOrderWords 16 = .ok (.iconst 3, 1) := by decide +kernel
theorem dX6_setOrderWords_17 : decode cX6_setOrderWords 17 = .ok (.aload_n 1, 1) := by decide +kernel
theorem dX6_setOrderWords_18 : decode cX6_setOrderWords 18 = .ok (.invokevirtual 44, 3) := by decide +kernel
theorem dX6_setOrderWords_21 : decode cX6_setOrderWords 21 = .ok (.iastore, 1) := by decide +kernel
theorem dX6_setOrderWords_22 : decode cX6_setOrderWords 22 = .ok (.aload_n 0, 1) := by decide +kernel
theorem dX6_setOrderWords_23 : decode cX6_setOrderWords 23 = .ok (.getfield 17, 3) := by decide +kernel
theorem dX6_setOrderWords_26 : decode cX6_setOrderWords 26 = .ok (.iconst 4, 1) := by decide +kernel
theorem dX6_setOrderWords_27 : decode cX6_setOrderWords 27 = .ok (.aload_n 1, 1) := by decide +kernel
theorem dX6_setOrderWords_28 : decode cX6_setOrderWords 28 = .ok (.getfield 48, 3) := by decide +kernel
theorem dX6_setOrderWords_31 : decode cX6_setOrderWords 31 = .ok (.iastore, 1) := by decide +kernel
theorem dX6_setOrderWords_32 : decode cX6_setOrderWords 32 = .ok (.iconst 0, 1) := by decide +kernel
theorem dX6_setOrderWords_33 : decode cX6_setOrderWords 33 = .ok (.istore_n 2, 1) := by decide +kernel
theorem dX6_setOrderWords_34 : decode cX6_setOrderWords 34 = .ok (.iload_n 2, 1) := by decide +kernel
theorem dX6_setOrderWords_35 : decode cX6_setOrderWords 35 = .ok (.bipush 9, 2) := by decide +kernel
theorem dX6_setOrderWords_37 : decode cX6_setOrderWords 37 = .ok (.if_icmp .ge 69, 3) := by decide +kernel
theorem dX6_setOrderWords_40 : decode cX6_setOrderWords 40 = .ok (.aload_n 0, 1) := by decide +kernel
theorem dX6_setOrderWords_41 : decode cX6_setOrderWords 41 = .ok (.getfield 17, 3) := by decide +kernel
theorem dX6_setOrderWords_44 : decode cX6_setOrderWords 44 = .ok (.iconst 5, 1) := by decide +kernel
theorem dX6_setOrderWords_45 : decode cX6_setOrderWords 45 = .ok (.iload_n 2, 1) := by decide +kernel
theorem dX6_setOrderWords_46 : decode cX6_setOrderWords 46 = .ok (.iadd, 1) := by decide +kernel
theorem dX6_setOrderWords_47 : decode cX6_setOrderWords 47 = .ok (.aload_n 1, 1) := by decide +kernel
theorem dX6_setOrderWords_48 : decode cX6_setOrderWords 48 = .ok (.iload_n 2, 1) := by decide +kernel
theorem dX6_setOrderWords_49 : decode cX6_setOrderWords 49 = .ok (.invokevirtual 52, 3) := by decide +kernel
theorem dX6_setOrderWords_52 : decode cX6_setOrderWords 52 = .ok (.ifCond .eq 12, 3) := by decide +kernel
theorem dX6_setOrderWords_55 : decode cX6_setOrderWords 55 = .ok (.aload_n 1, 1) := by decide +kernel
theorem dX6_setOrderWords_56 : decode cX6_setOrderWords 56 = .ok (.getfield 38, 3) := by decide +kernel
theorem dX6_setOrderWords_59 : decode cX6_setOrderWords 59 = .ok (.iload_n 2, 1) := by decide +kernel
theorem dX6_setOrderWords_60 : decode cX6_setOrderWords 60 = .ok (.iaload, 1) := by decide +kernel
theorem dX6_setOrderWords_61 : decode cX6_setOrderWords 61 = .ok (.goto 4, 3) := by decide +kernel
theorem dX6_setOrderWords_64 : decode cX6_setOrderWords 64 = .ok (.iconst (-1), 1) := by decide +kernel
theorem dX6_setOrderWords_65 : decode cX6_setOrderWords 65 = .ok (.iastore, 1) := by decide +kernel
theorem dX6_setOrderWords_66 : decode cX6_setOrderWords 66 = .ok (.aload_n 0, 1) := by decide +kernel
theorem dX6_setOrderWords_67 : decode cX6_setOrderWords 67 = .ok (.getfield 17, 3) := by decide +kernel
theorem dX6_setOrderWords_70 : decode cX6_setOrderWords 70 = .ok (.bipush 14, 2) := by decide +kernel
theorem dX6_setOrderWords_72 : decode cX6_setOrderWords 72 = .ok (.iload_n 2, 1) := by decide +kernel
theorem dX6_setOrderWords_73 : decode cX6_setOrderWords 73 = .ok (.iadd, 1) := by decide +kernel
theorem dX6_setOrderWords_74 : decode cX6_setOrderWords 74 = .ok (.aload_n 1, 1) := by decide +kernel
theorem dX6_setOrderWords_75 : decode cX6_setOrderWords 75 = .ok (.iload_n 2, 1) := by decide +kernel
theorem dX6_setOrderWords_76 : decode cX6_setOrderWords 76 = .ok (.invokevirtual 52, 3) := by decide +kernel
theorem dX6_setOrderWords_79 : decode cX6_setOrderWords 79 = .ok (.ifCond .ne 7, 3) := by decide +kernel
theorem dX6_setOrderWords_82 : decode cX6_setOrderWords 82 = .ok (.iconst (-1), 1) := by decide +kernel
theorem dX6_setOrderWords_83 : decode cX6_setOrderWords 83 = .ok (.goto 16, 3) := by decide +kernel
theorem dX6_setOrderWords_86 : decode cX6_setOrderWords 86 = .ok (.aload_n 1, 1) := by decide +kernel
theorem dX6_setOrderWords_87 : decode cX6_setOrderWords 87 = .ok (.iload_n 2, 1) := by decide +kernel
theorem dX6_setOrderWords_88 : decode cX6_setOrderWords 88 = .ok (.invokevirtual 56, 3) := by decide +kernel
theorem dX6_setOrderWords_91 : decode cX6_setOrderWords 91 = .ok (.ifCond .eq 7, 3) := by decide +kernel
theorem dX6_setOrderWords_94 : decode cX6_setOrderWords 94 = .ok (.iconst 1, 1) := by decide +kernel
theorem dX6_setOrderWords_95 : decode cX6_setOrderWords 95 = .ok (.goto 4, 3) := by decide +kernel
theorem dX6_setOrderWords_98 : decode cX6_setOrderWords 98 = .ok (.iconst 0, 1) := by decide +kernel
theorem dX6_setOrderWords_99 : decode cX6_setOrderWords 99 = .ok (.iastore, 1) := by decide +kernel
theorem dX6_setOrderWords_100 : decode cX6_setOrderWords 100 = .ok (.iinc 2 1, 3) := by decide +kernel
theorem dX6_setOrderWords_103 : decode cX6_setOrderWords 103 = .ok (.goto (-69), 3) := by decide +kernel
theorem dX6_setOrderWords_106 : decode cX6_setOrderWords 106 = .ok (.return_, 1) := by decide +kernel
theorem dX6_isSo_0 : decode cX6_isSo 0 = .ok (.aload_n 1, 1) := by decide +kernel
theorem dX6_isSo_1 : decode cX6_isSo 1 = .ok (.iload_n 2, 1) := by decide +kernel
theorem dX6_isSo_2 : decode cX6_isSo 2 = .ok (.bipush 6, 2) := by decide +kernel
theorem dX6_isSo_4 : decode cX6_isSo 4 = .ok (.invokevirtual 59, 3) := by decide +kernel
theorem dX6_isSo_7 : decode cX6_isSo 7 = .ok (.istore_n 3, 1) := by decide +kernel
theorem dX6_isSo_8 : decode cX6_isSo 8 = .ok (.aload_n 1, 1) := by decide +kernel
theorem dX6_isSo_9 : decode cX6_isSo 9 = .ok (.iload_n 2, 1) := by decide +kernel
theorem dX6_isSo_10 : decode cX6_isSo 10 = .ok (.bipush 7, 2) := by decide +kernel
theorem dX6_isSo_12 : decode cX6_isSo 12 = .ok (.invokevirtual 59, 3) := by decide +kernel
theorem dX6_isSo_15 : decode cX6_isSo 15 = .ok (.istore 4, 2) := by decide +kernel
theorem dX6_isSo_17 : decode cX6_isSo 17 = .ok (.iload_n 3, 1) := by decide +kernel
theorem dX6_isSo_18 : decode cX6_isSo 18 = .ok (.iload 4, 2) := by decide +kernel
theorem dX6_isSo_20 : decode cX6_isSo 20 = .ok (.if_icmp .eq 23, 3) := by decide +kernel
theorem dX6_isSo_23 : decode cX6_isSo 23 = .ok (.aload_n 0, 1) := by decide +kernel
theorem dX6_isSo_24 : decode cX6_isSo 24 = .ok (.aload_n 1, 1) := by decide +kernel
theorem dX6_isSo_25 : decode cX6_isSo 25 = .ok (.iload_n 3, 1) := by decide +kernel
theorem dX6_isSo_26 : decode cX6_isSo 26 = .ok (.iload 4, 2) := by decide +kernel
theorem dX6_isSo_28 : decode cX6_isSo 28 = .ok (.invokevirtual 63, 3) := by decide +kernel
theorem dX6_isSo_31 : decode cX6_isSo 31 = .ok (.lconst 0, 1) := by decide +kernel
theorem dX6_isSo_32 : decode cX6_isSo 32 = .ok (.lcmp, 1) := by decide +kernel
theorem dX6_isSo_33 : decode cX6_isSo 33 = .ok (.ifCond .eq 14, 3) := by decide +kernel
theorem dX6_isSo_36 : decode cX6_isSo 36 = .ok (.aload_n 0, 1) := by decide +kernel
theorem dX6_isSo_37 : decode cX6_isSo 37 = .ok (.getfield 26, 3) := by decide +kernel
theorem dX6_isSo_40 : decode cX6_isSo 40 = .ok (.ifCond .ne 7, 3) := by decide +kernel
theorem dX6_isSo_43 : decode cX6_isSo 43 = .ok (.iconst 1, 1) := by decide +kernel
theorem dX6_isSo_44 : decode cX6_isSo 44 = .ok (.goto 4, 3) := by decide +kernel
theorem dX6_isSo_47 : decode cX6_isSo 47 = .ok (.iconst 0, 1) := by decide +kernel
theorem dX6_isSo_48 : decode cX6_isSo 48 = .ok (.ireturn, 1) := by decide +kernel
theorem dX6_reckonSums_0 : decode cX6_reckonSums 0 = .ok (.iconst 0, 1) := by decide +kernel
theorem dX6_reckonSums_1 : decode cX6_reckonSums 1 = .ok (.istore_n 3, 1) := by decide +kernel
theorem dX6_reckonSums_2 : decode cX6_reckonSums 2 = .ok (.iload_n 3, 1) := by decide +kernel
theorem dX6_reckonSums_3 : decode cX6_reckonSums 3 = .ok (.iconst 3, 1) := by decide +kernel
theorem dX6_reckonSums_4 : decode cX6_reckonSums 4 = .ok (.if_icmp .ge 74, 3) := by decide +kernel
theorem dX6_reckonSums_7 : decode cX6_reckonSums 7 = .ok (.aload_n 1, 1) := by decide +kernel
theorem dX6_reckonSums_8 : decode cX6_reckonSums 8 = .ok (.iload_n 2, 1) := by decide +kernel
theorem dX6_reckonSums_9 : decode cX6_reckonSums 9 = .ok (.iconst 2, 1) := by decide +kernel
theorem dX6_reckonSums_10 : decode cX6_reckonSums 10 = .ok (.iload_n 3, 1) := by decide +kernel
theorem dX6_reckonSums_11 : decode cX6_reckonSums 11 = .ok (.iadd, 1) := by decide +kernel
theorem dX6_reckonSums_12 : decode cX6_reckonSums 12 = .ok (.invokevirtual 59, 3) := by decide +kernel
theorem dX6_reckonSums_15 : decode cX6_reckonSums 15 = .ok (.istore 4, 2) := by decide +kernel
theorem dX6_reckonSums_17 : decode cX6_reckonSums 17 = .ok (.aload_n 1, 1) := by decide +kernel
theorem dX6_reckonSums_18 : decode cX6_reckonSums 18 = .ok (.iload_n 2, 1) := by decide +kernel
theorem dX6_reckonSums_19 : decode cX6_reckonSums 19 = .ok (.iconst 2, 1) := by decide +kernel
theorem dX6_reckonSums_20 : decode cX6_reckonSums 20 = .ok (.iload_n 3, 1) := by decide +kernel
theorem dX6_reckonSums_21 : decode cX6_reckonSums 21 = .ok (.iadd, 1) := by decide +kernel
theorem dX6_reckonSums_22 : decode cX6_reckonSums 22 = .ok (.iconst 1, 1) := by decide +kernel
theorem dX6_reckonSums_23 : decode cX6_reckonSums 23 = .ok (.iadd, 1) := by decide +kernel
theorem dX6_reckonSums_24 : decode cX6_reckonSums 24 = .ok (.invokevirtual 59, 3) := by decide +kernel
theorem dX6_reckonSums_27 : decode cX6_reckonSums 27 = .ok (.istore 5, 2) := by decide +kernel
theorem dX6_reckonSums_29 : decode cX6_reckonSums 29 = .ok (.aload_n 0, 1) := by decide +kernel
theorem dX6_reckonSums_30 : decode cX6_reckonSums 30 = .ok (.getfield 23, 3) := by decide +kernel
theorem dX6_reckonSums_33 : decode cX6_reckonSums 33 = .ok (.iload_n 3, 1) := by decide +kernel
theorem dX6_reckonSums_34 : decode cX6_reckonSums 34 = .ok (.iload 4, 2) := by decide +kernel
theorem dX6_reckonSums_36 : decode cX6_reckonSums 36 = .ok (.iload 5, 2) := by decide +kernel
theorem dX6_reckonSums_38 : decode cX6_reckonSums 38 = .ok (.if_icmp .ne 7, 3) := by decide +kernel
theorem dX6_reckonSums_41 : decode cX6_reckonSums 41 = .ok (.iconst 0, 1) := by decide +kernel
theorem dX6_reckonSums_42 : decode cX6_reckonSums 42 = .ok (.goto 13, 3) := by decide +kernel
theorem dX6_reckonSums_45 : decode cX6_reckonSums 45 = .ok (.aload_n 0, 1) := by decide +kernel
theorem dX6_reckonSums_46 : decode cX6_reckonSums 46 = .ok (.aload_n 1, 1) := by decide +kernel
theorem dX6_reckonSums_47 : decode cX6_reckonSums 47 = .ok (.iload 4, 2) := by decide +kernel
theorem dX6_reckonSums_49 : decode cX6_reckonSums 49 = .ok (.iload 5, 2) := by decide +kernel
theorem dX6_reckonSums_51 : decode cX6_reckonSums 51 = .ok (.invokevirtual 63, 3) := by decide +kernel
theorem dX6_reckonSums_54 : decode cX6_reckonSums 54 = .ok (.l2i, 1) := by decide +kernel
theorem dX6_reckonSums_55 : decode cX6_reckonSums 55 = .ok (.iastore, 1) := by decide +kernel
theorem dX6_reckonSums_56 : decode cX6_reckonSums 56 = .ok (.iload 4, 2) := by decide +kernel
theorem dX6_reckonSums_58 : decode cX6_reckonSums 58 = .ok (.iload 5, 2) := by decide +kernel
theorem dX6_reckonSums_60 : decode cX6_reckonSums 60 = .ok (.if_icmp .eq 12, 3) := by decide +kernel
theorem dX6_reckonSums_63 : decode cX6_reckonSums 63 = .ok (.aload_n 0, 1) := by decide +kernel
theorem dX6_reckonSums_64 : decode cX6_reckonSums 64 = .ok (.getfield 26, 3) := by decide +kernel
theorem dX6_reckonSums_67 : decode cX6_reckonSums 67 = .ok (.ifCond .eq 5, 3) := by decide +kernel
theorem dX6_reckonSums_70 : decode cX6_reckonSums 70 = .ok (.iconst 0, 1) := by decide +kernel
theorem dX6_reckonSums_71 : decode cX6_reckonSums 71 = .ok (.ireturn, 1) := by decide +kernel
theorem dX6_reckonSums_72 : decode cX6_reckonSums 72 = .ok (.iinc 3 1, 3) := by decide +kernel
theorem dX6_reckonSums_75 : decode cX6_reckonSums 75 = .ok (.goto (-73), 3) := by decide +kernel
theorem dX6_reckonSums_78 : decode cX6_reckonSums 78 = .ok (.iconst 1, 1) := by decide +kernel
theorem dX6_reckonSums_79 : decode cX6_reckonSums 79 = .ok (.ireturn, 1) := by decide +kernel
theorem dX6_reckon_0 : decode cX6_reckon 0 = .ok (.iconst 0, 1) := by decide +kernel
theorem dX6_reckon_1 : decode cX6_reckon 1 = .ok (.istore 4, 2) := by decide +kernel
theorem dX6_reckon_3 : decode cX6_reckon 3 = .ok (.aload_n 0, 1) := by decide +kernel
theorem dX6_reckon_4 : decode cX6_reckon 4 = .ok (.iconst 0, 1) := by decide +kernel
theorem dX6_reckon_5 : decode cX6_reckon 5 = .ok (.putfield 26, 3) := by decide +kernel
theorem dX6_reckon_8 : decode cX6_reckon 8 = .ok (.iload_n 2, 1) := by decide +kernel
theorem dX6_reckon_9 : decode cX6_reckon 9 = .ok (.istore 5, 2) := by decide +kernel
theorem dX6_reckon_11 : decode cX6_reckon 11 = .ok (.iload 5, 2) := by decide +kernel
theorem dX6_reckon_13 : decode cX6_reckon 13 = .ok (.iload_n 3, 1) := by decide +kernel
theorem dX6_reckon_14 : decode cX6_reckon 14 = .ok (.if_icmp .ge 530, 3) := by decide +kernel
theorem dX6_reckon_17 : decode cX6_reckon 17 = .ok (.iload 5, 2) := by decide +kernel
theorem dX6_reckon_19 : decode cX6_reckon 19 = .ok (.aload_n 1, 1) := by decide +kernel
theorem dX6_reckon_20 : decode cX6_reckon 20 = .ok (.getfield 67, 3) := by decide +kernel
theorem dX6_reckon_23 : decode cX6_reckon 23 = .ok (.if_icmp .ge 521, 3) := by decide +kernel
theorem dX6_reckon_26 : decode cX6_reckon 26 = .ok (.aload_n 0, 1) := by decide +kernel
theorem dX6_reckon_27 : decode cX6_reckon 27 = .ok (.getfield 26, 3) := by decide +kernel
theorem dX6_reckon_30 : decode cX6_reckon 30 = .ok (.ifCond .ne 514, 3) := by decide +kernel
theorem dX6_reckon_33 : decode cX6_reckon 33 = .ok (.aload_n 1, 1) := by decide +kernel
theorem dX6_reckon_34 : decode cX6_reckon 34 = .ok (.getfield 70, 3) := by decide +kernel
theorem dX6_reckon_37 : decode cX6_reckon 37 = .ok (.iload 5, 2) := by decide +kernel
theorem dX6_reckon_39 : decode cX6_reckon 39 = .ok (.iaload, 1) := by decide +kernel
theorem dX6_reckon_40 : decode cX6_reckon 40 = .ok (.istore 6, 2) := by decide +kernel
theorem dX6_reckon_42 : decode cX6_reckon 42 = .ok (.iload 6, 2) := by decide +kernel
theorem dX6_reckon_44 : decode cX6_reckon 44 = .ok (.sipush 3000, 3) := by decide +kernel
theorem dX6_reckon_47 : decode cX6_reckon 47 = .ok (.if_icmp .ge 81, 3) := by decide +kernel
theorem dX6_reckon_50 : decode cX6_reckon 50 = .ok (.iload 6, 2) := by decide +kernel
theorem dX6_reckon_52 : decode cX6_reckon 52 = .ok (.sipush 2000, 3) := by decide +kernel
theorem dX6_reckon_55 : decode cX6_reckon 55 = .ok (.isub, 1) := by decide +kernel
theorem dX6_reckon_56 : decode cX6_reckon 56 = .ok (.istore 7, 2) := by decide +kernel
theorem dX6_reckon_58 : decode cX6_reckon 58 = .ok (.aload_n 0, 1) := by decide +kernel
theorem dX6_reckon_59 : decode cX6_reckon 59 = .ok (.iload 4, 2) := by decide +kernel
theorem dX6_reckon_61 : decode cX6_reckon 61 = .ok (.iconst 1, 1) := by decide +kernel
theorem dX6_reckon_62 : decode cX6_reckon 62 = .ok (.iadd, 1) := by decide +kernel
theorem dX6_reckon_63 : decode cX6_reckon 63 = .ok (.aload_n 0, 1) := by decide +kernel
theorem dX6_reckon_64 : decode cX6_reckon 64 = .ok (.getfield 9, 3) := by decide +kernel
theorem dX6_reckon_67 : decode cX6_reckon 67 = .ok (.arraylength, 1) := by decide +kernel
theorem dX6_reckon_68 : decode cX6_reckon 68 = .ok (.if_icmp .ge 13, 3) := by decide +kernel
theorem dX6_reckon_71 : decode cX6_reckon 71 = .ok (.iload 7, 2) := by decide +kernel
theorem dX6_reckon_73 : decode cX6_reckon 73 = .ok (.aload_n 0, 1) := by decide +kernel
theorem dX6_reckon_74 : decode cX6_reckon 74 = .ok (.getfield 17, 3) := by decide +kernel
theorem dX6_reckon_77 : decode cX6_reckon 77 = .ok (.arraylength, 1) := by decide +kernel
theorem dX6_reckon_78 : decode cX6_reckon 78 = .ok (.if_icmp .lt 7, 3) := by decide +kernel
theorem dX6_reckon_81 : decode cX6_reckon 81 = .ok (.iconst 1, 1) := by decide +kernel
theorem dX6_reckon_82 : decode cX6_reckon 82 = .ok (.goto 4, 3) := by decide +kernel
theorem dX6_reckon_85 : decode cX6_reckon 85 = .ok (.iconst 0, 1) := by decide +kernel
theorem dX6_reckon_86 : decode cX6_reckon 86 = .ok (.putfield 26, 3) := by decide +kernel
theorem dX6_reckon_89 : decode cX6_reckon 89 = .ok (.aload_n 0, 1) := by decide +kernel
theorem dX6_reckon_90 : decode cX6_reckon 90 = .ok (.getfield 26, 3) := by decide +kernel
theorem dX6_reckon_93 : decode cX6_reckon 93 = .ok (.ifCond .ne 445, 3) := by decide +kernel
theorem dX6_reckon_96 : decode cX6_reckon 96 = .ok (.aload_n 0, 1) := by decide +kernel
theorem dX6_reckon_97 : decode cX6_reckon 97 = .ok (.getfield 9, 3) := by decide +kernel
theorem dX6_reckon_100 : decode cX6_reckon 100 = .ok (.iload 4, 2) := by decide +kernel
theorem dX6_reckon_102 : decode cX6_reckon 102 = .ok (.iload 7, 2) := by decide +kernel
theorem dX6_reckon_104 : decode cX6_reckon 104 = .ok (.ifCond .ge 9, 3) := by decide +kernel
theorem dX6_reckon_107 : decode cX6_reckon 107 = .ok (.iload 6, 2) := by decide +kernel
theorem dX6_reckon_109 : decode cX6_reckon 109 = .ok (.i2l, 1) := by decide +kernel
theorem dX6_reckon_110 : decode cX6_reckon 110 = .ok (.goto 11, 3) := by decide +kernel
theorem dX6_reckon_113 : decode cX6_reckon 113 = .ok (.aload_n 0, 1) := by decide +kernel
theorem dX6_reckon_114 : decode cX6_reckon 114 = .ok (.getfield 17, 3) := by decide +kernel
theorem dX6_reckon_117 : decode cX6_reckon 117 = .ok (.iload 7, 2) := by decide +kernel
theorem dX6_reckon_119 : decode cX6_reckon 119 = .ok (.iaload, 1) := by decide +kernel
theorem dX6_reckon_120 : decode cX6_reckon 120 = .ok (.i2l, 1) := by decide +kernel
theorem dX6_reckon_121 : decode cX6_reckon 121 = .ok (.lastore, 1) := by decide +kernel
theorem dX6_reckon_122 : decode cX6_reckon 122 = .ok (.iinc 4 1, 3) := by decide +kernel
theorem dX6_reckon_125 : decode cX6_reckon 125 = .ok (.goto 413, 3) := by decide +kernel
theorem dX6_reckon_128 : decode cX6_reckon 128 = .ok (.iload 4, 2) := by decide +kernel
theorem dX6_reckon_130 : decode cX6_reckon 130 = .ok (.iconst 1, 1) := by decide +kernel
theorem dX6_reckon_131 : decode cX6_reckon 131 = .ok (.if_icmp .lt 17, 3) := by decide +kernel
theorem dX6_reckon_134 : decode cX6_reckon 134 = .ok (.iload 4, 2) := by decide +kernel
theorem dX6_reckon_136 : decode cX6_reckon 136 = .ok (.iconst 2, 1) := by decide +kernel
theorem dX6_reckon_137 : decode cX6_reckon 137 = .ok (.if_icmp .ge 19, 3) := by decide +kernel
theorem dX6_reckon_140 : decode cX6_reckon 140 = .ok (.iload 6, 2) := by decide +kernel
theorem dX6_reckon_142 : decode cX6_reckon 142 = .ok (.sipush 3008, 3) := by decide +kernel
theorem dX6_reckon_145 : decode cX6_reckon 145 = .ok (.if_icmp .ge 11, 3) := by decide +kernel
theorem dX6_reckon_148 : decode cX6_reckon 148 = .ok (.aload_n 0, 1) := by decide +kernel
theorem dX6_reckon_149 : decode cX6_reckon 149 = .ok (.iconst 1, 1) := by decide +kernel
theorem dX6_reckon_150 : decode cX6_reckon 150 = .ok (.putfield 26, 3) := by decide +kernel
theorem dX6_reckon_153 : decode cX6_reckon 153 = .ok (.goto 385, 3) := by decide +kernel
theorem dX6_reckon_156 : decode cX6_reckon 156 = .ok (.iload 6, 2) := by decide +kernel
theorem dX6_reckon_158 : decode cX6_reckon 158 = .ok (.sipush 3009, 3) := by decide +kernel
theorem dX6_reckon_161 : decode cX6_reckon 161 = .ok (.if_icmp .eq 11, 3) := by decide +kernel
theorem dX6_reckon_164 : decode cX6_reckon 164 = .ok (.iload 6, 2) := by decide +kernel
theorem dX6_reckon_166 : decode cX6_reckon 166 = .ok (.sipush 3010, 3) := by decide +kernel
theorem dX6_reckon_169 : decode cX6_reckon 169 = .ok (.if_icmp .ne 105, 3) := by decide +kernel
theorem dX6_reckon_172 : decode cX6_reckon 172 = .ok (.iinc 5 1, 3) := by decide +kernel
theorem dX6_reckon_175 : decode cX6_reckon 175 = .ok (.aload_n 0, 1) := by decide +kernel
theorem dX6_reckon_176 : decode cX6_reckon 176 = .ok (.getfield 9, 3) := by decide +kernel
theorem dX6_reckon_179 : decode cX6_reckon 179 = .ok (.iload 4, 2) := by decide +kernel
theorem dX6_reckon_181 : decode cX6_reckon 181 = .ok (.iconst 1, 1) := by decide +kernel
theorem dX6_reckon_182 : decode cX6_reckon 182 = .ok (.isub, 1) := by decide +kernel
theorem dX6_reckon_183 : decode cX6_reckon 183 = .ok (.laload, 1) := by decide +kernel
theorem dX6_reckon_184 : decode cX6_reckon 184 = .ok (.lconst 0, 1) := by decide +kernel
theorem dX6_reckon_185 : decode cX6_reckon 185 = .ok (.lcmp, 1) := by decide +kernel
theorem dX6_reckon_186 : decode cX6_reckon 186 = .ok (.ifCond .eq 7, 3) := by decide +kernel
theorem dX6_reckon_189 : decode cX6_reckon 189 = .ok (.iconst 1, 1) := by decide +kernel
theorem dX6_reckon_190 : decode cX6_reckon 190 = .ok (.goto 4, 3) := by decide +kernel
theorem dX6_reckon_193 : decode cX6_reckon 193 = .ok (.iconst 0, 1) := by decide +kernel
theorem dX6_reckon_194 : decode cX6_reckon 194 = .ok (.iload 6, 2) := by decide +kernel
theorem dX6_reckon_196 : decode cX6_reckon 196 = .ok (.sipush 3010, 3) := by decide +kernel
theorem dX6_reckon_199 : decode cX6_reckon 199 = .ok (.if_icmp .ne 7, 3) := by decide +kernel
theorem dX6_reckon_202 : decode cX6_reckon 202 = .ok (.iconst 1, 1) := by decide +kernel
theorem dX6_reckon_203 : decode cX6_reckon 203 = .ok (.goto 4, 3) := by decide +kernel
theorem dX6_reckon_206 : decode cX6_reckon 206 = .ok (.iconst 0, 1) := by decide +kernel
theorem dX6_reckon_207 : decode cX6_reckon 207 = .ok (.if_icmp .ne 7, 3) := by decide +kernel
theorem dX6_reckon_210 : decode cX6_reckon 210 = .ok (.iconst 1, 1) := by decide +kernel
theorem dX6_reckon_211 : decode cX6_reckon 211 = .ok (.goto 4, 3) := by decide +kernel
theorem dX6_reckon_214 : decode cX6_reckon 214 = .ok (.iconst 0, 1) := by decide +kernel
theorem dX6_reckon_215 : decode cX6_reckon 215 = .ok (.istore 7, 2) := by decide +kernel
theorem dX6_reckon_217 : decode cX6_reckon 217 = .ok (.iload 7, 2) := by decide +kernel
theorem dX6_reckon_219 : decode cX6_reckon 219 = .ok (.ifCond .eq 37, 3) := by decide +kernel
theorem dX6_reckon_222 : decode cX6_reckon 222 = .ok (.iload 5, 2) := by decide +kernel
theorem dX6_reckon_224 : decode cX6_reckon 224 = .ok (.aload_n 1, 1) := by decide +kernel
theorem dX6_reckon_225 : decode cX6_reckon 225 = .ok (.getfield 67, 3) := by decide +kernel
theorem dX6_reckon_228 : decode cX6_reckon 228 = .ok (.if_icmp .ge 28, 3) := by decide +kernel
theorem dX6_reckon_231 : decode cX6_reckon 231 = .ok (.aload_n 1, 1) := by decide +kernel
theorem dX6_reckon_232 : decode cX6_reckon 232 = .ok (.getfield 70, 3) := by decide +kernel
theorem dX6_reckon_235 : decode cX6_reckon 235 = .ok (.iload 5, 2) := by decide +kernel
theorem dX6_reckon_237 : decode cX6_reckon 237 = .ok (.iaload, 1) := by decide +kernel
theorem dX6_reckon_238 : decode cX6_reckon 238 = .ok (.iconst 1, 1) := by decide +kernel
theorem dX6_reckon_239 : decode cX6_reckon 239 = .ok (.isub, 1) := by decide +kernel
theorem dX6_reckon_240 : decode cX6_reckon 240 = .ok (.iload 5, 2) := by decide +kernel
theorem dX6_reckon_242 : decode cX6_reckon 242 = .ok (.if_icmp .le 14, 3) := by decide +kernel
theorem dX6_reckon_245 : decode cX6_reckon 245 = .ok (.aload_n 1, 1) := by decide +kernel
theorem dX6_reckon_246 : decode cX6_reckon 246 = .ok (.getfield 70, 3) := by decide +kernel
theorem dX6_reckon_249 : decode cX6_reckon 249 = .ok (.iload 5, 2) := by decide +kernel
theorem dX6_reckon_251 : decode cX6_reckon 251 = .ok (.iaload, 1) := by decide +kernel
theorem dX6_reckon_252 : decode cX6_reckon 252 = .ok (.iconst 1, 1) := by decide +kernel
theorem dX6_reckon_253 : decode cX6_reckon 253 = .ok (.isub, 1) := by decide +kernel
theorem dX6_reckon_254 : decode cX6_reckon 254 = .ok (.istore 5, 2) := by decide +kernel
theorem dX6_reckon_256 : decode cX6_reckon 256 = .ok (.iload 4, 2) := by decide +kernel
theorem dX6_reckon_258 : decode cX6_reckon 258 = .ok (.iload 7, 2) := by decide +kernel
theorem dX6_reckon_260 : decode cX6_reckon 260 = .ok (.ifCond .eq 7, 3) := by decide +kernel
theorem dX6_reckon_263 : decode cX6_reckon 263 = .ok (.iconst 0, 1) := by decide +kernel
theorem dX6_reckon_264 : decode cX6_reckon 264 = .ok (.goto 4, 3) := by decide +kernel
theorem dX6_reckon_267 : decode cX6_reckon 267 = .ok (.iconst 1, 1) := by decide +kernel
theorem dX6_reckon_268 : decode cX6_reckon 268 = .ok (.isub, 1) := by decide +kernel
theorem dX6_reckon_269 : decode cX6_reckon 269 = .ok (.istore 4, 2) := by decide +kernel
theorem dX6_reckon_271 : decode cX6_reckon 271 = .ok (.goto 267, 3) := by decide +kernel
theorem dX6_reckon_274 : decode cX6_reckon 274 = .ok (.iload 4, 2) := by decide +kernel
theorem dX6_reckon_276 : decode cX6_reckon 276 = .ok (.iload 6, 2) := by decide +kernel
theorem dX6_reckon_278 : decode cX6_reckon 278 = .ok (.sipush 3008, 3) := by decide +kernel
theorem dX6_reckon_281 : decode cX6_reckon 281 = .ok (.if_icmp .ge 7, 3) := by decide +kernel
theorem dX6_reckon_284 : decode cX6_reckon 284 = .ok (.iconst 1, 1) := by decide +kernel
theorem dX6_reckon_285 : decode cX6_reckon 285 = .ok (.goto 4, 3) := by decide +kernel
theorem dX6_reckon_288 : decode cX6_reckon 288 = .ok (.iconst 0, 1) := by decide +kernel
theorem dX6_reckon_289 : decode cX6_reckon 289 = .ok (.isub, 1) := by decide +kernel
theorem dX6_reckon_290 : decode cX6_reckon 290 = .ok (.istore 4, 2) := by decide +kernel
theorem dX6_reckon_292 : decode cX6_reckon 292 = .ok (.aload_n 0, 1) := by decide +kernel
theorem dX6_reckon_293 : decode cX6_reckon 293 = .ok (.getfield 9, 3) := by decide +kernel
theorem dX6_reckon_296 : decode cX6_reckon 296 = .ok (.iload 4, 2) := by decide +kernel
theorem dX6_reckon_298 : decode cX6_reckon 298 = .ok (.iconst 1, 1) := by decide +kernel
theorem dX6_reckon_299 : decode cX6_reckon 299 = .ok (.isub, 1) := by decide +kernel
theorem dX6_reckon_300 : decode cX6_reckon 300 = .ok (.laload, 1) := by decide +kernel
theorem dX6_reckon_301 : decode cX6_reckon 301 = .ok (.lstore 7, 2) := by decide +kernel
theorem dX6_reckon_303 : decode cX6_reckon 303 = .ok (.aload_n 0, 1) := by decide +kernel
theorem dX6_reckon_304 : decode cX6_reckon 304 = .ok (.getfield 9, 3) := by decide +kernel
theorem dX6_reckon_307 : decode cX6_reckon 307 = .ok (.iload 4, 2) := by decide +kernel
theorem dX6_reckon_309 : decode cX6_reckon 309 = .ok (.laload, 1) := by decide +kernel
theorem dX6_reckon_310 : decode cX6_reckon 310 = .ok (.lstore 9, 2) := by decide +kernel
theorem dX6_reckon_312 : decode cX6_reckon 312 = .ok (.lconst 0, 1) := by decide +kernel
theorem dX6_reckon_313 : decode cX6_reckon 313 = .ok (.lstore 11, 2) := by decide +kernel
theorem dX6_reckon_315 : decode cX6_reckon 315 = .ok (.iload 6, 2) := by decide +kernel
theorem dX6_reckon_317 : decode cX6_reckon 317 = .ok (.tableswitch 177 3000 3007 #[47, 57, 67, 77, 100, 123, 141, 159], 47) := by decide +kernel
theorem dX6_reckon_364 : decode cX6_reckon 364 = .ok (.lload 7, 2) := by decide +kernel
theorem dX6_reckon_366 : decode cX6_reckon 366 = .ok (.lload 9, 2) := by decide +kernel
theorem dX6_reckon_368 : decode cX6_reckon 368 = .ok (.ladd, 1) := by decide +kernel
theorem dX6_reckon_369 : decode cX6_reckon 369 = .ok (.lstore 11, 2) := by decide +kernel
theorem dX6_reckon_371 : decode cX6_reckon 371 = .ok (.goto 129, 3) := by decide +kernel
theorem dX6_reckon_374 : decode cX6_reckon 374 = .ok (.lload 7, 2) := by decide +kernel
theorem dX6_reckon_376 : decode cX6_reckon 376 = .ok (.lload 9, 2) := by decide +kernel
theorem dX6_reckon_378 : decode cX6_reckon 378 = .ok (.lsub, 1) := by decide +kernel
theorem dX6_reckon_379 : decode cX6_reckon 379 = .ok (.lstore 11, 2) := by decide +kernel
theorem dX6_reckon_381 : decode cX6_reckon 381 = .ok (.goto 119, 3) := by decide +kernel
theorem dX6_reckon_384 : decode cX6_reckon 384 = .ok (.lload 7, 2) := by decide +kernel
theorem dX6_reckon_386 : decode cX6_reckon 386 = .ok (.lload 9, 2) := by decide +kernel
theorem dX6_reckon_388 : decode cX6_reckon 388 = .ok (.lmul, 1) := by decide +kernel
theorem dX6_reckon_389 : decode cX6_reckon 389 = .ok (.lstore 11, 2) := by decide +kernel
theorem dX6_reckon_391 : decode cX6_reckon 391 = .ok (.goto 109, 3) := by decide +kernel
theorem dX6_reckon_394 : decode cX6_reckon 394 = .ok (.lload 9, 2) := by decide +kernel
theorem dX6_reckon_396 : decode cX6_reckon 396 = .ok (.lconst 0, 1) := by decide +kernel
theorem dX6_reckon_397 : decode cX6_reckon 397 = .ok (.lcmp, 1) := by decide +kernel
theorem dX6_reckon_398 : decode cX6_reckon 398 = .ok (.ifCond .ne 9, 3) := by decide +kernel
theorem dX6_reckon_401 : decode cX6_reckon 401 = .ok (.ldc2_w 73, 3) := by decide +kernel
theorem dX6_reckon_404 : decode cX6_reckon 404 = .ok (.goto 8, 3) := by decide +kernel
theorem dX6_reckon_407 : decode cX6_reckon 407 = .ok (.lload 7, 2) := by decide +kernel
theorem dX6_reckon_409 : decode cX6_reckon 409 = .ok (.lload 9, 2) := by decide +kernel
theorem dX6_reckon_411 : decode cX6_reckon 411 = .ok (.ldiv, 1) := by decide +kernel
theorem dX6_reckon_412 : decode cX6_reckon 412 = .ok (.lstore 11, 2) := by decide +kernel
theorem dX6_reckon_414 : decode cX6_reckon 414 = .ok (.goto 86, 3) := by decide +kernel
theorem dX6_reckon_417 : decode cX6_reckon 417 = .ok (.lload 9, 2) := by decide +kernel
theorem dX6_reckon_419 : decode cX6_reckon 419 = .ok (.lconst 0, 1) := by decide +kernel
theorem dX6_reckon_420 : decode cX6_reckon 420 = .ok (.lcmp, 1) := by decide +kernel
theorem dX6_reckon_421 : decode cX6_reckon 421 = .ok (.ifCond .ne 9, 3) := by decide +kernel
theorem dX6_reckon_424 : decode cX6_reckon 424 = .ok (.ldc2_w 73, 3) := by decide +kernel
theorem dX6_reckon_427 : decode cX6_reckon 427 = .ok (.goto 8, 3) := by decide +kernel
theorem dX6_reckon_430 : decode cX6_reckon 430 = .ok (.lload 7, 2) := by decide +kernel
theorem dX6_reckon_432 : decode cX6_reckon 432 = .ok (.lload 9, 2) := by decide +kernel
theorem dX6_reckon_434 : decode cX6_reckon 434 = .ok (.lrem, 1) := by decide +kernel
theorem dX6_reckon_435 : decode cX6_reckon 435 = .ok (.lstore 11, 2) := by decide +kernel
theorem dX6_reckon_437 : decode cX6_reckon 437 = .ok (.goto 63, 3) := by decide +kernel
theorem dX6_reckon_440 : decode cX6_reckon 440 = .ok (.lload 7, 2) := by decide +kernel
theorem dX6_reckon_442 : decode cX6_reckon 442 = .ok (.lload 9, 2) := by decide +kernel
theorem dX6_reckon_444 : decode cX6_reckon 444 = .ok (.lcmp, 1) := by decide +kernel
theorem dX6_reckon_445 : decode cX6_reckon 445 = .ok (.ifCond .ge 7, 3) := by decide +kernel
theorem dX6_reckon_448 : decode cX6_reckon 448 = .ok (.lconst 1, 1) := by decide +kernel
theorem dX6_reckon_449 : decode cX6_reckon 449 = .ok (.goto 4, 3) := by decide +kernel
theorem dX6_reckon_452 : decode cX6_reckon 452 = .ok (.lconst 0, 1) := by decide +kernel
theorem dX6_reckon_453 : decode cX6_reckon 453 = .ok (.lstore 11, 2) := by decide +kernel
theorem dX6_reckon_455 : decode cX6_reckon 455 = .ok (.goto 45, 3) := by decide +kernel
theorem dX6_reckon_458 : decode cX6_reckon 458 = .ok (.lload 7, 2) := by decide +kernel
theorem dX6_reckon_460 : decode cX6_reckon 460 = .ok (.lload 9, 2) := by decide +kernel
theorem dX6_reckon_462 : decode cX6_reckon 462 = .ok (.lcmp, 1) := by decide +kernel
theorem dX6_reckon_463 : decode cX6_reckon 463 = .ok (.ifCond .le 7, 3) := by decide +kernel
theorem dX6_reckon_466 : decode cX6_reckon 466 = .ok (.lconst 1, 1) := by decide +kernel
theorem dX6_reckon_467 : decode cX6_reckon 467 = .ok (.goto 4, 3) := by decide +kernel
theorem dX6_reckon_470 : decode cX6_reckon 470 = .ok (.lconst 0, 1) := by decide +kernel
theorem dX6_reckon_471 : decode cX6_reckon 471 = .ok (.lstore 11, 2) := by decide +kernel
theorem dX6_reckon_473 : decode cX6_reckon 473 = .ok (.goto 27, 3) := by decide +kernel
theorem dX6_reckon_476 : decode cX6_reckon 476 = .ok (.lload 7, 2) := by decide +kernel
theorem dX6_reckon_478 : decode cX6_reckon 478 = .ok (.lload 9, 2) := by decide +kernel
theorem dX6_reckon_480 : decode cX6_reckon 480 = .ok (.lcmp, 1) := by decide +kernel
theorem dX6_reckon_481 : decode cX6_reckon 481 = .ok (.ifCond .ne 7, 3) := by decide +kernel
theorem dX6_reckon_484 : decode cX6_reckon 484 = .ok (.lconst 1, 1) := by decide +kernel
theorem dX6_reckon_485 : decode cX6_reckon 485 = .ok (.goto 4, 3) := by decide +kernel
theorem dX6_reckon_488 : decode cX6_reckon 488 = .ok (.lconst 0, 1) := by decide +kernel
theorem dX6_reckon_489 : decode cX6_reckon 489 = .ok (.lstore 11, 2) := by decide +kernel
theorem dX6_reckon_491 : decode cX6_reckon 491 = .ok (.goto 9, 3) := by decide +kernel
theorem dX6_reckon_494 : decode cX6_reckon 494 = .ok (.lconst 1, 1) := by decide +kernel
theorem dX6_reckon_495 : decode cX6_reckon 495 = .ok (.lload 7, 2) := by decide +kernel
theorem dX6_reckon_497 : decode cX6_reckon 497 = .ok (.lsub, 1) := by decide +kernel
theorem dX6_reckon_498 : decode cX6_reckon 498 = .ok (.lstore 11, 2) := by decide +kernel
theorem dX6_reckon_500 : decode cX6_reckon 500 = .ok (.aload_n 0, 1) := by decide +kernel
theorem dX6_reckon_501 : decode cX6_reckon 501 = .ok (.lload 11, 2) := by decide +kernel
theorem dX6_reckon_503 : decode cX6_reckon 503 = .ok (.ldc2_w 75, 3) := by decide +kernel
theorem dX6_reckon_506 : decode cX6_reckon 506 = .ok (.lcmp, 1) := by decide +kernel
theorem dX6_reckon_507 : decode cX6_reckon 507 = .ok (.ifCond .gt 12, 3) := by decide +kernel
theorem dX6_reckon_510 : decode cX6_reckon 510 = .ok (.lload 11, 2) := by decide +kernel
theorem dX6_reckon_512 : decode cX6_reckon 512 = .ok (.ldc2_w 77, 3) := by decide +kernel
theorem dX6_reckon_515 : decode cX6_reckon 515 = .ok (.lcmp, 1) := by decide +kernel
theorem dX6_reckon_516 : decode cX6_reckon 516 = .ok (.ifCond .ge 7, 3) := by decide +kernel
theorem dX6_reckon_519 : decode cX6_reckon 519 = .ok (.iconst 1, 1) := by decide +kernel
theorem dX6_reckon_520 : decode cX6_reckon 520 = .ok (.goto 4, 3) := by decide +kernel
theorem dX6_reckon_523 : decode cX6_reckon 523 = .ok (.iconst 0, 1) := by decide +kernel
theorem dX6_reckon_524 : decode cX6_reckon 524 = .ok (.putfield 26, 3) := by decide +kernel
theorem dX6_reckon_527 : decode cX6_reckon 527 = .ok (.aload_n 0, 1) := by decide +kernel
theorem dX6_reckon_528 : decode cX6_reckon 528 = .ok (.getfield 9, 3) := by decide +kernel
theorem dX6_reckon_531 : decode cX6_reckon 531 = .ok (.iload 4, 2) := by decide +kernel
theorem dX6_reckon_533 : decode cX6_reckon 533 = .ok (.iconst 1, 1) := by decide +kernel
theorem dX6_reckon_534 : decode cX6_reckon 534 = .ok (.isub, 1) := by decide +kernel
theorem dX6_reckon_535 : decode cX6_reckon 535 = .ok (.lload 11, 2) := by decide +kernel
theorem dX6_reckon_537 : decode cX6_reckon 537 = .ok (.lastore, 1) := by decide +kernel
theorem dX6_reckon_538 : decode cX6_reckon 538 = .ok (.iinc 5 1, 3) := by decide +kernel
theorem dX6_reckon_541 : decode cX6_reckon 541 = .ok (.goto (-530), 3) := by decide +kernel
theorem dX6_reckon_544 : decode cX6_reckon 544 = .ok (.aload_n 0, 1) := by decide +kernel
theorem dX6_reckon_545 : decode cX6_reckon 545 = .ok (.getfield 9, 3) := by decide +kernel
theorem dX6_reckon_548 : decode cX6_reckon 548 = .ok (.iconst 0, 1) := by decide +kernel
theorem dX6_reckon_549 : decode cX6_reckon 549 = .ok (.laload, 1) := by decide +kernel
theorem dX6_reckon_550 : decode cX6_reckon 550 = .ok (.lreturn, 1) := by decide +kernel
theorem dX7_init_0 : decode cX7_init 0 = .ok (.aload_n 0, 1) := by decide +kernel
theorem dX7_init_1 : decode cX7_init 1 = .ok (.invokespecial 3, 3) := by decide +kernel
theorem dX7_init_4 : decode cX7_init 4 = .ok (.aload_n 0, 1) := by decide +kernel
theorem dX7_init_5 : decode cX7_init 5 = .ok (.new 9, 3) := by decide +kernel
theorem dX7_init_8 : decode cX7_init 8 = .ok (.dup, 1) := by decide +kernel
theorem dX7_init_9 : decode cX7_init 9 = .ok (.invokespecial 11, 3) := by decide +kernel
theorem dX7_init_12 : decode cX7_init 12 = .ok (.putfield 12, 3) := by decide +kernel
theorem dX7_init_15 : decode cX7_init 15 = .ok (.aload_n 0, 1) := by decide +kernel
theorem dX7_init_16 : decode cX7_init 16 = .ok (.sipush 1296, 3) := by decide +kernel
theorem dX7_init_19 : decode cX7_init 19 = .ok (.newarray .int, 2) := by decide +kernel
theorem dX7_init_21 : decode cX7_init 21 = .ok (.putfield 18, 3) := by decide +kernel
theorem dX7_init_24 : decode cX7_init 24 = .ok (.aload_n 0, 1) := by decide +kernel
theorem dX7_init_25 : decode cX7_init 25 = .ok (.sipush 1296, 3) := by decide +kernel
theorem dX7_init_28 : decode cX7_init 28 = .ok (.newarray .int, 2) := by decide +kernel
theorem dX7_init_30 : decode cX7_init 30 = .ok (.putfield 22, 3) := by decide +kernel
theorem dX7_init_33 : decode cX7_init 33 = .ok (.aload_n 0, 1) := by decide +kernel
theorem dX7_init_34 : decode cX7_init 34 = .ok (.sipush 1296, 3) := by decide +kernel
theorem dX7_init_37 : decode cX7_init 37 = .ok (.newarray .int, 2) := by decide +kernel
theorem dX7_init_39 : decode cX7_init 39 = .ok (.putfield 25, 3) := by decide +kernel
theorem dX7_init_42 : decode cX7_init 42 = .ok (.aload_n 0, 1) := by decide +kernel
theorem dX7_init_43 : decode cX7_init 43 = .ok (.bipush 9, 2) := by decide +kernel
theorem dX7_init_45 : decode cX7_init 45 = .ok (.newarray .int, 2) := by decide +kernel
theorem dX7_init_47 : decode cX7_init 47 = .ok (.putfield 28, 3) := by decide +kernel
theorem dX7_init_50 : decode cX7_init 50 = .ok (.aload_n 0, 1) := by decide +kernel
theorem dX7_init_51 : decode cX7_init 51 = .ok (.iconst 0, 1) := by decide +kernel
theorem dX7_init_52 : decode cX7_init 52 = .ok (.putfield 31, 3) := by decide +kernel
theorem dX7_init_55 : decode cX7_init 55 = .ok (.aload_n 0, 1) := by decide +kernel
theorem dX7_init_56 : decode cX7_init 56 = .ok (.iconst 0, 1) := by decide +kernel
theorem dX7_init_57 : decode cX7_init 57 = .ok (.putfield 35, 3) := by decide +kernel
theorem dX7_init_60 : decode cX7_init 60 = .ok (.return_, 1) := by decide +kernel
theorem dX7_prepare_0 : decode cX7_prepare 0 = .ok (.aload_n 0, 1) := by decide +kernel
theorem dX7_prepare_1 : decode cX7_prepare 1 = .ok (.aload_n 1, 1) := by decide +kernel
theorem dX7_prepare_2 : decode cX7_prepare 2 = .ok (.putfield 38, 3) := by decide +kernel
theorem dX7_prepare_5 : decode cX7_prepare 5 = .ok (.aload_n 0, 1) := by decide +kernel
theorem dX7_prepare_6 : decode cX7_prepare 6 = .ok (.aload_n 2, 1) := by decide +kernel
theorem dX7_prepare_7 : decode cX7_prepare 7 = .ok (.putfield 42, 3) := by decide +kernel
theorem dX7_prepare_10 : decode cX7_prepare 10 = .ok (.aload_n 0, 1) := by decide +kernel
theorem dX7_prepare_11 : decode cX7_prepare 11 = .ok (.aload_n 3, 1) := by decide +kernel
theorem dX7_prepare_12 : decode cX7_prepare 12 = .ok (.putfield 46, 3) := by decide +kernel
theorem dX7_prepare_15 : decode cX7_prepare 15 = .ok (.aload_n 0, 1) := by decide +kernel
theorem dX7_prepare_16 : decode cX7_prepare 16 = .ok (.aconst_null, 1) := by decide +kernel
theorem dX7_prepare_17 : decode cX7_prepare 17 = .ok (.putfield 50, 3) := by decide +kernel
theorem dX7_prepare_20 : decode cX7_prepare 20 = .ok (.aload_n 0, 1) := by decide +kernel
theorem dX7_prepare_21 : decode cX7_prepare 21 = .ok (.getfield 38, 3) := by decide +kernel
theorem dX7_prepare_24 : decode cX7_prepare 24 = .ok (.invokevirtual 54, 3) := by decide +kernel
theorem dX7_prepare_27 : decode cX7_prepare 27 = .ok (.aload_n 0, 1) := by decide +kernel
theorem dX7_prepare_28 : decode cX7_prepare 28 = .ok (.aload_n 0, 1) := by decide +kernel
theorem dX7_prepare_29 : decode cX7_prepare 29 = .ok (.getfield 38, 3) := by decide +kernel
theorem dX7_prepare_32 : decode cX7_prepare 32 = .ok (.invokevirtual 59, 3) := by decide +kernel
theorem dX7_prepare_35 : decode cX7_prepare 35 = .ok (.putfield 63, 3) := by decide +kernel
theorem dX7_prepare_38 : decode cX7_prepare 38 = .ok (.return_, 1) := by decide +kernel
theorem dX7_heed_0 : decode cX7_heed 0 = .ok (.aload_n 0, 1) := by decide +kernel
theorem dX7_heed_1 : decode cX7_heed 1 = .ok (.aload_n 1, 1) := by decide +kernel
theorem dX7_heed_2 : decode cX7_heed 2 = .ok (.putfield 50, 3) := by decide +kernel
theorem dX7_heed_5 : decode cX7_heed 5 = .ok (.iconst 0, 1) := by decide +kernel
theorem dX7_heed_6 : decode cX7_heed 6 = .ok (.istore_n 2, 1) := by decide +kernel
theorem dX7_heed_7 : decode cX7_heed 7 = .ok (.iload_n 2, 1) := by decide +kernel
theorem dX7_heed_8 : decode cX7_heed 8 = .ok (.aload_n 1, 1) := by decide +kernel
theorem dX7_heed_9 : decode cX7_heed 9 = .ok (.getfield 66, 3) := by decide +kernel
theorem dX7_heed_12 : decode cX7_heed 12 = .ok (.if_icmp .ge 88, 3) := by decide +kernel
theorem dX7_heed_15 : decode cX7_heed 15 = .ok (.aload_n 1, 1) := by decide +kernel
theorem dX7_heed_16 : decode cX7_heed 16 = .ok (.getfield 71, 3) := by decide +kernel
theorem dX7_heed_19 : decode cX7_heed 19 = .ok (.iload_n 2, 1) := by decide +kernel
theorem dX7_heed_20 : decode cX7_heed 20 = .ok (.iaload, 1) := by decide +kernel
theorem dX7_heed_21 : decode cX7_heed 21 = .ok (.aload_n 0, 1) := by decide +kernel
theorem dX7_heed_22 : decode cX7_heed 22 = .ok (.getfield 38, 3) := by decide +kernel
theorem dX7_heed_25 : decode cX7_heed 25 = .ok (.getfield 74, 3) := by decide +kernel
theorem dX7_heed_28 : decode cX7_heed 28 = .ok (.if_icmp .ge 19, 3) := by decide +kernel
theorem dX7_heed_31 : decode cX7_heed 31 = .ok (.aload_n 1, 1) := by decide +kernel
theorem dX7_heed_32 : decode cX7_heed 32 = .ok (.getfield 77, 3) := by decide +kernel
theorem dX7_heed_35 : decode cX7_heed 35 = .ok (.iload_n 2, 1) := by decide +kernel
theorem dX7_heed_36 : decode cX7_heed 36 = .ok (.iaload, 1) := by decide +kernel
theorem dX7_heed_37 : decode cX7_heed 37 = .ok (.aload_n 0, 1) := by decide +kernel
theorem dX7_heed_38 : decode cX7_heed 38 = .ok (.getfield 38, 3) := by decide +kernel
theorem dX7_heed_41 : decode cX7_heed 41 = .ok (.getfield 80, 3) := by decide +kernel
theorem dX7_heed_44 : decode cX7_heed 44 = .ok (.if_icmp .lt 5, 3) := by decide +kernel
theorem dX7_heed_47 : decode cX7_heed 47 = .ok (.iconst 0, 1) := by decide +kernel
theorem dX7_heed_48 : decode cX7_heed 48 = .ok (.ireturn, 1) := by decide +kernel
theorem dX7_heed_49 : decode cX7_heed 49 = .ok (.aload_n 0, 1) := by decide +kernel
theorem dX7_heed_50 : decode cX7_heed 50 = .ok (.getfield 38, 3) := by decide +kernel
theorem dX7_heed_53 : decode cX7_heed 53 = .ok (.aload_n 1, 1) := by decide +kernel
theorem dX7_heed_54 : decode cX7_heed 54 = .ok (.getfield 71, 3) := by decide +kernel
theorem dX7_heed_57 : decode cX7_heed 57 = .ok (.iload_n 2, 1) := by decide +kernel
theorem dX7_heed_58 : decode cX7_heed 58 = .ok (.iaload, 1) := by decide +kernel
theorem dX7_heed_59 : decode cX7_heed 59 = .ok (.aload_n 1, 1) := by decide +kernel
theorem dX7_heed_60 : decode cX7_heed 60 = .ok (.getfield 77, 3) := by decide +kernel
theorem dX7_heed_63 : decode cX7_heed 63 = .ok (.iload_n 2, 1) := by decide +kernel
theorem dX7_heed_64 : decode cX7_heed 64 = .ok (.iaload, 1) := by decide +kernel
theorem dX7_heed_65 : decode cX7_heed 65 = .ok (.invokevirtual 83, 3) := by decide +kernel
theorem dX7_heed_68 : decode cX7_heed 68 = .ok (.istore_n 3, 1) := by decide +kernel
theorem dX7_heed_69 : decode cX7_heed 69 = .ok (.iload_n 3, 1) := by decide +kernel
theorem dX7_heed_70 : decode cX7_heed 70 = .ok (.iconst (-1), 1) := by decide +kernel
theorem dX7_heed_71 : decode cX7_heed 71 = .ok (.if_icmp .eq 23, 3) := by decide +kernel
theorem dX7_heed_74 : decode cX7_heed 74 = .ok (.aload_n 0, 1) := by decide +kernel
theorem dX7_heed_75 : decode cX7_heed 75 = .ok (.getfield 38, 3) := by decide +kernel
theorem dX7_heed_78 : decode cX7_heed 78 = .ok (.getfield 87, 3) := by decide +kernel
theorem dX7_heed_81 : decode cX7_heed 81 = .ok (.iload_n 3, 1) := by decide +kernel
theorem dX7_heed_82 : decode cX7_heed 82 = .ok (.iaload, 1) := by decide +kernel
theorem dX7_heed_83 : decode cX7_heed 83 = .ok (.aload_n 1, 1) := by decide +kernel
theorem dX7_heed_84 : decode cX7_heed 84 = .ok (.getfield 90, 3) := by decide +kernel
theorem dX7_heed_87 : decode cX7_heed 87 = .ok (.iload_n 2, 1) := by decide +kernel
theorem dX7_heed_88 : decode cX7_heed 88 = .ok (.iaload, 1) := by decide +kernel
theorem dX7_heed_89 : decode cX7_heed 89 = .ok (.if_icmp .eq 5, 3) := by decide +kernel
theorem dX7_heed_92 : decode cX7_heed 92 = .ok (.iconst 0, 1) := by decide +kernel
theorem dX7_heed_93 : decode cX7_heed 93 = .ok (.ireturn, 1) := by decide +kernel
theorem dX7_heed_94 : decode cX7_heed 94 = .ok (.iinc 2 1, 3) := by decide +kernel
theorem dX7_heed_97 : decode cX7_heed 97 = .ok (.goto (-90), 3) := by decide +kernel
theorem dX7_heed_100 : decode cX7_heed 100 = .ok (.iconst 1, 1) := by decide +kernel
theorem dX7_heed_101 : decode cX7_heed 101 = .ok (.ireturn, 1) := by decide +kernel
theorem dX7_number_0 : decode cX7_number 0 = .ok (.aload_n 0, 1) := by decide +kernel
theorem dX7_number_1 : decode cX7_number 1 = .ok (.iconst 0, 1) := by decide +kernel
theorem dX7_number_2 : decode cX7_number 2 = .ok (.iload_n 1, 1) := by decide +kernel
theorem dX7_number_3 : decode cX7_number 3 = .ok (.invokevirtual 93, 3) := by decide +kernel
theorem dX7_number_6 : decode cX7_number 6 = .ok (.aload_n 0, 1) := by decide +kernel
theorem dX7_number_7 : decode cX7_number 7 = .ok (.invokevirtual 97, 3) := by decide +kernel
theorem dX7_number_10 : decode cX7_number 10 = .ok (.aload_n 0, 1) := by decide +kernel
theorem dX7_number_11 : decode cX7_number 11 = .ok (.getfield 63, 3) := by decide +kernel
theorem dX7_number_14 : decode cX7_number 14 = .ok (.if_icmp .ge 7, 3) := by decide +kernel
theorem dX7_number_17 : decode cX7_number 17 = .ok (.iconst 0, 1) := by decide +kernel
theorem dX7_number_18 : decode cX7_number 18 = .ok (.goto 14, 3) := by decide +kernel
theorem dX7_number_21 : decode cX7_number 21 = .ok (.aload_n 0, 1) := by decide +kernel
theorem dX7_number_22 : decode cX7_number 22 = .ok (.lconst 0, 1) := by decide +kernel
theorem dX7_number_23 : decode cX7_number 23 = .ok (.aload_n 0, 1) := by decide +kernel
theorem dX7_number_24 : decode cX7_number 24 = .ok (.getfield 63, 3) := by decide +kernel
theorem dX7_number_27 : decode cX7_number 27 = .ok (.iconst 0, 1) := by decide +kernel
theorem dX7_number_28 : decode cX7_number 28 = .ok (.iconst 0, 1) := by decide +kernel
theorem dX7_number_29 : decode cX7_number 29 = .ok (.invokevirtual 100, 3) := by decide +kernel
theorem dX7_number_32 : decode cX7_number 32 = .ok (.ireturn, 1) := by decide +kernel
theorem dX7_leastCost_0 : decode cX7_leastCost 0 = .ok (.aload_n 0, 1) := by decide +kernel
theorem dX7_leastCost_1 : decode cX7_leastCost 1 = .ok (.iconst 1, 1) := by decide +kernel
theorem dX7_leastCost_2 : decode cX7_leastCost 2 = .ok (.iconst 1, 1) := by decide +kernel
theorem dX7_leastCost_3 : decode cX7_leastCost 3 = .ok (.invokevirtual 93, 3) := by decide +kernel
theorem dX7_leastCost_6 : decode cX7_leastCost 6 = .ok (.aload_n 0, 1) := by decide +kernel
theorem dX7_leastCost_7 : decode cX7_leastCost 7 = .ok (.invokevirtual 97, 3) := by decide +kernel
theorem dX7_leastCost_10 : decode cX7_leastCost 10 = .ok (.aload_n 0, 1) := by decide +kernel
theorem dX7_leastCost_11 : decode cX7_leastCost 11 = .ok (.getfield 63, 3) := by decide +kernel
theorem dX7_leastCost_14 : decode cX7_leastCost 14 = .ok (.if_icmp .ge 7, 3) := by decide +kernel
theorem dX7_leastCost_17 : decode cX7_leastCost 17 = .ok (.iconst (-1), 1) := by decide +kernel
theorem dX7_leastCost_18 : decode cX7_leastCost 18 = .ok (.goto 14, 3) := by decide +kernel
theorem dX7_leastCost_21 : decode cX7_leastCost 21 = .ok (.aload_n 0, 1) := by decide +kernel
theorem dX7_leastCost_22 : decode cX7_leastCost 22 = .ok (.lconst 0, 1) := by decide +kernel
theorem dX7_leastCost_23 : decode cX7_leastCost 23 = .ok (.aload_n 0, 1) := by decide +kernel
theorem dX7_leastCost_24 : decode cX7_leastCost 24 = .ok (.getfield 63, 3) := by decide +kernel
theorem dX7_leastCost_27 : decode cX7_leastCost 27 = .ok (.iconst 0, 1) := by decide +kernel
theorem dX7_leastCost_28 : decode cX7_leastCost 28 = .ok (.iconst 0, 1) := by decide +kernel
theorem dX7_leastCost_29 : decode cX7_leastCost 29 = .ok (.invokevirtual 100, 3) := by decide +kernel
theorem dX7_leastCost_32 : decode cX7_leastCost 32 = .ok (.ireturn, 1) := by decide +kernel
theorem dX7_rowLength_0 : decode cX7_rowLength 0 = .ok (.aload_n 0, 1) := by decide +kernel
theorem dX7_rowLength_1 : decode cX7_rowLength 1 = .ok (.getfield 31, 3) := by decide +kernel
theorem dX7_rowLength_4 : decode cX7_rowLength 4 = .ok (.ireturn, 1) := by decide +kernel
theorem dX7_rowCarpet_0 : decode cX7_rowCarpet 0 = .ok (.iload_n 1, 1) := by decide +kernel
theorem dX7_rowCarpet_1 : decode cX7_rowCarpet 1 = .ok (.ifCond .lt 29, 3) := by decide +kernel
theorem dX7_rowCarpet_4 : decode cX7_rowCarpet 4 = .ok (.iload_n 1, 1) := by decide +kernel
theorem dX7_rowCarpet_5 : decode cX7_rowCarpet 5 = .ok (.aload_n 0, 1) := by decide +kernel
theorem dX7_rowCarpet_6 : decode cX7_rowCarpet 6 = .ok (.getfield 31, 3) := by decide +kernel
theorem dX7_rowCarpet_9 : decode cX7_rowCarpet 9 = .ok (.if_icmp .ge 21, 3) := by decide +kernel
theorem dX7_rowCarpet_12 : decode cX7_rowCarpet 12 = .ok (.iload_n 1, 1) := by decide +kernel
theorem dX7_rowCarpet_13 : decode cX7_rowCarpet 13 = .ok (.aload_n 0, 1) := by decide +kernel
theorem dX7_rowCarpet_14 : decode cX7_rowCarpet 14 = .ok (.getfield 28, 3) := by decide +kernel
theorem dX7_rowCarpet_17 : decode cX7_rowCarpet 17 = .ok (.arraylength, 1) := by decide +kernel
theorem dX7_rowCarpet_18 : decode cX7_rowCarpet 18 = .ok (.if_icmp .ge 12, 3) := by decide +kernel
theorem dX7_rowCarpet_21 : decode cX7_rowCarpet 21 = .ok (.aload_n 0, 1) := by decide +kernel
theorem dX7_rowCarpet_22 : decode cX7_rowCarpet 22 = .ok (.getfield 28, 3) := by decide +kernel
theorem dX7_rowCarpet_25 : decode cX7_rowCarpet 25 = .ok (.iload_n 1, 1) := by decide +kernel
theorem dX7_rowCarpet_26 : decode cX7_rowCarpet 26 = .ok (.iaload, 1) := by decide +kernel
theorem dX7_rowCarpet_27 : decode cX7_rowCarpet 27 = .ok (.goto 4, 3) := by decide +kernel
theorem dX7_rowCarpet_30 : decode cX7_rowCarpet 30 = .ok (.iconst (-1), 1) := by decide +kernel
theorem dX7_rowCarpet_31 : decode cX7_rowCarpet 31 = .ok (.ireturn, 1) := by decide +kernel
theorem dX7_fillsAlone_0 : decode cX7_fillsAlone 0 = .ok (.aload_n 0, 1) := by decide +kernel
theorem dX7_fillsAlone_1 : decode cX7_fillsAlone 1 = .ok (.lconst 0, 1) := by decide +kernel
theorem dX7_fillsAlone_2 : decode cX7_fillsAlone 2 = .ok (.iconst 0, 1) := by decide +kernel
theorem dX7_fillsAlone_3 : decode cX7_fillsAlone 3 = .ok (.invokevirtual 104, 3) := by decide +kernel
theorem dX7_fillsAlone_6 : decode cX7_fillsAlone 6 = .ok (.istore_n 2, 1) := by decide +kernel
theorem dX7_fillsAlone_7 : decode cX7_fillsAlone 7 = .ok (.aload_n 0, 1) := by decide +kernel
theorem dX7_fillsAlone_8 : decode cX7_fillsAlone 8 = .ok (.getfield 38, 3) := by decide +kernel
theorem dX7_fillsAlone_11 : decode cX7_fillsAlone 11 = .ok (.getfield 87, 3) := by decide +kernel
theorem dX7_fillsAlone_14 : decode cX7_fillsAlone 14 = .ok (.iload_n 1, 1) := by decide +kernel
theorem dX7_fillsAlone_15 : decode cX7_fillsAlone 15 = .ok (.iaload, 1) := by decide +kernel
theorem dX7_fillsAlone_16 : decode cX7_fillsAlone 16 = .ok (.aload_n 0, 1) := by decide +kernel
theorem dX7_fillsAlone_17 : decode cX7_fillsAlone 17 = .ok (.getfield 38, 3) := by decide +kernel
theorem dX7_fillsAlone_20 : decode cX7_fillsAlone 20 = .ok (.getfield 87, 3) := by decide +kernel
theorem dX7_fillsAlone_23 : decode cX7_fillsAlone 23 = .ok (.iload_n 1, 1) := by decide +kernel
theorem dX7_fillsAlone_24 : decode cX7_fillsAlone 24 = .ok (.iaload, 1) := by decide +kernel
theorem dX7_fillsAlone_25 : decode cX7_fillsAlone 25 = .ok (.imul, 1) := by decide +kernel
theorem dX7_fillsAlone_26 : decode cX7_fillsAlone 26 = .ok (.aload_n 0, 1) := by decide +kernel
theorem dX7_fillsAlone_27 : decode cX7_fillsAlone 27 = .ok (.getfield 63, 3) := by decide +kernel
theorem dX7_fillsAlone_30 : decode cX7_fillsAlone 30 = .ok (.if_icmp .ne 27, 3) := by decide +kernel
theorem dX7_fillsAlone_33 : decode cX7_fillsAlone 33 = .ok (.aload_n 0, 1) := by decide +kernel
theorem dX7_fillsAlone_34 : decode cX7_fillsAlone 34 = .ok (.lconst 0, 1) := by decide +kernel
theorem dX7_fillsAlone_35 : decode cX7_fillsAlone 35 = .ok (.iload_n 1, 1) := by decide +kernel
theorem dX7_fillsAlone_36 : decode cX7_fillsAlone 36 = .ok (.iload_n 2, 1) := by decide +kernel
theorem dX7_fillsAlone_37 : decode cX7_fillsAlone 37 = .ok (.invokevirtual 108, 3) := by decide +kernel
theorem dX7_fillsAlone_40 : decode cX7_fillsAlone 40 = .ok (.ifCond .eq 17, 3) := by decide +kernel
theorem dX7_fillsAlone_43 : decode cX7_fillsAlone 43 = .ok (.aload_n 0, 1) := by decide +kernel
theorem dX7_fillsAlone_44 : decode cX7_fillsAlone 44 = .ok (.iload_n 1, 1) := by decide +kernel
theorem dX7_fillsAlone_45 : decode cX7_fillsAlone 45 = .ok (.iload_n 2, 1) := by decide +kernel
theorem dX7_fillsAlone_46 : decode cX7_fillsAlone 46 = .ok (.invokevirtual 112, 3) := by decide +kernel
theorem dX7_fillsAlone_49 : decode cX7_fillsAlone 49 = .ok (.iconst (-1), 1) := by decide +kernel
theorem dX7_fillsAlone_50 : decode cX7_fillsAlone 50 = .ok (.if_icmp .eq 7, 3) := by decide +kernel
theorem dX7_fillsAlone_53 : decode cX7_fillsAlone 53 = .ok (.iconst 1, 1) := by decide +kernel
theorem dX7_fillsAlone_54 : decode cX7_fillsAlone 54 = .ok (.goto 4, 3) := by decide +kernel
theorem dX7_fillsAlone_57 : decode cX7_fillsAlone 57 = .ok (.iconst 0, 1) := by decide +kernel
theorem dX7_fillsAlone_58 : decode cX7_fillsAlone 58 = .ok (.ireturn, 1) := by decide +kernel
theorem dX7_bestLook_0 : decode cX7_bestLook 0 = .ok (.iconst (-1), 1) := by decide +kernel
theorem dX7_bestLook_1 : decode cX7_bestLook 1 = .ok (.istore_n 1, 1) := by decide +kernel
theorem dX7_bestLook_2 : decode cX7_bestLook 2 = .ok (.iconst 0, 1) := by decide +kernel
theorem dX7_bestLook_3 : decode cX7_bestLook 3 = .ok (.istore_n 2, 1) := by decide +kernel
theorem dX7_bestLook_4 : decode cX7_bestLook 4 = .ok (.iload_n 2, 1) := by decide +kernel
theorem dX7_bestLook_5 : decode cX7_bestLook 5 = .ok (.sipush 144, 3) := by decide +kernel
theorem dX7_bestLook_8 : decode cX7_bestLook 8 = .ok (.if_icmp .ge 38, 3) := by decide +kernel
theorem dX7_bestLook_11 : decode cX7_bestLook 11 = .ok (.aload_n 0, 1) := by decide +kernel
theorem dX7_bestLook_12 : decode cX7_bestLook 12 = .ok (.lconst 0, 1) := by decide +kernel
theorem dX7_bestLook_13 : decode cX7_bestLook 13 = .ok (.iload_n 2, 1) := by decide +kernel
theorem dX7_bestLook_14 : decode cX7_bestLook 14 = .ok (.invokevirtual 115, 3) := by decide +kernel
theorem dX7_bestLook_17 : decode cX7_bestLook 17 = .ok (.ifCond .eq 23, 3) := by decide +kernel
theorem dX7_bestLook_20 : decode cX7_bestLook 20 = .ok (.iload_n 1, 1) := by decide +kernel
theorem dX7_bestLook_21 : decode cX7_bestLook 21 = .ok (.iconst (-1), 1) := by decide +kernel
theorem dX7_bestLook_22 : decode cX7_bestLook 22 = .ok (.if_icmp .eq 16, 3) := by decide +kernel
theorem dX7_bestLook_25 : decode cX7_bestLook 25 = .ok (.aload_n 0, 1) := by decide +kernel
theorem dX7_bestLook_26 : decode cX7_bestLook 26 = .ok (.iload_n 2, 1) := by decide +kernel
theorem dX7_bestLook_27 : decode cX7_bestLook 27 = .ok (.invokevirtual 119, 3) := by decide +kernel
theorem dX7_bestLook_30 : decode cX7_bestLook 30 = .ok (.aload_n 0, 1) := by decide +kernel
theorem dX7_bestLook_31 : decode cX7_bestLook 31 = .ok (.iload_n 1, 1) := by decide +kernel
theorem dX7_bestLook_32 : decode cX7_bestLook 32 = .ok (.invokevirtual 119, 3) := by decide +kernel
theorem dX7_bestLook_35 : decode cX7_bestLook 35 = .ok (.if_icmp .ge 5, 3) := by decide +kernel
theorem dX7_bestLook_38 : decode cX7_bestLook 38 = .ok (.iload_n 2, 1) := by decide +kernel
theorem dX7_bestLook_39 : decode cX7_bestLook 39 = .ok (.istore_n 1, 1) := by decide +kernel
theorem dX7_bestLook_40 : decode cX7_bestLook 40 = .ok (.iinc 2 1, 3) := by decide +kernel
theorem dX7_bestLook_43 : decode cX7_bestLook 43 = .ok (.goto (-39), 3) := by decide +kernel
theorem dX7_bestLook_46 : decode cX7_bestLook 46 = .ok (.iload_n 1, 1) := by decide +kernel
theorem dX7_bestLook_47 : decode cX7_bestLook 47 = .ok (.ireturn, 1) := by decide +kernel
theorem dX7_mostAt_0 : decode cX7_mostAt 0 = .ok (.iconst 0, 1) := by decide +kernel
theorem dX7_mostAt_1 : decode cX7_mostAt 1 = .ok (.istore_n 2, 1) := by decide +kernel
theorem dX7_mostAt_2 : decode cX7_mostAt 2 = .ok (.iconst 0, 1) := by decide +kernel
theorem dX7_mostAt_3 : decode cX7_mostAt 3 = .ok (.istore_n 3, 1) := by decide +kernel
theorem dX7_mostAt_4 : decode cX7_mostAt 4 = .ok (.iload_n 3, 1) := by decide +kernel
theorem dX7_mostAt_5 : decode cX7_mostAt 5 = .ok (.aload_n 0, 1) := by decide +kernel
theorem dX7_mostAt_6 : decode cX7_mostAt 6 = .ok (.getfield 38, 3) := by decide +kernel
theorem dX7_mostAt_9 : decode cX7_mostAt 9 = .ok (.getfield 123, 3) := by decide +kernel
theorem dX7_mostAt_12 : decode cX7_mostAt 12 = .ok (.if_icmp .ge 37, 3) := by decide +kernel
theorem dX7_mostAt_15 : decode cX7_mostAt 15 = .ok (.iload_n 1, 1) := by decide +kernel
theorem dX7_mostAt_16 : decode cX7_mostAt 16 = .ok (.ifCond .lt 33, 3) := by decide +kernel
theorem dX7_mostAt_19 : decode cX7_mostAt 19 = .ok (.iload_n 1, 1) := by decide +kernel
theorem dX7_mostAt_20 : decode cX7_mostAt 20 = .ok (.sipush 144, 3) := by decide +kernel
theorem dX7_mostAt_23 : decode cX7_mostAt 23 = .ok (.if_icmp .ge 26, 3) := by decide +kernel
theorem dX7_mostAt_26 : decode cX7_mostAt 26 = .ok (.iload_n 2, 1) := by decide +kernel
theorem dX7_mostAt_27 : decode cX7_mostAt 27 = .ok (.aload_n 0, 1) := by decide +kernel
theorem dX7_mostAt_28 : decode cX7_mostAt 28 = .ok (.getfield 25, 3) := by decide +kernel
theorem dX7_mostAt_31 : decode cX7_mostAt 31 = .ok (.iload_n 3, 1) := by decide +kernel
theorem dX7_mostAt_32 : decode cX7_mostAt 32 = .ok (.sipush 144, 3) := by decide +kernel
theorem dX7_mostAt_35 : decode cX7_mostAt 35 = .ok (.imul, 1) := by decide +kernel
theorem dX7_mostAt_36 : decode cX7_mostAt 36 = .ok (.iload_n 1, 1) := by decide +kernel
theorem dX7_mostAt_37 : decode cX7_mostAt 37 = .ok (.iadd, 1) := by decide +kernel
theorem dX7_mostAt_38 : decode cX7_mostAt 38 = .ok (.iaload, 1) := by decide +kernel
theorem dX7_mostAt_39 : decode cX7_mostAt 39 = .ok (.invokestatic 126, 3) := by decide +kernel
theorem dX7_mostAt_42 : decode cX7_mostAt 42 = .ok (.istore_n 2, 1) := by decide +kernel
theorem dX7_mostAt_43 : decode cX7_mostAt 43 = .ok (.iinc 3 1, 3) := by decide +kernel
theorem dX7_mostAt_46 : decode cX7_mostAt 46 = .ok (.goto (-42), 3) := by decide +kernel
theorem dX7_mostAt_49 : decode cX7_mostAt 49 = .ok (.iload_n 2, 1) := by decide +kernel
theorem dX7_mostAt_50 : decode cX7_mostAt 50 = .ok (.ireturn, 1) := by decide +kernel
theorem dX7_begin_0 : decode cX7_begin 0 = .ok (.aload_n 0, 1) := by decide +kernel
theorem dX7_begin_1 : decode cX7_begin 1 = .ok (.iload_n 1, 1) := by decide +kernel
theorem dX7_begin_2 : decode cX7_begin 2 = .ok (.putfield 131, 3) := by decide +kernel
theorem dX7_begin_5 : decode cX7_begin 5 = .ok (.aload_n 0, 1) := by decide +kernel
theorem dX7_begin_6 : decode cX7_begin 6 = .ok (.iload_n 2, 1) := by decide +kernel
theorem dX7_begin_7 : decode cX7_begin 7 = .ok (.putfield 135, 3) := by decide +kernel
theorem dX7_begin_10 : decode cX7_begin 10 = .ok (.aload_n 0, 1) := by decide +kernel
theorem dX7_begin_11 : decode cX7_begin 11 = .ok (.getfield 12, 3) := by decide +kernel
theorem dX7_begin_14 : decode cX7_begin 14 = .ok (.invokevirtual 138, 3) := by decide +kernel
theorem dX7_begin_17 : decode cX7_begin 17 = .ok (.aload_n 0, 1) := by decide +kernel
theorem dX7_begin_18 : decode cX7_begin 18 = .ok (.dup, 1) := by decide +kernel
theorem dX7_begin_19 : decode cX7_begin 19 = .ok (.getfield 35, 3) := by decide +kernel
theorem dX7_begin_22 : decode cX7_begin 22 = .ok (.iconst 1, 1) := by decide +kernel
theorem dX7_begin_23 : decode cX7_begin 23 = .ok (.iadd, 1) := by decide +kernel
theorem dX7_begin_24 : decode cX7_begin 24 = .ok (.putfield 35, 3) := by decide +kernel
theorem dX7_begin_27 : decode cX7_begin 27 = .ok (.aload_n 0, 1) := by decide +kernel
theorem dX7_begin_28 : decode cX7_begin 28 = .ok (.iconst 0, 1) := by decide +kernel
theorem dX7_begin_29 : decode cX7_begin 29 = .ok (.putfield 31, 3) := by decide +kernel
theorem dX7_begin_32 : decode cX7_begin 32 = .ok (.return_, 1) := by decide +kernel
theorem dX7_areaReady_0 : decode cX7_areaReady 0 = .ok (.iconst 0, 1) := by decide +kernel
theorem dX7_areaReady_1 : decode cX7_areaReady 1 = .ok (.istore_n 1, 1) := by decide +kernel
theorem dX7_areaReady_2 : decode cX7_areaReady 2 = .ok (.iconst 0, 1) := by decide +kernel
theorem dX7_areaReady_3 : decode cX7_areaReady 3 = .ok (.istore_n 2, 1) := by decide +kernel
theorem dX7_areaReady_4 : decode cX7_areaReady 4 = .ok (.iload_n 2, 1) := by decide +kernel
theorem dX7_areaReady_5 : decode cX7_areaReady 5 = .ok (.aload_n 0, 1) := by decide +kernel
theorem dX7_areaReady_6 : decode cX7_areaReady 6 = .ok (.getfield 38, 3) := by decide +kernel
theorem dX7_areaReady_9 : decode cX7_areaReady 9 = .ok (.getfield 123, 3) := by decide +kernel
theorem dX7_areaReady_12 : decode cX7_areaReady 12 = .ok (.if_icmp .ge 46, 3) := by decide +kernel
theorem dX7_areaReady_15 : decode cX7_areaReady 15 = .ok (.iload_n 1, 1) := by decide +kernel
theorem dX7_areaReady_16 : decode cX7_areaReady 16 = .ok (.aload_n 0, 1) := by decide +kernel
theorem dX7_areaReady_17 : decode cX7_areaReady 17 = .ok (.getfield 38, 3) := by decide +kernel
theorem dX7_areaReady_20 : decode cX7_areaReady 20 = .ok (.iload_n 2, 1) := by decide +kernel
theorem dX7_areaReady_21 : decode cX7_areaReady 21 = .ok (.invokevirtual 141, 3) := by decide +kernel
theorem dX7_areaReady_24 : decode cX7_areaReady 24 = .ok (.ifCond .eq 25, 3) := by decide +kernel
theorem dX7_areaReady_27 : decode cX7_areaReady 27 = .ok (.aload_n 0, 1) := by decide +kernel
theorem dX7_areaReady_28 : decode cX7_areaReady 28 = .ok (.getfield 38, 3) := by decide +kernel
theorem dX7_areaReady_31 : decode cX7_areaReady 31 = .ok (.getfield 87, 3) := by decide +kernel
theorem dX7_areaReady_34 : decode cX7_areaReady 34 = .ok (.iload_n 2, 1) := by decide +kernel
theorem dX7_areaReady_35 : decode cX7_areaReady 35 = .ok (.iaload, 1) := by decide +kernel
theorem dX7_areaReady_36 : decode cX7_areaReady 36 = .ok (.aload_n 0, 1) := by decide +kernel
theorem dX7_areaReady_37 : decode cX7_areaReady 37 = .ok (.getfield 38, 3) := by decide +kernel
theorem dX7_areaReady_40 : decode cX7_areaReady 40 = .ok (.getfield 87, 3) := by decide +kernel
theorem dX7_areaReady_43 : decode cX7_areaReady 43 = .ok (.iload_n 2, 1) := by decide +kernel
theorem dX7_areaReady_44 : decode cX7_areaReady 44 = .ok (.iaload, 1) := by decide +kernel
theorem dX7_areaReady_45 : decode cX7_areaReady 45 = .ok (.imul, 1) := by decide +kernel
theorem dX7_areaReady_46 : decode cX7_areaReady 46 = .ok (.goto 4, 3) := by decide +kernel
theorem dX7_areaReady_49 : decode cX7_areaReady 49 = .ok (.iconst 0, 1) := by decide +kernel
theorem dX7_areaReady_50 : decode cX7_areaReady 50 = .ok (.iadd, 1) := by decide +kernel
theorem dX7_areaReady_51 : decode cX7_areaReady 51 = .ok (.istore_n 1, 1) := by decide +kernel
theorem dX7_areaReady_52 : decode cX7_areaReady 52 = .ok (.iinc 2 1, 3) := by decide +kernel
theorem dX7_areaReady_55 : decode cX7_areaReady 55 = .ok (.goto (-51), 3) := by decide +kernel
theorem dX7_areaReady_58 : decode cX7_areaReady 58 = .ok (.iload_n 1, 1) := by decide +kernel
theorem dX7_areaReady_59 : decode cX7_areaReady 59 = .ok (.ireturn, 1) := by decide +kernel
theorem dX7_solve_0 : decode cX7_solve 0 = .ok (.iload_n 3, 1) := by decide +kernel
theorem dX7_solve_1 : decode cX7_solve 1 = .ok (.ifCond .ne 22, 3) := by decide +kernel
theorem dX7_solve_4 : decode cX7_solve 4 = .ok (.aload_n 0, 1) := by decide +kernel
theorem dX7_solve_5 : decode cX7_solve 5 = .ok (.iload 5, 2) := by decide +kernel
theorem dX7_solve_7 : decode cX7_solve 7 = .ok (.putfield 31, 3) := by decide +kernel
theorem dX7_solve_10 : decode cX7_solve 10 = .ok (.aload_n 0, 1) := by decide +kernel
theorem dX7_solve_11 : decode cX7_solve 11 = .ok (.getfield 131, 3) := by decide +kernel
theorem dX7_solve_14 : decode cX7_solve 14 = .ok (.ifCond .eq 7, 3) := by decide +kernel
theorem dX7_solve_17 : decode cX7_solve 17 = .ok (.iconst 0, 1) := by decide +kernel
theorem dX7_solve_18 : decode cX7_solve 18 = .ok (.goto 4, 3) := by decide +kernel
theorem dX7_solve_21 : decode cX7_solve 21 = .ok (.iconst 1, 1) := by decide +kernel
theorem dX7_solve_22 : decode cX7_solve 22 = .ok (.ireturn, 1) := by decide +kernel
theorem dX7_solve_23 : decode cX7_solve 23 = .ok (.aload_n 0, 1) := by decide +kernel
theorem dX7_solve_24 : decode cX7_solve 24 = .ok (.getfield 12, 3) := by decide +kernel
theorem dX7_solve_27 : decode cX7_solve 27 = .ok (.lload_n 1, 1) := by decide +kernel
theorem dX7_solve_28 : decode cX7_solve 28 = .ok (.invokevirtual 145, 3) := by decide +kernel
theorem dX7_solve_31 : decode cX7_solve 31 = .ok (.istore 6, 2) := by decide +kernel
theorem dX7_solve_33 : decode cX7_solve 33 = .ok (.iload 6, 2) := by decide +kernel
theorem dX7_solve_35 : decode cX7_solve 35 = .ok (.iconst (-1), 1) := by decide +kernel
theorem dX7_solve_36 : decode cX7_solve 36 = .ok (.if_icmp .eq 13, 3) := by decide +kernel
theorem dX7_solve_39 : decode cX7_solve 39 = .ok (.aload_n 0, 1) := by decide +kernel
theorem dX7_solve_40 : decode cX7_solve 40 = .ok (.getfield 12, 3) := by decide +kernel
theorem dX7_solve_43 : decode cX7_solve 43 = .ok (.iload 6, 2) := by decide +kernel
theorem dX7_solve_45 : decode cX7_solve 45 = .ok (.invokevirtual 149, 3) := by decide +kernel
theorem dX7_solve_48 : decode cX7_solve 48 = .ok (.ireturn, 1) := by decide +kernel
theorem dX7_solve_49 : decode cX7_solve 49 = .ok (.aload_n 0, 1) := by decide +kernel
theorem dX7_solve_50 : decode cX7_solve 50 = .ok (.lload_n 1, 1) := by decide +kernel
theorem dX7_solve_51 : decode cX7_solve 51 = .ok (.iload 4, 2) := by decide +kernel
theorem dX7_solve_53 : decode cX7_solve 53 = .ok (.invokevirtual 104, 3) := by decide +kernel
theorem dX7_solve_56 : decode cX7_solve 56 = .ok (.istore 7, 2) := by decide +kernel
theorem dX7_solve_58 : decode cX7_solve 58 = .ok (.aload_n 0, 1) := by decide +kernel
theorem dX7_solve_59 : decode cX7_solve 59 = .ok (.getfield 131, 3) := by decide +kernel
theorem dX7_solve_62 : decode cX7_solve 62 = .ok (.ifCond .eq 7, 3) := by decide +kernel
theorem dX7_solve_65 : decode cX7_solve 65 = .ok (.iconst (-1), 1) := by decide +kernel
theorem dX7_solve_66 : decode cX7_solve 66 = .ok (.goto 4, 3) := by decide +kernel
theorem dX7_solve_69 : decode cX7_solve 69 = .ok (.iconst 0, 1) := by decide +kernel
theorem dX7_solve_70 : decode cX7_solve 70 = .ok (.istore 8, 2) := by decide +kernel
theorem dX7_solve_72 : decode cX7_solve 72 = .ok (.iconst 0, 1) := by decide +kernel
theorem dX7_solve_73 : decode cX7_solve 73 = .ok (.istore 9, 2) := by decide +kernel
theorem dX7_solve_75 : decode cX7_solve 75 = .ok (.iload 9, 2) := by decide +kernel
theorem dX7_solve_77 : decode cX7_solve 77 = .ok (.aload_n 0, 1) := by decide +kernel
theorem dX7_solve_78 : decode cX7_solve 78 = .ok (.getfield 38, 3) := by decide +kernel
theorem dX7_solve_81 : decode cX7_solve 81 = .ok (.getfield 123, 3) := by decide +kernel
theorem dX7_solve_84 : decode cX7_solve 84 = .ok (.if_icmp .ge 144, 3) := by decide +kernel
theorem dX7_solve_87 : decode cX7_solve 87 = .ok (.iload 5, 2) := by decide +kernel
theorem dX7_solve_89 : decode cX7_solve 89 = .ok (.bipush 9, 2) := by decide +kernel
theorem dX7_solve_91 : decode cX7_solve 91 = .ok (.if_icmp .ge 137, 3) := by decide +kernel
theorem dX7_solve_94 : decode cX7_solve 94 = .ok (.aload_n 0, 1) := by decide +kernel
theorem dX7_solve_95 : decode cX7_solve 95 = .ok (.getfield 131, 3) := by decide +kernel
theorem dX7_solve_98 : decode cX7_solve 98 = .ok (.ifCond .ne 12, 3) := by decide +kernel
theorem dX7_solve_101 : decode cX7_solve 101 = .ok (.iload 8, 2) := by decide +kernel
theorem dX7_solve_103 : decode cX7_solve 103 = .ok (.aload_n 0, 1) := by decide +kernel
theorem dX7_solve_104 : decode cX7_solve 104 = .ok (.getfield 135, 3) := by decide +kernel
theorem dX7_solve_107 : decode cX7_solve 107 = .ok (.if_icmp .ge 121, 3) := by decide +kernel
theorem dX7_solve_110 : decode cX7_solve 110 = .ok (.aload_n 0, 1) := by decide +kernel
theorem dX7_solve_111 : decode cX7_solve 111 = .ok (.lload_n 1, 1) := by decide +kernel
theorem dX7_solve_112 : decode cX7_solve 112 = .ok (.iload 9, 2) := by decide +kernel
theorem dX7_solve_114 : decode cX7_solve 114 = .ok (.iload 7, 2) := by decide +kernel
theorem dX7_solve_116 : decode cX7_solve 116 = .ok (.invokevirtual 108, 3) := by decide +kernel
theorem dX7_solve_119 : decode cX7_solve 119 = .ok (.ifCond .eq 103, 3) := by decide +kernel
theorem dX7_solve_122 : decode cX7_solve 122 = .ok (.aload_n 0, 1) := by decide +kernel
theorem dX7_solve_123 : decode cX7_solve 123 = .ok (.iload 9, 2) := by decide +kernel
theorem dX7_solve_125 : decode cX7_solve 125 = .ok (.iload 7, 2) := by decide +kernel
theorem dX7_solve_127 : decode cX7_solve 127 = .ok (.invokevirtual 112, 3) := by decide +kernel
theorem dX7_solve_130 : decode cX7_solve 130 = .ok (.iconst (-1), 1) := by decide +kernel
theorem dX7_solve_131 : decode cX7_solve 131 = .ok (.if_icmp .ne 6, 3) := by decide +kernel
theorem dX7_solve_134 : decode cX7_solve 134 = .ok (.goto 88, 3) := by decide +kernel
theorem dX7_solve_137 : decode cX7_solve 137 = .ok (.aload_n 0, 1) := by decide +kernel
theorem dX7_solve_138 : decode cX7_solve 138 = .ok (.getfield 28, 3) := by decide +kernel
theorem dX7_solve_141 : decode cX7_solve 141 = .ok (.iload 5, 2) := by decide +kernel
theorem dX7_solve_143 : decode cX7_solve 143 = .ok (.iload 9, 2) := by decide +kernel
theorem dX7_solve_145 : decode cX7_solve 145 = .ok (.iastore, 1) := by decide +kernel
theorem dX7_solve_146 : decode cX7_solve 146 = .ok (.aload_n 0, 1) := by decide +kernel
theorem dX7_solve_147 : decode cX7_solve 147 = .ok (.aload_n 0, 1) := by decide +kernel
theorem dX7_solve_148 : decode cX7_solve 148 = .ok (.lload_n 1, 1) := by decide +kernel
theorem dX7_solve_149 : decode cX7_solve 149 = .ok (.iload 9, 2) := by decide +kernel
theorem dX7_solve_151 : decode cX7_solve 151 = .ok (.iload 7, 2) := by decide +kernel
theorem dX7_solve_153 : decode cX7_solve 153 = .ok (.invokevirtual 152, 3) := by decide +kernel
theorem dX7_solve_156 : decode cX7_solve 156 = .ok (.iload_n 3, 1) := by decide +kernel
theorem dX7_solve_157 : decode cX7_solve 157 = .ok (.aload_n 0, 1) := by decide +kernel
theorem dX7_solve_158 : decode cX7_solve 158 = .ok (.getfield 38, 3) := by decide +kernel
theorem dX7_solve_161 : decode cX7_solve 161 = .ok (.getfield 87, 3) := by decide +kernel
theorem dX7_solve_164 : decode cX7_solve 164 = .ok (.iload 9, 2) := by decide +kernel
theorem dX7_solve_166 : decode cX7_solve 166 = .ok (.iaload, 1) := by decide +kernel
theorem dX7_solve_167 : decode cX7_solve 167 = .ok (.aload_n 0, 1) := by decide +kernel
theorem dX7_solve_168 : decode cX7_solve 168 = .ok (.getfield 38, 3) := by decide +kernel
theorem dX7_solve_171 : decode cX7_solve 171 = .ok (.getfield 87, 3) := by decide +kernel
theorem dX7_solve_174 : decode cX7_solve 174 = .ok (.iload 9, 2) := by decide +kernel
theorem dX7_solve_176 : decode cX7_solve 176 = .ok (.iaload, 1) := by decide +kernel
theorem dX7_solve_177 : decode cX7_solve 177 = .ok (.imul, 1) := by decide +kernel
theorem dX7_solve_178 : decode cX7_solve 178 = .ok (.isub, 1) := by decide +kernel
theorem dX7_solve_179 : decode cX7_solve 179 = .ok (.iload 7, 2) := by decide +kernel
theorem dX7_solve_181 : decode cX7_solve 181 = .ok (.iload 5, 2) := by decide +kernel
theorem dX7_solve_183 : decode cX7_solve 183 = .ok (.iconst 1, 1) := by decide +kernel
theorem dX7_solve_184 : decode cX7_solve 184 = .ok (.iadd, 1) := by decide +kernel
theorem dX7_solve_185 : decode cX7_solve 185 = .ok (.invokevirtual 100, 3) := by decide +kernel
theorem dX7_solve_188 : decode cX7_solve 188 = .ok (.istore 10, 2) := by decide +kernel
theorem dX7_solve_190 : decode cX7_solve 190 = .ok (.aload_n 0, 1) := by decide +kernel
theorem dX7_solve_191 : decode cX7_solve 191 = .ok (.getfield 131, 3) := by decide +kernel
theorem dX7_solve_194 : decode cX7_solve 194 = .ok (.ifCond .eq 21, 3) := by decide +kernel
theorem dX7_solve_197 : decode cX7_solve 197 = .ok (.iload 8, 2) := by decide +kernel
theorem dX7_solve_199 : decode cX7_solve 199 = .ok (.iload 10, 2) := by decide +kernel
theorem dX7_solve_201 : decode cX7_solve 201 = .ok (.aload_n 0, 1) := by decide +kernel
theorem dX7_solve_202 : decode cX7_solve 202 = .ok (.iload 9, 2) := by decide +kernel
theorem dX7_solve_204 : decode cX7_solve 204 = .ok (.iload 7, 2) := by decide +kernel
theorem dX7_solve_206 : decode cX7_solve 206 = .ok (.invokevirtual 112, 3) := by decide +kernel
theorem dX7_solve_209 : decode cX7_solve 209 = .ok (.invokestatic 156, 3) := by decide +kernel
theorem dX7_solve_212 : decode cX7_solve 212 = .ok (.goto 8, 3) := by decide +kernel
theorem dX7_solve_215 : decode cX7_solve 215 = .ok (.iload 8, 2) := by decide +kernel
theorem dX7_solve_217 : decode cX7_solve 217 = .ok (.iload 10, 2) := by decide +kernel
theorem dX7_solve_219 : decode cX7_solve 219 = .ok (.iadd, 1) := by decide +kernel
theorem dX7_solve_220 : decode cX7_solve 220 = .ok (.istore 8, 2) := by decide +kernel
theorem dX7_solve_222 : decode cX7_solve 222 = .ok (.iinc 9 1, 3) := by decide +kernel
theorem dX7_solve_225 : decode cX7_solve 225 = .ok (.goto (-150), 3) := by decide +kernel
theorem dX7_solve_228 : decode cX7_solve 228 = .ok (.aload_n 0, 1) := by decide +kernel
theorem dX7_solve_229 : decode cX7_solve 229 = .ok (.getfield 12, 3) := by decide +kernel
theorem dX7_solve_232 : decode cX7_solve 232 = .ok (.lload_n 1, 1) := by decide +kernel
theorem dX7_solve_233 : decode cX7_solve 233 = .ok (.iload 8, 2) := by decide +kernel
theorem dX7_solve_235 : decode cX7_solve 235 = .ok (.invokevirtual 160, 3) := by decide +kernel
theorem dX7_solve_238 : decode cX7_solve 238 = .ok (.iload 8, 2) := by decide +kernel
theorem dX7_solve_240 : decode cX7_solve 240 = .ok (.ireturn, 1) := by decide +kernel
theorem dX7_cheaper_0 : decode cX7_cheaper 0 = .ok (.iload_n 1, 1) := by decide +kernel
theorem dX7_cheaper_1 : decode cX7_cheaper 1 = .ok (.iconst (-1), 1) := by decide +kernel
theorem dX7_cheaper_2 : decode cX7_cheaper 2 = .ok (.if_icmp .ne 5, 3) := by decide +kernel
theorem dX7_cheaper_5 : decode cX7_cheaper 5 = .ok (.iload_n 0, 1) := by decide +kernel
theorem dX7_cheaper_6 : decode cX7_cheaper 6 = .ok (.ireturn, 1) := by decide +kernel
theorem dX7_cheaper_7 : decode cX7_cheaper 7 = .ok (.iload_n 0, 1) := by decide +kernel
theorem dX7_cheaper_8 : decode cX7_cheaper 8 = .ok (.iconst (-1), 1) := by decide +kernel
theorem dX7_cheaper_9 : decode cX7_cheaper 9 = .ok (.if_icmp .ne 9, 3) := by decide +kernel
theorem dX7_cheaper_12 : decode cX7_cheaper 12 = .ok (.iload_n 1, 1) := by decide +kernel
theorem dX7_cheaper_13 : decode cX7_cheaper 13 = .ok (.iload_n 2, 1) := by decide +kernel
theorem dX7_cheaper_14 : decode cX7_cheaper 14 = .ok (.iadd, 1) := by decide +kernel
theorem dX7_cheaper_15 : decode cX7_cheaper 15 = .ok (.goto 10, 3) := by decide +kernel
theorem dX7_cheaper_18 : decode cX7_cheaper 18 = .ok (.iload_n 0, 1) := by decide +kernel
theorem dX7_cheaper_19 : decode cX7_cheaper 19 = .ok (.iload_n 1, 1) := by decide +kernel
theorem dX7_cheaper_20 : decode cX7_cheaper 20 = .ok (.iload_n 2, 1) := by decide +kernel
theorem dX7_cheaper_21 : decode cX7_cheaper 21 = .ok (.iadd, 1) := by decide +kernel
theorem dX7_cheaper_22 : decode cX7_cheaper 22 = .ok (.invokestatic 164, 3) := by decide +kernel
theorem dX7_cheaper_25 : decode cX7_cheaper 25 = .ok (.ireturn, 1) := by decide +kernel
theorem dX7_isBare_0 : decode cX7_isBare 0 = .ok (.iload_n 3, 1) := by decide +kernel
theorem dX7_isBare_1 : decode cX7_isBare 1 = .ok (.bipush 12, 2) := by decide +kernel
theorem dX7_isBare_3 : decode cX7_isBare 3 = .ok (.irem, 1) := by decide +kernel
theorem dX7_isBare_4 : decode cX7_isBare 4 = .ok (.istore 4, 2) := by decide +kernel
theorem dX7_isBare_6 : decode cX7_isBare 6 = .ok (.iload_n 3, 1) := by decide +kernel
theorem dX7_isBare_7 : decode cX7_isBare 7 = .ok (.bipush 12, 2) := by decide +kernel
theorem dX7_isBare_9 : decode cX7_isBare 9 = .ok (.idiv, 1) := by decide +kernel
theorem dX7_isBare_10 : decode cX7_isBare 10 = .ok (.istore 5, 2) := by decide +kernel
theorem dX7_isBare_12 : decode cX7_isBare 12 = .ok (.iload 4, 2) := by decide +kernel
theorem dX7_isBare_14 : decode cX7_isBare 14 = .ok (.aload_n 0, 1) := by decide +kernel
theorem dX7_isBare_15 : decode cX7_isBare 15 = .ok (.getfield 38, 3) := by decide +kernel
theorem dX7_isBare_18 : decode cX7_isBare 18 = .ok (.getfield 74, 3) := by decide +kernel
theorem dX7_isBare_21 : decode cX7_isBare 21 = .ok (.if_icmp .ge 54, 3) := by decide +kernel
theorem dX7_isBare_24 : decode cX7_isBare 24 = .ok (.iload 5, 2) := by decide +kernel
theorem dX7_isBare_26 : decode cX7_isBare 26 = .ok (.aload_n 0, 1) := by decide +kernel
theorem dX7_isBare_27 : decode cX7_isBare 27 = .ok (.getfield 38, 3) := by decide +kernel
theorem dX7_isBare_30 : decode cX7_isBare 30 = .ok (.getfield 80, 3) := by decide +kernel
theorem dX7_isBare_33 : decode cX7_isBare 33 = .ok (.if_icmp .ge 42, 3) := by decide +kernel
theorem dX7_isBare_36 : decode cX7_isBare 36 = .ok (.aload_n 0, 1) := by decide +kernel
theorem dX7_isBare_37 : decode cX7_isBare 37 = .ok (.getfield 38, 3) := by decide +kernel
theorem dX7_isBare_40 : decode cX7_isBare 40 = .ok (.getfield 167, 3) := by decide +kernel
theorem dX7_isBare_43 : decode cX7_isBare 43 = .ok (.iload 5, 2) := by decide +kernel
theorem dX7_isBare_45 : decode cX7_isBare 45 = .ok (.iaload, 1) := by decide +kernel
theorem dX7_isBare_46 : decode cX7_isBare 46 = .ok (.iload 4, 2) := by decide +kernel
theorem dX7_isBare_48 : decode cX7_isBare 48 = .ok (.ishr, 1) := by decide +kernel
theorem dX7_isBare_49 : decode cX7_isBare 49 = .ok (.iconst 1, 1) := by decide +kernel
theorem dX7_isBare_50 : decode cX7_isBare 50 = .ok (.iand, 1) := by decide +kernel
theorem dX7_isBare_51 : decode cX7_isBare 51 = .ok (.ifCond .ne 24, 3) := by decide +kernel
theorem dX7_isBare_54 : decode cX7_isBare 54 = .ok (.lload_n 1, 1) := by decide +kernel
theorem dX7_isBare_55 : decode cX7_isBare 55 = .ok (.iconst 4, 1) := by decide +kernel
theorem dX7_isBare_56 : decode cX7_isBare 56 = .ok (.iload 4, 2) := by decide +kernel
theorem dX7_isBare_58 : decode cX7_isBare 58 = .ok (.imul, 1) := by decide +kernel
theorem dX7_isBare_59 : decode cX7_isBare 59 = .ok (.lushr, 1) := by decide +kernel
theorem dX7_isBare_60 : decode cX7_isBare 60 = .ok (.ldc2_w 170, 3) := by decide +kernel
theorem dX7_isBare_63 : decode cX7_isBare 63 = .ok (.land, 1) := by decide +kernel
theorem dX7_isBare_64 : decode cX7_isBare 64 = .ok (.iload 5, 2) := by decide +kernel
theorem dX7_isBare_66 : decode cX7_isBare 66 = .ok (.i2l, 1) := by decide +kernel
theorem dX7_isBare_67 : decode cX7_isBare 67 = .ok (.lcmp, 1) := by decide +kernel
theorem dX7_isBare_68 : decode cX7_isBare 68 = .ok (.ifCond .gt 7, 3) := by decide +kernel
theorem dX7_isBare_71 : decode cX7_isBare 71 = .ok (.iconst 1, 1) := by decide +kernel
theorem dX7_isBare_72 : decode cX7_isBare 72 = .ok (.goto 4, 3) := by decide +kernel
theorem dX7_isBare_75 : decode cX7_isBare 75 = .ok (.iconst 0, 1) := by decide +kernel
theorem dX7_isBare_76 : decode cX7_isBare 76 = .ok (.ireturn, 1) := by decide +kernel
theorem dX7_firstBare_0 : decode cX7_firstBare 0 = .ok (.iload_n 3, 1) := by decide +kernel
theorem dX7_firstBare_1 : decode cX7_firstBare 1 = .ok (.istore 4, 2) := by decide +kernel
theorem dX7_firstBare_3 : decode cX7_firstBare 3 = .ok (.iload 4, 2) := by decide +kernel
theorem dX7_firstBare_5 : decode cX7_firstBare 5 = .ok (.sipush 144, 3) := by decide +kernel
theorem dX7_firstBare_8 : decode cX7_firstBare 8 = .ok (.if_icmp .ge 22, 3) := by decide +kernel
theorem dX7_firstBare_11 : decode cX7_firstBare 11 = .ok (.aload_n 0, 1) := by decide +kernel
theorem dX7_firstBare_12 : decode cX7_firstBare 12 = .ok (.lload_n 1, 1) := by decide +kernel
theorem dX7_firstBare_13 : decode cX7_firstBare 13 = .ok (.iload 4, 2) := by decide +kernel
theorem dX7_firstBare_15 : decode cX7_firstBare 15 = .ok (.invokevirtual 115, 3) := by decide +kernel
theorem dX7_firstBare_18 : decode cX7_firstBare 18 = .ok (.ifCond .eq 6, 3) := by decide +kernel
theorem dX7_firstBare_21 : decode cX7_firstBare 21 = .ok (.iload 4, 2) := by decide +kernel
theorem dX7_firstBare_23 : decode cX7_firstBare 23 = .ok (.ireturn, 1) := by decide +kernel
theorem dX7_firstBare_24 : decode cX7_firstBare 24 = .ok (.iinc 4 1, 3) := by decide +kernel
theorem dX7_firstBare_27 : decode cX7_firstBare 27 = .ok (.goto (-24), 3) := by decide +kernel
theorem dX7_firstBare_30 : decode cX7_firstBare 30 = .ok (.iconst (-1), 1) := by decide +kernel
theorem dX7_firstBare_31 : decode cX7_firstBare 31 = .ok (.ireturn, 1) := by decide +kernel
theorem dX7_fits_0 : decode cX7_fits 0 = .ok (.iload 4, 2) := by decide +kernel
theorem dX7_fits_2 : decode cX7_fits 2 = .ok (.ifCond .lt 27, 3) := by decide +kernel
theorem dX7_fits_5 : decode cX7_fits 5 = .ok (.aload_n 0, 1) := by decide +kernel
theorem dX7_fits_6 : decode cX7_fits 6 = .ok (.getfield 38, 3) := by decide +kernel
theorem dX7_fits_9 : decode cX7_fits 9 = .ok (.iload_n 3, 1) := by decide +kernel
theorem dX7_fits_10 : decode cX7_fits 10 = .ok (.invokevirtual 141, 3) := by decide +kernel
theorem dX7_fits_13 : decode cX7_fits 13 = .ok (.ifCond .eq 16, 3) := by decide +kernel
theorem dX7_fits_16 : decode cX7_fits 16 = .ok (.lload_n 1, 1) := by decide +kernel
theorem dX7_fits_17 : decode cX7_fits 17 = .ok (.bipush 48, 2) := by decide +kernel
theorem dX7_fits_19 : decode cX7_fits 19 = .ok (.iload_n 3, 1) := by decide +kernel
theorem dX7_fits_20 : decode cX7_fits 20 = .ok (.iadd, 1) := by decide +kernel
theorem dX7_fits_21 : decode cX7_fits 21 = .ok (.lushr, 1) := by decide +kernel
theorem dX7_fits_22 : decode cX7_fits 22 = .ok (.lconst 1, 1) := by decide +kernel
theorem dX7_fits_23 : decode cX7_fits 23 = .ok (.land, 1) := by decide +kernel
theorem dX7_fits_24 : decode cX7_fits 24 = .ok (.lconst 0, 1) := by decide +kernel
theorem dX7_fits_25 : decode cX7_fits 25 = .ok (.lcmp, 1) := by decide +kernel
theorem dX7_fits_26 : decode cX7_fits 26 = .ok (.ifCond .eq 5, 3) := by decide +kernel
theorem dX7_fits_29 : decode cX7_fits 29 = .ok (.iconst 0, 1) := by decide +kernel
theorem dX7_fits_30 : decode cX7_fits 30 = .ok (.ireturn, 1) := by decide +kernel
theorem dX7_fits_31 : decode cX7_fits 31 = .ok (.aload_n 0, 1) := by decide +kernel
theorem dX7_fits_32 : decode cX7_fits 32 = .ok (.getfield 38, 3) := by decide +kernel
theorem dX7_fits_35 : decode cX7_fits 35 = .ok (.getfield 87, 3) := by decide +kernel
theorem dX7_fits_38 : decode cX7_fits 38 = .ok (.iload_n 3, 1) := by decide +kernel
theorem dX7_fits_39 : decode cX7_fits 39 = .ok (.iaload, 1) := by decide +kernel
theorem dX7_fits_40 : decode cX7_fits 40 = .ok (.istore 5, 2) := by decide +kernel
theorem dX7_fits_42 : decode cX7_fits 42 = .ok (.iload 4, 2) := by decide +kernel
theorem dX7_fits_44 : decode cX7_fits 44 = .ok (.bipush 12, 2) := by decide +kernel
theorem dX7_fits_46 : decode cX7_fits 46 = .ok (.irem, 1) := by decide +kernel
theorem dX7_fits_47 : decode cX7_fits 47 = .ok (.istore 6, 2) := by decide +kernel
theorem dX7_fits_49 : decode cX7_fits 49 = .ok (.iload 4, 2) := by decide +kernel
theorem dX7_fits_51 : decode cX7_fits 51 = .ok (.bipush 12, 2) := by decide +kernel
theorem dX7_fits_53 : decode cX7_fits 53 = .ok (.idiv, 1) := by decide +kernel
theorem dX7_fits_54 : decode cX7_fits 54 = .ok (.istore 7, 2) := by decide +kernel
theorem dX7_fits_56 : decode cX7_fits 56 = .ok (.iload 6, 2) := by decide +kernel
theorem dX7_fits_58 : decode cX7_fits 58 = .ok (.iload 5, 2) := by decide +kernel
theorem dX7_fits_60 : decode cX7_fits 60 = .ok (.iadd, 1) := by decide +kernel
theorem dX7_fits_61 : decode cX7_fits 61 = .ok (.aload_n 0, 1) := by decide +kernel
theorem dX7_fits_62 : decode cX7_fits 62 = .ok (.getfield 38, 3) := by decide +kernel
theorem dX7_fits_65 : decode cX7_fits 65 = .ok (.getfield 74, 3) := by decide +kernel
theorem dX7_fits_68 : decode cX7_fits 68 = .ok (.if_icmp .gt 18, 3) := by decide +kernel
theorem dX7_fits_71 : decode cX7_fits 71 = .ok (.iload 7, 2) := by decide +kernel
theorem dX7_fits_73 : decode cX7_fits 73 = .ok (.iload 5, 2) := by decide +kernel
theorem dX7_fits_75 : decode cX7_fits 75 = .ok (.iadd, 1) := by decide +kernel
theorem dX7_fits_76 : decode cX7_fits 76 = .ok (.aload_n 0, 1) := by decide +kernel
theorem dX7_fits_77 : decode cX7_fits 77 = .ok (.getfield 38, 3) := by decide +kernel
theorem dX7_fits_80 : decode cX7_fits 80 = .ok (.getfield 80, 3) := by decide +kernel
theorem dX7_fits_83 : decode cX7_fits 83 = .ok (.if_icmp .le 5, 3) := by decide +kernel
theorem dX7_fits_86 : decode cX7_fits 86 = .ok (.iconst 0, 1) := by decide +kernel
theorem dX7_fits_87 : decode cX7_fits 87 = .ok (.ireturn, 1) := by decide +kernel
theorem dX7_fits_88 : decode cX7_fits 88 = .ok (.iconst 1, 1) := by decide +kernel
theorem dX7_fits_89 : decode cX7_fits 89 = .ok (.iload 5, 2) := by decide +kernel
theorem dX7_fits_91 : decode cX7_fits 91 = .ok (.ishl, 1) := by decide +kernel
theorem dX7_fits_92 : decode cX7_fits 92 = .ok (.iconst 1, 1) := by decide +kernel
theorem dX7_fits_93 : decode cX7_fits 93 = .ok (.isub, 1) := by decide +kernel
theorem dX7_fits_94 : decode cX7_fits 94 = .ok (.istore 8, 2) := by decide +kernel
theorem dX7_fits_96 : decode cX7_fits 96 = .ok (.iconst 0, 1) := by decide +kernel
theorem dX7_fits_97 : decode cX7_fits 97 = .ok (.istore 9, 2) := by decide +kernel
theorem dX7_fits_99 : decode cX7_fits 99 = .ok (.iload 9, 2) := by decide +kernel
theorem dX7_fits_101 : decode cX7_fits 101 = .ok (.iload 5, 2) := by decide +kernel
theorem dX7_fits_103 : decode cX7_fits 103 = .ok (.if_icmp .ge 53, 3) := by decide +kernel
theorem dX7_fits_106 : decode cX7_fits 106 = .ok (.lload_n 1, 1) := by decide +kernel
theorem dX7_fits_107 : decode cX7_fits 107 = .ok (.iconst 4, 1) := by decide +kernel
theorem dX7_fits_108 : decode cX7_fits 108 = .ok (.iload 6, 2) := by decide +kernel
theorem dX7_fits_110 : decode cX7_fits 110 = .ok (.iload 9, 2) := by decide +kernel
theorem dX7_fits_112 : decode cX7_fits 112 = .ok (.iadd, 1) := by decide +kernel
theorem dX7_fits_113 : decode cX7_fits 113 = .ok (.imul, 1) := by decide +kernel
theorem dX7_fits_114 : decode cX7_fits 114 = .ok (.lushr, 1) := by decide +kernel
theorem dX7_fits_115 : decode cX7_fits 115 = .ok (.ldc2_w 170, 3) := by decide +kernel
theorem dX7_fits_118 : decode cX7_fits 118 = .ok (.land, 1) := by decide +kernel
theorem dX7_fits_119 : decode cX7_fits 119 = .ok (.iload 7, 2) := by decide +kernel
theorem dX7_fits_121 : decode cX7_fits 121 = .ok (.i2l, 1) := by decide +kernel
theorem dX7_fits_122 : decode cX7_fits 122 = .ok (.lcmp, 1) := by decide +kernel
theorem dX7_fits_123 : decode cX7_fits 123 = .ok (.ifCond .gt 25, 3) := by decide +kernel
theorem dX7_fits_126 : decode cX7_fits 126 = .ok (.aload_n 0, 1) := by decide +kernel
theorem dX7_fits_127 : decode cX7_fits 127 = .ok (.getfield 38, 3) := by decide +kernel
theorem dX7_fits_130 : decode cX7_fits 130 = .ok (.getfield 167, 3) := by decide +kernel
theorem dX7_fits_133 : decode cX7_fits 133 = .ok (.iload 7, 2) := by decide +kernel
theorem dX7_fits_135 : decode cX7_fits 135 = .ok (.iload 9, 2) := by decide +kernel
theorem dX7_fits_137 : decode cX7_fits 137 = .ok (.iadd, 1) := by decide +kernel
theorem dX7_fits_138 : decode cX7_fits 138 = .ok (.iaload, 1) := by decide +kernel
theorem dX7_fits_139 : decode cX7_fits 139 = .ok (.iload 6, 2) := by decide +kernel
theorem dX7_fits_141 : decode cX7_fits 141 = .ok (.ishr, 1) := by decide +kernel
theorem dX7_fits_142 : decode cX7_fits 142 = .ok (.iload 8, 2) := by decide +kernel
theorem dX7_fits_144 : decode cX7_fits 144 = .ok (.iand, 1) := by decide +kernel
theorem dX7_fits_145 : decode cX7_fits 145 = .ok (.ifCond .eq 5, 3) := by decide +kernel
theorem dX7_fits_148 : decode cX7_fits 148 = .ok (.iconst 0, 1) := by decide +kernel
theorem dX7_fits_149 : decode cX7_fits 149 = .ok (.ireturn, 1) := by decide +kernel
theorem dX7_fits_150 : decode cX7_fits 150 = .ok (.iinc 9 1, 3) := by decide +kernel
theorem dX7_fits_153 : decode cX7_fits 153 = .ok (.goto (-54), 3) := by decide +kernel
theorem dX7_fits_156 : decode cX7_fits 156 = .ok (.aload_n 0, 1) := by decide +kernel
theorem dX7_fits_157 : decode cX7_fits 157 = .ok (.iload 5, 2) := by decide +kernel
theorem dX7_fits_159 : decode cX7_fits 159 = .ok (.iload 6, 2) := by decide +kernel
theorem dX7_fits_161 : decode cX7_fits 161 = .ok (.iload 7, 2) := by decide +kernel
theorem dX7_fits_163 : decode cX7_fits 163 = .ok (.invokevirtual 172, 3) := by decide +kernel
theorem dX7_fits_166 : decode cX7_fits 166 = .ok (.ireturn, 1) := by decide +kernel
theorem dX7_agreesWithSeen_0 : decode cX7_agreesWithSeen 0 = .ok (.iconst 0, 1) := by decide +kernel
theorem dX7_agreesWithSeen_1 : decode cX7_agreesWithSeen 1 = .ok (.istore 4, 2) := by decide +kernel
theorem dX7_agreesWithSeen_3 : decode cX7_agreesWithSeen 3 = .ok (.aload_n 0, 1) := by decide +kernel
theorem dX7_agreesWithSeen_4 : decode cX7_agreesWithSeen 4 = .ok (.getfield 50, 3) := by decide +kernel
theorem dX7_agreesWithSeen_7 : decode cX7_agreesWithSeen 7 = .ok (.ifnull 87, 3) := by decide +kernel
theorem dX7_agreesWithSeen_10 : decode cX7_agreesWithSeen 10 = .ok (.iload 4, 2) := by decide +kernel
theorem dX7_agreesWithSeen_12 : decode cX7_agreesWithSeen 12 = .ok (.aload_n 0, 1) := by decide +kernel
theorem dX7_agreesWithSeen_13 : decode cX7_agreesWithSeen 13 = .ok (.getfield 50, 3) := by decide +kernel
theorem dX7_agreesWithSeen_16 : decode cX7_agreesWithSeen 16 = .ok (.getfield 66, 3) := by decide +kernel
theorem dX7_agreesWithSeen_19 : decode cX7_agreesWithSeen 19 = .ok (.if_icmp .ge 75, 3) := by decide +kernel
theorem dX7_agreesWithSeen_22 : decode cX7_agreesWithSeen 22 = .ok (.aload_n 0, 1) := by decide +kernel
theorem dX7_agreesWithSeen_23 : decode cX7_agreesWithSeen 23 = .ok (.getfield 50, 3) := by decide +kernel
theorem dX7_agreesWithSeen_26 : decode cX7_agreesWithSeen 26 = .ok (.getfield 71, 3) := by decide +kernel
theorem dX7_agreesWithSeen_29 : decode cX7_agreesWithSeen 29 = .ok (.iload 4, 2) := by decide +kernel
theorem dX7_agreesWithSeen_31 : decode cX7_agreesWithSeen 31 = .ok (.iaload, 1) := by decide +kernel
theorem dX7_agreesWithSeen_32 : decode cX7_agreesWithSeen 32 = .ok (.iload_n 2, 1) := by decide +kernel
theorem dX7_agreesWithSeen_33 : decode cX7_agreesWithSeen 33 = .ok (.isub, 1) := by decide +kernel
theorem dX7_agreesWithSeen_34 : decode cX7_agreesWithSeen 34 = .ok (.istore 5, 2) := by decide +kernel
theorem dX7_agreesWithSeen_36 : decode cX7_agreesWithSeen 36 = .ok (.aload_n 0, 1) := by decide +kernel
theorem dX7_agreesWithSeen_37 : decode cX7_agreesWithSeen 37 = .ok (.getfield 50, 3) := by decide +kernel
theorem dX7_agreesWithSeen_40 : decode cX7_agreesWithSeen 40 = .ok (.getfield 77, 3) := by decide +kernel
theorem dX7_agreesWithSeen_43 : decode cX7_agreesWithSeen 43 = .ok (.iload 4, 2) := by decide +kernel
theorem dX7_agreesWithSeen_45 : decode cX7_agreesWithSeen 45 = .ok (.iaload, 1) := by decide +kernel
theorem dX7_agreesWithSeen_46 : decode cX7_agreesWithSeen 46 = .ok (.iload_n 3, 1) := by decide +kernel
theorem dX7_agreesWithSeen_47 : decode cX7_agreesWithSeen 47 = .ok (.isub, 1) := by decide +kernel
theorem dX7_agreesWithSeen_48 : decode cX7_agreesWithSeen 48 = .ok (.istore 6, 2) := by decide +kernel
theorem dX7_agreesWithSeen_50 : decode cX7_agreesWithSeen 50 = .ok (.iload 5, 2) := by decide +kernel
theorem dX7_agreesWithSeen_52 : decode cX7_agreesWithSeen 52 = .ok (.ifCond .lt 36, 3) := by decide +kernel
theorem dX7_agreesWithSeen_55 : decode cX7_agreesWithSeen 55 = .ok (.iload 5, 2) := by decide +kernel
theorem dX7_agreesWithSeen_57 : decode cX7_agreesWithSeen 57 = .ok (.iload_n 1, 1) := by decide +kernel
theorem dX7_agreesWithSeen_58 : decode cX7_agreesWithSeen 58 = .ok (.if_icmp .ge 30, 3) := by decide +kernel
theorem dX7_agreesWithSeen_61 : decode cX7_agreesWithSeen 61 = .ok (.iload 6, 2) := by decide +kernel
theorem dX7_agreesWithSeen_63 : decode cX7_agreesWithSeen 63 = .ok (.ifCond .lt 25, 3) := by decide +kernel
theorem dX7_agreesWithSeen_66 : decode cX7_agreesWithSeen 66 = .ok (.iload 6, 2) := by decide +kernel
theorem dX7_agreesWithSeen_68 : decode cX7_agreesWithSeen 68 = .ok (.iload_n 1, 1) := by decide +kernel
theorem dX7_agreesWithSeen_69 : decode cX7_agreesWithSeen 69 = .ok (.if_icmp .ge 19, 3) := by decide +kernel
theorem dX7_agreesWithSeen_72 : decode cX7_agreesWithSeen 72 = .ok (.aload_n 0, 1) := by decide +kernel
theorem dX7_agreesWithSeen_73 : decode cX7_agreesWithSeen 73 = .ok (.getfield 50, 3) := by decide +kernel
theorem dX7_agreesWithSeen_76 : decode cX7_agreesWithSeen 76 = .ok (.getfield 90, 3) := by decide +kernel
theorem dX7_agreesWithSeen_79 : decode cX7_agreesWithSeen 79 = .ok (.iload 4, 2) := by decide +kernel
theorem dX7_agreesWithSeen_81 : decode cX7_agreesWithSeen 81 = .ok (.iaload, 1) := by decide +kernel
theorem dX7_agreesWithSeen_82 : decode cX7_agreesWithSeen 82 = .ok (.iload_n 1, 1) := by decide +kernel
theorem dX7_agreesWithSeen_83 : decode cX7_agreesWithSeen 83 = .ok (.if_icmp .eq 5, 3) := by decide +kernel
theorem dX7_agreesWithSeen_86 : decode cX7_agreesWithSeen 86 = .ok (.iconst 0, 1) := by decide +kernel
theorem dX7_agreesWithSeen_87 : decode cX7_agreesWithSeen 87 = .ok (.ireturn, 1) := by decide +kernel
theorem dX7_agreesWithSeen_88 : decode cX7_agreesWithSeen 88 = .ok (.iinc 4 1, 3) := by decide +kernel
theorem dX7_agreesWithSeen_91 : decode cX7_agreesWithSeen 91 = .ok (.goto (-88), 3) := by decide +kernel
theorem dX7_agreesWithSeen_94 : decode cX7_agreesWithSeen 94 = .ok (.iconst 1, 1) := by decide +kernel
theorem dX7_agreesWithSeen_95 : decode cX7_agreesWithSeen 95 = .ok (.ireturn, 1) := by decide +kernel
theorem dX7_priceAt_0 : decode cX7_priceAt 0 = .ok (.aload_n 0, 1) := by decide +kernel
theorem dX7_priceAt_1 : decode cX7_priceAt 1 = .ok (.getfield 42, 3) := by decide +kernel
theorem dX7_priceAt_4 : decode cX7_priceAt 4 = .ok (.ifnonnull 13, 3) := by decide +kernel
theorem dX7_priceAt_7 : decode cX7_priceAt 7 = .ok (.aload_n 0, 1) := by decide +kernel
theorem dX7_priceAt_8 : decode cX7_priceAt 8 = .ok (.getfield 38, 3) := by decide +kernel
theorem dX7_priceAt_11 : decode cX7_priceAt 11 = .ok (.getfield 87, 3) := by decide +kernel
theorem dX7_priceAt_14 : decode cX7_priceAt 14 = .ok (.iload_n 1, 1) := by decide +kernel
theorem dX7_priceAt_15 : decode cX7_priceAt 15 = .ok (.iaload, 1) := by decide +kernel
theorem dX7_priceAt_16 : decode cX7_priceAt 16 = .ok (.ireturn, 1) := by decide +kernel
theorem dX7_priceAt_17 : decode cX7_priceAt 17 = .ok (.iload_n 1, 1) := by decide +kernel
theorem dX7_priceAt_18 : decode cX7_priceAt 18 = .ok (.sipush 144, 3) := by decide +kernel
theorem dX7_priceAt_21 : decode cX7_priceAt 21 = .ok (.imul, 1) := by decide +kernel
theorem dX7_priceAt_22 : decode cX7_priceAt 22 = .ok (.iload_n 2, 1) := by decide +kernel
theorem dX7_priceAt_23 : decode cX7_priceAt 23 = .ok (.iadd, 1) := by decide +kernel
theorem dX7_priceAt_24 : decode cX7_priceAt 24 = .ok (.istore_n 3, 1) := by decide +kernel
theorem dX7_priceAt_25 : decode cX7_priceAt 25 = .ok (.aload_n 0, 1) := by decide +kernel
theorem dX7_priceAt_26 : decode cX7_priceAt 26 = .ok (.getfield 22, 3) := by decide +kernel
theorem dX7_priceAt_29 : decode cX7_priceAt 29 = .ok (.iload_n 3, 1) := by decide +kernel
theorem dX7_priceAt_30 : decode cX7_priceAt 30 = .ok (.iaload, 1) := by decide +kernel
theorem dX7_priceAt_31 : decode cX7_priceAt 31 = .ok (.aload_n 0, 1) := by decide +kernel
theorem dX7_priceAt_32 : decode cX7_priceAt 32 = .ok (.getfield 35, 3) := by decide +kernel
theorem dX7_priceAt_35 : decode cX7_priceAt 35 = .ok (.if_icmp .eq 89, 3) := by decide +kernel
theorem dX7_priceAt_38 : decode cX7_priceAt 38 = .ok (.iload_n 2, 1) := by decide +kernel
theorem dX7_priceAt_39 : decode cX7_priceAt 39 = .ok (.bipush 12, 2) := by decide +kernel
theorem dX7_priceAt_41 : decode cX7_priceAt 41 = .ok (.irem, 1) := by decide +kernel
theorem dX7_priceAt_42 : decode cX7_priceAt 42 = .ok (.istore 4, 2) := by decide +kernel
theorem dX7_priceAt_44 : decode cX7_priceAt 44 = .ok (.iload_n 2, 1) := by decide +kernel
theorem dX7_priceAt_45 : decode cX7_priceAt 45 = .ok (.bipush 12, 2) := by decide +kernel
theorem dX7_priceAt_47 : decode cX7_priceAt 47 = .ok (.idiv, 1) := by decide +kernel
theorem dX7_priceAt_48 : decode cX7_priceAt 48 = .ok (.istore 5, 2) := by decide +kernel
theorem dX7_priceAt_50 : decode cX7_priceAt 50 = .ok (.aload_n 0, 1) := by decide +kernel
theorem dX7_priceAt_51 : decode cX7_priceAt 51 = .ok (.getfield 22, 3) := by decide +kernel
theorem dX7_priceAt_54 : decode cX7_priceAt 54 = .ok (.iload_n 3, 1) := by decide +kernel
theorem dX7_priceAt_55 : decode cX7_priceAt 55 = .ok (.aload_n 0, 1) := by decide +kernel
theorem dX7_priceAt_56 : decode cX7_priceAt 56 = .ok (.getfield 35, 3) := by decide +kernel
theorem dX7_priceAt_59 : decode cX7_priceAt 59 = .ok (.iastore, 1) := by decide +kernel
theorem dX7_priceAt_60 : decode cX7_priceAt 60 = .ok (.aload_n 0, 1) := by decide +kernel
theorem dX7_priceAt_61 : decode cX7_priceAt 61 = .ok (.getfield 18, 3) := by decide +kernel
theorem dX7_priceAt_64 : decode cX7_priceAt 64 = .ok (.iload_n 3, 1) := by decide +kernel
theorem dX7_priceAt_65 : decode cX7_priceAt 65 = .ok (.aload_n 0, 1) := by decide +kernel
theorem dX7_priceAt_66 : decode cX7_priceAt 66 = .ok (.getfield 46, 3) := by decide +kernel
theorem dX7_priceAt_69 : decode cX7_priceAt 69 = .ok (.aload_n 0, 1) := by decide +kernel
theorem dX7_priceAt_70 : decode cX7_priceAt 70 = .ok (.getfield 42, 3) := by decide +kernel
theorem dX7_priceAt_73 : decode cX7_priceAt 73 = .ok (.aload_n 0, 1) := by decide +kernel
theorem dX7_priceAt_74 : decode cX7_priceAt 74 = .ok (.getfield 38, 3) := by decide +kernel
theorem dX7_priceAt_77 : decode cX7_priceAt 77 = .ok (.iload_n 1, 1) := by decide +kernel
theorem dX7_priceAt_78 : decode cX7_priceAt 78 = .ok (.iload 4, 2) := by decide +kernel
theorem dX7_priceAt_80 : decode cX7_priceAt 80 = .ok (.iload 5, 2) := by decide +kernel
theorem dX7_priceAt_82 : decode cX7_priceAt 82 = .ok (.invokevirtual 176, 3) := by decide +kernel
theorem dX7_priceAt_85 : decode cX7_priceAt 85 = .ok (.ifCond .eq 7, 3) := by decide +kernel
theorem dX7_priceAt_88 : decode cX7_priceAt 88 = .ok (.iconst (-1), 1) := by decide +kernel
theorem dX7_priceAt_89 : decode cX7_priceAt 89 = .ok (.goto 34, 3) := by decide +kernel
theorem dX7_priceAt_92 : decode cX7_priceAt 92 = .ok (.aload_n 0, 1) := by decide +kernel
theorem dX7_priceAt_93 : decode cX7_priceAt 93 = .ok (.getfield 131, 3) := by decide +kernel
theorem dX7_priceAt_96 : decode cX7_priceAt 96 = .ok (.ifCond .eq 26, 3) := by decide +kernel
theorem dX7_priceAt_99 : decode cX7_priceAt 99 = .ok (.aload_n 0, 1) := by decide +kernel
theorem dX7_priceAt_100 : decode cX7_priceAt 100 = .ok (.getfield 46, 3) := by decide +kernel
theorem dX7_priceAt_103 : decode cX7_priceAt 103 = .ok (.aload_n 0, 1) := by decide +kernel
theorem dX7_priceAt_104 : decode cX7_priceAt 104 = .ok (.getfield 42, 3) := by decide +kernel
theorem dX7_priceAt_107 : decode cX7_priceAt 107 = .ok (.aload_n 0, 1) := by decide +kernel
theorem dX7_priceAt_108 : decode cX7_priceAt 108 = .ok (.getfield 38, 3) := by decide +kernel
theorem dX7_priceAt_111 : decode cX7_priceAt 111 = .ok (.iload_n 1, 1) := by decide +kernel
theorem dX7_priceAt_112 : decode cX7_priceAt 112 = .ok (.iload 4, 2) := by decide +kernel
theorem dX7_priceAt_114 : decode cX7_priceAt 114 = .ok (.iload 5, 2) := by decide +kernel
theorem dX7_priceAt_116 : decode cX7_priceAt 116 = .ok (.invokevirtual 182, 3) := by decide +kernel
theorem dX7_priceAt_119 : decode cX7_priceAt 119 = .ok (.goto 4, 3) := by decide +kernel
theorem dX7_priceAt_122 : decode cX7_priceAt 122 = .ok (.iconst 0, 1) := by decide +kernel
theorem dX7_priceAt_123 : decode cX7_priceAt 123 = .ok (.iastore, 1) := by decide +kernel
theorem dX7_priceAt_124 : decode cX7_priceAt 124 = .ok (.aload_n 0, 1) := by decide +kernel
theorem dX7_priceAt_125 : decode cX7_priceAt 125 = .ok (.getfield 18, 3) := by decide +kernel
theorem dX7_priceAt_128 : decode cX7_priceAt 128 = .ok (.iload_n 3, 1) := by decide +kernel
theorem dX7_priceAt_129 : decode cX7_priceAt 129 = .ok (.iaload, 1) := by decide +kernel
theorem dX7_priceAt_130 : decode cX7_priceAt 130 = .ok (.ireturn, 1) := by decide +kernel
theorem dX7_keyWith_0 : decode cX7_keyWith 0 = .ok (.iload 4, 2) := by decide +kernel
theorem dX7_keyWith_2 : decode cX7_keyWith 2 = .ok (.bipush 12, 2) := by decide +kernel
theorem dX7_keyWith_4 : decode cX7_keyWith 4 = .ok (.irem, 1) := by decide +kernel
theorem dX7_keyWith_5 : decode cX7_keyWith 5 = .ok (.istore 5, 2) := by decide +kernel
theorem dX7_keyWith_7 : decode cX7_keyWith 7 = .ok (.iload 4, 2) := by decide +kernel
theorem dX7_keyWith_9 : decode cX7_keyWith 9 = .ok (.bipush 12, 2) := by decide +kernel
theorem dX7_keyWith_11 : decode cX7_keyWith 11 = .ok (.idiv, 1) := by decide +kernel
theorem dX7_keyWith_12 : decode cX7_keyWith 12 = .ok (.aload_n 0, 1) := by decide +kernel
theorem dX7_keyWith_13 : decode cX7_keyWith 13 = .ok (.getfield 38, 3) := by decide +kernel
theorem dX7_keyWith_16 : decode cX7_keyWith 16 = .ok (.getfield 87, 3) := by decide +kernel
theorem dX7_keyWith_19 : decode cX7_keyWith 19 = .ok (.iload_n 3, 1) := by decide +kernel
theorem dX7_keyWith_20 : decode cX7_keyWith 20 = .ok (.iaload, 1) := by decide +kernel
theorem dX7_keyWith_21 : decode cX7_keyWith 21 = .ok (.iadd, 1) := by decide +kernel
theorem dX7_keyWith_22 : decode cX7_keyWith 22 = .ok (.i2l, 1) := by decide +kernel
theorem dX7_keyWith_23 : decode cX7_keyWith 23 = .ok (.lstore 6, 2) := by decide +kernel
theorem dX7_keyWith_25 : decode cX7_keyWith 25 = .ok (.lconst 1, 1) := by decide +kernel
theorem dX7_keyWith_26 : decode cX7_keyWith 26 = .ok (.iconst 4, 1) := by decide +kernel
theorem dX7_keyWith_27 : decode cX7_keyWith 27 = .ok (.aload_n 0, 1) := by decide +kernel
theorem dX7_keyWith_28 : decode cX7_keyWith 28 = .ok (.getfield 38, 3) := by decide +kernel
theorem dX7_keyWith_31 : decode cX7_keyWith 31 = .ok (.getfield 87, 3) := by decide +kernel
theorem dX7_keyWith_34 : decode cX7_keyWith 34 = .ok (.iload_n 3, 1) := by decide +kernel
theorem dX7_keyWith_35 : decode cX7_keyWith 35 = .ok (.iaload, 1) := by decide +kernel
theorem dX7_keyWith_36 : decode cX7_keyWith 36 = .ok (.imul, 1) := by decide +kernel
theorem dX7_keyWith_37 : decode cX7_keyWith 37 = .ok (.lshl, 1) := by decide +kernel
theorem dX7_keyWith_38 : decode cX7_keyWith 38 = .ok (.lconst 1, 1) := by decide +kernel
theorem dX7_keyWith_39 : decode cX7_keyWith 39 = .ok (.lsub, 1) := by decide +kernel
theorem dX7_keyWith_40 : decode cX7_keyWith 40 = .ok (.iconst 4, 1) := by decide +kernel
theorem dX7_keyWith_41 : decode cX7_keyWith 41 = .ok (.iload 5, 2) := by decide +kernel
theorem dX7_keyWith_43 : decode cX7_keyWith 43 = .ok (.imul, 1) := by decide +kernel
theorem dX7_keyWith_44 : decode cX7_keyWith 44 = .ok (.lshl, 1) := by decide +kernel
theorem dX7_keyWith_45 : decode cX7_keyWith 45 = .ok (.lstore 8, 2) := by decide +kernel
theorem dX7_keyWith_47 : decode cX7_keyWith 47 = .ok (.lload_n 1, 1) := by decide +kernel
theorem dX7_keyWith_48 : decode cX7_keyWith 48 = .ok (.lload 8, 2) := by decide +kernel
theorem dX7_keyWith_50 : decode cX7_keyWith 50 = .ok (.ldc2_w 186, 3) := by decide +kernel
theorem dX7_keyWith_53 : decode cX7_keyWith 53 = .ok (.lxor, 1) := by decide +kernel
theorem dX7_keyWith_54 : decode cX7_keyWith 54 = .ok (.land, 1) := by decide +kernel
theorem dX7_keyWith_55 : decode cX7_keyWith 55 = .ok (.lload 6, 2) := by decide +kernel
theorem dX7_keyWith_57 : decode cX7_keyWith 57 = .ok (.ldc2_w 188, 3) := by decide +kernel
theorem dX7_keyWith_60 : decode cX7_keyWith 60 = .ok (.lmul, 1) := by decide +kernel
theorem dX7_keyWith_61 : decode cX7_keyWith 61 = .ok (.iconst 4, 1) := by decide +kernel
theorem dX7_keyWith_62 : decode cX7_keyWith 62 = .ok (.iload 5, 2) := by decide +kernel
theorem dX7_keyWith_64 : decode cX7_keyWith 64 = .ok (.imul, 1) := by decide +kernel
theorem dX7_keyWith_65 : decode cX7_keyWith 65 = .ok (.lshl, 1) := by decide +kernel
theorem dX7_keyWith_66 : decode cX7_keyWith 66 = .ok (.lload 8, 2) := by decide +kernel
theorem dX7_keyWith_68 : decode cX7_keyWith 68 = .ok (.land, 1) := by decide +kernel
theorem dX7_keyWith_69 : decode cX7_keyWith 69 = .ok (.lor, 1) := by decide +kernel
theorem dX7_keyWith_70 : decode cX7_keyWith 70 = .ok (.lconst 1, 1) := by decide +kernel
theorem dX7_keyWith_71 : decode cX7_keyWith 71 = .ok (.bipush 48, 2) := by decide +kernel
theorem dX7_keyWith_73 : decode cX7_keyWith 73 = .ok (.iload_n 3, 1) := by decide +kernel
theorem dX7_keyWith_74 : decode cX7_keyWith 74 = .ok (.iadd, 1) := by decide +kernel
theorem dX7_keyWith_75 : decode cX7_keyWith 75 = .ok (.lshl, 1) := by decide +kernel
theorem dX7_keyWith_76 : decode cX7_keyWith 76 = .ok (.lor, 1) := by decide +kernel
theorem dX7_keyWith_77 : decode cX7_keyWith 77 = .ok (.lreturn, 1) := by decide +kernel
theorem dX7_tallyFills_0 : decode cX7_tallyFills 0 = .ok (.aload_n 0, 1) := by decide +kernel
theorem dX7_tallyFills_1 : decode cX7_tallyFills 1 = .ok (.getfield 25, 3) := by decide +kernel
theorem dX7_tallyFills_4 : decode cX7_tallyFills 4 = .ok (.iconst 0, 1) := by decide +kernel
theorem dX7_tallyFills_5 : decode cX7_tallyFills 5 = .ok (.invokestatic 190, 3) := by decide +kernel
theorem dX7_tallyFills_8 : decode cX7_tallyFills 8 = .ok (.aload_n 0, 1) := by decide +kernel
theorem dX7_tallyFills_9 : decode cX7_tallyFills 9 = .ok (.getfield 12, 3) := by decide +kernel
theorem dX7_tallyFills_12 : decode cX7_tallyFills 12 = .ok (.getfield 196, 3) := by decide +kernel
theorem dX7_tallyFills_15 : decode cX7_tallyFills 15 = .ok (.ifCond .eq 16, 3) := by decide +kernel
theorem dX7_tallyFills_18 : decode cX7_tallyFills 18 = .ok (.aload_n 0, 1) := by decide +kernel
theorem dX7_tallyFills_19 : decode cX7_tallyFills 19 = .ok (.lconst 0, 1) := by decide +kernel
theorem dX7_tallyFills_20 : decode cX7_tallyFills 20 = .ok (.aload_n 0, 1) := by decide +kernel
theorem dX7_tallyFills_21 : decode cX7_tallyFills 21 = .ok (.getfield 63, 3) := by decide +kernel
theorem dX7_tallyFills_24 : decode cX7_tallyFills 24 = .ok (.iconst 0, 1) := by decide +kernel
theorem dX7_tallyFills_25 : decode cX7_tallyFills 25 = .ok (.iconst 0, 1) := by decide +kernel
theorem dX7_tallyFills_26 : decode cX7_tallyFills 26 = .ok (.invokevirtual 199, 3) := by decide +kernel
theorem dX7_tallyFills_29 : decode cX7_tallyFills 29 = .ok (.pop, 1) := by decide +kernel
theorem dX7_tallyFills_30 : decode cX7_tallyFills 30 = .ok (.return_, 1) := by decide +kernel
theorem dX7_tallyFills_31 : decode cX7_tallyFills 31 = .ok (.aload_n 0, 1) := by decide +kernel
theorem dX7_tallyFills_32 : decode cX7_tallyFills 32 = .ok (.getfield 12, 3) := by decide +kernel
theorem dX7_tallyFills_35 : decode cX7_tallyFills 35 = .ok (.aload_n 0, 1) := by decide +kernel
theorem dX7_tallyFills_36 : decode cX7_tallyFills 36 = .ok (.getfield 12, 3) := by decide +kernel
theorem dX7_tallyFills_39 : decode cX7_tallyFills 39 = .ok (.lconst 0, 1) := by decide +kernel
theorem dX7_tallyFills_40 : decode cX7_tallyFills 40 = .ok (.invokevirtual 145, 3) := by decide +kernel
theorem dX7_tallyFills_43 : decode cX7_tallyFills 43 = .ok (.iconst 1, 1) := by decide +kernel
theorem dX7_tallyFills_44 : decode cX7_tallyFills 44 = .ok (.invokevirtual 202, 3) := by decide +kernel
theorem dX7_tallyFills_47 : decode cX7_tallyFills 47 = .ok (.aload_n 0, 1) := by decide +kernel
theorem dX7_tallyFills_48 : decode cX7_tallyFills 48 = .ok (.getfield 12, 3) := by decide +kernel
theorem dX7_tallyFills_51 : decode cX7_tallyFills 51 = .ok (.getfield 206, 3) := by decide +kernel
theorem dX7_tallyFills_54 : decode cX7_tallyFills 54 = .ok (.iconst 1, 1) := by decide +kernel
theorem dX7_tallyFills_55 : decode cX7_tallyFills 55 = .ok (.isub, 1) := by decide +kernel
theorem dX7_tallyFills_56 : decode cX7_tallyFills 56 = .ok (.istore_n 1, 1) := by decide +kernel
theorem dX7_tallyFills_57 : decode cX7_tallyFills 57 = .ok (.iload_n 1, 1) := by decide +kernel
theorem dX7_tallyFills_58 : decode cX7_tallyFills 58 = .ok (.ifCond .lt 60, 3) := by decide +kernel
theorem dX7_tallyFills_61 : decode cX7_tallyFills 61 = .ok (.aload_n 0, 1) := by decide +kernel
theorem dX7_tallyFills_62 : decode cX7_tallyFills 62 = .ok (.getfield 12, 3) := by decide +kernel
theorem dX7_tallyFills_65 : decode cX7_tallyFills 65 = .ok (.iload_n 1, 1) := by decide +kernel
theorem dX7_tallyFills_66 : decode cX7_tallyFills 66 = .ok (.invokevirtual 209, 3) := by decide +kernel
theorem dX7_tallyFills_69 : decode cX7_tallyFills 69 = .ok (.istore_n 2, 1) := by decide +kernel
theorem dX7_tallyFills_70 : decode cX7_tallyFills 70 = .ok (.aload_n 0, 1) := by decide +kernel
theorem dX7_tallyFills_71 : decode cX7_tallyFills 71 = .ok (.getfield 12, 3) := by decide +kernel
theorem dX7_tallyFills_74 : decode cX7_tallyFills 74 = .ok (.iload_n 2, 1) := by decide +kernel
theorem dX7_tallyFills_75 : decode cX7_tallyFills 75 = .ok (.invokevirtual 212, 3) := by decide +kernel
theorem dX7_tallyFills_78 : decode cX7_tallyFills 78 = .ok (.ifCond .le 34, 3) := by decide +kernel
theorem dX7_tallyFills_81 : decode cX7_tallyFills 81 = .ok (.aload_n 0, 1) := by decide +kernel
theorem dX7_tallyFills_82 : decode cX7_tallyFills 82 = .ok (.getfield 12, 3) := by decide +kernel
theorem dX7_tallyFills_85 : decode cX7_tallyFills 85 = .ok (.iload_n 2, 1) := by decide +kernel
theorem dX7_tallyFills_86 : decode cX7_tallyFills 86 = .ok (.invokevirtual 149, 3) := by decide +kernel
theorem dX7_tallyFills_89 : decode cX7_tallyFills 89 = .ok (.ifCond .le 23, 3) := by decide +kernel
theorem dX7_tallyFills_92 : decode cX7_tallyFills 92 = .ok (.aload_n 0, 1) := by decide +kernel
theorem dX7_tallyFills_93 : decode cX7_tallyFills 93 = .ok (.aload_n 0, 1) := by decide +kernel
theorem dX7_tallyFills_94 : decode cX7_tallyFills 94 = .ok (.getfield 12, 3) := by decide +kernel
theorem dX7_tallyFills_97 : decode cX7_tallyFills 97 = .ok (.iload_n 2, 1) := by decide +kernel
theorem dX7_tallyFills_98 : decode cX7_tallyFills 98 = .ok (.invokevirtual 215, 3) := by decide +kernel
theorem dX7_tallyFills_101 : decode cX7_tallyFills 101 = .ok (.aload_n 0, 1) := by decide +kernel
theorem dX7_tallyFills_102 : decode cX7_tallyFills 102 = .ok (.getfield 12, 3) := by decide +kernel
theorem dX7_tallyFills_105 : decode cX7_tallyFills 105 = .ok (.iload_n 2, 1) := by decide +kernel
theorem dX7_tallyFills_106 : decode cX7_tallyFills 106 = .ok (.invokevirtual 212, 3) := by decide +kernel
theorem dX7_tallyFills_109 : decode cX7_tallyFills 109 = .ok (.invokevirtual 219, 3) := by decide +kernel
theorem dX7_tallyFills_112 : decode cX7_tallyFills 112 = .ok (.iinc 1 (-1), 3) := by decide +kernel
theorem dX7_tallyFills_115 : decode cX7_tallyFills 115 = .ok (.goto (-58), 3) := by decide +kernel
theorem dX7_tallyFills_118 : decode cX7_tallyFills 118 = .ok (.return_, 1) := by decide +kernel
end
section
theorem dX7_tallyKey_0 : decode cX7_tallyKey 0 = .ok (.aload_n 0, 1) := by decide +kernel
theorem dX7_tallyKey_1 : decode cX7_tallyKey 1 = .ok (.lload_n 1, 1) := by decide +kernel
theorem dX7_tallyKey_2 : decode cX7_tallyKey 2 = .ok (.iconst 0, 1) := by decide +kernel
theorem dX7_tallyKey_3 : decode cX7_tallyKey 3 = .ok (.invokevirtual 104, 3) := by decide +kernel
theorem dX7_tallyKey_6 : decode cX7_tallyKey 6 = .ok (.istore 4, 2) := by decide +kernel
theorem dX7_tallyKey_8 : decode cX7_tallyKey 8 = .ok (.iconst 0, 1) := by decide +kernel
theorem dX7_tallyKey_9 : decode cX7_tallyKey 9 = .ok (.istore 5, 2) := by decide +kernel
theorem dX7_tallyKey_11 : decode cX7_tallyKey 11 = .ok (.iload 5, 2) := by decide +kernel
theorem dX7_tallyKey_13 : decode cX7_tallyKey 13 = .ok (.aload_n 0, 1) := by decide +kernel
theorem dX7_tallyKey_14 : decode cX7_tallyKey 14 = .ok (.getfield 38, 3) := by decide +kernel
theorem dX7_tallyKey_17 : decode cX7_tallyKey 17 = .ok (.getfield 123, 3) := by decide +kernel
theorem dX7_tallyKey_20 : decode cX7_tallyKey 20 = .ok (.if_icmp .ge 101, 3) := by decide +kernel
theorem dX7_tallyKey_23 : decode cX7_tallyKey 23 = .ok (.aload_n 0, 1) := by decide +kernel
theorem dX7_tallyKey_24 : decode cX7_tallyKey 24 = .ok (.lload_n 1, 1) := by decide +kernel
theorem dX7_tallyKey_25 : decode cX7_tallyKey 25 = .ok (.iload 5, 2) := by decide +kernel
theorem dX7_tallyKey_27 : decode cX7_tallyKey 27 = .ok (.iload 4, 2) := by decide +kernel
theorem dX7_tallyKey_29 : decode cX7_tallyKey 29 = .ok (.invokevirtual 108, 3) := by decide +kernel
theorem dX7_tallyKey_32 : decode cX7_tallyKey 32 = .ok (.ifCond .eq 83, 3) := by decide +kernel
theorem dX7_tallyKey_35 : decode cX7_tallyKey 35 = .ok (.aload_n 0, 1) := by decide +kernel
theorem dX7_tallyKey_36 : decode cX7_tallyKey 36 = .ok (.iload 5, 2) := by decide +kernel
theorem dX7_tallyKey_38 : decode cX7_tallyKey 38 = .ok (.iload 4, 2) := by decide +kernel
theorem dX7_tallyKey_40 : decode cX7_tallyKey 40 = .ok (.invokevirtual 112, 3) := by decide +kernel
theorem dX7_tallyKey_43 : decode cX7_tallyKey 43 = .ok (.iconst (-1), 1) := by decide +kernel
theorem dX7_tallyKey_44 : decode cX7_tallyKey 44 = .ok (.if_icmp .ne 6, 3) := by decide +kernel
theorem dX7_tallyKey_47 : decode cX7_tallyKey 47 = .ok (.goto 68, 3) := by decide +kernel
theorem dX7_tallyKey_50 : decode cX7_tallyKey 50 = .ok (.aload_n 0, 1) := by decide +kernel
theorem dX7_tallyKey_51 : decode cX7_tallyKey 51 = .ok (.getfield 12, 3) := by decide +kernel
theorem dX7_tallyKey_54 : decode cX7_tallyKey 54 = .ok (.aload_n 0, 1) := by decide +kernel
theorem dX7_tallyKey_55 : decode cX7_tallyKey 55 = .ok (.lload_n 1, 1) := by decide +kernel
theorem dX7_tallyKey_56 : decode cX7_tallyKey 56 = .ok (.iload 5, 2) := by decide +kernel
theorem dX7_tallyKey_58 : decode cX7_tallyKey 58 = .ok (.iload 4, 2) := by decide +kernel
theorem dX7_tallyKey_60 : decode cX7_tallyKey 60 = .ok (.invokevirtual 152, 3) := by decide +kernel
theorem dX7_tallyKey_63 : decode cX7_tallyKey 63 = .ok (.invokevirtual 145, 3) := by decide +kernel
theorem dX7_tallyKey_66 : decode cX7_tallyKey 66 = .ok (.istore 6, 2) := by decide +kernel
theorem dX7_tallyKey_68 : decode cX7_tallyKey 68 = .ok (.iload 6, 2) := by decide +kernel
theorem dX7_tallyKey_70 : decode cX7_tallyKey 70 = .ok (.iconst (-1), 1) := by decide +kernel
theorem dX7_tallyKey_71 : decode cX7_tallyKey 71 = .ok (.if_icmp .ne 15, 3) := by decide +kernel
theorem dX7_tallyKey_74 : decode cX7_tallyKey 74 = .ok (.aload_n 0, 1) := by decide +kernel
theorem dX7_tallyKey_75 : decode cX7_tallyKey 75 = .ok (.iload 5, 2) := by decide +kernel
theorem dX7_tallyKey_77 : decode cX7_tallyKey 77 = .ok (.iload 4, 2) := by decide +kernel
theorem dX7_tallyKey_79 : decode cX7_tallyKey 79 = .ok (.iload_n 3, 1) := by decide +kernel
theorem dX7_tallyKey_80 : decode cX7_tallyKey 80 = .ok (.invokevirtual 222, 3) := by decide +kernel
theorem dX7_tallyKey_83 : decode cX7_tallyKey 83 = .ok (.goto 32, 3) := by decide +kernel
theorem dX7_tallyKey_86 : decode cX7_tallyKey 86 = .ok (.aload_n 0, 1) := by decide +kernel
theorem dX7_tallyKey_87 : decode cX7_tallyKey 87 = .ok (.getfield 12, 3) := by decide +kernel
theorem dX7_tallyKey_90 : decode cX7_tallyKey 90 = .ok (.iload 6, 2) := by decide +kernel
theorem dX7_tallyKey_92 : decode cX7_tallyKey 92 = .ok (.iload_n 3, 1) := by decide +kernel
theorem dX7_tallyKey_93 : decode cX7_tallyKey 93 = .ok (.invokevirtual 202, 3) := by decide +kernel
theorem dX7_tallyKey_96 : decode cX7_tallyKey 96 = .ok (.aload_n 0, 1) := by decide +kernel
theorem dX7_tallyKey_97 : decode cX7_tallyKey 97 = .ok (.iload 5, 2) := by decide +kernel
theorem dX7_tallyKey_99 : decode cX7_tallyKey 99 = .ok (.iload 4, 2) := by decide +kernel
theorem dX7_tallyKey_101 : decode cX7_tallyKey 101 = .ok (.iload_n 3, 1) := by decide +kernel
theorem dX7_tallyKey_102 : decode cX7_tallyKey 102 = .ok (.aload_n 0, 1) := by decide +kernel
theorem dX7_tallyKey_103 : decode cX7_tallyKey 103 = .ok (.getfield 12, 3) := by decide +kernel
theorem dX7_tallyKey_106 : decode cX7_tallyKey 106 = .ok (.iload 6, 2) := by decide +kernel
theorem dX7_tallyKey_108 : decode cX7_tallyKey 108 = .ok (.invokevirtual 149, 3) := by decide +kernel
theorem dX7_tallyKey_111 : decode cX7_tallyKey 111 = .ok (.imul, 1) := by decide +kernel
theorem dX7_tallyKey_112 : decode cX7_tallyKey 112 = .ok (.invokevirtual 222, 3) := by decide +kernel
theorem dX7_tallyKey_115 : decode cX7_tallyKey 115 = .ok (.iinc 5 1, 3) := by decide +kernel
theorem dX7_tallyKey_118 : decode cX7_tallyKey 118 = .ok (.goto (-107), 3) := by decide +kernel
theorem dX7_tallyKey_121 : decode cX7_tallyKey 121 = .ok (.return_, 1) := by decide +kernel
theorem dX7_tallyRow_0 : decode cX7_tallyRow 0 = .ok (.iload_n 3, 1) := by decide +kernel
theorem dX7_tallyRow_1 : decode cX7_tallyRow 1 = .ok (.ifCond .ne 5, 3) := by decide +kernel
theorem dX7_tallyRow_4 : decode cX7_tallyRow 4 = .ok (.iconst 1, 1) := by decide +kernel
theorem dX7_tallyRow_5 : decode cX7_tallyRow 5 = .ok (.ireturn, 1) := by decide +kernel
theorem dX7_tallyRow_6 : decode cX7_tallyRow 6 = .ok (.aload_n 0, 1) := by decide +kernel
theorem dX7_tallyRow_7 : decode cX7_tallyRow 7 = .ok (.lload_n 1, 1) := by decide +kernel
theorem dX7_tallyRow_8 : decode cX7_tallyRow 8 = .ok (.iload 4, 2) := by decide +kernel
theorem dX7_tallyRow_10 : decode cX7_tallyRow 10 = .ok (.invokevirtual 104, 3) := by decide +kernel
theorem dX7_tallyRow_13 : decode cX7_tallyRow 13 = .ok (.istore 6, 2) := by decide +kernel
theorem dX7_tallyRow_15 : decode cX7_tallyRow 15 = .ok (.iconst 0, 1) := by decide +kernel
theorem dX7_tallyRow_16 : decode cX7_tallyRow 16 = .ok (.istore 7, 2) := by decide +kernel
theorem dX7_tallyRow_18 : decode cX7_tallyRow 18 = .ok (.iconst 0, 1) := by decide +kernel
theorem dX7_tallyRow_19 : decode cX7_tallyRow 19 = .ok (.istore 8, 2) := by decide +kernel
theorem dX7_tallyRow_21 : decode cX7_tallyRow 21 = .ok (.iload 8, 2) := by decide +kernel
theorem dX7_tallyRow_23 : decode cX7_tallyRow 23 = .ok (.aload_n 0, 1) := by decide +kernel
theorem dX7_tallyRow_24 : decode cX7_tallyRow 24 = .ok (.getfield 38, 3) := by decide +kernel
theorem dX7_tallyRow_27 : decode cX7_tallyRow 27 = .ok (.getfield 123, 3) := by decide +kernel
theorem dX7_tallyRow_30 : decode cX7_tallyRow 30 = .ok (.if_icmp .ge 104, 3) := by decide +kernel
theorem dX7_tallyRow_33 : decode cX7_tallyRow 33 = .ok (.iload 5, 2) := by decide +kernel
theorem dX7_tallyRow_35 : decode cX7_tallyRow 35 = .ok (.bipush 9, 2) := by decide +kernel
theorem dX7_tallyRow_37 : decode cX7_tallyRow 37 = .ok (.if_icmp .ge 97, 3) := by decide +kernel
theorem dX7_tallyRow_40 : decode cX7_tallyRow 40 = .ok (.aload_n 0, 1) := by decide +kernel
theorem dX7_tallyRow_41 : decode cX7_tallyRow 41 = .ok (.lload_n 1, 1) := by decide +kernel
theorem dX7_tallyRow_42 : decode cX7_tallyRow 42 = .ok (.iload 8, 2) := by decide +kernel
theorem dX7_tallyRow_44 : decode cX7_tallyRow 44 = .ok (.iload 6, 2) := by decide +kernel
theorem dX7_tallyRow_46 : decode cX7_tallyRow 46 = .ok (.invokevirtual 108, 3) := by decide +kernel
theorem dX7_tallyRow_49 : decode cX7_tallyRow 49 = .ok (.ifCond .eq 79, 3) := by decide +kernel
theorem dX7_tallyRow_52 : decode cX7_tallyRow 52 = .ok (.aload_n 0, 1) := by decide +kernel
theorem dX7_tallyRow_53 : decode cX7_tallyRow 53 = .ok (.iload 8, 2) := by decide +kernel
theorem dX7_tallyRow_55 : decode cX7_tallyRow 55 = .ok (.iload 6, 2) := by decide +kernel
theorem dX7_tallyRow_57 : decode cX7_tallyRow 57 = .ok (.invokevirtual 112, 3) := by decide +kernel
theorem dX7_tallyRow_60 : decode cX7_tallyRow 60 = .ok (.iconst (-1), 1) := by decide +kernel
theorem dX7_tallyRow_61 : decode cX7_tallyRow 61 = .ok (.if_icmp .ne 6, 3) := by decide +kernel
theorem dX7_tallyRow_64 : decode cX7_tallyRow 64 = .ok (.goto 64, 3) := by decide +kernel
theorem dX7_tallyRow_67 : decode cX7_tallyRow 67 = .ok (.aload_n 0, 1) := by decide +kernel
theorem dX7_tallyRow_68 : decode cX7_tallyRow 68 = .ok (.aload_n 0, 1) := by decide +kernel
theorem dX7_tallyRow_69 : decode cX7_tallyRow 69 = .ok (.lload_n 1, 1) := by decide +kernel
theorem dX7_tallyRow_70 : decode cX7_tallyRow 70 = .ok (.iload 8, 2) := by decide +kernel
theorem dX7_tallyRow_72 : decode cX7_tallyRow 72 = .ok (.iload 6, 2) := by decide +kernel
theorem dX7_tallyRow_74 : decode cX7_tallyRow 74 = .ok (.invokevirtual 152, 3) := by decide +kernel
theorem dX7_tallyRow_77 : decode cX7_tallyRow 77 = .ok (.iload_n 3, 1) := by decide +kernel
theorem dX7_tallyRow_78 : decode cX7_tallyRow 78 = .ok (.aload_n 0, 1) := by decide +kernel
theorem dX7_tallyRow_79 : decode cX7_tallyRow 79 = .ok (.getfield 38, 3) := by decide +kernel
theorem dX7_tallyRow_82 : decode cX7_tallyRow 82 = .ok (.getfield 87, 3) := by decide +kernel
theorem dX7_tallyRow_85 : decode cX7_tallyRow 85 = .ok (.iload 8, 2) := by decide +kernel
theorem dX7_tallyRow_87 : decode cX7_tallyRow 87 = .ok (.iaload, 1) := by decide +kernel
theorem dX7_tallyRow_88 : decode cX7_tallyRow 88 = .ok (.aload_n 0, 1) := by decide +kernel
theorem dX7_tallyRow_89 : decode cX7_tallyRow 89 = .ok (.getfield 38, 3) := by decide +kernel
theorem dX7_tallyRow_92 : decode cX7_tallyRow 92 = .ok (.getfield 87, 3) := by decide +kernel
theorem dX7_tallyRow_95 : decode cX7_tallyRow 95 = .ok (.iload 8, 2) := by decide +kernel
theorem dX7_tallyRow_97 : decode cX7_tallyRow 97 = .ok (.iaload, 1) := by decide +kernel
theorem dX7_tallyRow_98 : decode cX7_tallyRow 98 = .ok (.imul, 1) := by decide +kernel
theorem dX7_tallyRow_99 : decode cX7_tallyRow 99 = .ok (.isub, 1) := by decide +kernel
theorem dX7_tallyRow_100 : decode cX7_tallyRow 100 = .ok (.iload 6, 2) := by decide +kernel
theorem dX7_tallyRow_102 : decode cX7_tallyRow 102 = .ok (.iload 5, 2) := by decide +kernel
theorem dX7_tallyRow_104 : decode cX7_tallyRow 104 = .ok (.iconst 1, 1) := by decide +kernel
theorem dX7_tallyRow_105 : decode cX7_tallyRow 105 = .ok (.iadd, 1) := by decide +kernel
theorem dX7_tallyRow_106 : decode cX7_tallyRow 106 = .ok (.invokevirtual 199, 3) := by decide +kernel
theorem dX7_tallyRow_109 : decode cX7_tallyRow 109 = .ok (.istore 9, 2) := by decide +kernel
theorem dX7_tallyRow_111 : decode cX7_tallyRow 111 = .ok (.aload_n 0, 1) := by decide +kernel
theorem dX7_tallyRow_112 : decode cX7_tallyRow 112 = .ok (.iload 8, 2) := by decide +kernel
theorem dX7_tallyRow_114 : decode cX7_tallyRow 114 = .ok (.iload 6, 2) := by decide +kernel
theorem dX7_tallyRow_116 : decode cX7_tallyRow 116 = .ok (.iload 9, 2) := by decide +kernel
theorem dX7_tallyRow_118 : decode cX7_tallyRow 118 = .ok (.invokevirtual 222, 3) := by decide +kernel
theorem dX7_tallyRow_121 : decode cX7_tallyRow 121 = .ok (.iload 7, 2) := by decide +kernel
theorem dX7_tallyRow_123 : decode cX7_tallyRow 123 = .ok (.iload 9, 2) := by decide +kernel
theorem dX7_tallyRow_125 : decode cX7_tallyRow 125 = .ok (.iadd, 1) := by decide +kernel
theorem dX7_tallyRow_126 : decode cX7_tallyRow 126 = .ok (.istore 7, 2) := by decide +kernel
theorem dX7_tallyRow_128 : decode cX7_tallyRow 128 = .ok (.iinc 8 1, 3) := by decide +kernel
theorem dX7_tallyRow_131 : decode cX7_tallyRow 131 = .ok (.goto (-110), 3) := by decide +kernel
theorem dX7_tallyRow_134 : decode cX7_tallyRow 134 = .ok (.iload 7, 2) := by decide +kernel
theorem dX7_tallyRow_136 : decode cX7_tallyRow 136 = .ok (.ireturn, 1) := by decide +kernel
theorem dX7_addToTally_0 : decode cX7_addToTally 0 = .ok (.aload_n 0, 1) := by decide +kernel
theorem dX7_addToTally_1 : decode cX7_addToTally 1 = .ok (.getfield 38, 3) := by decide +kernel
theorem dX7_addToTally_4 : decode cX7_addToTally 4 = .ok (.getfield 87, 3) := by decide +kernel
theorem dX7_addToTally_7 : decode cX7_addToTally 7 = .ok (.iload_n 1, 1) := by decide +kernel
theorem dX7_addToTally_8 : decode cX7_addToTally 8 = .ok (.iaload, 1) := by decide +kernel
theorem dX7_addToTally_9 : decode cX7_addToTally 9 = .ok (.istore 4, 2) := by decide +kernel
theorem dX7_addToTally_11 : decode cX7_addToTally 11 = .ok (.iconst 0, 1) := by decide +kernel
theorem dX7_addToTally_12 : decode cX7_addToTally 12 = .ok (.istore 5, 2) := by decide +kernel
theorem dX7_addToTally_14 : decode cX7_addToTally 14 = .ok (.iload 5, 2) := by decide +kernel
theorem dX7_addToTally_16 : decode cX7_addToTally 16 = .ok (.iload 4, 2) := by decide +kernel
theorem dX7_addToTally_18 : decode cX7_addToTally 18 = .ok (.if_icmp .ge 54, 3) := by decide +kernel
theorem dX7_addToTally_21 : decode cX7_addToTally 21 = .ok (.iload_n 3, 1) := by decide +kernel
theorem dX7_addToTally_22 : decode cX7_addToTally 22 = .ok (.ifCond .le 50, 3) := by decide +kernel
theorem dX7_addToTally_25 : decode cX7_addToTally 25 = .ok (.iconst 0, 1) := by decide +kernel
theorem dX7_addToTally_26 : decode cX7_addToTally 26 = .ok (.istore 6, 2) := by decide +kernel
theorem dX7_addToTally_28 : decode cX7_addToTally 28 = .ok (.iload 6, 2) := by decide +kernel
theorem dX7_addToTally_30 : decode cX7_addToTally 30 = .ok (.iload 4, 2) := by decide +kernel
theorem dX7_addToTally_32 : decode cX7_addToTally 32 = .ok (.if_icmp .ge 34, 3) := by decide +kernel
theorem dX7_addToTally_35 : decode cX7_addToTally 35 = .ok (.aload_n 0, 1) := by decide +kernel
theorem dX7_addToTally_36 : decode cX7_addToTally 36 = .ok (.getfield 25, 3) := by decide +kernel
theorem dX7_addToTally_39 : decode cX7_addToTally 39 = .ok (.iload_n 1, 1) := by decide +kernel
theorem dX7_addToTally_40 : decode cX7_addToTally 40 = .ok (.sipush 144, 3) := by decide +kernel
theorem dX7_addToTally_43 : decode cX7_addToTally 43 = .ok (.imul, 1) := by decide +kernel
theorem dX7_addToTally_44 : decode cX7_addToTally 44 = .ok (.iload_n 2, 1) := by decide +kernel
theorem dX7_addToTally_45 : decode cX7_addToTally 45 = .ok (.iadd, 1) := by decide +kernel
theorem dX7_addToTally_46 : decode cX7_addToTally 46 = .ok (.iload 5, 2) := by decide +kernel
theorem dX7_addToTally_48 : decode cX7_addToTally 48 = .ok (.bipush 12, 2) := by decide +kernel
theorem dX7_addToTally_50 : decode cX7_addToTally 50 = .ok (.imul, 1) := by decide +kernel
theorem dX7_addToTally_51 : decode cX7_addToTally 51 = .ok (.iadd, 1) := by decide +kernel
theorem dX7_addToTally_52 : decode cX7_addToTally 52 = .ok (.iload 6, 2) := by decide +kernel
theorem dX7_addToTally_54 : decode cX7_addToTally 54 = .ok (.iadd, 1) := by decide +kernel
theorem dX7_addToTally_55 : decode cX7_addToTally 55 = .ok (.dup2, 1) := by decide +kernel
theorem dX7_addToTally_56 : decode cX7_addToTally 56 = .ok (.iaload, 1) := by decide +kernel
theorem dX7_addToTally_57 : decode cX7_addToTally 57 = .ok (.iload_n 3, 1) := by decide +kernel
theorem dX7_addToTally_58 : decode cX7_addToTally 58 = .ok (.iadd, 1) := by decide +kernel
theorem dX7_addToTally_59 : decode cX7_addToTally 59 = .ok (.iastore, 1) := by decide +kernel
theorem dX7_addToTally_60 : decode cX7_addToTally 60 = .ok (.iinc 6 1, 3) := by decide +kernel
theorem dX7_addToTally_63 : decode cX7_addToTally 63 = .ok (.goto (-35), 3) := by decide +kernel
theorem dX7_addToTally_66 : decode cX7_addToTally 66 = .ok (.iinc 5 1, 3) := by decide +kernel
theorem dX7_addToTally_69 : decode cX7_addToTally 69 = .ok (.goto (-55), 3) := by decide +kernel
theorem dX7_addToTally_72 : decode cX7_addToTally 72 = .ok (.return_, 1) := by decide +kernel
theorem dX8_init_0 : decode cX8_init 0 = .ok (.aload_n 0, 1) := by decide +kernel
theorem dX8_init_1 : decode cX8_init 1 = .ok (.invokespecial 3, 3) := by decide +kernel
theorem dX8_init_4 : decode cX8_init 4 = .ok (.aload_n 0, 1) := by decide +kernel
theorem dX8_init_5 : decode cX8_init 5 = .ok (.new 9, 3) := by decide +kernel
theorem dX8_init_8 : decode cX8_init 8 = .ok (.dup, 1) := by decide +kernel
theorem dX8_init_9 : decode cX8_init 9 = .ok (.invokespecial 11, 3) := by decide +kernel
theorem dX8_init_12 : decode cX8_init 12 = .ok (.putfield 12, 3) := by decide +kernel
theorem dX8_init_15 : decode cX8_init 15 = .ok (.aload_n 0, 1) := by decide +kernel
theorem dX8_init_16 : decode cX8_init 16 = .ok (.bipush 6, 2) := by decide +kernel
theorem dX8_init_18 : decode cX8_init 18 = .ok (.anewarray 18, 3) := by decide +kernel
theorem dX8_init_21 : decode cX8_init 21 = .ok (.putfield 20, 3) := by decide +kernel
theorem dX8_init_24 : decode cX8_init 24 = .ok (.aload_n 0, 1) := by decide +kernel
theorem dX8_init_25 : decode cX8_init 25 = .ok (.bipush 6, 2) := by decide +kernel
theorem dX8_init_27 : decode cX8_init 27 = .ok (.newarray .int, 2) := by decide +kernel
theorem dX8_init_29 : decode cX8_init 29 = .ok (.putfield 24, 3) := by decide +kernel
theorem dX8_init_32 : decode cX8_init 32 = .ok (.aload_n 0, 1) := by decide +kernel
theorem dX8_init_33 : decode cX8_init 33 = .ok (.bipush 6, 2) := by decide +kernel
theorem dX8_init_35 : decode cX8_init 35 = .ok (.newarray .int, 2) := by decide +kernel
theorem dX8_init_37 : decode cX8_init 37 = .ok (.putfield 28, 3) := by decide +kernel
theorem dX8_init_40 : decode cX8_init 40 = .ok (.aload_n 0, 1) := by decide +kernel
theorem dX8_init_41 : decode cX8_init 41 = .ok (.bipush 6, 2) := by decide +kernel
theorem dX8_init_43 : decode cX8_init 43 = .ok (.newarray .int, 2) := by decide +kernel
theorem dX8_init_45 : decode cX8_init 45 = .ok (.putfield 31, 3) := by decide +kernel
theorem dX8_init_48 : decode cX8_init 48 = .ok (.aload_n 0, 1) := by decide +kernel
theorem dX8_init_49 : decode cX8_init 49 = .ok (.iconst 0, 1) := by decide +kernel
theorem dX8_init_50 : decode cX8_init 50 = .ok (.putfield 34, 3) := by decide +kernel
theorem dX8_init_53 : decode cX8_init 53 = .ok (.aload_n 0, 1) := by decide +kernel
theorem dX8_init_54 : decode cX8_init 54 = .ok (.iconst (-1), 1) := by decide +kernel
theorem dX8_init_55 : decode cX8_init 55 = .ok (.putfield 38, 3) := by decide +kernel
theorem dX8_init_58 : decode cX8_init 58 = .ok (.aload_n 0, 1) := by decide +kernel
theorem dX8_init_59 : decode cX8_init 59 = .ok (.iconst 0, 1) := by decide +kernel
theorem dX8_init_60 : decode cX8_init 60 = .ok (.putfield 41, 3) := by decide +kernel
theorem dX8_init_63 : decode cX8_init 63 = .ok (.iconst 0, 1) := by decide +kernel
theorem dX8_init_64 : decode cX8_init 64 = .ok (.istore_n 1, 1) := by decide +kernel
theorem dX8_init_65 : decode cX8_init 65 = .ok (.iload_n 1, 1) := by decide +kernel
theorem dX8_init_66 : decode cX8_init 66 = .ok (.bipush 6, 2) := by decide +kernel
theorem dX8_init_68 : decode cX8_init 68 = .ok (.if_icmp .ge 22, 3) := by decide +kernel
theorem dX8_init_71 : decode cX8_init 71 = .ok (.aload_n 0, 1) := by decide +kernel
theorem dX8_init_72 : decode cX8_init 72 = .ok (.getfield 20, 3) := by decide +kernel
theorem dX8_init_75 : decode cX8_init 75 = .ok (.iload_n 1, 1) := by decide +kernel
theorem dX8_init_76 : decode cX8_init 76 = .ok (.new 18, 3) := by decide +kernel
theorem dX8_init_79 : decode cX8_init 79 = .ok (.dup, 1) := by decide +kernel
theorem dX8_init_80 : decode cX8_init 80 = .ok (.invokespecial 44, 3) := by decide +kernel
theorem dX8_init_83 : decode cX8_init 83 = .ok (.aastore, 1) := by decide +kernel
theorem dX8_init_84 : decode cX8_init 84 = .ok (.iinc 1 1, 3) := by decide +kernel
theorem dX8_init_87 : decode cX8_init 87 = .ok (.goto (-22), 3) := by decide +kernel
theorem dX8_init_90 : decode cX8_init 90 = .ok (.return_, 1) := by decide +kernel
theorem dX8_lawOf_0 : decode cX8_lawOf 0 = .ok (.iload_n 1, 1) := by decide +kernel
theorem dX8_lawOf_1 : decode cX8_lawOf 1 = .ok (.ifCond .lt 20, 3) := by decide +kernel
theorem dX8_lawOf_4 : decode cX8_lawOf 4 = .ok (.iload_n 1, 1) := by decide +kernel
theorem dX8_lawOf_5 : decode cX8_lawOf 5 = .ok (.aload_n 0, 1) := by decide +kernel
theorem dX8_lawOf_6 : decode cX8_lawOf 6 = .ok (.getfield 34, 3) := by decide +kernel
theorem dX8_lawOf_9 : decode cX8_lawOf 9 = .ok (.if_icmp .ge 12, 3) := by decide +kernel
theorem dX8_lawOf_12 : decode cX8_lawOf 12 = .ok (.aload_n 0, 1) := by decide +kernel
theorem dX8_lawOf_13 : decode cX8_lawOf 13 = .ok (.getfield 20, 3) := by decide +kernel
theorem dX8_lawOf_16 : decode cX8_lawOf 16 = .ok (.iload_n 1, 1) := by decide +kernel
theorem dX8_lawOf_17 : decode cX8_lawOf 17 = .ok (.aaload, 1) := by decide +kernel
theorem dX8_lawOf_18 : decode cX8_lawOf 18 = .ok (.goto 4, 3) := by decide +kernel
theorem dX8_lawOf_21 : decode cX8_lawOf 21 = .ok (.aconst_null, 1) := by decide +kernel
theorem dX8_lawOf_22 : decode cX8_lawOf 22 = .ok (.areturn, 1) := by decide +kernel
theorem dX8_forcedLaw_0 : decode cX8_forcedLaw 0 = .ok (.aload_n 0, 1) := by decide +kernel
theorem dX8_forcedLaw_1 : decode cX8_forcedLaw 1 = .ok (.aload_n 0, 1) := by decide +kernel
theorem dX8_forcedLaw_2 : decode cX8_forcedLaw 2 = .ok (.getfield 38, 3) := by decide +kernel
theorem dX8_forcedLaw_5 : decode cX8_forcedLaw 5 = .ok (.invokevirtual 45, 3) := by decide +kernel
theorem dX8_forcedLaw_8 : decode cX8_forcedLaw 8 = .ok (.areturn, 1) := by decide +kernel
theorem dX8_copyFrom_0 : decode cX8_copyFrom 0 = .ok (.aload_n 0, 1) := by decide +kernel
theorem dX8_copyFrom_1 : decode cX8_copyFrom 1 = .ok (.getfield 12, 3) := by decide +kernel
theorem dX8_copyFrom_4 : decode cX8_copyFrom 4 = .ok (.aload_n 1, 1) := by decide +kernel
theorem dX8_copyFrom_5 : decode cX8_copyFrom 5 = .ok (.getfield 12, 3) := by decide +kernel
theorem dX8_copyFrom_8 : decode cX8_copyFrom 8 = .ok (.invokevirtual 49, 3) := by decide +kernel
theorem dX8_copyFrom_11 : decode cX8_copyFrom 11 = .ok (.iconst 0, 1) := by decide +kernel
theorem dX8_copyFrom_12 : decode cX8_copyFrom 12 = .ok (.istore_n 2, 1) := by decide +kernel
theorem dX8_copyFrom_13 : decode cX8_copyFrom 13 = .ok (.iload_n 2, 1) := by decide +kernel
theorem dX8_copyFrom_14 : decode cX8_copyFrom 14 = .ok (.aload_n 1, 1) := by decide +kernel
theorem dX8_copyFrom_15 : decode cX8_copyFrom 15 = .ok (.getfield 34, 3) := by decide +kernel
theorem dX8_copyFrom_18 : decode cX8_copyFrom 18 = .ok (.if_icmp .ge 24, 3) := by decide +kernel
theorem dX8_copyFrom_21 : decode cX8_copyFrom 21 = .ok (.aload_n 0, 1) := by decide +kernel
theorem dX8_copyFrom_22 : decode cX8_copyFrom 22 = .ok (.getfield 20, 3) := by decide +kernel
theorem dX8_copyFrom_25 : decode cX8_copyFrom 25 = .ok (.iload_n 2, 1) := by decide +kernel
theorem dX8_copyFrom_26 : decode cX8_copyFrom 26 = .ok (.aaload, 1) := by decide +kernel
theorem dX8_copyFrom_27 : decode cX8_copyFrom 27 = .ok (.aload_n 1, 1) := by decide +kernel
theorem dX8_copyFrom_28 : decode cX8_copyFrom 28 = .ok (.getfield 20, 3) := by decide +kernel
theorem dX8_copyFrom_31 : decode cX8_copyFrom 31 = .ok (.iload_n 2, 1) := by decide +kernel
theorem dX8_copyFrom_32 : decode cX8_copyFrom 32 = .ok (.aaload, 1) := by decide +kernel
theorem dX8_copyFrom_33 : decode cX8_copyFrom 33 = .ok (.invokevirtual 53, 3) := by decide +kernel
theorem dX8_copyFrom_36 : decode cX8_copyFrom 36 = .ok (.iinc 2 1, 3) := by decide +kernel
theorem dX8_copyFrom_39 : decode cX8_copyFrom 39 = .ok (.goto (-26), 3) := by decide +kernel
theorem dX8_copyFrom_42 : decode cX8_copyFrom 42 = .ok (.aload_n 1, 1) := by decide +kernel
theorem dX8_copyFrom_43 : decode cX8_copyFrom 43 = .ok (.getfield 24, 3) := by decide +kernel
theorem dX8_copyFrom_46 : decode cX8_copyFrom 46 = .ok (.iconst 0, 1) := by decide +kernel
theorem dX8_copyFrom_47 : decode cX8_copyFrom 47 = .ok (.aload_n 0, 1) := by decide +kernel
theorem dX8_copyFrom_48 : decode cX8_copyFrom 48 = .ok (.getfield 24, 3) := by decide +kernel
theorem dX8_copyFrom_51 : decode cX8_copyFrom 51 = .ok (.iconst 0, 1) := by decide +kernel
theorem dX8_copyFrom_52 : decode cX8_copyFrom 52 = .ok (.bipush 6, 2) := by decide +kernel
theorem dX8_copyFrom_54 : decode cX8_copyFrom 54 = .ok (.invokestatic 56, 3) := by decide +kernel
theorem dX8_copyFrom_57 : decode cX8_copyFrom 57 = .ok (.aload_n 1, 1) := by decide +kernel
theorem dX8_copyFrom_58 : decode cX8_copyFrom 58 = .ok (.getfield 28, 3) := by decide +kernel
theorem dX8_copyFrom_61 : decode cX8_copyFrom 61 = .ok (.iconst 0, 1) := by decide +kernel
theorem dX8_copyFrom_62 : decode cX8_copyFrom 62 = .ok (.aload_n 0, 1) := by decide +kernel
theorem dX8_copyFrom_63 : decode cX8_copyFrom 63 = .ok (.getfield 28, 3) := by decide +kernel
theorem dX8_copyFrom_66 : decode cX8_copyFrom 66 = .ok (.iconst 0, 1) := by decide +kernel
theorem dX8_copyFrom_67 : decode cX8_copyFrom 67 = .ok (.bipush 6, 2) := by decide +kernel
theorem dX8_copyFrom_69 : decode cX8_copyFrom 69 = .ok (.invokestatic 56, 3) := by decide +kernel
theorem dX8_copyFrom_72 : decode cX8_copyFrom 72 = .ok (.aload_n 1, 1) := by decide +kernel
theorem dX8_copyFrom_73 : decode cX8_copyFrom 73 = .ok (.getfield 31, 3) := by decide +kernel
theorem dX8_copyFrom_76 : decode cX8_copyFrom 76 = .ok (.iconst 0, 1) := by decide +kernel
theorem dX8_copyFrom_77 : decode cX8_copyFrom 77 = .ok (.aload_n 0, 1) := by decide +kernel
theorem dX8_copyFrom_78 : decode cX8_copyFrom 78 = .ok (.getfield 31, 3) := by decide +kernel
theorem dX8_copyFrom_81 : decode cX8_copyFrom 81 = .ok (.iconst 0, 1) := by decide +kernel
theorem dX8_copyFrom_82 : decode cX8_copyFrom 82 = .ok (.bipush 6, 2) := by decide +kernel
theorem dX8_copyFrom_84 : decode cX8_copyFrom 84 = .ok (.invokestatic 56, 3) := by decide +kernel
theorem dX8_copyFrom_87 : decode cX8_copyFrom 87 = .ok (.aload_n 0, 1) := by decide +kernel
theorem dX8_copyFrom_88 : decode cX8_copyFrom 88 = .ok (.aload_n 1, 1) := by decide +kernel
theorem dX8_copyFrom_89 : decode cX8_copyFrom 89 = .ok (.getfield 34, 3) := by decide +kernel
theorem dX8_copyFrom_92 : decode cX8_copyFrom 92 = .ok (.putfield 34, 3) := by decide +kernel
theorem dX8_copyFrom_95 : decode cX8_copyFrom 95 = .ok (.aload_n 0, 1) := by decide +kernel
theorem dX8_copyFrom_96 : decode cX8_copyFrom 96 = .ok (.aload_n 1, 1) := by decide +kernel
theorem dX8_copyFrom_97 : decode cX8_copyFrom 97 = .ok (.getfield 38, 3) := by decide +kernel
theorem dX8_copyFrom_100 : decode cX8_copyFrom 100 = .ok (.putfield 38, 3) := by decide +kernel
theorem dX8_copyFrom_103 : decode cX8_copyFrom 103 = .ok (.aload_n 0, 1) := by decide +kernel
theorem dX8_copyFrom_104 : decode cX8_copyFrom 104 = .ok (.aload_n 1, 1) := by decide +kernel
theorem dX8_copyFrom_105 : decode cX8_copyFrom 105 = .ok (.getfield 41, 3) := by decide +kernel
theorem dX8_copyFrom_108 : decode cX8_copyFrom 108 = .ok (.putfield 41, 3) := by decide +kernel
theorem dX8_copyFrom_111 : decode cX8_copyFrom 111 = .ok (.return_, 1) := by decide +kernel
theorem dX9_init_0 : decode cX9_init 0 = .ok (.aload_n 0, 1) := by decide +kernel
theorem dX9_init_1 : decode cX9_init 1 = .ok (.invokespecial 3, 3) := by decide +kernel
theorem dX9_init_4 : decode cX9_init 4 = .ok (.aload_n 0, 1) := by decide +kernel
theorem dX9_init_5 : decode cX9_init 5 = .ok (.sipush 400, 3) := by decide +kernel
theorem dX9_init_8 : decode cX9_init 8 = .ok (.newarray .int, 2) := by decide +kernel
theorem dX9_init_10 : decode cX9_init 10 = .ok (.putfield 9, 3) := by decide +kernel
theorem dX9_init_13 : decode cX9_init 13 = .ok (.aload_n 0, 1) := by decide +kernel
theorem dX9_init_14 : decode cX9_init 14 = .ok (.iconst 0, 1) := by decide +kernel
theorem dX9_init_15 : decode cX9_init 15 = .ok (.putfield 15, 3) := by decide +kernel
theorem dX9_init_18 : decode cX9_init 18 = .ok (.return_, 1) := by decide +kernel
theorem dX9_addFour_0 : decode cX9_addFour 0 = .ok (.bipush 24, 2) := by decide +kernel
theorem dX9_addFour_2 : decode cX9_addFour 2 = .ok (.istore_n 2, 1) := by decide +kernel
theorem dX9_addFour_3 : decode cX9_addFour 3 = .ok (.iload_n 2, 1) := by decide +kernel
theorem dX9_addFour_4 : decode cX9_addFour 4 = .ok (.ifCond .lt 45, 3) := by decide +kernel
theorem dX9_addFour_7 : decode cX9_addFour 7 = .ok (.aload_n 0, 1) := by decide +kernel
theorem dX9_addFour_8 : decode cX9_addFour 8 = .ok (.getfield 15, 3) := by decide +kernel
theorem dX9_addFour_11 : decode cX9_addFour 11 = .ok (.sipush 400, 3) := by decide +kernel
theorem dX9_addFour_14 : decode cX9_addFour 14 = .ok (.if_icmp .ge 35, 3) := by decide +kernel
theorem dX9_addFour_17 : decode cX9_addFour 17 = .ok (.aload_n 0, 1) := by decide +kernel
theorem dX9_addFour_18 : decode cX9_addFour 18 = .ok (.getfield 9, 3) := by decide +kernel
theorem dX9_addFour_21 : decode cX9_addFour 21 = .ok (.aload_n 0, 1) := by decide +kernel
theorem dX9_addFour_22 : decode cX9_addFour 22 = .ok (.getfield 15, 3) := by decide +kernel
theorem dX9_addFour_25 : decode cX9_addFour 25 = .ok (.iload_n 1, 1) := by decide +kernel
theorem dX9_addFour_26 : decode cX9_addFour 26 = .ok (.iload_n 2, 1) := by decide +kernel
theorem dX9_addFour_27 : decode cX9_addFour 27 = .ok (.iushr, 1) := by decide +kernel
theorem dX9_addFour_28 : decode cX9_addFour 28 = .ok (.sipush 255, 3) := by decide +kernel
theorem dX9_addFour_31 : decode cX9_addFour 31 = .ok (.iand, 1) := by decide +kernel
theorem dX9_addFour_32 : decode cX9_addFour 32 = .ok (.iastore, 1) := by decide +kernel
theorem dX9_addFour_33 : decode cX9_addFour 33 = .ok (.aload_n 0, 1) := by decide +kernel
theorem dX9_addFour_34 : decode cX9_addFour 34 = .ok (.dup, 1) := by decide +kernel
theorem dX9_addFour_35 : decode cX9_addFour 35 = .ok (.getfield 15, 3) := by decide +kernel
theorem dX9_addFour_38 : decode cX9_addFour 38 = .ok (.iconst 1, 1) := by decide +kernel
theorem dX9_addFour_39 : decode cX9_addFour 39 = .ok (.iadd, 1) := by decide +kernel
theorem dX9_addFour_40 : decode cX9_addFour 40 = .ok (.putfield 15, 3) := by decide +kernel
theorem dX9_addFour_43 : decode cX9_addFour 43 = .ok (.iinc 2 (-8), 3) := by decide +kernel
theorem dX9_addFour_46 : decode cX9_addFour 46 = .ok (.goto (-43), 3) := by decide +kernel
theorem dX9_addFour_49 : decode cX9_addFour 49 = .ok (.return_, 1) := by decide +kernel
theorem dX10_init_0 : decode cX10_init 0 = .ok (.aload_n 0, 1) := by decide +kernel
theorem dX10_init_1 : decode cX10_init 1 = .ok (.invokespecial 5, 3) := by decide +kernel
theorem dX10_init_4 : decode cX10_init 4 = .ok (.aload_n 0, 1) := by decide +kernel
theorem dX10_init_5 : decode cX10_init 5 = .ok (.sipush 400, 3) := by decide +kernel
theorem dX10_init_8 : decode cX10_init 8 = .ok (.newarray .int, 2) := by decide +kernel
theorem dX10_init_10 : decode cX10_init 10 = .ok (.putfield 11, 3) := by decide +kernel
theorem dX10_init_13 : decode cX10_init 13 = .ok (.aload_n 0, 1) := by decide +kernel
theorem dX10_init_14 : decode cX10_init 14 = .ok (.bipush 96, 2) := by decide +kernel
theorem dX10_init_16 : decode cX10_init 16 = .ok (.newarray .int, 2) := by decide +kernel
theorem dX10_init_18 : decode cX10_init 18 = .ok (.putfield 15, 3) := by decide +kernel
theorem dX10_init_21 : decode cX10_init 21 = .ok (.aload_n 0, 1) := by decide +kernel
theorem dX10_init_22 : decode cX10_init 22 = .ok (.iconst 0, 1) := by decide +kernel
theorem dX10_init_23 : decode cX10_init 23 = .ok (.putfield 18, 3) := by decide +kernel
theorem dX10_init_26 : decode cX10_init 26 = .ok (.aload_n 0, 1) := by decide +kernel
theorem dX10_init_27 : decode cX10_init 27 = .ok (.iconst 0, 1) := by decide +kernel
theorem dX10_init_28 : decode cX10_init 28 = .ok (.putfield 22, 3) := by decide +kernel
theorem dX10_init_31 : decode cX10_init 31 = .ok (.return_, 1) := by decide +kernel
theorem dX10_clear_0 : decode cX10_clear 0 = .ok (.aload_n 0, 1) := by decide +kernel
theorem dX10_clear_1 : decode cX10_clear 1 = .ok (.iconst 0, 1) := by decide +kernel
theorem dX10_clear_2 : decode cX10_clear 2 = .ok (.putfield 18, 3) := by decide +kernel
theorem dX10_clear_5 : decode cX10_clear 5 = .ok (.aload_n 0, 1) := by decide +kernel
theorem dX10_clear_6 : decode cX10_clear 6 = .ok (.iconst 0, 1) := by decide +kernel
theorem dX10_clear_7 : decode cX10_clear 7 = .ok (.putfield 22, 3) := by decide +kernel
theorem dX10_clear_10 : decode cX10_clear 10 = .ok (.return_, 1) := by decide +kernel
theorem dX10_copyFrom_0 : decode cX10_copyFrom 0 = .ok (.aload_n 1, 1) := by decide +kernel
theorem dX10_copyFrom_1 : decode cX10_copyFrom 1 = .ok (.getfield 11, 3) := by decide +kernel
theorem dX10_copyFrom_4 : decode cX10_copyFrom 4 = .ok (.iconst 0, 1) := by decide +kernel
theorem dX10_copyFrom_5 : decode cX10_copyFrom 5 = .ok (.aload_n 0, 1) := by decide +kernel
theorem dX10_copyFrom_6 : decode cX10_copyFrom 6 = .ok (.getfield 11, 3) := by decide +kernel
theorem dX10_copyFrom_9 : decode cX10_copyFrom 9 = .ok (.iconst 0, 1) := by decide +kernel
theorem dX10_copyFrom_10 : decode cX10_copyFrom 10 = .ok (.aload_n 1, 1) := by decide +kernel
theorem dX10_copyFrom_11 : decode cX10_copyFrom 11 = .ok (.getfield 18, 3) := by decide +kernel
theorem dX10_copyFrom_14 : decode cX10_copyFrom 14 = .ok (.invokestatic 25, 3) := by decide +kernel
theorem dX10_copyFrom_17 : decode cX10_copyFrom 17 = .ok (.aload_n 1, 1) := by decide +kernel
theorem dX10_copyFrom_18 : decode cX10_copyFrom 18 = .ok (.getfield 15, 3) := by decide +kernel
theorem dX10_copyFrom_21 : decode cX10_copyFrom 21 = .ok (.iconst 0, 1) := by decide +kernel
theorem dX10_copyFrom_22 : decode cX10_copyFrom 22 = .ok (.aload_n 0, 1) := by decide +kernel
theorem dX10_copyFrom_23 : decode cX10_copyFrom 23 = .ok (.getfield 15, 3) := by decide +kernel
theorem dX10_copyFrom_26 : decode cX10_copyFrom 26 = .ok (.iconst 0, 1) := by decide +kernel
theorem dX10_copyFrom_27 : decode cX10_copyFrom 27 = .ok (.aload_n 1, 1) := by decide +kernel
theorem dX10_copyFrom_28 : decode cX10_copyFrom 28 = .ok (.getfield 22, 3) := by decide +kernel
theorem dX10_copyFrom_31 : decode cX10_copyFrom 31 = .ok (.bipush 8, 2) := by decide +kernel
theorem dX10_copyFrom_33 : decode cX10_copyFrom 33 = .ok (.imul, 1) := by decide +kernel
theorem dX10_copyFrom_34 : decode cX10_copyFrom 34 = .ok (.invokestatic 25, 3) := by decide +kernel
theorem dX10_copyFrom_37 : decode cX10_copyFrom 37 = .ok (.aload_n 0, 1) := by decide +kernel
theorem dX10_copyFrom_38 : decode cX10_copyFrom 38 = .ok (.aload_n 1, 1) := by decide +kernel
theorem dX10_copyFrom_39 : decode cX10_copyFrom 39 = .ok (.getfield 18, 3) := by decide +kernel
theorem dX10_copyFrom_42 : decode cX10_copyFrom 42 = .ok (.putfield 18, 3) := by decide +kernel
theorem dX10_copyFrom_45 : decode cX10_copyFrom 45 = .ok (.aload_n 0, 1) := by decide +kernel
theorem dX10_copyFrom_46 : decode cX10_copyFrom 46 = .ok (.aload_n 1, 1) := by decide +kernel
theorem dX10_copyFrom_47 : decode cX10_copyFrom 47 = .ok (.getfield 22, 3) := by decide +kernel
theorem dX10_copyFrom_50 : decode cX10_copyFrom 50 = .ok (.putfield 22, 3) := by decide +kernel
theorem dX10_copyFrom_53 : decode cX10_copyFrom 53 = .ok (.return_, 1) := by decide +kernel
theorem dX10_add_0 : decode cX10_add 0 = .ok (.iload_n 1, 1) := by decide +kernel
theorem dX10_add_1 : decode cX10_add 1 = .ok (.iconst (-1), 1) := by decide +kernel
theorem dX10_add_2 : decode cX10_add 2 = .ok (.if_icmp .eq 35, 3) := by decide +kernel
theorem dX10_add_5 : decode cX10_add 5 = .ok (.aload_n 0, 1) := by decide +kernel
theorem dX10_add_6 : decode cX10_add 6 = .ok (.getfield 18, 3) := by decide +kernel
theorem dX10_add_9 : decode cX10_add 9 = .ok (.aload_n 0, 1) := by decide +kernel
theorem dX10_add_10 : decode cX10_add 10 = .ok (.getfield 11, 3) := by decide +kernel
theorem dX10_add_13 : decode cX10_add 13 = .ok (.arraylength, 1) := by decide +kernel
theorem dX10_add_14 : decode cX10_add 14 = .ok (.if_icmp .ge 23, 3) := by decide +kernel
theorem dX10_add_17 : decode cX10_add 17 = .ok (.aload_n 0, 1) := by decide +kernel
theorem dX10_add_18 : decode cX10_add 18 = .ok (.getfield 11, 3) := by decide +kernel
theorem dX10_add_21 : decode cX10_add 21 = .ok (.aload_n 0, 1) := by decide +kernel
theorem dX10_add_22 : decode cX10_add 22 = .ok (.getfield 18, 3) := by decide +kernel
theorem dX10_add_25 : decode cX10_add 25 = .ok (.iload_n 1, 1) := by decide +kernel
theorem dX10_add_26 : decode cX10_add 26 = .ok (.iastore, 1) := by decide +kernel
theorem dX10_add_27 : decode cX10_add 27 = .ok (.aload_n 0, 1) := by decide +kernel
theorem dX10_add_28 : decode cX10_add 28 = .ok (.dup, 1) := by decide +kernel
theorem dX10_add_29 : decode cX10_add 29 = .ok (.getfield 18, 3) := by decide +kernel
theorem dX10_add_32 : decode cX10_add 32 = .ok (.iconst 1, 1) := by decide +kernel
theorem dX10_add_33 : decode cX10_add 33 = .ok (.iadd, 1) := by decide +kernel
theorem dX10_add_34 : decode cX10_add 34 = .ok (.putfield 18, 3) := by decide +kernel
theorem dX10_add_37 : decode cX10_add 37 = .ok (.return_, 1) := by decide +kernel
theorem dX10_addJump_0 : decode cX10_addJump 0 = .ok (.aload_n 0, 1) := by decide +kernel
theorem dX10_addJump_1 : decode cX10_addJump 1 = .ok (.iload_n 1, 1) := by decide +kernel
theorem dX10_addJump_2 : decode cX10_addJump 2 = .ok (.invokevirtual 31, 3) := by decide +kernel
theorem dX10_addJump_5 : decode cX10_addJump 5 = .ok (.aload_n 0, 1) := by decide +kernel
theorem dX10_addJump_6 : decode cX10_addJump 6 = .ok (.iconst 0, 1) := by decide +kernel
theorem dX10_addJump_7 : decode cX10_addJump 7 = .ok (.invokevirtual 31, 3) := by decide +kernel
theorem dX10_addJump_10 : decode cX10_addJump 10 = .ok (.aload_n 0, 1) := by decide +kernel
theorem dX10_addJump_11 : decode cX10_addJump 11 = .ok (.getfield 18, 3) := by decide +kernel
theorem dX10_addJump_14 : decode cX10_addJump 14 = .ok (.iconst 1, 1) := by decide +kernel
theorem dX10_addJump_15 : decode cX10_addJump 15 = .ok (.isub, 1) := by decide +kernel
theorem dX10_addJump_16 : decode cX10_addJump 16 = .ok (.ireturn, 1) := by decide +kernel
theorem dX10_setCode_0 : decode cX10_setCode 0 = .ok (.iload_n 1, 1) := by decide +kernel
theorem dX10_setCode_1 : decode cX10_setCode 1 = .ok (.ifCond .lt 18, 3) := by decide +kernel
theorem dX10_setCode_4 : decode cX10_setCode 4 = .ok (.iload_n 1, 1) := by decide +kernel
theorem dX10_setCode_5 : decode cX10_setCode 5 = .ok (.aload_n 0, 1) := by decide +kernel
theorem dX10_setCode_6 : decode cX10_setCode 6 = .ok (.getfield 18, 3) := by decide +kernel
theorem dX10_setCode_9 : decode cX10_setCode 9 = .ok (.if_icmp .ge 10, 3) := by decide +kernel
theorem dX10_setCode_12 : decode cX10_setCode 12 = .ok (.aload_n 0, 1) := by decide +kernel
theorem dX10_setCode_13 : decode cX10_setCode 13 = .ok (.getfield 11, 3) := by decide +kernel
theorem dX10_setCode_16 : decode cX10_setCode 16 = .ok (.iload_n 1, 1) := by decide +kernel
theorem dX10_setCode_17 : decode cX10_setCode 17 = .ok (.iload_n 2, 1) := by decide +kernel
theorem dX10_setCode_18 : decode cX10_setCode 18 = .ok (.iastore, 1) := by decide +kernel
theorem dX10_setCode_19 : decode cX10_setCode 19 = .ok (.return_, 1) := by decide +kernel
theorem dX10_openClause_0 : decode cX10_openClause 0 = .ok (.aload_n 0, 1) := by decide +kernel
theorem dX10_openClause_1 : decode cX10_openClause 1 = .ok (.getfield 22, 3) := by decide +kernel
theorem dX10_openClause_4 : decode cX10_openClause 4 = .ok (.bipush 12, 2) := by decide +kernel
theorem dX10_openClause_6 : decode cX10_openClause 6 = .ok (.if_icmp .lt 4, 3) := by decide +kernel
theorem dX10_openClause_9 : decode cX10_openClause 9 = .ok (.return_, 1) := by decide +kernel
theorem dX10_openClause_10 : decode cX10_openClause 10 = .ok (.aload_n 0, 1) := by decide +kernel
theorem dX10_openClause_11 : decode cX10_openClause 11 = .ok (.dup, 1) := by decide +kernel
theorem dX10_openClause_12 : decode cX10_openClause 12 = .ok (.getfield 22, 3) := by decide +kernel
theorem dX10_openClause_15 : decode cX10_openClause 15 = .ok (.iconst 1, 1) := by decide +kernel
theorem dX10_openClause_16 : decode cX10_openClause 16 = .ok (.iadd, 1) := by decide +kernel
theorem dX10_openClause_17 : decode cX10_openClause 17 = .ok (.putfield 22, 3) := by decide +kernel
theorem dX10_openClause_20 : decode cX10_openClause 20 = .ok (.aload_n 0, 1) := by decide +kernel
theorem dX10_openClause_21 : decode cX10_openClause 21 = .ok (.iconst 0, 1) := by decide +kernel
theorem dX10_openClause_22 : decode cX10_openClause 22 = .ok (.iload_n 1, 1) := by decide +kernel
theorem dX10_openClause_23 : decode cX10_openClause 23 = .ok (.invokevirtual 35, 3) := by decide +kernel
theorem dX10_openClause_26 : decode cX10_openClause 26 = .ok (.aload_n 0, 1) := by decide +kernel
theorem dX10_openClause_27 : decode cX10_openClause 27 = .ok (.iconst 1, 1) := by decide +kernel
theorem dX10_openClause_28 : decode cX10_openClause 28 = .ok (.iconst 1, 1) := by decide +kernel
theorem dX10_openClause_29 : decode cX10_openClause 29 = .ok (.invokevirtual 35, 3) := by decide +kernel
theorem dX10_openClause_32 : decode cX10_openClause 32 = .ok (.return_, 1) := by decide +kernel
theorem dX10_setMark_0 : decode cX10_setMark 0 = .ok (.aload_n 0, 1) := by decide +kernel
theorem dX10_setMark_1 : decode cX10_setMark 1 = .ok (.getfield 22, 3) := by decide +kernel
theorem dX10_setMark_4 : decode cX10_setMark 4 = .ok (.iconst 1, 1) := by decide +kernel
theorem dX10_setMark_5 : decode cX10_setMark 5 = .ok (.isub, 1) := by decide +kernel
theorem dX10_setMark_6 : decode cX10_setMark 6 = .ok (.bipush 8, 2) := by decide +kernel
theorem dX10_setMark_8 : decode cX10_setMark 8 = .ok (.imul, 1) := by decide +kernel
theorem dX10_setMark_9 : decode cX10_setMark 9 = .ok (.iload_n 1, 1) := by decide +kernel
theorem dX10_setMark_10 : decode cX10_setMark 10 = .ok (.iadd, 1) := by decide +kernel
theorem dX10_setMark_11 : decode cX10_setMark 11 = .ok (.istore_n 3, 1) := by decide +kernel
theorem dX10_setMark_12 : decode cX10_setMark 12 = .ok (.iload_n 3, 1) := by decide +kernel
theorem dX10_setMark_13 : decode cX10_setMark 13 = .ok (.ifCond .lt 19, 3) := by decide +kernel
theorem dX10_setMark_16 : decode cX10_setMark 16 = .ok (.iload_n 3, 1) := by decide +kernel
theorem dX10_setMark_17 : decode cX10_setMark 17 = .ok (.aload_n 0, 1) := by decide +kernel
theorem dX10_setMark_18 : decode cX10_setMark 18 = .ok (.getfield 15, 3) := by decide +kernel
theorem dX10_setMark_21 : decode cX10_setMark 21 = .ok (.arraylength, 1) := by decide +kernel
theorem dX10_setMark_22 : decode cX10_setMark 22 = .ok (.if_icmp .ge 10, 3) := by decide +kernel
theorem dX10_setMark_25 : decode cX10_setMark 25 = .ok (.aload_n 0, 1) := by decide +kernel
theorem dX10_setMark_26 : decode cX10_setMark 26 = .ok (.getfield 15, 3) := by decide +kernel
theorem dX10_setMark_29 : decode cX10_setMark 29 = .ok (.iload_n 3, 1) := by decide +kernel
theorem dX10_setMark_30 : decode cX10_setMark 30 = .ok (.iload_n 2, 1) := by decide +kernel
theorem dX10_setMark_31 : decode cX10_setMark 31 = .ok (.iastore, 1) := by decide +kernel
theorem dX10_setMark_32 : decode cX10_setMark 32 = .ok (.return_, 1) := by decide +kernel
theorem dX10_mark_0 : decode cX10_mark 0 = .ok (.iload_n 1, 1) := by decide +kernel
theorem dX10_mark_1 : decode cX10_mark 1 = .ok (.bipush 8, 2) := by decide +kernel
theorem dX10_mark_3 : decode cX10_mark 3 = .ok (.imul, 1) := by decide +kernel
theorem dX10_mark_4 : decode cX10_mark 4 = .ok (.iload_n 2, 1) := by decide +kernel
theorem dX10_mark_5 : decode cX10_mark 5 = .ok (.iadd, 1) := by decide +kernel
theorem dX10_mark_6 : decode cX10_mark 6 = .ok (.istore_n 3, 1) := by decide +kernel
theorem dX10_mark_7 : decode cX10_mark 7 = .ok (.iload_n 3, 1) := by decide +kernel
theorem dX10_mark_8 : decode cX10_mark 8 = .ok (.ifCond .lt 21, 3) := by decide +kernel
theorem dX10_mark_11 : decode cX10_mark 11 = .ok (.iload_n 3, 1) := by decide +kernel
theorem dX10_mark_12 : decode cX10_mark 12 = .ok (.aload_n 0, 1) := by decide +kernel
theorem dX10_mark_13 : decode cX10_mark 13 = .ok (.getfield 15, 3) := by decide +kernel
theorem dX10_mark_16 : decode cX10_mark 16 = .ok (.arraylength, 1) := by decide +kernel
theorem dX10_mark_17 : decode cX10_mark 17 = .ok (.if_icmp .ge 12, 3) := by decide +kernel
theorem dX10_mark_20 : decode cX10_mark 20 = .ok (.aload_n 0, 1) := by decide +kernel
theorem dX10_mark_21 : decode cX10_mark 21 = .ok (.getfield 15, 3) := by decide +kernel
theorem dX10_mark_24 : decode cX10_mark 24 = .ok (.iload_n 3, 1) := by decide +kernel
theorem dX10_mark_25 : decode cX10_mark 25 = .ok (.iaload, 1) := by decide +kernel
theorem dX10_mark_26 : decode cX10_mark 26 = .ok (.goto 4, 3) := by decide +kernel
theorem dX10_mark_29 : decode cX10_mark 29 = .ok (.iconst 0, 1) := by decide +kernel
theorem dX10_mark_30 : decode cX10_mark 30 = .ok (.ireturn, 1) := by decide +kernel
theorem dX11_init_0 : decode cX11_init 0 = .ok (.aload_n 0, 1) := by decide +kernel
theorem dX11_init_1 : decode cX11_init 1 = .ok (.invokespecial 3, 3) := by decide +kernel
theorem dX11_init_4 : decode cX11_init 4 = .ok (.aload_n 0, 1) := by decide +kernel
theorem dX11_init_5 : decode cX11_init 5 = .ok (.new 9, 3) := by decide +kernel
theorem dX11_init_8 : decode cX11_init 8 = .ok (.dup, 1) := by decide +kernel
theorem dX11_init_9 : decode cX11_init 9 = .ok (.invokespecial 11, 3) := by decide +kernel
theorem dX11_init_12 : decode cX11_init 12 = .ok (.putfield 12, 3) := by decide +kernel
theorem dX11_init_15 : decode cX11_init 15 = .ok (.aload_n 0, 1) := by decide +kernel
theorem dX11_init_16 : decode cX11_init 16 = .ok (.iconst 2, 1) := by decide +kernel
theorem dX11_init_17 : decode cX11_init 17 = .ok (.anewarray 9, 3) := by decide +kernel
theorem dX11_init_20 : decode cX11_init 20 = .ok (.putfield 16, 3) := by decide +kernel
theorem dX11_init_23 : decode cX11_init 23 = .ok (.aload_n 0, 1) := by decide +kernel
theorem dX11_init_24 : decode cX11_init 24 = .ok (.iconst 2, 1) := by decide +kernel
theorem dX11_init_25 : decode cX11_init 25 = .ok (.newarray .boolean, 2) := by decide +kernel
theorem dX11_init_27 : decode cX11_init 27 = .ok (.putfield 20, 3) := by decide +kernel
theorem dX11_init_30 : decode cX11_init 30 = .ok (.aload_n 0, 1) := by decide +kernel
theorem dX11_init_31 : decode cX11_init 31 = .ok (.new 24, 3) := by decide +kernel
theorem dX11_init_34 : decode cX11_init 34 = .ok (.dup, 1) := by decide +kernel
theorem dX11_init_35 : decode cX11_init 35 = .ok (.invokespecial 26, 3) := by decide +kernel
theorem dX11_init_38 : decode cX11_init 38 = .ok (.putfield 27, 3) := by decide +kernel
theorem dX11_init_41 : decode cX11_init 41 = .ok (.aload_n 0, 1) := by decide +kernel
theorem dX11_init_42 : decode cX11_init 42 = .ok (.new 24, 3) := by decide +kernel
theorem dX11_init_45 : decode cX11_init 45 = .ok (.dup, 1) := by decide +kernel
theorem dX11_init_46 : decode cX11_init 46 = .ok (.invokespecial 26, 3) := by decide +kernel
theorem dX11_init_49 : decode cX11_init 49 = .ok (.putfield 31, 3) := by decide +kernel
theorem dX11_init_52 : decode cX11_init 52 = .ok (.aload_n 0, 1) := by decide +kernel
theorem dX11_init_53 : decode cX11_init 53 = .ok (.new 34, 3) := by decide +kernel
theorem dX11_init_56 : decode cX11_init 56 = .ok (.dup, 1) := by decide +kernel
theorem dX11_init_57 : decode cX11_init 57 = .ok (.invokespecial 36, 3) := by decide +kernel
theorem dX11_init_60 : decode cX11_init 60 = .ok (.putfield 37, 3) := by decide +kernel
theorem dX11_init_63 : decode cX11_init 63 = .ok (.aload_n 0, 1) := by decide +kernel
theorem dX11_init_64 : decode cX11_init 64 = .ok (.new 41, 3) := by decide +kernel
theorem dX11_init_67 : decode cX11_init 67 = .ok (.dup, 1) := by decide +kernel
theorem dX11_init_68 : decode cX11_init 68 = .ok (.invokespecial 43, 3) := by decide +kernel
theorem dX11_init_71 : decode cX11_init 71 = .ok (.putfield 44, 3) := by decide +kernel
theorem dX11_init_74 : decode cX11_init 74 = .ok (.aload_n 0, 1) := by decide +kernel
theorem dX11_init_75 : decode cX11_init 75 = .ok (.new 48, 3) := by decide +kernel
theorem dX11_init_78 : decode cX11_init 78 = .ok (.dup, 1) := by decide +kernel
theorem dX11_init_79 : decode cX11_init 79 = .ok (.invokespecial 50, 3) := by decide +kernel
theorem dX11_init_82 : decode cX11_init 82 = .ok (.putfield 51, 3) := by decide +kernel
theorem dX11_init_85 : decode cX11_init 85 = .ok (.aload_n 0, 1) := by decide +kernel
theorem dX11_init_86 : decode cX11_init 86 = .ok (.new 55, 3) := by decide +kernel
theorem dX11_init_89 : decode cX11_init 89 = .ok (.dup, 1) := by decide +kernel
theorem dX11_init_90 : decode cX11_init 90 = .ok (.invokespecial 57, 3) := by decide +kernel
theorem dX11_init_93 : decode cX11_init 93 = .ok (.putfield 58, 3) := by decide +kernel
theorem dX11_init_96 : decode cX11_init 96 = .ok (.aload_n 0, 1) := by decide +kernel
theorem dX11_init_97 : decode cX11_init 97 = .ok (.new 62, 3) := by decide +kernel
theorem dX11_init_100 : decode cX11_init 100 = .ok (.dup, 1) := by decide +kernel
theorem dX11_init_101 : decode cX11_init 101 = .ok (.invokespecial 64, 3) := by decide +kernel
theorem dX11_init_104 : decode cX11_init 104 = .ok (.putfield 65, 3) := by decide +kernel
theorem dX11_init_107 : decode cX11_init 107 = .ok (.aload_n 0, 1) := by decide +kernel
theorem dX11_init_108 : decode cX11_init 108 = .ok (.new 69, 3) := by decide +kernel
theorem dX11_init_111 : decode cX11_init 111 = .ok (.dup, 1) := by decide +kernel
theorem dX11_init_112 : decode cX11_init 112 = .ok (.invokespecial 71, 3) := by decide +kernel
theorem dX11_init_115 : decode cX11_init 115 = .ok (.putfield 72, 3) := by decide +kernel
theorem dX11_init_118 : decode cX11_init 118 = .ok (.aload_n 0, 1) := by decide +kernel
theorem dX11_init_119 : decode cX11_init 119 = .ok (.new 76, 3) := by decide +kernel
theorem dX11_init_122 : decode cX11_init 122 = .ok (.dup, 1) := by decide +kernel
theorem dX11_init_123 : decode cX11_init 123 = .ok (.invokespecial 78, 3) := by decide +kernel
theorem dX11_init_126 : decode cX11_init 126 = .ok (.putfield 79, 3) := by decide +kernel
theorem dX11_init_129 : decode cX11_init 129 = .ok (.aload_n 0, 1) := by decide +kernel
theorem dX11_init_130 : decode cX11_init 130 = .ok (.new 83, 3) := by decide +kernel
theorem dX11_init_133 : decode cX11_init 133 = .ok (.dup, 1) := by decide +kernel
theorem dX11_init_134 : decode cX11_init 134 = .ok (.invokespecial 85, 3) := by decide +kernel
theorem dX11_init_137 : decode cX11_init 137 = .ok (.putfield 86, 3) := by decide +kernel
theorem dX11_init_140 : decode cX11_init 140 = .ok (.aload_n 0, 1) := by decide +kernel
theorem dX11_init_141 : decode cX11_init 141 = .ok (.iconst 5, 1) := by decide +kernel
theorem dX11_init_142 : decode cX11_init 142 = .ok (.newarray .int, 2) := by decide +kernel
theorem dX11_init_144 : decode cX11_init 144 = .ok (.putfield 90, 3) := by decide +kernel
theorem dX11_init_147 : decode cX11_init 147 = .ok (.aload_n 0, 1) := by decide +kernel
theorem dX11_init_148 : decode cX11_init 148 = .ok (.iconst 0, 1) := by decide +kernel
theorem dX11_init_149 : decode cX11_init 149 = .ok (.putfield 94, 3) := by decide +kernel
theorem dX11_init_152 : decode cX11_init 152 = .ok (.aload_n 0, 1) := by decide +kernel
theorem dX11_init_153 : decode cX11_init 153 = .ok (.iconst (-1), 1) := by decide +kernel
theorem dX11_init_154 : decode cX11_init 154 = .ok (.putfield 98, 3) := by decide +kernel
theorem dX11_init_157 : decode cX11_init 157 = .ok (.aload_n 0, 1) := by decide +kernel
theorem dX11_init_158 : decode cX11_init 158 = .ok (.iconst 0, 1) := by decide +kernel
theorem dX11_init_159 : decode cX11_init 159 = .ok (.putfield 101, 3) := by decide +kernel
theorem dX11_init_162 : decode cX11_init 162 = .ok (.aload_n 0, 1) := by decide +kernel
theorem dX11_init_163 : decode cX11_init 163 = .ok (.iconst (-1), 1) := by decide +kernel
theorem dX11_init_164 : decode cX11_init 164 = .ok (.putfield 104, 3) := by decide +kernel
theorem dX11_init_167 : decode cX11_init 167 = .ok (.iconst 0, 1) := by decide +kernel
theorem dX11_init_168 : decode cX11_init 168 = .ok (.istore_n 1, 1) := by decide +kernel
theorem dX11_init_169 : decode cX11_init 169 = .ok (.iload_n 1, 1) := by decide +kernel
theorem dX11_init_170 : decode cX11_init 170 = .ok (.iconst 2, 1) := by decide +kernel
theorem dX11_init_171 : decode cX11_init 171 = .ok (.if_icmp .ge 22, 3) := by decide +kernel
theorem dX11_init_174 : decode cX11_init 174 = .ok (.aload_n 0, 1) := by decide +kernel
theorem dX11_init_175 : decode cX11_init 175 = .ok (.getfield 16, 3) := by decide +kernel
theorem dX11_init_178 : decode cX11_init 178 = .ok (.iload_n 1, 1) := by decide +kernel
theorem dX11_init_179 : decode cX11_init 179 = .ok (.new 9, 3) := by decide +kernel
theorem dX11_init_182 : decode cX11_init 182 = .ok (.dup, 1) := by decide +kernel
theorem dX11_init_183 : decode cX11_init 183 = .ok (.invokespecial 11, 3) := by decide +kernel
theorem dX11_init_186 : decode cX11_init 186 = .ok (.aastore, 1) := by decide +kernel
theorem dX11_init_187 : decode cX11_init 187 = .ok (.iinc 1 1, 3) := by decide +kernel
theorem dX11_init_190 : decode cX11_init 190 = .ok (.goto (-21), 3) := by decide +kernel
theorem dX11_init_193 : decode cX11_init 193 = .ok (.return_, 1) := by decide +kernel
theorem dX11_carpet_0 : decode cX11_carpet 0 = .ok (.aload_n 0, 1) := by decide +kernel
theorem dX11_carpet_1 : decode cX11_carpet 1 = .ok (.getfield 12, 3) := by decide +kernel
theorem dX11_carpet_4 : decode cX11_carpet 4 = .ok (.getfield 107, 3) := by decide +kernel
theorem dX11_carpet_7 : decode cX11_carpet 7 = .ok (.iload_n 1, 1) := by decide +kernel
theorem dX11_carpet_8 : decode cX11_carpet 8 = .ok (.iload_n 2, 1) := by decide +kernel
theorem dX11_carpet_9 : decode cX11_carpet 9 = .ok (.iload_n 3, 1) := by decide +kernel
theorem dX11_carpet_10 : decode cX11_carpet 10 = .ok (.invokevirtual 110, 3) := by decide +kernel
theorem dX11_carpet_13 : decode cX11_carpet 13 = .ok (.istore 4, 2) := by decide +kernel
theorem dX11_carpet_15 : decode cX11_carpet 15 = .ok (.iload 4, 2) := by decide +kernel
theorem dX11_carpet_17 : decode cX11_carpet 17 = .ok (.ifCond .lt 10, 3) := by decide +kernel
theorem dX11_carpet_20 : decode cX11_carpet 20 = .ok (.aload_n 0, 1) := by decide +kernel
theorem dX11_carpet_21 : decode cX11_carpet 21 = .ok (.getfield 72, 3) := by decide +kernel
theorem dX11_carpet_24 : decode cX11_carpet 24 = .ok (.invokevirtual 114, 3) := by decide +kernel
theorem dX11_carpet_27 : decode cX11_carpet 27 = .ok (.aload_n 0, 1) := by decide +kernel
theorem dX11_carpet_28 : decode cX11_carpet 28 = .ok (.iload 4, 2) := by decide +kernel
theorem dX11_carpet_30 : decode cX11_carpet 30 = .ok (.invokevirtual 117, 3) := by decide +kernel
theorem dX11_carpet_33 : decode cX11_carpet 33 = .ok (.ireturn, 1) := by decide +kernel
theorem dX11_of_0 : decode cX11_of 0 = .ok (.aload_n 0, 1) := by decide +kernel
theorem dX11_of_1 : decode cX11_of 1 = .ok (.getfield 12, 3) := by decide +kernel
theorem dX11_of_4 : decode cX11_of 4 = .ok (.getfield 107, 3) := by decide +kernel
theorem dX11_of_7 : decode cX11_of 7 = .ok (.astore_n 3, 1) := by decide +kernel
theorem dX11_of_8 : decode cX11_of 8 = .ok (.aload_n 3, 1) := by decide +kernel
theorem dX11_of_9 : decode cX11_of 9 = .ok (.iload_n 1, 1) := by decide +kernel
theorem dX11_of_10 : decode cX11_of 10 = .ok (.invokevirtual 121, 3) := by decide +kernel
theorem dX11_of_13 : decode cX11_of 13 = .ok (.ifCond .ne 5, 3) := by decide +kernel
theorem dX11_of_16 : decode cX11_of 16 = .ok (.iconst (-1), 1) := by decide +kernel
theorem dX11_of_17 : decode cX11_of 17 = .ok (.ireturn, 1) := by decide +kernel
theorem dX11_of_18 : decode cX11_of 18 = .ok (.iload_n 2, 1) := by decide +kernel
theorem dX11_of_19 : decode cX11_of 19 = .ok (.tableswitch 101 0 5 #[37, 44, 51, 58, 65, 72], 37) := by decide +kernel
theorem dX11_of_56 : decode cX11_of 56 = .ok (.aload_n 3, 1) := by decide +kernel
theorem dX11_of_57 : decode cX11_of 57 = .ok (.getfield 125, 3) := by decide +kernel
theorem dX11_of_60 : decode cX11_of 60 = .ok (.iload_n 1, 1) := by decide +kernel
theorem dX11_of_61 : decode cX11_of 61 = .ok (.iaload, 1) := by decide +kernel
theorem dX11_of_62 : decode cX11_of 62 = .ok (.ireturn, 1) := by decide +kernel
theorem dX11_of_63 : decode cX11_of 63 = .ok (.aload_n 3, 1) := by decide +kernel
theorem dX11_of_64 : decode cX11_of 64 = .ok (.getfield 128, 3) := by decide +kernel
theorem dX11_of_67 : decode cX11_of 67 = .ok (.iload_n 1, 1) := by decide +kernel
theorem dX11_of_68 : decode cX11_of 68 = .ok (.iaload, 1) := by decide +kernel
theorem dX11_of_69 : decode cX11_of 69 = .ok (.ireturn, 1) := by decide +kernel
theorem dX11_of_70 : decode cX11_of 70 = .ok (.aload_n 3, 1) := by decide +kernel
theorem dX11_of_71 : decode cX11_of 71 = .ok (.getfield 131, 3) := by decide +kernel
theorem dX11_of_74 : decode cX11_of 74 = .ok (.iload_n 1, 1) := by decide +kernel
theorem dX11_of_75 : decode cX11_of 75 = .ok (.iaload, 1) := by decide +kernel
theorem dX11_of_76 : decode cX11_of 76 = .ok (.ireturn, 1) := by decide +kernel
theorem dX11_of_77 : decode cX11_of 77 = .ok (.aload_n 3, 1) := by decide +kernel
theorem dX11_of_78 : decode cX11_of 78 = .ok (.getfield 134, 3) := by decide +kernel
theorem dX11_of_81 : decode cX11_of 81 = .ok (.iload_n 1, 1) := by decide +kernel
theorem dX11_of_82 : decode cX11_of 82 = .ok (.iaload, 1) := by decide +kernel
theorem dX11_of_83 : decode cX11_of 83 = .ok (.ireturn, 1) := by decide +kernel
theorem dX11_of_84 : decode cX11_of 84 = .ok (.aload_n 3, 1) := by decide +kernel
theorem dX11_of_85 : decode cX11_of 85 = .ok (.getfield 137, 3) := by decide +kernel
theorem dX11_of_88 : decode cX11_of 88 = .ok (.iload_n 1, 1) := by decide +kernel
theorem dX11_of_89 : decode cX11_of 89 = .ok (.iaload, 1) := by decide +kernel
theorem dX11_of_90 : decode cX11_of 90 = .ok (.ireturn, 1) := by decide +kernel
theorem dX11_of_91 : decode cX11_of 91 = .ok (.aload_n 3, 1) := by decide +kernel
theorem dX11_of_92 : decode cX11_of 92 = .ok (.iload_n 1, 1) := by decide +kernel
theorem dX11_of_93 : decode cX11_of 93 = .ok (.invokevirtual 140, 3) := by decide +kernel
theorem dX11_of_96 : decode cX11_of 96 = .ok (.ifCond .eq 22, 3) := by decide +kernel
theorem dX11_of_99 : decode cX11_of 99 = .ok (.aload_n 0, 1) := by decide +kernel
theorem dX11_of_100 : decode cX11_of 100 = .ok (.getfield 65, 3) := by decide +kernel
theorem dX11_of_103 : decode cX11_of 103 = .ok (.aload_n 0, 1) := by decide +kernel
theorem dX11_of_104 : decode cX11_of 104 = .ok (.getfield 12, 3) := by decide +kernel
theorem dX11_of_107 : decode cX11_of 107 = .ok (.invokevirtual 143, 3) := by decide +kernel
theorem dX11_of_110 : decode cX11_of 110 = .ok (.aload_n 3, 1) := by decide +kernel
theorem dX11_of_111 : decode cX11_of 111 = .ok (.iload_n 1, 1) := by decide +kernel
theorem dX11_of_112 : decode cX11_of 112 = .ok (.invokevirtual 147, 3) := by decide +kernel
theorem dX11_of_115 : decode cX11_of 115 = .ok (.goto 4, 3) := by decide +kernel
theorem dX11_of_118 : decode cX11_of 118 = .ok (.iconst (-1), 1) := by decide +kernel
theorem dX11_of_119 : decode cX11_of 119 = .ok (.ireturn, 1) := by decide +kernel
theorem dX11_of_120 : decode cX11_of 120 = .ok (.iconst (-1), 1) := by decide +kernel
theorem dX11_of_121 : decode cX11_of 121 = .ok (.ireturn, 1) := by decide +kernel
theorem dX11_hall_0 : decode cX11_hall 0 = .ok (.iload_n 1, 1) := by decide +kernel
theorem dX11_hall_1 : decode cX11_hall 1 = .ok (.iconst 1, 1) := by decide +kernel
theorem dX11_hall_2 : decode cX11_hall 2 = .ok (.if_icmp .lt 20, 3) := by decide +kernel
theorem dX11_hall_5 : decode cX11_hall 5 = .ok (.iload_n 1, 1) := by decide +kernel
theorem dX11_hall_6 : decode cX11_hall 6 = .ok (.bipush 12, 2) := by decide +kernel
theorem dX11_hall_8 : decode cX11_hall 8 = .ok (.if_icmp .gt 14, 3) := by decide +kernel
theorem dX11_hall_11 : decode cX11_hall 11 = .ok (.iload_n 2, 1) := by decide +kernel
theorem dX11_hall_12 : decode cX11_hall 12 = .ok (.iconst 1, 1) := by decide +kernel
theorem dX11_hall_13 : decode cX11_hall 13 = .ok (.if_icmp .lt 9, 3) := by decide +kernel
theorem dX11_hall_16 : decode cX11_hall 16 = .ok (.iload_n 2, 1) := by decide +kernel
theorem dX11_hall_17 : decode cX11_hall 17 = .ok (.bipush 12, 2) := by decide +kernel
theorem dX11_hall_19 : decode cX11_hall 19 = .ok (.if_icmp .le 9, 3) := by decide +kernel
theorem dX11_hall_22 : decode cX11_hall 22 = .ok (.aload_n 0, 1) := by decide +kernel
theorem dX11_hall_23 : decode cX11_hall 23 = .ok (.iconst (-1), 1) := by decide +kernel
theorem dX11_hall_24 : decode cX11_hall 24 = .ok (.invokevirtual 117, 3) := by decide +kernel
theorem dX11_hall_27 : decode cX11_hall 27 = .ok (.ireturn, 1) := by decide +kernel
theorem dX11_hall_28 : decode cX11_hall 28 = .ok (.aload_n 0, 1) := by decide +kernel
theorem dX11_hall_29 : decode cX11_hall 29 = .ok (.getfield 12, 3) := by decide +kernel
theorem dX11_hall_32 : decode cX11_hall 32 = .ok (.getfield 107, 3) := by decide +kernel
theorem dX11_hall_35 : decode cX11_hall 35 = .ok (.invokevirtual 151, 3) := by decide +kernel
theorem dX11_hall_38 : decode cX11_hall 38 = .ok (.ifCond .le 10, 3) := by decide +kernel
theorem dX11_hall_41 : decode cX11_hall 41 = .ok (.aload_n 0, 1) := by decide +kernel
theorem dX11_hall_42 : decode cX11_hall 42 = .ok (.bipush (-3), 2) := by decide +kernel
theorem dX11_hall_44 : decode cX11_hall 44 = .ok (.invokevirtual 117, 3) := by decide +kernel
theorem dX11_hall_47 : decode cX11_hall 47 = .ok (.ireturn, 1) := by decide +kernel
theorem dX11_hall_48 : decode cX11_hall 48 = .ok (.aload_n 0, 1) := by decide +kernel
theorem dX11_hall_49 : decode cX11_hall 49 = .ok (.getfield 12, 3) := by decide +kernel
theorem dX11_hall_52 : decode cX11_hall 52 = .ok (.getfield 107, 3) := by decide +kernel
theorem dX11_hall_55 : decode cX11_hall 55 = .ok (.iload_n 1, 1) := by decide +kernel
theorem dX11_hall_56 : decode cX11_hall 56 = .ok (.putfield 155, 3) := by decide +kernel
theorem dX11_hall_59 : decode cX11_hall 59 = .ok (.aload_n 0, 1) := by decide +kernel
theorem dX11_hall_60 : decode cX11_hall 60 = .ok (.getfield 12, 3) := by decide +kernel
theorem dX11_hall_63 : decode cX11_hall 63 = .ok (.getfield 107, 3) := by decide +kernel
theorem dX11_hall_66 : decode cX11_hall 66 = .ok (.iload_n 2, 1) := by decide +kernel
theorem dX11_hall_67 : decode cX11_hall 67 = .ok (.putfield 158, 3) := by decide +kernel
theorem dX11_hall_70 : decode cX11_hall 70 = .ok (.aload_n 0, 1) := by decide +kernel
theorem dX11_hall_71 : decode cX11_hall 71 = .ok (.getfield 72, 3) := by decide +kernel
theorem dX11_hall_74 : decode cX11_hall 74 = .ok (.invokevirtual 114, 3) := by decide +kernel
theorem dX11_hall_77 : decode cX11_hall 77 = .ok (.aload_n 0, 1) := by decide +kernel
theorem dX11_hall_78 : decode cX11_hall 78 = .ok (.iload_n 1, 1) := by decide +kernel
theorem dX11_hall_79 : decode cX11_hall 79 = .ok (.iload_n 2, 1) := by decide +kernel
theorem dX11_hall_80 : decode cX11_hall 80 = .ok (.imul, 1) := by decide +kernel
theorem dX11_hall_81 : decode cX11_hall 81 = .ok (.invokevirtual 117, 3) := by decide +kernel
theorem dX11_hall_84 : decode cX11_hall 84 = .ok (.ireturn, 1) := by decide +kernel
theorem dX11_at_0 : decode cX11_at 0 = .ok (.aload_n 0, 1) := by decide +kernel
theorem dX11_at_1 : decode cX11_at 1 = .ok (.getfield 12, 3) := by decide +kernel
theorem dX11_at_4 : decode cX11_at 4 = .ok (.getfield 107, 3) := by decide +kernel
theorem dX11_at_7 : decode cX11_at 7 = .ok (.iload_n 1, 1) := by decide +kernel
theorem dX11_at_8 : decode cX11_at 8 = .ok (.iload_n 2, 1) := by decide +kernel
theorem dX11_at_9 : decode cX11_at 9 = .ok (.invokevirtual 161, 3) := by decide +kernel
theorem dX11_at_12 : decode cX11_at 12 = .ok (.ireturn, 1) := by decide +kernel
theorem dX11_asks_0 : decode cX11_asks 0 = .ok (.aload_n 0, 1) := by decide +kernel
theorem dX11_asks_1 : decode cX11_asks 1 = .ok (.getfield 12, 3) := by decide +kernel
theorem dX11_asks_4 : decode cX11_asks 4 = .ok (.getfield 107, 3) := by decide +kernel
theorem dX11_asks_7 : decode cX11_asks 7 = .ok (.astore 5, 2) := by decide +kernel
theorem dX11_asks_9 : decode cX11_asks 9 = .ok (.aload 5, 2) := by decide +kernel
theorem dX11_asks_11 : decode cX11_asks 11 = .ok (.iload_n 1, 1) := by decide +kernel
theorem dX11_asks_12 : decode cX11_asks 12 = .ok (.invokevirtual 121, 3) := by decide +kernel
theorem dX11_asks_15 : decode cX11_asks 15 = .ok (.ifCond .eq 17, 3) := by decide +kernel
theorem dX11_asks_18 : decode cX11_asks 18 = .ok (.iload_n 2, 1) := by decide +kernel
theorem dX11_asks_19 : decode cX11_asks 19 = .ok (.invokestatic 165, 3) := by decide +kernel
theorem dX11_asks_22 : decode cX11_asks 22 = .ok (.ifCond .eq 10, 3) := by decide +kernel
theorem dX11_asks_25 : decode cX11_asks 25 = .ok (.iload_n 3, 1) := by decide +kernel
theorem dX11_asks_26 : decode cX11_asks 26 = .ok (.invokestatic 165, 3) := by decide +kernel
theorem dX11_asks_29 : decode cX11_asks 29 = .ok (.ifCond .ne 5, 3) := by decide +kernel
theorem dX11_asks_32 : decode cX11_asks 32 = .ok (.iconst (-1), 1) := by decide +kernel
theorem dX11_asks_33 : decode cX11_asks 33 = .ok (.ireturn, 1) := by decide +kernel
theorem dX11_asks_34 : decode cX11_asks 34 = .ok (.iload 4, 2) := by decide +kernel
theorem dX11_asks_36 : decode cX11_asks 36 = .ok (.tableswitch 94 0 2 #[28, 48, 76], 28) := by decide +kernel
theorem dX11_asks_64 : decode cX11_asks 64 = .ok (.aload_n 0, 1) := by decide +kernel
theorem dX11_asks_65 : decode cX11_asks 65 = .ok (.getfield 65, 3) := by decide +kernel
theorem dX11_asks_68 : decode cX11_asks 68 = .ok (.aload_n 0, 1) := by decide +kernel
theorem dX11_asks_69 : decode cX11_asks 69 = .ok (.getfield 12, 3) := by decide +kernel
theorem dX11_asks_72 : decode cX11_asks 72 = .ok (.invokevirtual 143, 3) := by decide +kernel
theorem dX11_asks_75 : decode cX11_asks 75 = .ok (.aload 5, 2) := by decide +kernel
theorem dX11_asks_77 : decode cX11_asks 77 = .ok (.iload_n 1, 1) := by decide +kernel
theorem dX11_asks_78 : decode cX11_asks 78 = .ok (.iload_n 2, 1) := by decide +kernel
theorem dX11_asks_79 : decode cX11_asks 79 = .ok (.iload_n 3, 1) := by decide +kernel
theorem dX11_asks_80 : decode cX11_asks 80 = .ok (.invokevirtual 168, 3) := by decide +kernel
theorem dX11_asks_83 : decode cX11_asks 83 = .ok (.ireturn, 1) := by decide +kernel
theorem dX11_asks_84 : decode cX11_asks 84 = .ok (.aload_n 0, 1) := by decide +kernel
theorem dX11_asks_85 : decode cX11_asks 85 = .ok (.getfield 65, 3) := by decide +kernel
theorem dX11_asks_88 : decode cX11_asks 88 = .ok (.aload_n 0, 1) := by decide +kernel
theorem dX11_asks_89 : decode cX11_asks 89 = .ok (.getfield 12, 3) := by decide +kernel
theorem dX11_asks_92 : decode cX11_asks 92 = .ok (.invokevirtual 143, 3) := by decide +kernel
theorem dX11_asks_95 : decode cX11_asks 95 = .ok (.aload 5, 2) := by decide +kernel
theorem dX11_asks_97 : decode cX11_asks 97 = .ok (.iload_n 1, 1) := by decide +kernel
theorem dX11_asks_98 : decode cX11_asks 98 = .ok (.iload_n 2, 1) := by decide +kernel
theorem dX11_asks_99 : decode cX11_asks 99 = .ok (.iload_n 3, 1) := by decide +kernel
theorem dX11_asks_100 : decode cX11_asks 100 = .ok (.invokevirtual 172, 3) := by decide +kernel
theorem dX11_asks_103 : decode cX11_asks 103 = .ok (.ifCond .eq 7, 3) := by decide +kernel
theorem dX11_asks_106 : decode cX11_asks 106 = .ok (.iconst 1, 1) := by decide +kernel
theorem dX11_asks_107 : decode cX11_asks 107 = .ok (.goto 4, 3) := by decide +kernel
theorem dX11_asks_110 : decode cX11_asks 110 = .ok (.iconst 0, 1) := by decide +kernel
theorem dX11_asks_111 : decode cX11_asks 111 = .ok (.ireturn, 1) := by decide +kernel
theorem dX11_asks_112 : decode cX11_asks 112 = .ok (.aload_n 0, 1) := by decide +kernel
theorem dX11_asks_113 : decode cX11_asks 113 = .ok (.aload 5, 2) := by decide +kernel
theorem dX11_asks_115 : decode cX11_asks 115 = .ok (.iload_n 1, 1) := by decide +kernel
theorem dX11_asks_116 : decode cX11_asks 116 = .ok (.iload_n 2, 1) := by decide +kernel
theorem dX11_asks_117 : decode cX11_asks 117 = .ok (.iload_n 3, 1) := by decide +kernel
theorem dX11_asks_118 : decode cX11_asks 118 = .ok (.invokevirtual 176, 3) := by decide +kernel
theorem dX11_asks_121 : decode cX11_asks 121 = .ok (.ifCond .eq 7, 3) := by decide +kernel
theorem dX11_asks_124 : decode cX11_asks 124 = .ok (.iconst 1, 1) := by decide +kernel
theorem dX11_asks_125 : decode cX11_asks 125 = .ok (.goto 4, 3) := by decide +kernel
theorem dX11_asks_128 : decode cX11_asks 128 = .ok (.iconst 0, 1) := by decide +kernel
theorem dX11_asks_129 : decode cX11_asks 129 = .ok (.ireturn, 1) := by decide +kernel
theorem dX11_asks_130 : decode cX11_asks 130 = .ok (.iconst (-1), 1) := by decide +kernel
theorem dX11_asks_131 : decode cX11_asks 131 = .ok (.ireturn, 1) := by decide +kernel
theorem dX11_terms_0 : decode cX11_terms 0 = .ok (.iload_n 1, 1) := by decide +kernel
theorem dX11_terms_1 : decode cX11_terms 1 = .ok (.ifCond .lt 20, 3) := by decide +kernel
theorem dX11_terms_4 : decode cX11_terms 4 = .ok (.iload_n 1, 1) := by decide +kernel
theorem dX11_terms_5 : decode cX11_terms 5 = .ok (.iconst 3, 1) := by decide +kernel
theorem dX11_terms_6 : decode cX11_terms 6 = .ok (.if_icmp .ge 15, 3) := by decide +kernel
theorem dX11_terms_9 : decode cX11_terms 9 = .ok (.iload_n 2, 1) := by decide +kernel
theorem dX11_terms_10 : decode cX11_terms 10 = .ok (.ifCond .lt 11, 3) := by decide +kernel
theorem dX11_terms_13 : decode cX11_terms 13 = .ok (.iload_n 2, 1) := by decide +kernel
theorem dX11_terms_14 : decode cX11_terms 14 = .ok (.iload_n 1, 1) := by decide +kernel
theorem dX11_terms_15 : decode cX11_terms 15 = .ok (.invokestatic 180, 3) := by decide +kernel
theorem dX11_terms_18 : decode cX11_terms 18 = .ok (.if_icmp .le 9, 3) := by decide +kernel
theorem dX11_terms_21 : decode cX11_terms 21 = .ok (.aload_n 0, 1) := by decide +kernel
theorem dX11_terms_22 : decode cX11_terms 22 = .ok (.iconst (-1), 1) := by decide +kernel
theorem dX11_terms_23 : decode cX11_terms 23 = .ok (.invokevirtual 117, 3) := by decide +kernel
theorem dX11_terms_26 : decode cX11_terms 26 = .ok (.ireturn, 1) := by decide +kernel
theorem dX11_terms_27 : decode cX11_terms 27 = .ok (.aload_n 0, 1) := by decide +kernel
theorem dX11_terms_28 : decode cX11_terms 28 = .ok (.getfield 12, 3) := by decide +kernel
theorem dX11_terms_31 : decode cX11_terms 31 = .ok (.getfield 107, 3) := by decide +kernel
theorem dX11_terms_34 : decode cX11_terms 34 = .ok (.getfield 183, 3) := by decide +kernel
theorem dX11_terms_37 : decode cX11_terms 37 = .ok (.iload_n 1, 1) := by decide +kernel
theorem dX11_terms_38 : decode cX11_terms 38 = .ok (.iaload, 1) := by decide +kernel
theorem dX11_terms_39 : decode cX11_terms 39 = .ok (.istore_n 3, 1) := by decide +kernel
theorem dX11_terms_40 : decode cX11_terms 40 = .ok (.aload_n 0, 1) := by decide +kernel
theorem dX11_terms_41 : decode cX11_terms 41 = .ok (.getfield 12, 3) := by decide +kernel
theorem dX11_terms_44 : decode cX11_terms 44 = .ok (.getfield 107, 3) := by decide +kernel
theorem dX11_terms_47 : decode cX11_terms 47 = .ok (.getfield 183, 3) := by decide +kernel
theorem dX11_terms_50 : decode cX11_terms 50 = .ok (.iload_n 1, 1) := by decide +kernel
theorem dX11_terms_51 : decode cX11_terms 51 = .ok (.iload_n 2, 1) := by decide +kernel
theorem dX11_terms_52 : decode cX11_terms 52 = .ok (.iastore, 1) := by decide +kernel
theorem dX11_terms_53 : decode cX11_terms 53 = .ok (.aload_n 0, 1) := by decide +kernel
theorem dX11_terms_54 : decode cX11_terms 54 = .ok (.getfield 72, 3) := by decide +kernel
theorem dX11_terms_57 : decode cX11_terms 57 = .ok (.invokevirtual 114, 3) := by decide +kernel
theorem dX11_terms_60 : decode cX11_terms 60 = .ok (.aload_n 0, 1) := by decide +kernel
theorem dX11_terms_61 : decode cX11_terms 61 = .ok (.iload_n 3, 1) := by decide +kernel
theorem dX11_terms_62 : decode cX11_terms 62 = .ok (.invokevirtual 117, 3) := by decide +kernel
theorem dX11_terms_65 : decode cX11_terms 65 = .ok (.ireturn, 1) := by decide +kernel
theorem dX11_feed_0 : decode cX11_feed 0 = .ok (.aload_n 0, 1) := by decide +kernel
theorem dX11_feed_1 : decode cX11_feed 1 = .ok (.getfield 37, 3) := by decide +kernel
theorem dX11_feed_4 : decode cX11_feed 4 = .ok (.getfield 186, 3) := by decide +kernel
theorem dX11_feed_7 : decode cX11_feed 7 = .ok (.bipush 20, 2) := by decide +kernel
theorem dX11_feed_9 : decode cX11_feed 9 = .ok (.iadd, 1) := by decide +kernel
theorem dX11_feed_10 : decode cX11_feed 10 = .ok (.sipush 400, 3) := by decide +kernel
theorem dX11_feed_13 : decode cX11_feed 13 = .ok (.if_icmp .le 5, 3) := by decide +kernel
theorem dX11_feed_16 : decode cX11_feed 16 = .ok (.iconst (-1), 1) := by decide +kernel
theorem dX11_feed_17 : decode cX11_feed 17 = .ok (.ireturn, 1) := by decide +kernel
theorem dX11_feed_18 : decode cX11_feed 18 = .ok (.aload_n 0, 1) := by decide +kernel
theorem dX11_feed_19 : decode cX11_feed 19 = .ok (.getfield 37, 3) := by decide +kernel
theorem dX11_feed_22 : decode cX11_feed 22 = .ok (.iload_n 1, 1) := by decide +kernel
theorem dX11_feed_23 : decode cX11_feed 23 = .ok (.invokevirtual 189, 3) := by decide +kernel
theorem dX11_feed_26 : decode cX11_feed 26 = .ok (.aload_n 0, 1) := by decide +kernel
theorem dX11_feed_27 : decode cX11_feed 27 = .ok (.getfield 37, 3) := by decide +kernel
theorem dX11_feed_30 : decode cX11_feed 30 = .ok (.iload_n 2, 1) := by decide +kernel
theorem dX11_feed_31 : decode cX11_feed 31 = .ok (.invokevirtual 189, 3) := by decide +kernel
theorem dX11_feed_34 : decode cX11_feed 34 = .ok (.aload_n 0, 1) := by decide +kernel
theorem dX11_feed_35 : decode cX11_feed 35 = .ok (.getfield 37, 3) := by decide +kernel
theorem dX11_feed_38 : decode cX11_feed 38 = .ok (.iload_n 3, 1) := by decide +kernel
theorem dX11_feed_39 : decode cX11_feed 39 = .ok (.invokevirtual 189, 3) := by decide +kernel
theorem dX11_feed_42 : decode cX11_feed 42 = .ok (.aload_n 0, 1) := by decide +kernel
theorem dX11_feed_43 : decode cX11_feed 43 = .ok (.getfield 37, 3) := by decide +kernel
theorem dX11_feed_46 : decode cX11_feed 46 = .ok (.iload 4, 2) := by decide +kernel
theorem dX11_feed_48 : decode cX11_feed 48 = .ok (.invokevirtual 189, 3) := by decide +kernel
theorem dX11_feed_51 : decode cX11_feed 51 = .ok (.aload_n 0, 1) := by decide +kernel
theorem dX11_feed_52 : decode cX11_feed 52 = .ok (.getfield 37, 3) := by decide +kernel
theorem dX11_feed_55 : decode cX11_feed 55 = .ok (.iload 5, 2) := by decide +kernel
theorem dX11_feed_57 : decode cX11_feed 57 = .ok (.invokevirtual 189, 3) := by decide +kernel
theorem dX11_feed_60 : decode cX11_feed 60 = .ok (.aload_n 0, 1) := by decide +kernel
theorem dX11_feed_61 : decode cX11_feed 61 = .ok (.getfield 37, 3) := by decide +kernel
theorem dX11_feed_64 : decode cX11_feed 64 = .ok (.getfield 186, 3) := by decide +kernel
theorem dX11_feed_67 : decode cX11_feed 67 = .ok (.ireturn, 1) := by decide +kernel
theorem dX11_end_0 : decode cX11_end 0 = .ok (.iload_n 1, 1) := by decide +kernel
theorem dX11_end_1 : decode cX11_end 1 = .ok (.ifCond .lt 14, 3) := by decide +kernel
theorem dX11_end_4 : decode cX11_end 4 = .ok (.iload_n 1, 1) := by decide +kernel
theorem dX11_end_5 : decode cX11_end 5 = .ok (.aload_n 0, 1) := by decide +kernel
theorem dX11_end_6 : decode cX11_end 6 = .ok (.getfield 37, 3) := by decide +kernel
theorem dX11_end_9 : decode cX11_end 9 = .ok (.getfield 186, 3) := by decide +kernel
theorem dX11_end_12 : decode cX11_end 12 = .ok (.if_icmp .le 5, 3) := by decide +kernel
theorem dX11_end_15 : decode cX11_end 15 = .ok (.iconst (-1), 1) := by decide +kernel
theorem dX11_end_16 : decode cX11_end 16 = .ok (.ireturn, 1) := by decide +kernel
theorem dX11_end_17 : decode cX11_end 17 = .ok (.aload_n 0, 1) := by decide +kernel
theorem dX11_end_18 : decode cX11_end 18 = .ok (.getfield 37, 3) := by decide +kernel
theorem dX11_end_21 : decode cX11_end 21 = .ok (.iload_n 1, 1) := by decide +kernel
theorem dX11_end_22 : decode cX11_end 22 = .ok (.putfield 186, 3) := by decide +kernel
theorem dX11_end_25 : decode cX11_end 25 = .ok (.iload_n 1, 1) := by decide +kernel
theorem dX11_end_26 : decode cX11_end 26 = .ok (.ireturn, 1) := by decide +kernel
theorem dX11_row_0 : decode cX11_row 0 = .ok (.aload_n 0, 1) := by decide +kernel
theorem dX11_row_1 : decode cX11_row 1 = .ok (.getfield 37, 3) := by decide +kernel
theorem dX11_row_4 : decode cX11_row 4 = .ok (.getfield 186, 3) := by decide +kernel
theorem dX11_row_7 : decode cX11_row 7 = .ok (.ifCond .ne 10, 3) := by decide +kernel
theorem dX11_row_10 : decode cX11_row 10 = .ok (.aload_n 0, 1) := by decide +kernel
theorem dX11_row_11 : decode cX11_row 11 = .ok (.bipush (-6), 2) := by decide +kernel
theorem dX11_row_13 : decode cX11_row 13 = .ok (.invokevirtual 117, 3) := by decide +kernel
theorem dX11_row_16 : decode cX11_row 16 = .ok (.ireturn, 1) := by decide +kernel
theorem dX11_row_17 : decode cX11_row 17 = .ok (.iconst 0, 1) := by decide +kernel
theorem dX11_row_18 : decode cX11_row 18 = .ok (.istore_n 1, 1) := by decide +kernel
theorem dX11_row_19 : decode cX11_row 19 = .ok (.iconst 0, 1) := by decide +kernel
theorem dX11_row_20 : decode cX11_row 20 = .ok (.istore_n 2, 1) := by decide +kernel
theorem dX11_row_21 : decode cX11_row 21 = .ok (.iconst 0, 1) := by decide +kernel
theorem dX11_row_22 : decode cX11_row 22 = .ok (.istore_n 3, 1) := by decide +kernel
theorem dX11_row_23 : decode cX11_row 23 = .ok (.iload_n 3, 1) := by decide +kernel
theorem dX11_row_24 : decode cX11_row 24 = .ok (.aload_n 0, 1) := by decide +kernel
theorem dX11_row_25 : decode cX11_row 25 = .ok (.getfield 37, 3) := by decide +kernel
theorem dX11_row_28 : decode cX11_row 28 = .ok (.getfield 186, 3) := by decide +kernel
theorem dX11_row_31 : decode cX11_row 31 = .ok (.if_icmp .ge 75, 3) := by decide +kernel
theorem dX11_row_34 : decode cX11_row 34 = .ok (.iload_n 3, 1) := by decide +kernel
theorem dX11_row_35 : decode cX11_row 35 = .ok (.iconst 2, 1) := by decide +kernel
theorem dX11_row_36 : decode cX11_row 36 = .ok (.iadd, 1) := by decide +kernel
theorem dX11_row_37 : decode cX11_row 37 = .ok (.aload_n 0, 1) := by decide +kernel
theorem dX11_row_38 : decode cX11_row 38 = .ok (.getfield 37, 3) := by decide +kernel
theorem dX11_row_41 : decode cX11_row 41 = .ok (.getfield 186, 3) := by decide +kernel
theorem dX11_row_44 : decode cX11_row 44 = .ok (.if_icmp .ge 53, 3) := by decide +kernel
theorem dX11_row_47 : decode cX11_row 47 = .ok (.aload_n 0, 1) := by decide +kernel
theorem dX11_row_48 : decode cX11_row 48 = .ok (.getfield 12, 3) := by decide +kernel
theorem dX11_row_51 : decode cX11_row 51 = .ok (.getfield 107, 3) := by decide +kernel
theorem dX11_row_54 : decode cX11_row 54 = .ok (.aload_n 0, 1) := by decide +kernel
theorem dX11_row_55 : decode cX11_row 55 = .ok (.getfield 37, 3) := by decide +kernel
theorem dX11_row_58 : decode cX11_row 58 = .ok (.getfield 193, 3) := by decide +kernel
theorem dX11_row_61 : decode cX11_row 61 = .ok (.iload_n 3, 1) := by decide +kernel
theorem dX11_row_62 : decode cX11_row 62 = .ok (.iaload, 1) := by decide +kernel
theorem dX11_row_63 : decode cX11_row 63 = .ok (.aload_n 0, 1) := by decide +kernel
theorem dX11_row_64 : decode cX11_row 64 = .ok (.getfield 37, 3) := by decide +kernel
theorem dX11_row_67 : decode cX11_row 67 = .ok (.getfield 193, 3) := by decide +kernel
theorem dX11_row_70 : decode cX11_row 70 = .ok (.iload_n 3, 1) := by decide +kernel
theorem dX11_row_71 : decode cX11_row 71 = .ok (.iconst 1, 1) := by decide +kernel
theorem dX11_row_72 : decode cX11_row 72 = .ok (.iadd, 1) := by decide +kernel
theorem dX11_row_73 : decode cX11_row 73 = .ok (.iaload, 1) := by decide +kernel
theorem dX11_row_74 : decode cX11_row 74 = .ok (.aload_n 0, 1) := by decide +kernel
theorem dX11_row_75 : decode cX11_row 75 = .ok (.getfield 37, 3) := by decide +kernel
theorem dX11_row_78 : decode cX11_row 78 = .ok (.getfield 193, 3) := by decide +kernel
theorem dX11_row_81 : decode cX11_row 81 = .ok (.iload_n 3, 1) := by decide +kernel
theorem dX11_row_82 : decode cX11_row 82 = .ok (.iconst 2, 1) := by decide +kernel
theorem dX11_row_83 : decode cX11_row 83 = .ok (.iadd, 1) := by decide +kernel
theorem dX11_row_84 : decode cX11_row 84 = .ok (.iaload, 1) := by decide +kernel
theorem dX11_row_85 : decode cX11_row 85 = .ok (.invokevirtual 110, 3) := by decide +kernel
theorem dX11_row_88 : decode cX11_row 88 = .ok (.ifCond .lt 9, 3) := by decide +kernel
theorem dX11_row_91 : decode cX11_row 91 = .ok (.iinc 1 1, 3) := by decide +kernel
theorem dX11_row_94 : decode cX11_row 94 = .ok (.goto 6, 3) := by decide +kernel
theorem dX11_row_97 : decode cX11_row 97 = .ok (.iinc 2 1, 3) := by decide +kernel
theorem dX11_row_100 : decode cX11_row 100 = .ok (.iinc 3 3, 3) := by decide +kernel
theorem dX11_row_103 : decode cX11_row 103 = .ok (.goto (-80), 3) := by decide +kernel
theorem dX11_row_106 : decode cX11_row 106 = .ok (.aload_n 0, 1) := by decide +kernel
theorem dX11_row_107 : decode cX11_row 107 = .ok (.iload_n 2, 1) := by decide +kernel
theorem dX11_row_108 : decode cX11_row 108 = .ok (.putfield 101, 3) := by decide +kernel
theorem dX11_row_111 : decode cX11_row 111 = .ok (.aload_n 0, 1) := by decide +kernel
theorem dX11_row_112 : decode cX11_row 112 = .ok (.getfield 37, 3) := by decide +kernel
theorem dX11_row_115 : decode cX11_row 115 = .ok (.iconst 0, 1) := by decide +kernel
theorem dX11_row_116 : decode cX11_row 116 = .ok (.putfield 186, 3) := by decide +kernel
theorem dX11_row_119 : decode cX11_row 119 = .ok (.aload_n 0, 1) := by decide +kernel
theorem dX11_row_120 : decode cX11_row 120 = .ok (.getfield 72, 3) := by decide +kernel
theorem dX11_row_123 : decode cX11_row 123 = .ok (.invokevirtual 114, 3) := by decide +kernel
theorem dX11_row_126 : decode cX11_row 126 = .ok (.aload_n 0, 1) := by decide +kernel
theorem dX11_row_127 : decode cX11_row 127 = .ok (.iload_n 1, 1) := by decide +kernel
theorem dX11_row_128 : decode cX11_row 128 = .ok (.invokevirtual 117, 3) := by decide +kernel
theorem dX11_row_131 : decode cX11_row 131 = .ok (.ireturn, 1) := by decide +kernel
theorem dX11_fluff_0 : decode cX11_fluff 0 = .ok (.aload_n 0, 1) := by decide +kernel
theorem dX11_fluff_1 : decode cX11_fluff 1 = .ok (.getfield 101, 3) := by decide +kernel
theorem dX11_fluff_4 : decode cX11_fluff 4 = .ok (.ireturn, 1) := by decide +kernel
theorem dX11_law_0 : decode cX11_law 0 = .ok (.aload_n 0, 1) := by decide +kernel
theorem dX11_law_1 : decode cX11_law 1 = .ok (.getfield 12, 3) := by decide +kernel
theorem dX11_law_4 : decode cX11_law 4 = .ok (.getfield 196, 3) := by decide +kernel
theorem dX11_law_7 : decode cX11_law 7 = .ok (.bipush 6, 2) := by decide +kernel
theorem dX11_law_9 : decode cX11_law 9 = .ok (.if_icmp .lt 18, 3) := by decide +kernel
theorem dX11_law_12 : decode cX11_law 12 = .ok (.aload_n 0, 1) := by decide +kernel
theorem dX11_law_13 : decode cX11_law 13 = .ok (.getfield 37, 3) := by decide +kernel
theorem dX11_law_16 : decode cX11_law 16 = .ok (.iconst 0, 1) := by decide +kernel
theorem dX11_law_17 : decode cX11_law 17 = .ok (.putfield 186, 3) := by decide +kernel
theorem dX11_law_20 : decode cX11_law 20 = .ok (.aload_n 0, 1) := by decide +kernel
theorem dX11_law_21 : decode cX11_law 21 = .ok (.bipush (-5), 2) := by decide +kernel
theorem dX11_law_23 : decode cX11_law 23 = .ok (.invokevirtual 117, 3) := by decide +kernel
theorem dX11_law_26 : decode cX11_law 26 = .ok (.ireturn, 1) := by decide +kernel
theorem dX11_law_27 : decode cX11_law 27 = .ok (.aload_n 0, 1) := by decide +kernel
theorem dX11_law_28 : decode cX11_law 28 = .ok (.aload_n 0, 1) := by decide +kernel
theorem dX11_law_29 : decode cX11_law 29 = .ok (.getfield 44, 3) := by decide +kernel
theorem dX11_law_32 : decode cX11_law 32 = .ok (.aload_n 0, 1) := by decide +kernel
theorem dX11_law_33 : decode cX11_law 33 = .ok (.getfield 37, 3) := by decide +kernel
theorem dX11_law_36 : decode cX11_law 36 = .ok (.aload_n 0, 1) := by decide +kernel
theorem dX11_law_37 : decode cX11_law 37 = .ok (.getfield 12, 3) := by decide +kernel
theorem dX11_law_40 : decode cX11_law 40 = .ok (.getfield 199, 3) := by decide +kernel
theorem dX11_law_43 : decode cX11_law 43 = .ok (.aload_n 0, 1) := by decide +kernel
theorem dX11_law_44 : decode cX11_law 44 = .ok (.getfield 12, 3) := by decide +kernel
theorem dX11_law_47 : decode cX11_law 47 = .ok (.getfield 196, 3) := by decide +kernel
theorem dX11_law_50 : decode cX11_law 50 = .ok (.aaload, 1) := by decide +kernel
theorem dX11_law_51 : decode cX11_law 51 = .ok (.iconst 0, 1) := by decide +kernel
theorem dX11_law_52 : decode cX11_law 52 = .ok (.invokevirtual 203, 3) := by decide +kernel
theorem dX11_law_55 : decode cX11_law 55 = .ok (.putfield 98, 3) := by decide +kernel
theorem dX11_law_58 : decode cX11_law 58 = .ok (.aload_n 0, 1) := by decide +kernel
theorem dX11_law_59 : decode cX11_law 59 = .ok (.getfield 37, 3) := by decide +kernel
theorem dX11_law_62 : decode cX11_law 62 = .ok (.iconst 0, 1) := by decide +kernel
theorem dX11_law_63 : decode cX11_law 63 = .ok (.putfield 186, 3) := by decide +kernel
theorem dX11_law_66 : decode cX11_law 66 = .ok (.aload_n 0, 1) := by decide +kernel
theorem dX11_law_67 : decode cX11_law 67 = .ok (.getfield 98, 3) := by decide +kernel
theorem dX11_law_70 : decode cX11_law 70 = .ok (.iconst (-1), 1) := by decide +kernel
theorem dX11_law_71 : decode cX11_law 71 = .ok (.if_icmp .eq 10, 3) := by decide +kernel
theorem dX11_law_74 : decode cX11_law 74 = .ok (.aload_n 0, 1) := by decide +kernel
theorem dX11_law_75 : decode cX11_law 75 = .ok (.bipush (-6), 2) := by decide +kernel
theorem dX11_law_77 : decode cX11_law 77 = .ok (.invokevirtual 117, 3) := by decide +kernel
theorem dX11_law_80 : decode cX11_law 80 = .ok (.ireturn, 1) := by decide +kernel
theorem dX11_law_81 : decode cX11_law 81 = .ok (.aload_n 0, 1) := by decide +kernel
theorem dX11_law_82 : decode cX11_law 82 = .ok (.getfield 12, 3) := by decide +kernel
theorem dX11_law_85 : decode cX11_law 85 = .ok (.dup, 1) := by decide +kernel
theorem dX11_law_86 : decode cX11_law 86 = .ok (.getfield 196, 3) := by decide +kernel
theorem dX11_law_89 : decode cX11_law 89 = .ok (.iconst 1, 1) := by decide +kernel
theorem dX11_law_90 : decode cX11_law 90 = .ok (.iadd, 1) := by decide +kernel
theorem dX11_law_91 : decode cX11_law 91 = .ok (.putfield 196, 3) := by decide +kernel
theorem dX11_law_94 : decode cX11_law 94 = .ok (.aload_n 0, 1) := by decide +kernel
theorem dX11_law_95 : decode cX11_law 95 = .ok (.aload_n 0, 1) := by decide +kernel
theorem dX11_law_96 : decode cX11_law 96 = .ok (.getfield 12, 3) := by decide +kernel
theorem dX11_law_99 : decode cX11_law 99 = .ok (.getfield 196, 3) := by decide +kernel
theorem dX11_law_102 : decode cX11_law 102 = .ok (.iconst 1, 1) := by decide +kernel
theorem dX11_law_103 : decode cX11_law 103 = .ok (.isub, 1) := by decide +kernel
theorem dX11_law_104 : decode cX11_law 104 = .ok (.invokevirtual 117, 3) := by decide +kernel
theorem dX11_law_107 : decode cX11_law 107 = .ok (.ireturn, 1) := by decide +kernel
theorem dX11_orders_0 : decode cX11_orders 0 = .ok (.aload_n 0, 1) := by decide +kernel
theorem dX11_orders_1 : decode cX11_orders 1 = .ok (.iconst (-1), 1) := by decide +kernel
theorem dX11_orders_2 : decode cX11_orders 2 = .ok (.putfield 104, 3) := by decide +kernel
theorem dX11_orders_5 : decode cX11_orders 5 = .ok (.aload_n 0, 1) := by decide +kernel
theorem dX11_orders_6 : decode cX11_orders 6 = .ok (.aload_n 0, 1) := by decide +kernel
theorem dX11_orders_7 : decode cX11_orders 7 = .ok (.getfield 44, 3) := by decide +kernel
theorem dX11_orders_10 : decode cX11_orders 10 = .ok (.aload_n 0, 1) := by decide +kernel
theorem dX11_orders_11 : decode cX11_orders 11 = .ok (.getfield 37, 3) := by decide +kernel
theorem dX11_orders_14 : decode cX11_orders 14 = .ok (.aload_n 0, 1) := by decide +kernel
theorem dX11_orders_15 : decode cX11_orders 15 = .ok (.getfield 51, 3) := by decide +kernel
theorem dX11_orders_18 : decode cX11_orders 18 = .ok (.iconst 1, 1) := by decide +kernel
theorem dX11_orders_19 : decode cX11_orders 19 = .ok (.invokevirtual 203, 3) := by decide +kernel
theorem dX11_orders_22 : decode cX11_orders 22 = .ok (.putfield 98, 3) := by decide +kernel
theorem dX11_orders_25 : decode cX11_orders 25 = .ok (.aload_n 0, 1) := by decide +kernel
theorem dX11_orders_26 : decode cX11_orders 26 = .ok (.getfield 37, 3) := by decide +kernel
theorem dX11_orders_29 : decode cX11_orders 29 = .ok (.iconst 0, 1) := by decide +kernel
theorem dX11_orders_30 : decode cX11_orders 30 = .ok (.putfield 186, 3) := by decide +kernel
theorem dX11_orders_33 : decode cX11_orders 33 = .ok (.aload_n 0, 1) := by decide +kernel
theorem dX11_orders_34 : decode cX11_orders 34 = .ok (.getfield 98, 3) := by decide +kernel
theorem dX11_orders_37 : decode cX11_orders 37 = .ok (.iconst (-1), 1) := by decide +kernel
theorem dX11_orders_38 : decode cX11_orders 38 = .ok (.if_icmp .eq 10, 3) := by decide +kernel
theorem dX11_orders_41 : decode cX11_orders 41 = .ok (.aload_n 0, 1) := by decide +kernel
theorem dX11_orders_42 : decode cX11_orders 42 = .ok (.bipush (-6), 2) := by decide +kernel
theorem dX11_orders_44 : decode cX11_orders 44 = .ok (.invokevirtual 117, 3) := by decide +kernel
theorem dX11_orders_47 : decode cX11_orders 47 = .ok (.ireturn, 1) := by decide +kernel
theorem dX11_orders_48 : decode cX11_orders 48 = .ok (.aload_n 0, 1) := by decide +kernel
theorem dX11_orders_49 : decode cX11_orders 49 = .ok (.getfield 72, 3) := by decide +kernel
theorem dX11_orders_52 : decode cX11_orders 52 = .ok (.aload_n 0, 1) := by decide +kernel
theorem dX11_orders_53 : decode cX11_orders 53 = .ok (.getfield 12, 3) := by decide +kernel
theorem dX11_orders_56 : decode cX11_orders 56 = .ok (.getfield 107, 3) := by decide +kernel
theorem dX11_orders_59 : decode cX11_orders 59 = .ok (.invokevirtual 207, 3) := by decide +kernel
theorem dX11_orders_62 : decode cX11_orders 62 = .ok (.aload_n 0, 1) := by decide +kernel
theorem dX11_orders_63 : decode cX11_orders 63 = .ok (.getfield 58, 3) := by decide +kernel
theorem dX11_orders_66 : decode cX11_orders 66 = .ok (.getfield 211, 3) := by decide +kernel
theorem dX11_orders_69 : decode cX11_orders 69 = .ok (.iconst 1, 1) := by decide +kernel
theorem dX11_orders_70 : decode cX11_orders 70 = .ok (.iconst 0, 1) := by decide +kernel
theorem dX11_orders_71 : decode cX11_orders 71 = .ok (.iastore, 1) := by decide +kernel
theorem dX11_orders_72 : decode cX11_orders 72 = .ok (.aload_n 0, 1) := by decide +kernel
theorem dX11_orders_73 : decode cX11_orders 73 = .ok (.getfield 58, 3) := by decide +kernel
theorem dX11_orders_76 : decode cX11_orders 76 = .ok (.getfield 211, 3) := by decide +kernel
theorem dX11_orders_79 : decode cX11_orders 79 = .ok (.iconst 2, 1) := by decide +kernel
theorem dX11_orders_80 : decode cX11_orders 80 = .ok (.iconst (-1), 1) := by decide +kernel
theorem dX11_orders_81 : decode cX11_orders 81 = .ok (.iastore, 1) := by decide +kernel
theorem dX11_orders_82 : decode cX11_orders 82 = .ok (.iconst 0, 1) := by decide +kernel
theorem dX11_orders_83 : decode cX11_orders 83 = .ok (.istore_n 1, 1) := by decide +kernel
theorem dX11_orders_84 : decode cX11_orders 84 = .ok (.iload_n 1, 1) := by decide +kernel
theorem dX11_orders_85 : decode cX11_orders 85 = .ok (.aload_n 0, 1) := by decide +kernel
theorem dX11_orders_86 : decode cX11_orders 86 = .ok (.getfield 51, 3) := by decide +kernel
theorem dX11_orders_89 : decode cX11_orders 89 = .ok (.getfield 214, 3) := by decide +kernel
theorem dX11_orders_92 : decode cX11_orders 92 = .ok (.if_icmp .ge 66, 3) := by decide +kernel
theorem dX11_orders_95 : decode cX11_orders 95 = .ok (.aload_n 0, 1) := by decide +kernel
theorem dX11_orders_96 : decode cX11_orders 96 = .ok (.getfield 51, 3) := by decide +kernel
theorem dX11_orders_99 : decode cX11_orders 99 = .ok (.iload_n 1, 1) := by decide +kernel
theorem dX11_orders_100 : decode cX11_orders 100 = .ok (.iconst 1, 1) := by decide +kernel
theorem dX11_orders_101 : decode cX11_orders 101 = .ok (.invokevirtual 217, 3) := by decide +kernel
theorem dX11_orders_104 : decode cX11_orders 104 = .ok (.istore_n 2, 1) := by decide +kernel
theorem dX11_orders_105 : decode cX11_orders 105 = .ok (.iconst 0, 1) := by decide +kernel
theorem dX11_orders_106 : decode cX11_orders 106 = .ok (.istore_n 3, 1) := by decide +kernel
theorem dX11_orders_107 : decode cX11_orders 107 = .ok (.iload_n 3, 1) := by decide +kernel
theorem dX11_orders_108 : decode cX11_orders 108 = .ok (.iload_n 2, 1) := by decide +kernel
theorem dX11_orders_109 : decode cX11_orders 109 = .ok (.if_icmp .ge 43, 3) := by decide +kernel
theorem dX11_orders_112 : decode cX11_orders 112 = .ok (.aload_n 0, 1) := by decide +kernel
theorem dX11_orders_113 : decode cX11_orders 113 = .ok (.iload_n 1, 1) := by decide +kernel
theorem dX11_orders_114 : decode cX11_orders 114 = .ok (.invokevirtual 220, 3) := by decide +kernel
theorem dX11_orders_117 : decode cX11_orders 117 = .ok (.ifCond .ne 29, 3) := by decide +kernel
theorem dX11_orders_120 : decode cX11_orders 120 = .ok (.aload_n 0, 1) := by decide +kernel
theorem dX11_orders_121 : decode cX11_orders 121 = .ok (.getfield 72, 3) := by decide +kernel
theorem dX11_orders_124 : decode cX11_orders 124 = .ok (.aload_n 0, 1) := by decide +kernel
theorem dX11_orders_125 : decode cX11_orders 125 = .ok (.getfield 12, 3) := by decide +kernel
theorem dX11_orders_128 : decode cX11_orders 128 = .ok (.getfield 107, 3) := by decide +kernel
theorem dX11_orders_131 : decode cX11_orders 131 = .ok (.invokevirtual 223, 3) := by decide +kernel
theorem dX11_orders_134 : decode cX11_orders 134 = .ok (.aload_n 0, 1) := by decide +kernel
theorem dX11_orders_135 : decode cX11_orders 135 = .ok (.iload_n 1, 1) := by decide +kernel
theorem dX11_orders_136 : decode cX11_orders 136 = .ok (.putfield 104, 3) := by decide +kernel
theorem dX11_orders_139 : decode cX11_orders 139 = .ok (.aload_n 0, 1) := by decide +kernel
theorem dX11_orders_140 : decode cX11_orders 140 = .ok (.bipush (-3), 2) := by decide +kernel
theorem dX11_orders_142 : decode cX11_orders 142 = .ok (.invokevirtual 117, 3) := by decide +kernel
theorem dX11_orders_145 : decode cX11_orders 145 = .ok (.ireturn, 1) := by decide +kernel
theorem dX11_orders_146 : decode cX11_orders 146 = .ok (.iinc 3 1, 3) := by decide +kernel
theorem dX11_orders_149 : decode cX11_orders 149 = .ok (.goto (-42), 3) := by decide +kernel
theorem dX11_orders_152 : decode cX11_orders 152 = .ok (.iinc 1 1, 3) := by decide +kernel
theorem dX11_orders_155 : decode cX11_orders 155 = .ok (.goto (-71), 3) := by decide +kernel
theorem dX11_orders_158 : decode cX11_orders 158 = .ok (.aload_n 0, 1) := by decide +kernel
theorem dX11_orders_159 : decode cX11_orders 159 = .ok (.aload_n 0, 1) := by decide +kernel
theorem dX11_orders_160 : decode cX11_orders 160 = .ok (.getfield 58, 3) := by decide +kernel
theorem dX11_orders_163 : decode cX11_orders 163 = .ok (.getfield 211, 3) := by decide +kernel
theorem dX11_orders_166 : decode cX11_orders 166 = .ok (.iconst 1, 1) := by decide +kernel
theorem dX11_orders_167 : decode cX11_orders 167 = .ok (.iaload, 1) := by decide +kernel
theorem dX11_orders_168 : decode cX11_orders 168 = .ok (.invokevirtual 117, 3) := by decide +kernel
theorem dX11_orders_171 : decode cX11_orders 171 = .ok (.ireturn, 1) := by decide +kernel
theorem dX11_fault_0 : decode cX11_fault 0 = .ok (.aload_n 0, 1) := by decide +kernel
theorem dX11_fault_1 : decode cX11_fault 1 = .ok (.getfield 98, 3) := by decide +kernel
theorem dX11_fault_4 : decode cX11_fault 4 = .ok (.ireturn, 1) := by decide +kernel
theorem dX11_stopped_0 : decode cX11_stopped 0 = .ok (.aload_n 0, 1) := by decide +kernel
theorem dX11_stopped_1 : decode cX11_stopped 1 = .ok (.getfield 104, 3) := by decide +kernel
theorem dX11_stopped_4 : decode cX11_stopped 4 = .ok (.ireturn, 1) := by decide +kernel
theorem dX11_force_0 : decode cX11_force 0 = .ok (.iload_n 1, 1) := by decide +kernel
theorem dX11_force_1 : decode cX11_force 1 = .ok (.iconst (-1), 1) := by decide +kernel
theorem dX11_force_2 : decode cX11_force 2 = .ok (.if_icmp .eq 21, 3) := by decide +kernel
theorem dX11_force_5 : decode cX11_force 5 = .ok (.aload_n 0, 1) := by decide +kernel
theorem dX11_force_6 : decode cX11_force 6 = .ok (.getfield 12, 3) := by decide +kernel
theorem dX11_force_9 : decode cX11_force 9 = .ok (.iload_n 1, 1) := by decide +kernel
theorem dX11_force_10 : decode cX11_force 10 = .ok (.invokevirtual 226, 3) := by decide +kernel
theorem dX11_force_13 : decode cX11_force 13 = .ok (.ifnonnull 10, 3) := by decide +kernel
theorem dX11_force_16 : decode cX11_force 16 = .ok (.aload_n 0, 1) := by decide +kernel
theorem dX11_force_17 : decode cX11_force 17 = .ok (.bipush (-2), 2) := by decide +kernel
theorem dX11_force_19 : decode cX11_force 19 = .ok (.invokevirtual 117, 3) := by decide +kernel
theorem dX11_force_22 : decode cX11_force 22 = .ok (.ireturn, 1) := by decide +kernel
theorem dX11_force_23 : decode cX11_force 23 = .ok (.aload_n 0, 1) := by decide +kernel
theorem dX11_force_24 : decode cX11_force 24 = .ok (.getfield 12, 3) := by decide +kernel
theorem dX11_force_27 : decode cX11_force 27 = .ok (.getfield 230, 3) := by decide +kernel
theorem dX11_force_30 : decode cX11_force 30 = .ok (.istore_n 2, 1) := by decide +kernel
theorem dX11_force_31 : decode cX11_force 31 = .ok (.aload_n 0, 1) := by decide +kernel
theorem dX11_force_32 : decode cX11_force 32 = .ok (.getfield 12, 3) := by decide +kernel
theorem dX11_force_35 : decode cX11_force 35 = .ok (.iload_n 1, 1) := by decide +kernel
theorem dX11_force_36 : decode cX11_force 36 = .ok (.putfield 230, 3) := by decide +kernel
theorem dX11_force_39 : decode cX11_force 39 = .ok (.aload_n 0, 1) := by decide +kernel
theorem dX11_force_40 : decode cX11_force 40 = .ok (.iconst 0, 1) := by decide +kernel
theorem dX11_force_41 : decode cX11_force 41 = .ok (.putfield 94, 3) := by decide +kernel
theorem dX11_force_44 : decode cX11_force 44 = .ok (.iload_n 2, 1) := by decide +kernel
theorem dX11_force_45 : decode cX11_force 45 = .ok (.ireturn, 1) := by decide +kernel
theorem dX11_lay_0 : decode cX11_lay 0 = .ok (.aload_n 0, 1) := by decide +kernel
theorem dX11_lay_1 : decode cX11_lay 1 = .ok (.aload_n 0, 1) := by decide +kernel
theorem dX11_lay_2 : decode cX11_lay 2 = .ok (.iload_n 1, 1) := by decide +kernel
theorem dX11_lay_3 : decode cX11_lay 3 = .ok (.iload_n 2, 1) := by decide +kernel
theorem dX11_lay_4 : decode cX11_lay 4 = .ok (.iload_n 3, 1) := by decide +kernel
theorem dX11_lay_5 : decode cX11_lay 5 = .ok (.invokevirtual 233, 3) := by decide +kernel
theorem dX11_lay_8 : decode cX11_lay 8 = .ok (.invokevirtual 117, 3) := by decide +kernel
theorem dX11_lay_11 : decode cX11_lay 11 = .ok (.ireturn, 1) := by decide +kernel
theorem dX11_roll_0 : decode cX11_roll 0 = .ok (.aload_n 0, 1) := by decide +kernel
theorem dX11_roll_1 : decode cX11_roll 1 = .ok (.aload_n 0, 1) := by decide +kernel
theorem dX11_roll_2 : decode cX11_roll 2 = .ok (.iload_n 1, 1) := by decide +kernel
theorem dX11_roll_3 : decode cX11_roll 3 = .ok (.invokevirtual 236, 3) := by decide +kernel
theorem dX11_roll_6 : decode cX11_roll 6 = .ok (.invokevirtual 117, 3) := by decide +kernel
theorem dX11_roll_9 : decode cX11_roll 9 = .ok (.ireturn, 1) := by decide +kernel
theorem dX11_mirror_0 : decode cX11_mirror 0 = .ok (.aload_n 0, 1) := by decide +kernel
theorem dX11_mirror_1 : decode cX11_mirror 1 = .ok (.aload_n 0, 1) := by decide +kernel
theorem dX11_mirror_2 : decode cX11_mirror 2 = .ok (.invokevirtual 239, 3) := by decide +kernel
theorem dX11_mirror_5 : decode cX11_mirror 5 = .ok (.invokevirtual 117, 3) := by decide +kernel
theorem dX11_mirror_8 : decode cX11_mirror 8 = .ok (.ireturn, 1) := by decide +kernel
theorem dX11_pass_0 : decode cX11_pass 0 = .ok (.aload_n 0, 1) := by decide +kernel
theorem dX11_pass_1 : decode cX11_pass 1 = .ok (.aload_n 0, 1) := by decide +kernel
theorem dX11_pass_2 : decode cX11_pass 2 = .ok (.invokevirtual 242, 3) := by decide +kernel
theorem dX11_pass_5 : decode cX11_pass 5 = .ok (.invokevirtual 117, 3) := by decide +kernel
theorem dX11_pass_8 : decode cX11_pass 8 = .ok (.ireturn, 1) := by decide +kernel
theorem dX11_undo_0 : decode cX11_undo 0 = .ok (.aload_n 0, 1) := by decide +kernel
theorem dX11_undo_1 : decode cX11_undo 1 = .ok (.aload_n 0, 1) := by decide +kernel
theorem dX11_undo_2 : decode cX11_undo 2 = .ok (.getfield 72, 3) := by decide +kernel
theorem dX11_undo_5 : decode cX11_undo 5 = .ok (.aload_n 0, 1) := by decide +kernel
theorem dX11_undo_6 : decode cX11_undo 6 = .ok (.getfield 12, 3) := by decide +kernel
theorem dX11_undo_9 : decode cX11_undo 9 = .ok (.getfield 107, 3) := by decide +kernel
theorem dX11_undo_12 : decode cX11_undo 12 = .ok (.invokevirtual 245, 3) := by decide +kernel
theorem dX11_undo_15 : decode cX11_undo 15 = .ok (.invokevirtual 117, 3) := by decide +kernel
theorem dX11_undo_18 : decode cX11_undo 18 = .ok (.ireturn, 1) := by decide +kernel
theorem dX11_bare_0 : decode cX11_bare 0 = .ok (.aload_n 0, 1) := by decide +kernel
theorem dX11_bare_1 : decode cX11_bare 1 = .ok (.getfield 12, 3) := by decide +kernel
theorem dX11_bare_4 : decode cX11_bare 4 = .ok (.getfield 107, 3) := by decide +kernel
theorem dX11_bare_7 : decode cX11_bare 7 = .ok (.astore_n 2, 1) := by decide +kernel
theorem dX11_bare_8 : decode cX11_bare 8 = .ok (.iload_n 1, 1) := by decide +kernel
theorem dX11_bare_9 : decode cX11_bare 9 = .ok (.ifCond .ne 8, 3) := by decide +kernel
theorem dX11_bare_12 : decode cX11_bare 12 = .ok (.aload_n 2, 1) := by decide +kernel
theorem dX11_bare_13 : decode cX11_bare 13 = .ok (.invokevirtual 249, 3) := by decide +kernel
theorem dX11_bare_16 : decode cX11_bare 16 = .ok (.ireturn, 1) := by decide +kernel
theorem dX11_bare_17 : decode cX11_bare 17 = .ok (.aload_n 2, 1) := by decide +kernel
theorem dX11_bare_18 : decode cX11_bare 18 = .ok (.invokevirtual 252, 3) := by decide +kernel
theorem dX11_bare_21 : decode cX11_bare 21 = .ok (.istore_n 3, 1) := by decide +kernel
theorem dX11_bare_22 : decode cX11_bare 22 = .ok (.iload_n 3, 1) := by decide +kernel
theorem dX11_bare_23 : decode cX11_bare 23 = .ok (.iconst (-1), 1) := by decide +kernel
theorem dX11_bare_24 : decode cX11_bare 24 = .ok (.if_icmp .ne 5, 3) := by decide +kernel
theorem dX11_bare_27 : decode cX11_bare 27 = .ok (.iconst (-1), 1) := by decide +kernel
theorem dX11_bare_28 : decode cX11_bare 28 = .ok (.ireturn, 1) := by decide +kernel
theorem dX11_bare_29 : decode cX11_bare 29 = .ok (.iload_n 1, 1) := by decide +kernel
theorem dX11_bare_30 : decode cX11_bare 30 = .ok (.iconst 1, 1) := by decide +kernel
theorem dX11_bare_31 : decode cX11_bare 31 = .ok (.if_icmp .ne 10, 3) := by decide +kernel
theorem dX11_bare_34 : decode cX11_bare 34 = .ok (.iload_n 3, 1) := by decide +kernel
theorem dX11_bare_35 : decode cX11_bare 35 = .ok (.bipush 12, 2) := by decide +kernel
theorem dX11_bare_37 : decode cX11_bare 37 = .ok (.irem, 1) := by decide +kernel
theorem dX11_bare_38 : decode cX11_bare 38 = .ok (.goto 16, 3) := by decide +kernel
theorem dX11_bare_41 : decode cX11_bare 41 = .ok (.iload_n 1, 1) := by decide +kernel
theorem dX11_bare_42 : decode cX11_bare 42 = .ok (.iconst 2, 1) := by decide +kernel
theorem dX11_bare_43 : decode cX11_bare 43 = .ok (.if_icmp .ne 10, 3) := by decide +kernel
theorem dX11_bare_46 : decode cX11_bare 46 = .ok (.iload_n 3, 1) := by decide +kernel
theorem dX11_bare_47 : decode cX11_bare 47 = .ok (.bipush 12, 2) := by decide +kernel
theorem dX11_bare_49 : decode cX11_bare 49 = .ok (.idiv, 1) := by decide +kernel
theorem dX11_bare_50 : decode cX11_bare 50 = .ok (.goto 4, 3) := by decide +kernel
theorem dX11_bare_53 : decode cX11_bare 53 = .ok (.iconst (-1), 1) := by decide +kernel
theorem dX11_bare_54 : decode cX11_bare 54 = .ok (.ireturn, 1) := by decide +kernel
theorem dX11_fill_0 : decode cX11_fill 0 = .ok (.aload_n 0, 1) := by decide +kernel
theorem dX11_fill_1 : decode cX11_fill 1 = .ok (.getfield 79, 3) := by decide +kernel
theorem dX11_fill_4 : decode cX11_fill 4 = .ok (.aload_n 0, 1) := by decide +kernel
theorem dX11_fill_5 : decode cX11_fill 5 = .ok (.getfield 12, 3) := by decide +kernel
theorem dX11_fill_8 : decode cX11_fill 8 = .ok (.getfield 107, 3) := by decide +kernel
theorem dX11_fill_11 : decode cX11_fill 11 = .ok (.aload_n 0, 1) := by decide +kernel
theorem dX11_fill_12 : decode cX11_fill 12 = .ok (.getfield 12, 3) := by decide +kernel
theorem dX11_fill_15 : decode cX11_fill 15 = .ok (.invokevirtual 143, 3) := by decide +kernel
theorem dX11_fill_18 : decode cX11_fill 18 = .ok (.aload_n 0, 1) := by decide +kernel
theorem dX11_fill_19 : decode cX11_fill 19 = .ok (.getfield 65, 3) := by decide +kernel
theorem dX11_fill_22 : decode cX11_fill 22 = .ok (.invokevirtual 255, 3) := by decide +kernel
theorem dX11_fill_25 : decode cX11_fill 25 = .ok (.aload_n 0, 1) := by decide +kernel
theorem dX11_fill_26 : decode cX11_fill 26 = .ok (.getfield 79, 3) := by decide +kernel
theorem dX11_fill_29 : decode cX11_fill 29 = .ok (.iconst 1, 1) := by decide +kernel
theorem dX11_fill_30 : decode cX11_fill 30 = .ok (.invokevirtual 259, 3) := by decide +kernel
theorem dX11_fill_33 : decode cX11_fill 33 = .ok (.ifCond .ne 5, 3) := by decide +kernel
theorem dX11_fill_36 : decode cX11_fill 36 = .ok (.iconst (-1), 1) := by decide +kernel
theorem dX11_fill_37 : decode cX11_fill 37 = .ok (.ireturn, 1) := by decide +kernel
theorem dX11_fill_38 : decode cX11_fill 38 = .ok (.iload_n 1, 1) := by decide +kernel
theorem dX11_fill_39 : decode cX11_fill 39 = .ok (.iconst (-1), 1) := by decide +kernel
theorem dX11_fill_40 : decode cX11_fill 40 = .ok (.if_icmp .ne 13, 3) := by decide +kernel
theorem dX11_fill_43 : decode cX11_fill 43 = .ok (.aload_n 0, 1) := by decide +kernel
theorem dX11_fill_44 : decode cX11_fill 44 = .ok (.getfield 79, 3) := by decide +kernel
theorem dX11_fill_47 : decode cX11_fill 47 = .ok (.invokevirtual 262, 3) := by decide +kernel
theorem dX11_fill_50 : decode cX11_fill 50 = .ok (.goto 11, 3) := by decide +kernel
theorem dX11_fill_53 : decode cX11_fill 53 = .ok (.aload_n 0, 1) := by decide +kernel
theorem dX11_fill_54 : decode cX11_fill 54 = .ok (.getfield 79, 3) := by decide +kernel
theorem dX11_fill_57 : decode cX11_fill 57 = .ok (.iload_n 1, 1) := by decide +kernel
theorem dX11_fill_58 : decode cX11_fill 58 = .ok (.invokevirtual 265, 3) := by decide +kernel
theorem dX11_fill_61 : decode cX11_fill 61 = .ok (.ireturn, 1) := by decide +kernel
theorem dX11_ways_0 : decode cX11_ways 0 = .ok (.aload_n 0, 1) := by decide +kernel
theorem dX11_ways_1 : decode cX11_ways 1 = .ok (.getfield 79, 3) := by decide +kernel
theorem dX11_ways_4 : decode cX11_ways 4 = .ok (.aload_n 0, 1) := by decide +kernel
theorem dX11_ways_5 : decode cX11_ways 5 = .ok (.getfield 12, 3) := by decide +kernel
theorem dX11_ways_8 : decode cX11_ways 8 = .ok (.getfield 107, 3) := by decide +kernel
theorem dX11_ways_11 : decode cX11_ways 11 = .ok (.aload_n 0, 1) := by decide +kernel
theorem dX11_ways_12 : decode cX11_ways 12 = .ok (.getfield 12, 3) := by decide +kernel
theorem dX11_ways_15 : decode cX11_ways 15 = .ok (.invokevirtual 143, 3) := by decide +kernel
theorem dX11_ways_18 : decode cX11_ways 18 = .ok (.aload_n 0, 1) := by decide +kernel
theorem dX11_ways_19 : decode cX11_ways 19 = .ok (.getfield 65, 3) := by decide +kernel
theorem dX11_ways_22 : decode cX11_ways 22 = .ok (.invokevirtual 255, 3) := by decide +kernel
theorem dX11_ways_25 : decode cX11_ways 25 = .ok (.aload_n 0, 1) := by decide +kernel
theorem dX11_ways_26 : decode cX11_ways 26 = .ok (.getfield 79, 3) := by decide +kernel
theorem dX11_ways_29 : decode cX11_ways 29 = .ok (.ldc_w 268, 3) := by decide +kernel
theorem dX11_ways_32 : decode cX11_ways 32 = .ok (.invokevirtual 259, 3) := by decide +kernel
theorem dX11_ways_35 : decode cX11_ways 35 = .ok (.ireturn, 1) := by decide +kernel
theorem dX11_cheapest_0 : decode cX11_cheapest 0 = .ok (.aload_n 0, 1) := by decide +kernel
theorem dX11_cheapest_1 : decode cX11_cheapest 1 = .ok (.getfield 79, 3) := by decide +kernel
theorem dX11_cheapest_4 : decode cX11_cheapest 4 = .ok (.aload_n 0, 1) := by decide +kernel
theorem dX11_cheapest_5 : decode cX11_cheapest 5 = .ok (.getfield 12, 3) := by decide +kernel
theorem dX11_cheapest_8 : decode cX11_cheapest 8 = .ok (.getfield 107, 3) := by decide +kernel
theorem dX11_cheapest_11 : decode cX11_cheapest 11 = .ok (.aload_n 0, 1) := by decide +kernel
theorem dX11_cheapest_12 : decode cX11_cheapest 12 = .ok (.getfield 12, 3) := by decide +kernel
theorem dX11_cheapest_15 : decode cX11_cheapest 15 = .ok (.invokevirtual 143, 3) := by decide +kernel
theorem dX11_cheapest_18 : decode cX11_cheapest 18 = .ok (.aload_n 0, 1) := by decide +kernel
theorem dX11_cheapest_19 : decode cX11_cheapest 19 = .ok (.getfield 65, 3) := by decide +kernel
theorem dX11_cheapest_22 : decode cX11_cheapest 22 = .ok (.invokevirtual 255, 3) := by decide +kernel
theorem dX11_cheapest_25 : decode cX11_cheapest 25 = .ok (.aload_n 0, 1) := by decide +kernel
theorem dX11_cheapest_26 : decode cX11_cheapest 26 = .ok (.getfield 79, 3) := by decide +kernel
theorem dX11_cheapest_29 : decode cX11_cheapest 29 = .ok (.invokevirtual 269, 3) := by decide +kernel
theorem dX11_cheapest_32 : decode cX11_cheapest 32 = .ok (.ireturn, 1) := by decide +kernel
theorem dX11_halls_0 : decode cX11_halls 0 = .ok (.iload_n 1, 1) := by decide +kernel
theorem dX11_halls_1 : decode cX11_halls 1 = .ok (.iconst (-1), 1) := by decide +kernel
theorem dX11_halls_2 : decode cX11_halls 2 = .ok (.if_icmp .ge 5, 3) := by decide +kernel
theorem dX11_halls_5 : decode cX11_halls 5 = .ok (.iconst (-1), 1) := by decide +kernel
theorem dX11_halls_6 : decode cX11_halls 6 = .ok (.ireturn, 1) := by decide +kernel
theorem dX11_halls_7 : decode cX11_halls 7 = .ok (.aload_n 0, 1) := by decide +kernel
theorem dX11_halls_8 : decode cX11_halls 8 = .ok (.getfield 12, 3) := by decide +kernel
theorem dX11_halls_11 : decode cX11_halls 11 = .ok (.getfield 107, 3) := by decide +kernel
theorem dX11_halls_14 : decode cX11_halls 14 = .ok (.invokevirtual 272, 3) := by decide +kernel
theorem dX11_halls_17 : decode cX11_halls 17 = .ok (.istore_n 2, 1) := by decide +kernel
theorem dX11_halls_18 : decode cX11_halls 18 = .ok (.iconst 0, 1) := by decide +kernel
theorem dX11_halls_19 : decode cX11_halls 19 = .ok (.istore_n 3, 1) := by decide +kernel
theorem dX11_halls_20 : decode cX11_halls 20 = .ok (.iconst 1, 1) := by decide +kernel
theorem dX11_halls_21 : decode cX11_halls 21 = .ok (.istore 4, 2) := by decide +kernel
theorem dX11_halls_23 : decode cX11_halls 23 = .ok (.iload 4, 2) := by decide +kernel
theorem dX11_halls_25 : decode cX11_halls 25 = .ok (.bipush 12, 2) := by decide +kernel
theorem dX11_halls_27 : decode cX11_halls 27 = .ok (.if_icmp .gt 116, 3) := by decide +kernel
theorem dX11_halls_30 : decode cX11_halls 30 = .ok (.iload_n 2, 1) := by decide +kernel
theorem dX11_halls_31 : decode cX11_halls 31 = .ok (.ifCond .le 112, 3) := by decide +kernel
theorem dX11_halls_34 : decode cX11_halls 34 = .ok (.iload_n 2, 1) := by decide +kernel
theorem dX11_halls_35 : decode cX11_halls 35 = .ok (.iload 4, 2) := by decide +kernel
theorem dX11_halls_37 : decode cX11_halls 37 = .ok (.idiv, 1) := by decide +kernel
theorem dX11_halls_38 : decode cX11_halls 38 = .ok (.istore 5, 2) := by decide +kernel
theorem dX11_halls_40 : decode cX11_halls 40 = .ok (.iload 5, 2) := by decide +kernel
theorem dX11_halls_42 : decode cX11_halls 42 = .ok (.bipush 12, 2) := by decide +kernel
theorem dX11_halls_44 : decode cX11_halls 44 = .ok (.if_icmp .gt 93, 3) := by decide +kernel
theorem dX11_halls_47 : decode cX11_halls 47 = .ok (.iload 5, 2) := by decide +kernel
theorem dX11_halls_49 : decode cX11_halls 49 = .ok (.iload 4, 2) := by decide +kernel
theorem dX11_halls_51 : decode cX11_halls 51 = .ok (.imul, 1) := by decide +kernel
theorem dX11_halls_52 : decode cX11_halls 52 = .ok (.iload_n 2, 1) := by decide +kernel
theorem dX11_halls_53 : decode cX11_halls 53 = .ok (.if_icmp .eq 6, 3) := by decide +kernel
theorem dX11_halls_56 : decode cX11_halls 56 = .ok (.goto 81, 3) := by decide +kernel
theorem dX11_halls_59 : decode cX11_halls 59 = .ok (.aload_n 0, 1) := by decide +kernel
theorem dX11_halls_60 : decode cX11_halls 60 = .ok (.getfield 31, 3) := by decide +kernel
theorem dX11_halls_63 : decode cX11_halls 63 = .ok (.aload_n 0, 1) := by decide +kernel
theorem dX11_halls_64 : decode cX11_halls 64 = .ok (.getfield 12, 3) := by decide +kernel
theorem dX11_halls_67 : decode cX11_halls 67 = .ok (.getfield 107, 3) := by decide +kernel
theorem dX11_halls_70 : decode cX11_halls 70 = .ok (.invokevirtual 275, 3) := by decide +kernel
theorem dX11_halls_73 : decode cX11_halls 73 = .ok (.aload_n 0, 1) := by decide +kernel
theorem dX11_halls_74 : decode cX11_halls 74 = .ok (.getfield 31, 3) := by decide +kernel
theorem dX11_halls_77 : decode cX11_halls 77 = .ok (.iload 4, 2) := by decide +kernel
theorem dX11_halls_79 : decode cX11_halls 79 = .ok (.iload 5, 2) := by decide +kernel
theorem dX11_halls_81 : decode cX11_halls 81 = .ok (.invokevirtual 278, 3) := by decide +kernel
theorem dX11_halls_84 : decode cX11_halls 84 = .ok (.aload_n 0, 1) := by decide +kernel
theorem dX11_halls_85 : decode cX11_halls 85 = .ok (.getfield 79, 3) := by decide +kernel
theorem dX11_halls_88 : decode cX11_halls 88 = .ok (.aload_n 0, 1) := by decide +kernel
theorem dX11_halls_89 : decode cX11_halls 89 = .ok (.getfield 31, 3) := by decide +kernel
theorem dX11_halls_92 : decode cX11_halls 92 = .ok (.aload_n 0, 1) := by decide +kernel
theorem dX11_halls_93 : decode cX11_halls 93 = .ok (.getfield 12, 3) := by decide +kernel
theorem dX11_halls_96 : decode cX11_halls 96 = .ok (.invokevirtual 143, 3) := by decide +kernel
theorem dX11_halls_99 : decode cX11_halls 99 = .ok (.aload_n 0, 1) := by decide +kernel
theorem dX11_halls_100 : decode cX11_halls 100 = .ok (.getfield 65, 3) := by decide +kernel
theorem dX11_halls_103 : decode cX11_halls 103 = .ok (.invokevirtual 255, 3) := by decide +kernel
theorem dX11_halls_106 : decode cX11_halls 106 = .ok (.aload_n 0, 1) := by decide +kernel
theorem dX11_halls_107 : decode cX11_halls 107 = .ok (.getfield 79, 3) := by decide +kernel
theorem dX11_halls_110 : decode cX11_halls 110 = .ok (.iconst 1, 1) := by decide +kernel
theorem dX11_halls_111 : decode cX11_halls 111 = .ok (.invokevirtual 259, 3) := by decide +kernel
theorem dX11_halls_114 : decode cX11_halls 114 = .ok (.ifCond .ne 6, 3) := by decide +kernel
theorem dX11_halls_117 : decode cX11_halls 117 = .ok (.goto 20, 3) := by decide +kernel
theorem dX11_halls_120 : decode cX11_halls 120 = .ok (.iload_n 3, 1) := by decide +kernel
theorem dX11_halls_121 : decode cX11_halls 121 = .ok (.iload_n 1, 1) := by decide +kernel
theorem dX11_halls_122 : decode cX11_halls 122 = .ok (.if_icmp .ne 12, 3) := by decide +kernel
theorem dX11_halls_125 : decode cX11_halls 125 = .ok (.bipush 100, 2) := by decide +kernel
theorem dX11_halls_127 : decode cX11_halls 127 = .ok (.iload 4, 2) := by decide +kernel
theorem dX11_halls_129 : decode cX11_halls 129 = .ok (.imul, 1) := by decide +kernel
theorem dX11_halls_130 : decode cX11_halls 130 = .ok (.iload 5, 2) := by decide +kernel
theorem dX11_halls_132 : decode cX11_halls 132 = .ok (.iadd, 1) := by decide +kernel
theorem dX11_halls_133 : decode cX11_halls 133 = .ok (.ireturn, 1) := by decide +kernel
theorem dX11_halls_134 : decode cX11_halls 134 = .ok (.iinc 3 1, 3) := by decide +kernel
theorem dX11_halls_137 : decode cX11_halls 137 = .ok (.iinc 4 1, 3) := by decide +kernel
theorem dX11_halls_140 : decode cX11_halls 140 = .ok (.goto (-117), 3) := by decide +kernel
theorem dX11_halls_143 : decode cX11_halls 143 = .ok (.iload_n 1, 1) := by decide +kernel
theorem dX11_halls_144 : decode cX11_halls 144 = .ok (.iconst (-1), 1) := by decide +kernel
theorem dX11_halls_145 : decode cX11_halls 145 = .ok (.if_icmp .ne 7, 3) := by decide +kernel
theorem dX11_halls_148 : decode cX11_halls 148 = .ok (.iload_n 3, 1) := by decide +kernel
theorem dX11_halls_149 : decode cX11_halls 149 = .ok (.goto 4, 3) := by decide +kernel
theorem dX11_halls_152 : decode cX11_halls 152 = .ok (.iconst (-1), 1) := by decide +kernel
theorem dX11_halls_153 : decode cX11_halls 153 = .ok (.ireturn, 1) := by decide +kernel
theorem dX11_inner_0 : decode cX11_inner 0 = .ok (.aload_n 0, 1) := by decide +kernel
theorem dX11_inner_1 : decode cX11_inner 1 = .ok (.getfield 12, 3) := by decide +kernel
theorem dX11_inner_4 : decode cX11_inner 4 = .ok (.getfield 107, 3) := by decide +kernel
theorem dX11_inner_7 : decode cX11_inner 7 = .ok (.invokevirtual 282, 3) := by decide +kernel
theorem dX11_inner_10 : decode cX11_inner 10 = .ok (.ireturn, 1) := by decide +kernel
theorem dX11_crosses_0 : decode cX11_crosses 0 = .ok (.aload_n 0, 1) := by decide +kernel
theorem dX11_crosses_1 : decode cX11_crosses 1 = .ok (.getfield 12, 3) := by decide +kernel
theorem dX11_crosses_4 : decode cX11_crosses 4 = .ok (.getfield 107, 3) := by decide +kernel
theorem dX11_crosses_7 : decode cX11_crosses 7 = .ok (.invokevirtual 285, 3) := by decide +kernel
theorem dX11_crosses_10 : decode cX11_crosses 10 = .ok (.ireturn, 1) := by decide +kernel
theorem dX11_currents_0 : decode cX11_currents 0 = .ok (.iload_n 1, 1) := by decide +kernel
theorem dX11_currents_1 : decode cX11_currents 1 = .ok (.ifCond .lt 26, 3) := by decide +kernel
theorem dX11_currents_4 : decode cX11_currents 4 = .ok (.iload_n 1, 1) := by decide +kernel
theorem dX11_currents_5 : decode cX11_currents 5 = .ok (.aload_n 0, 1) := by decide +kernel
theorem dX11_currents_6 : decode cX11_currents 6 = .ok (.getfield 12, 3) := by decide +kernel
theorem dX11_currents_9 : decode cX11_currents 9 = .ok (.getfield 107, 3) := by decide +kernel
theorem dX11_currents_12 : decode cX11_currents 12 = .ok (.getfield 158, 3) := by decide +kernel
theorem dX11_currents_15 : decode cX11_currents 15 = .ok (.if_icmp .gt 12, 3) := by decide +kernel
theorem dX11_currents_18 : decode cX11_currents 18 = .ok (.iload_n 2, 1) := by decide +kernel
theorem dX11_currents_19 : decode cX11_currents 19 = .ok (.ifCond .lt 8, 3) := by decide +kernel
theorem dX11_currents_22 : decode cX11_currents 22 = .ok (.iload_n 2, 1) := by decide +kernel
theorem dX11_currents_23 : decode cX11_currents 23 = .ok (.iconst 1, 1) := by decide +kernel
theorem dX11_currents_24 : decode cX11_currents 24 = .ok (.if_icmp .le 5, 3) := by decide +kernel
theorem dX11_currents_27 : decode cX11_currents 27 = .ok (.iconst (-1), 1) := by decide +kernel
theorem dX11_currents_28 : decode cX11_currents 28 = .ok (.ireturn, 1) := by decide +kernel
theorem dX11_currents_29 : decode cX11_currents 29 = .ok (.aload_n 0, 1) := by decide +kernel
theorem dX11_currents_30 : decode cX11_currents 30 = .ok (.getfield 12, 3) := by decide +kernel
theorem dX11_currents_33 : decode cX11_currents 33 = .ok (.getfield 107, 3) := by decide +kernel
theorem dX11_currents_36 : decode cX11_currents 36 = .ok (.iload_n 1, 1) := by decide +kernel
theorem dX11_currents_37 : decode cX11_currents 37 = .ok (.iload_n 2, 1) := by decide +kernel
theorem dX11_currents_38 : decode cX11_currents 38 = .ok (.iconst 1, 1) := by decide +kernel
theorem dX11_currents_39 : decode cX11_currents 39 = .ok (.if_icmp .ne 7, 3) := by decide +kernel
theorem dX11_currents_42 : decode cX11_currents 42 = .ok (.iconst 1, 1) := by decide +kernel
theorem dX11_currents_43 : decode cX11_currents 43 = .ok (.goto 4, 3) := by decide +kernel
theorem dX11_currents_46 : decode cX11_currents 46 = .ok (.iconst 0, 1) := by decide +kernel
theorem dX11_currents_47 : decode cX11_currents 47 = .ok (.invokevirtual 288, 3) := by decide +kernel
theorem dX11_currents_50 : decode cX11_currents 50 = .ok (.ireturn, 1) := by decide +kernel
theorem dX11_fitting_0 : decode cX11_fitting 0 = .ok (.iload_n 1, 1) := by decide +kernel
theorem dX11_fitting_1 : decode cX11_fitting 1 = .ok (.iconst 1, 1) := by decide +kernel
theorem dX11_fitting_2 : decode cX11_fitting 2 = .ok (.if_icmp .lt 9, 3) := by decide +kernel
theorem dX11_fitting_5 : decode cX11_fitting 5 = .ok (.iload_n 1, 1) := by decide +kernel
theorem dX11_fitting_6 : decode cX11_fitting 6 = .ok (.bipush 12, 2) := by decide +kernel
theorem dX11_fitting_8 : decode cX11_fitting 8 = .ok (.if_icmp .le 7, 3) := by decide +kernel
theorem dX11_fitting_11 : decode cX11_fitting 11 = .ok (.iconst (-1), 1) := by decide +kernel
theorem dX11_fitting_12 : decode cX11_fitting 12 = .ok (.goto 14, 3) := by decide +kernel
theorem dX11_fitting_15 : decode cX11_fitting 15 = .ok (.aload_n 0, 1) := by decide +kernel
theorem dX11_fitting_16 : decode cX11_fitting 16 = .ok (.getfield 12, 3) := by decide +kernel
theorem dX11_fitting_19 : decode cX11_fitting 19 = .ok (.getfield 107, 3) := by decide +kernel
theorem dX11_fitting_22 : decode cX11_fitting 22 = .ok (.iload_n 1, 1) := by decide +kernel
theorem dX11_fitting_23 : decode cX11_fitting 23 = .ok (.invokevirtual 292, 3) := by decide +kernel
theorem dX11_fitting_26 : decode cX11_fitting 26 = .ok (.ireturn, 1) := by decide +kernel
theorem dX11_alike_0 : decode cX11_alike 0 = .ok (.aload_n 0, 1) := by decide +kernel
theorem dX11_alike_1 : decode cX11_alike 1 = .ok (.getfield 12, 3) := by decide +kernel
theorem dX11_alike_4 : decode cX11_alike 4 = .ok (.getfield 107, 3) := by decide +kernel
theorem dX11_alike_7 : decode cX11_alike 7 = .ok (.invokevirtual 295, 3) := by decide +kernel
theorem dX11_alike_10 : decode cX11_alike 10 = .ok (.ireturn, 1) := by decide +kernel
theorem dX11_free_0 : decode cX11_free 0 = .ok (.iconst 0, 1) := by decide +kernel
theorem dX11_free_1 : decode cX11_free 1 = .ok (.istore_n 1, 1) := by decide +kernel
theorem dX11_free_2 : decode cX11_free 2 = .ok (.iconst 0, 1) := by decide +kernel
theorem dX11_free_3 : decode cX11_free 3 = .ok (.istore_n 2, 1) := by decide +kernel
theorem dX11_free_4 : decode cX11_free 4 = .ok (.iload_n 2, 1) := by decide +kernel
theorem dX11_free_5 : decode cX11_free 5 = .ok (.aload_n 0, 1) := by decide +kernel
theorem dX11_free_6 : decode cX11_free 6 = .ok (.getfield 12, 3) := by decide +kernel
theorem dX11_free_9 : decode cX11_free 9 = .ok (.getfield 107, 3) := by decide +kernel
theorem dX11_free_12 : decode cX11_free 12 = .ok (.getfield 298, 3) := by decide +kernel
theorem dX11_free_15 : decode cX11_free 15 = .ok (.if_icmp .ge 99, 3) := by decide +kernel
theorem dX11_free_18 : decode cX11_free 18 = .ok (.aload_n 0, 1) := by decide +kernel
theorem dX11_free_19 : decode cX11_free 19 = .ok (.getfield 12, 3) := by decide +kernel
theorem dX11_free_22 : decode cX11_free 22 = .ok (.getfield 107, 3) := by decide +kernel
theorem dX11_free_25 : decode cX11_free 25 = .ok (.iload_n 2, 1) := by decide +kernel
theorem dX11_free_26 : decode cX11_free 26 = .ok (.invokevirtual 140, 3) := by decide +kernel
theorem dX11_free_29 : decode cX11_free 29 = .ok (.ifCond .ne 6, 3) := by decide +kernel
theorem dX11_free_32 : decode cX11_free 32 = .ok (.goto 76, 3) := by decide +kernel
theorem dX11_free_35 : decode cX11_free 35 = .ok (.aload_n 0, 1) := by decide +kernel
theorem dX11_free_36 : decode cX11_free 36 = .ok (.getfield 31, 3) := by decide +kernel
theorem dX11_free_39 : decode cX11_free 39 = .ok (.aload_n 0, 1) := by decide +kernel
theorem dX11_free_40 : decode cX11_free 40 = .ok (.getfield 12, 3) := by decide +kernel
theorem dX11_free_43 : decode cX11_free 43 = .ok (.getfield 107, 3) := by decide +kernel
theorem dX11_free_46 : decode cX11_free 46 = .ok (.invokevirtual 275, 3) := by decide +kernel
theorem dX11_free_49 : decode cX11_free 49 = .ok (.aload_n 0, 1) := by decide +kernel
theorem dX11_free_50 : decode cX11_free 50 = .ok (.getfield 31, 3) := by decide +kernel
theorem dX11_free_53 : decode cX11_free 53 = .ok (.iload_n 2, 1) := by decide +kernel
theorem dX11_free_54 : decode cX11_free 54 = .ok (.invokevirtual 301, 3) := by decide +kernel
theorem dX11_free_57 : decode cX11_free 57 = .ok (.aload_n 0, 1) := by decide +kernel
theorem dX11_free_58 : decode cX11_free 58 = .ok (.getfield 79, 3) := by decide +kernel
theorem dX11_free_61 : decode cX11_free 61 = .ok (.aload_n 0, 1) := by decide +kernel
theorem dX11_free_62 : decode cX11_free 62 = .ok (.getfield 31, 3) := by decide +kernel
theorem dX11_free_65 : decode cX11_free 65 = .ok (.aload_n 0, 1) := by decide +kernel
theorem dX11_free_66 : decode cX11_free 66 = .ok (.getfield 12, 3) := by decide +kernel
theorem dX11_free_69 : decode cX11_free 69 = .ok (.invokevirtual 143, 3) := by decide +kernel
theorem dX11_free_72 : decode cX11_free 72 = .ok (.aload_n 0, 1) := by decide +kernel
theorem dX11_free_73 : decode cX11_free 73 = .ok (.getfield 65, 3) := by decide +kernel
theorem dX11_free_76 : decode cX11_free 76 = .ok (.invokevirtual 255, 3) := by decide +kernel
theorem dX11_free_79 : decode cX11_free 79 = .ok (.aload_n 0, 1) := by decide +kernel
theorem dX11_free_80 : decode cX11_free 80 = .ok (.getfield 79, 3) := by decide +kernel
theorem dX11_free_83 : decode cX11_free 83 = .ok (.iconst 2, 1) := by decide +kernel
theorem dX11_free_84 : decode cX11_free 84 = .ok (.invokevirtual 259, 3) := by decide +kernel
theorem dX11_free_87 : decode cX11_free 87 = .ok (.iconst 1, 1) := by decide +kernel
theorem dX11_free_88 : decode cX11_free 88 = .ok (.if_icmp .ne 20, 3) := by decide +kernel
theorem dX11_free_91 : decode cX11_free 91 = .ok (.aload_n 0, 1) := by decide +kernel
theorem dX11_free_92 : decode cX11_free 92 = .ok (.getfield 79, 3) := by decide +kernel
theorem dX11_free_95 : decode cX11_free 95 = .ok (.iload_n 2, 1) := by decide +kernel
theorem dX11_free_96 : decode cX11_free 96 = .ok (.invokevirtual 304, 3) := by decide +kernel
theorem dX11_free_99 : decode cX11_free 99 = .ok (.ifCond .ne 9, 3) := by decide +kernel
theorem dX11_free_102 : decode cX11_free 102 = .ok (.iload_n 1, 1) := by decide +kernel
theorem dX11_free_103 : decode cX11_free 103 = .ok (.iconst 1, 1) := by decide +kernel
theorem dX11_free_104 : decode cX11_free 104 = .ok (.iload_n 2, 1) := by decide +kernel
theorem dX11_free_105 : decode cX11_free 105 = .ok (.ishl, 1) := by decide +kernel
theorem dX11_free_106 : decode cX11_free 106 = .ok (.ior, 1) := by decide +kernel
theorem dX11_free_107 : decode cX11_free 107 = .ok (.istore_n 1, 1) := by decide +kernel
theorem dX11_free_108 : decode cX11_free 108 = .ok (.iinc 2 1, 3) := by decide +kernel
theorem dX11_free_111 : decode cX11_free 111 = .ok (.goto (-107), 3) := by decide +kernel
theorem dX11_free_114 : decode cX11_free 114 = .ok (.iload_n 1, 1) := by decide +kernel
theorem dX11_free_115 : decode cX11_free 115 = .ok (.ireturn, 1) := by decide +kernel
theorem dX11_seen_0 : decode cX11_seen 0 = .ok (.iload_n 1, 1) := by decide +kernel
theorem dX11_seen_1 : decode cX11_seen 1 = .ok (.invokestatic 165, 3) := by decide +kernel
theorem dX11_seen_4 : decode cX11_seen 4 = .ok (.ifCond .eq 21, 3) := by decide +kernel
theorem dX11_seen_7 : decode cX11_seen 7 = .ok (.iload_n 2, 1) := by decide +kernel
theorem dX11_seen_8 : decode cX11_seen 8 = .ok (.invokestatic 165, 3) := by decide +kernel
theorem dX11_seen_11 : decode cX11_seen 11 = .ok (.ifCond .eq 14, 3) := by decide +kernel
theorem dX11_seen_14 : decode cX11_seen 14 = .ok (.iload_n 3, 1) := by decide +kernel
theorem dX11_seen_15 : decode cX11_seen 15 = .ok (.iconst 1, 1) := by decide +kernel
theorem dX11_seen_16 : decode cX11_seen 16 = .ok (.if_icmp .lt 9, 3) := by decide +kernel
theorem dX11_seen_19 : decode cX11_seen 19 = .ok (.iload_n 3, 1) := by decide +kernel
theorem dX11_seen_20 : decode cX11_seen 20 = .ok (.bipush 12, 2) := by decide +kernel
theorem dX11_seen_22 : decode cX11_seen 22 = .ok (.if_icmp .le 9, 3) := by decide +kernel
theorem dX11_seen_25 : decode cX11_seen 25 = .ok (.aload_n 0, 1) := by decide +kernel
theorem dX11_seen_26 : decode cX11_seen 26 = .ok (.iconst (-1), 1) := by decide +kernel
theorem dX11_seen_27 : decode cX11_seen 27 = .ok (.invokevirtual 117, 3) := by decide +kernel
theorem dX11_seen_30 : decode cX11_seen 30 = .ok (.ireturn, 1) := by decide +kernel
theorem dX11_seen_31 : decode cX11_seen 31 = .ok (.aload_n 0, 1) := by decide +kernel
theorem dX11_seen_32 : decode cX11_seen 32 = .ok (.getfield 12, 3) := by decide +kernel
theorem dX11_seen_35 : decode cX11_seen 35 = .ok (.getfield 307, 3) := by decide +kernel
theorem dX11_seen_38 : decode cX11_seen 38 = .ok (.bipush 6, 2) := by decide +kernel
theorem dX11_seen_40 : decode cX11_seen 40 = .ok (.if_icmp .lt 10, 3) := by decide +kernel
theorem dX11_seen_43 : decode cX11_seen 43 = .ok (.aload_n 0, 1) := by decide +kernel
theorem dX11_seen_44 : decode cX11_seen 44 = .ok (.bipush (-5), 2) := by decide +kernel
theorem dX11_seen_46 : decode cX11_seen 46 = .ok (.invokevirtual 117, 3) := by decide +kernel
theorem dX11_seen_49 : decode cX11_seen 49 = .ok (.ireturn, 1) := by decide +kernel
theorem dX11_seen_50 : decode cX11_seen 50 = .ok (.aload_n 0, 1) := by decide +kernel
theorem dX11_seen_51 : decode cX11_seen 51 = .ok (.getfield 12, 3) := by decide +kernel
theorem dX11_seen_54 : decode cX11_seen 54 = .ok (.getfield 310, 3) := by decide +kernel
theorem dX11_seen_57 : decode cX11_seen 57 = .ok (.aload_n 0, 1) := by decide +kernel
theorem dX11_seen_58 : decode cX11_seen 58 = .ok (.getfield 12, 3) := by decide +kernel
theorem dX11_seen_61 : decode cX11_seen 61 = .ok (.getfield 307, 3) := by decide +kernel
theorem dX11_seen_64 : decode cX11_seen 64 = .ok (.iload_n 1, 1) := by decide +kernel
theorem dX11_seen_65 : decode cX11_seen 65 = .ok (.iastore, 1) := by decide +kernel
theorem dX11_seen_66 : decode cX11_seen 66 = .ok (.aload_n 0, 1) := by decide +kernel
theorem dX11_seen_67 : decode cX11_seen 67 = .ok (.getfield 12, 3) := by decide +kernel
theorem dX11_seen_70 : decode cX11_seen 70 = .ok (.getfield 313, 3) := by decide +kernel
theorem dX11_seen_73 : decode cX11_seen 73 = .ok (.aload_n 0, 1) := by decide +kernel
theorem dX11_seen_74 : decode cX11_seen 74 = .ok (.getfield 12, 3) := by decide +kernel
theorem dX11_seen_77 : decode cX11_seen 77 = .ok (.getfield 307, 3) := by decide +kernel
theorem dX11_seen_80 : decode cX11_seen 80 = .ok (.iload_n 2, 1) := by decide +kernel
theorem dX11_seen_81 : decode cX11_seen 81 = .ok (.iastore, 1) := by decide +kernel
theorem dX11_seen_82 : decode cX11_seen 82 = .ok (.aload_n 0, 1) := by decide +kernel
theorem dX11_seen_83 : decode cX11_seen 83 = .ok (.getfield 12, 3) := by decide +kernel
theorem dX11_seen_86 : decode cX11_seen 86 = .ok (.getfield 316, 3) := by decide +kernel
theorem dX11_seen_89 : decode cX11_seen 89 = .ok (.aload_n 0, 1) := by decide +kernel
theorem dX11_seen_90 : decode cX11_seen 90 = .ok (.getfield 12, 3) := by decide +kernel
theorem dX11_seen_93 : decode cX11_seen 93 = .ok (.getfield 307, 3) := by decide +kernel
theorem dX11_seen_96 : decode cX11_seen 96 = .ok (.iload_n 3, 1) := by decide +kernel
theorem dX11_seen_97 : decode cX11_seen 97 = .ok (.iastore, 1) := by decide +kernel
theorem dX11_seen_98 : decode cX11_seen 98 = .ok (.aload_n 0, 1) := by decide +kernel
theorem dX11_seen_99 : decode cX11_seen 99 = .ok (.getfield 12, 3) := by decide +kernel
theorem dX11_seen_102 : decode cX11_seen 102 = .ok (.dup, 1) := by decide +kernel
theorem dX11_seen_103 : decode cX11_seen 103 = .ok (.getfield 307, 3) := by decide +kernel
theorem dX11_seen_106 : decode cX11_seen 106 = .ok (.iconst 1, 1) := by decide +kernel
theorem dX11_seen_107 : decode cX11_seen 107 = .ok (.iadd, 1) := by decide +kernel
theorem dX11_seen_108 : decode cX11_seen 108 = .ok (.putfield 307, 3) := by decide +kernel
theorem dX11_seen_111 : decode cX11_seen 111 = .ok (.aload_n 0, 1) := by decide +kernel
theorem dX11_seen_112 : decode cX11_seen 112 = .ok (.aload_n 0, 1) := by decide +kernel
theorem dX11_seen_113 : decode cX11_seen 113 = .ok (.getfield 12, 3) := by decide +kernel
theorem dX11_seen_116 : decode cX11_seen 116 = .ok (.getfield 307, 3) := by decide +kernel
theorem dX11_seen_119 : decode cX11_seen 119 = .ok (.invokevirtual 117, 3) := by decide +kernel
theorem dX11_seen_122 : decode cX11_seen 122 = .ok (.ireturn, 1) := by decide +kernel
theorem dX11_forget_0 : decode cX11_forget 0 = .ok (.aload_n 0, 1) := by decide +kernel
theorem dX11_forget_1 : decode cX11_forget 1 = .ok (.getfield 12, 3) := by decide +kernel
theorem dX11_forget_4 : decode cX11_forget 4 = .ok (.getfield 307, 3) := by decide +kernel
theorem dX11_forget_7 : decode cX11_forget 7 = .ok (.istore_n 1, 1) := by decide +kernel
theorem dX11_forget_8 : decode cX11_forget 8 = .ok (.aload_n 0, 1) := by decide +kernel
theorem dX11_forget_9 : decode cX11_forget 9 = .ok (.getfield 12, 3) := by decide +kernel
theorem dX11_forget_12 : decode cX11_forget 12 = .ok (.iconst 0, 1) := by decide +kernel
theorem dX11_forget_13 : decode cX11_forget 13 = .ok (.putfield 307, 3) := by decide +kernel
theorem dX11_forget_16 : decode cX11_forget 16 = .ok (.iload_n 1, 1) := by decide +kernel
theorem dX11_forget_17 : decode cX11_forget 17 = .ok (.ireturn, 1) := by decide +kernel
theorem dX11_floors_0 : decode cX11_floors 0 = .ok (.aload_n 0, 1) := by decide +kernel
theorem dX11_floors_1 : decode cX11_floors 1 = .ok (.getfield 79, 3) := by decide +kernel
theorem dX11_floors_4 : decode cX11_floors 4 = .ok (.aload_n 0, 1) := by decide +kernel
theorem dX11_floors_5 : decode cX11_floors 5 = .ok (.getfield 12, 3) := by decide +kernel
theorem dX11_floors_8 : decode cX11_floors 8 = .ok (.getfield 107, 3) := by decide +kernel
theorem dX11_floors_11 : decode cX11_floors 11 = .ok (.aload_n 0, 1) := by decide +kernel
theorem dX11_floors_12 : decode cX11_floors 12 = .ok (.getfield 12, 3) := by decide +kernel
theorem dX11_floors_15 : decode cX11_floors 15 = .ok (.invokevirtual 143, 3) := by decide +kernel
theorem dX11_floors_18 : decode cX11_floors 18 = .ok (.aload_n 0, 1) := by decide +kernel
theorem dX11_floors_19 : decode cX11_floors 19 = .ok (.getfield 65, 3) := by decide +kernel
theorem dX11_floors_22 : decode cX11_floors 22 = .ok (.invokevirtual 255, 3) := by decide +kernel
theorem dX11_floors_25 : decode cX11_floors 25 = .ok (.aload_n 0, 1) := by decide +kernel
theorem dX11_floors_26 : decode cX11_floors 26 = .ok (.getfield 79, 3) := by decide +kernel
theorem dX11_floors_29 : decode cX11_floors 29 = .ok (.aload_n 0, 1) := by decide +kernel
theorem dX11_floors_30 : decode cX11_floors 30 = .ok (.getfield 12, 3) := by decide +kernel
theorem dX11_floors_33 : decode cX11_floors 33 = .ok (.invokevirtual 319, 3) := by decide +kernel
theorem dX11_floors_36 : decode cX11_floors 36 = .ok (.ifCond .eq 16, 3) := by decide +kernel
theorem dX11_floors_39 : decode cX11_floors 39 = .ok (.aload_n 0, 1) := by decide +kernel
theorem dX11_floors_40 : decode cX11_floors 40 = .ok (.getfield 79, 3) := by decide +kernel
theorem dX11_floors_43 : decode cX11_floors 43 = .ok (.ldc_w 268, 3) := by decide +kernel
theorem dX11_floors_46 : decode cX11_floors 46 = .ok (.invokevirtual 259, 3) := by decide +kernel
theorem dX11_floors_49 : decode cX11_floors 49 = .ok (.goto 4, 3) := by decide +kernel
theorem dX11_floors_52 : decode cX11_floors 52 = .ok (.iconst 0, 1) := by decide +kernel
theorem dX11_floors_53 : decode cX11_floors 53 = .ok (.ireturn, 1) := by decide +kernel
theorem dX11_look_0 : decode cX11_look 0 = .ok (.iload_n 1, 1) := by decide +kernel
theorem dX11_look_1 : decode cX11_look 1 = .ok (.ifCond .lt 21, 3) := by decide +kernel
theorem dX11_look_4 : decode cX11_look 4 = .ok (.iload_n 1, 1) := by decide +kernel
theorem dX11_look_5 : decode cX11_look 5 = .ok (.iconst 2, 1) := by decide +kernel
theorem dX11_look_6 : decode cX11_look 6 = .ok (.if_icmp .gt 16, 3) := by decide +kernel
theorem dX11_look_9 : decode cX11_look 9 = .ok (.aload_n 0, 1) := by decide +kernel
theorem dX11_look_10 : decode cX11_look 10 = .ok (.getfield 12, 3) := by decide +kernel
theorem dX11_look_13 : decode cX11_look 13 = .ok (.getfield 107, 3) := by decide +kernel
theorem dX11_look_16 : decode cX11_look 16 = .ok (.invokevirtual 249, 3) := by decide +kernel
theorem dX11_look_19 : decode cX11_look 19 = .ok (.ifCond .ne 5, 3) := by decide +kernel
theorem dX11_look_22 : decode cX11_look 22 = .ok (.iconst (-1), 1) := by decide +kernel
theorem dX11_look_23 : decode cX11_look 23 = .ok (.ireturn, 1) := by decide +kernel
theorem dX11_look_24 : decode cX11_look 24 = .ok (.aload_n 0, 1) := by decide +kernel
theorem dX11_look_25 : decode cX11_look 25 = .ok (.getfield 79, 3) := by decide +kernel
theorem dX11_look_28 : decode cX11_look 28 = .ok (.aload_n 0, 1) := by decide +kernel
theorem dX11_look_29 : decode cX11_look 29 = .ok (.getfield 12, 3) := by decide +kernel
theorem dX11_look_32 : decode cX11_look 32 = .ok (.getfield 107, 3) := by decide +kernel
theorem dX11_look_35 : decode cX11_look 35 = .ok (.aload_n 0, 1) := by decide +kernel
theorem dX11_look_36 : decode cX11_look 36 = .ok (.getfield 12, 3) := by decide +kernel
theorem dX11_look_39 : decode cX11_look 39 = .ok (.invokevirtual 143, 3) := by decide +kernel
theorem dX11_look_42 : decode cX11_look 42 = .ok (.aload_n 0, 1) := by decide +kernel
theorem dX11_look_43 : decode cX11_look 43 = .ok (.getfield 65, 3) := by decide +kernel
theorem dX11_look_46 : decode cX11_look 46 = .ok (.invokevirtual 255, 3) := by decide +kernel
theorem dX11_look_49 : decode cX11_look 49 = .ok (.aload_n 0, 1) := by decide +kernel
theorem dX11_look_50 : decode cX11_look 50 = .ok (.getfield 79, 3) := by decide +kernel
theorem dX11_look_53 : decode cX11_look 53 = .ok (.aload_n 0, 1) := by decide +kernel
theorem dX11_look_54 : decode cX11_look 54 = .ok (.getfield 12, 3) := by decide +kernel
theorem dX11_look_57 : decode cX11_look 57 = .ok (.invokevirtual 319, 3) := by decide +kernel
theorem dX11_look_60 : decode cX11_look 60 = .ok (.ifCond .eq 16, 3) := by decide +kernel
theorem dX11_look_63 : decode cX11_look 63 = .ok (.aload_n 0, 1) := by decide +kernel
theorem dX11_look_64 : decode cX11_look 64 = .ok (.getfield 79, 3) := by decide +kernel
theorem dX11_look_67 : decode cX11_look 67 = .ok (.ldc_w 268, 3) := by decide +kernel
theorem dX11_look_70 : decode cX11_look 70 = .ok (.invokevirtual 259, 3) := by decide +kernel
theorem dX11_look_73 : decode cX11_look 73 = .ok (.ifCond .ne 5, 3) := by decide +kernel
theorem dX11_look_76 : decode cX11_look 76 = .ok (.iconst (-1), 1) := by decide +kernel
theorem dX11_look_77 : decode cX11_look 77 = .ok (.ireturn, 1) := by decide +kernel
theorem dX11_look_78 : decode cX11_look 78 = .ok (.aload_n 0, 1) := by decide +kernel
theorem dX11_look_79 : decode cX11_look 79 = .ok (.getfield 79, 3) := by decide +kernel
theorem dX11_look_82 : decode cX11_look 82 = .ok (.invokevirtual 323, 3) := by decide +kernel
theorem dX11_look_85 : decode cX11_look 85 = .ok (.aload_n 0, 1) := by decide +kernel
theorem dX11_look_86 : decode cX11_look 86 = .ok (.getfield 79, 3) := by decide +kernel
theorem dX11_look_89 : decode cX11_look 89 = .ok (.invokevirtual 326, 3) := by decide +kernel
theorem dX11_look_92 : decode cX11_look 92 = .ok (.istore_n 2, 1) := by decide +kernel
theorem dX11_look_93 : decode cX11_look 93 = .ok (.iload_n 1, 1) := by decide +kernel
theorem dX11_look_94 : decode cX11_look 94 = .ok (.ifCond .ne 10, 3) := by decide +kernel
theorem dX11_look_97 : decode cX11_look 97 = .ok (.iload_n 2, 1) := by decide +kernel
theorem dX11_look_98 : decode cX11_look 98 = .ok (.bipush 12, 2) := by decide +kernel
theorem dX11_look_100 : decode cX11_look 100 = .ok (.irem, 1) := by decide +kernel
theorem dX11_look_101 : decode cX11_look 101 = .ok (.goto 23, 3) := by decide +kernel
theorem dX11_look_104 : decode cX11_look 104 = .ok (.iload_n 1, 1) := by decide +kernel
theorem dX11_look_105 : decode cX11_look 105 = .ok (.iconst 1, 1) := by decide +kernel
theorem dX11_look_106 : decode cX11_look 106 = .ok (.if_icmp .ne 10, 3) := by decide +kernel
theorem dX11_look_109 : decode cX11_look 109 = .ok (.iload_n 2, 1) := by decide +kernel
theorem dX11_look_110 : decode cX11_look 110 = .ok (.bipush 12, 2) := by decide +kernel
theorem dX11_look_112 : decode cX11_look 112 = .ok (.idiv, 1) := by decide +kernel
theorem dX11_look_113 : decode cX11_look 113 = .ok (.goto 11, 3) := by decide +kernel
theorem dX11_look_116 : decode cX11_look 116 = .ok (.aload_n 0, 1) := by decide +kernel
theorem dX11_look_117 : decode cX11_look 117 = .ok (.getfield 79, 3) := by decide +kernel
theorem dX11_look_120 : decode cX11_look 120 = .ok (.iload_n 2, 1) := by decide +kernel
theorem dX11_look_121 : decode cX11_look 121 = .ok (.invokevirtual 329, 3) := by decide +kernel
theorem dX11_look_124 : decode cX11_look 124 = .ok (.ireturn, 1) := by decide +kernel
theorem dX11_few_0 : decode cX11_few 0 = .ok (.iload_n 1, 1) := by decide +kernel
theorem dX11_few_1 : decode cX11_few 1 = .ok (.iconst 1, 1) := by decide +kernel
theorem dX11_few_2 : decode cX11_few 2 = .ok (.if_icmp .lt 19, 3) := by decide +kernel
theorem dX11_few_5 : decode cX11_few 5 = .ok (.iload_n 1, 1) := by decide +kernel
theorem dX11_few_6 : decode cX11_few 6 = .ok (.bipush 20, 2) := by decide +kernel
theorem dX11_few_8 : decode cX11_few 8 = .ok (.if_icmp .gt 13, 3) := by decide +kernel
theorem dX11_few_11 : decode cX11_few 11 = .ok (.iload_n 2, 1) := by decide +kernel
theorem dX11_few_12 : decode cX11_few 12 = .ok (.ifCond .lt 9, 3) := by decide +kernel
theorem dX11_few_15 : decode cX11_few 15 = .ok (.iload_n 2, 1) := by decide +kernel
theorem dX11_few_16 : decode cX11_few 16 = .ok (.bipush 99, 2) := by decide +kernel
theorem dX11_few_18 : decode cX11_few 18 = .ok (.if_icmp .le 7, 3) := by decide +kernel
theorem dX11_few_21 : decode cX11_few 21 = .ok (.ldc2_w 332, 3) := by decide +kernel
theorem dX11_few_24 : decode cX11_few 24 = .ok (.lreturn, 1) := by decide +kernel
theorem dX11_few_25 : decode cX11_few 25 = .ok (.aload_n 0, 1) := by decide +kernel
theorem dX11_few_26 : decode cX11_few 26 = .ok (.getfield 86, 3) := by decide +kernel
theorem dX11_few_29 : decode cX11_few 29 = .ok (.iload_n 1, 1) := by decide +kernel
theorem dX11_few_30 : decode cX11_few 30 = .ok (.iload_n 2, 1) := by decide +kernel
theorem dX11_few_31 : decode cX11_few 31 = .ok (.aload_n 0, 1) := by decide +kernel
theorem dX11_few_32 : decode cX11_few 32 = .ok (.getfield 12, 3) := by decide +kernel
theorem dX11_few_35 : decode cX11_few 35 = .ok (.getfield 107, 3) := by decide +kernel
theorem dX11_few_38 : decode cX11_few 38 = .ok (.getfield 183, 3) := by decide +kernel
theorem dX11_few_41 : decode cX11_few 41 = .ok (.iconst 1, 1) := by decide +kernel
theorem dX11_few_42 : decode cX11_few 42 = .ok (.iaload, 1) := by decide +kernel
theorem dX11_few_43 : decode cX11_few 43 = .ok (.invokevirtual 334, 3) := by decide +kernel
theorem dX11_few_46 : decode cX11_few 46 = .ok (.lreturn, 1) := by decide +kernel
theorem dX11_compare_0 : decode cX11_compare 0 = .ok (.aload_n 0, 1) := by decide +kernel
theorem dX11_compare_1 : decode cX11_compare 1 = .ok (.getfield 12, 3) := by decide +kernel
theorem dX11_compare_4 : decode cX11_compare 4 = .ok (.iload_n 1, 1) := by decide +kernel
theorem dX11_compare_5 : decode cX11_compare 5 = .ok (.invokevirtual 226, 3) := by decide +kernel
theorem dX11_compare_8 : decode cX11_compare 8 = .ok (.astore_n 2, 1) := by decide +kernel
theorem dX11_compare_9 : decode cX11_compare 9 = .ok (.iload_n 1, 1) := by decide +kernel
theorem dX11_compare_10 : decode cX11_compare 10 = .ok (.iconst (-1), 1) := by decide +kernel
theorem dX11_compare_11 : decode cX11_compare 11 = .ok (.if_icmp .eq 9, 3) := by decide +kernel
theorem dX11_compare_14 : decode cX11_compare 14 = .ok (.aload_n 2, 1) := by decide +kernel
theorem dX11_compare_15 : decode cX11_compare 15 = .ok (.ifnonnull 5, 3) := by decide +kernel
theorem dX11_compare_18 : decode cX11_compare 18 = .ok (.iconst (-1), 1) := by decide +kernel
theorem dX11_compare_19 : decode cX11_compare 19 = .ok (.ireturn, 1) := by decide +kernel
theorem dX11_compare_20 : decode cX11_compare 20 = .ok (.aload_n 0, 1) := by decide +kernel
theorem dX11_compare_21 : decode cX11_compare 21 = .ok (.getfield 79, 3) := by decide +kernel
theorem dX11_compare_24 : decode cX11_compare 24 = .ok (.aload_n 0, 1) := by decide +kernel
theorem dX11_compare_25 : decode cX11_compare 25 = .ok (.getfield 12, 3) := by decide +kernel
theorem dX11_compare_28 : decode cX11_compare 28 = .ok (.getfield 107, 3) := by decide +kernel
theorem dX11_compare_31 : decode cX11_compare 31 = .ok (.aload_n 2, 1) := by decide +kernel
theorem dX11_compare_32 : decode cX11_compare 32 = .ok (.aload_n 0, 1) := by decide +kernel
theorem dX11_compare_33 : decode cX11_compare 33 = .ok (.getfield 65, 3) := by decide +kernel
theorem dX11_compare_36 : decode cX11_compare 36 = .ok (.invokevirtual 255, 3) := by decide +kernel
theorem dX11_compare_39 : decode cX11_compare 39 = .ok (.aload_n 0, 1) := by decide +kernel
theorem dX11_compare_40 : decode cX11_compare 40 = .ok (.getfield 79, 3) := by decide +kernel
theorem dX11_compare_43 : decode cX11_compare 43 = .ok (.invokevirtual 269, 3) := by decide +kernel
theorem dX11_compare_46 : decode cX11_compare 46 = .ok (.ireturn, 1) := by decide +kernel
theorem dX11_years_0 : decode cX11_years 0 = .ok (.iload_n 1, 1) := by decide +kernel
theorem dX11_years_1 : decode cX11_years 1 = .ok (.ifCond .lt 21, 3) := by decide +kernel
theorem dX11_years_4 : decode cX11_years 4 = .ok (.iload_n 1, 1) := by decide +kernel
theorem dX11_years_5 : decode cX11_years 5 = .ok (.ldc_w 338, 3) := by decide +kernel
theorem dX11_years_8 : decode cX11_years 8 = .ok (.if_icmp .gt 14, 3) := by decide +kernel
theorem dX11_years_11 : decode cX11_years 11 = .ok (.iload_n 2, 1) := by decide +kernel
theorem dX11_years_12 : decode cX11_years 12 = .ok (.iconst 1, 1) := by decide +kernel
theorem dX11_years_13 : decode cX11_years 13 = .ok (.if_icmp .lt 9, 3) := by decide +kernel
theorem dX11_years_16 : decode cX11_years 16 = .ok (.iload_n 2, 1) := by decide +kernel
theorem dX11_years_17 : decode cX11_years 17 = .ok (.bipush 60, 2) := by decide +kernel
theorem dX11_years_19 : decode cX11_years 19 = .ok (.if_icmp .le 9, 3) := by decide +kernel
theorem dX11_years_22 : decode cX11_years 22 = .ok (.aload_n 0, 1) := by decide +kernel
theorem dX11_years_23 : decode cX11_years 23 = .ok (.iconst (-1), 1) := by decide +kernel
theorem dX11_years_24 : decode cX11_years 24 = .ok (.invokevirtual 117, 3) := by decide +kernel
theorem dX11_years_27 : decode cX11_years 27 = .ok (.ireturn, 1) := by decide +kernel
theorem dX11_years_28 : decode cX11_years 28 = .ok (.aload_n 0, 1) := by decide +kernel
theorem dX11_years_29 : decode cX11_years 29 = .ok (.getfield 12, 3) := by decide +kernel
theorem dX11_years_32 : decode cX11_years 32 = .ok (.getfield 107, 3) := by decide +kernel
theorem dX11_years_35 : decode cX11_years 35 = .ok (.getfield 298, 3) := by decide +kernel
theorem dX11_years_38 : decode cX11_years 38 = .ok (.ifCond .ne 10, 3) := by decide +kernel
theorem dX11_years_41 : decode cX11_years 41 = .ok (.aload_n 0, 1) := by decide +kernel
theorem dX11_years_42 : decode cX11_years 42 = .ok (.bipush (-3), 2) := by decide +kernel
theorem dX11_years_44 : decode cX11_years 44 = .ok (.invokevirtual 117, 3) := by decide +kernel
theorem dX11_years_47 : decode cX11_years 47 = .ok (.ireturn, 1) := by decide +kernel
theorem dX11_years_48 : decode cX11_years 48 = .ok (.aload_n 0, 1) := by decide +kernel
theorem dX11_years_49 : decode cX11_years 49 = .ok (.getfield 27, 3) := by decide +kernel
theorem dX11_years_52 : decode cX11_years 52 = .ok (.aload_n 0, 1) := by decide +kernel
theorem dX11_years_53 : decode cX11_years 53 = .ok (.getfield 12, 3) := by decide +kernel
theorem dX11_years_56 : decode cX11_years 56 = .ok (.getfield 107, 3) := by decide +kernel
theorem dX11_years_59 : decode cX11_years 59 = .ok (.invokevirtual 275, 3) := by decide +kernel
theorem dX11_years_62 : decode cX11_years 62 = .ok (.iload_n 1, 1) := by decide +kernel
theorem dX11_years_63 : decode cX11_years 63 = .ok (.istore_n 3, 1) := by decide +kernel
theorem dX11_years_64 : decode cX11_years 64 = .ok (.iconst 0, 1) := by decide +kernel
theorem dX11_years_65 : decode cX11_years 65 = .ok (.istore 4, 2) := by decide +kernel
theorem dX11_years_67 : decode cX11_years 67 = .ok (.iload 4, 2) := by decide +kernel
theorem dX11_years_69 : decode cX11_years 69 = .ok (.iload_n 2, 1) := by decide +kernel
theorem dX11_years_70 : decode cX11_years 70 = .ok (.if_icmp .ge 30, 3) := by decide +kernel
theorem dX11_years_73 : decode cX11_years 73 = .ok (.aload_n 0, 1) := by decide +kernel
theorem dX11_years_74 : decode cX11_years 74 = .ok (.getfield 27, 3) := by decide +kernel
theorem dX11_years_77 : decode cX11_years 77 = .ok (.getfield 183, 3) := by decide +kernel
theorem dX11_years_80 : decode cX11_years 80 = .ok (.iconst 0, 1) := by decide +kernel
theorem dX11_years_81 : decode cX11_years 81 = .ok (.iaload, 1) := by decide +kernel
theorem dX11_years_82 : decode cX11_years 82 = .ok (.sipush 999, 3) := by decide +kernel
theorem dX11_years_85 : decode cX11_years 85 = .ok (.if_icmp .ge 15, 3) := by decide +kernel
theorem dX11_years_88 : decode cX11_years 88 = .ok (.aload_n 0, 1) := by decide +kernel
theorem dX11_years_89 : decode cX11_years 89 = .ok (.iload_n 3, 1) := by decide +kernel
theorem dX11_years_90 : decode cX11_years 90 = .ok (.invokevirtual 339, 3) := by decide +kernel
theorem dX11_years_93 : decode cX11_years 93 = .ok (.istore_n 3, 1) := by decide +kernel
theorem dX11_years_94 : decode cX11_years 94 = .ok (.iinc 4 1, 3) := by decide +kernel
theorem dX11_years_97 : decode cX11_years 97 = .ok (.goto (-30), 3) := by decide +kernel
theorem dX11_years_100 : decode cX11_years 100 = .ok (.aload_n 0, 1) := by decide +kernel
theorem dX11_years_101 : decode cX11_years 101 = .ok (.aload_n 0, 1) := by decide +kernel
theorem dX11_years_102 : decode cX11_years 102 = .ok (.getfield 27, 3) := by decide +kernel
theorem dX11_years_105 : decode cX11_years 105 = .ok (.invokevirtual 249, 3) := by decide +kernel
theorem dX11_years_108 : decode cX11_years 108 = .ok (.invokevirtual 117, 3) := by decide +kernel
theorem dX11_years_111 : decode cX11_years 111 = .ok (.ireturn, 1) := by decide +kernel
theorem dX11_drawn_0 : decode cX11_drawn 0 = .ok (.aload_n 0, 1) := by decide +kernel
theorem dX11_drawn_1 : decode cX11_drawn 1 = .ok (.getfield 27, 3) := by decide +kernel
theorem dX11_drawn_4 : decode cX11_drawn 4 = .ok (.iload_n 1, 1) := by decide +kernel
theorem dX11_drawn_5 : decode cX11_drawn 5 = .ok (.invokevirtual 121, 3) := by decide +kernel
theorem dX11_drawn_8 : decode cX11_drawn 8 = .ok (.ifCond .ne 5, 3) := by decide +kernel
theorem dX11_drawn_11 : decode cX11_drawn 11 = .ok (.iconst (-1), 1) := by decide +kernel
theorem dX11_drawn_12 : decode cX11_drawn 12 = .ok (.ireturn, 1) := by decide +kernel
theorem dX11_drawn_13 : decode cX11_drawn 13 = .ok (.iload_n 2, 1) := by decide +kernel
theorem dX11_drawn_14 : decode cX11_drawn 14 = .ok (.tableswitch 56 0 2 #[26, 36, 46], 26) := by decide +kernel
theorem dX11_drawn_40 : decode cX11_drawn 40 = .ok (.aload_n 0, 1) := by decide +kernel
theorem dX11_drawn_41 : decode cX11_drawn 41 = .ok (.getfield 27, 3) := by decide +kernel
theorem dX11_drawn_44 : decode cX11_drawn 44 = .ok (.getfield 131, 3) := by decide +kernel
theorem dX11_drawn_47 : decode cX11_drawn 47 = .ok (.iload_n 1, 1) := by decide +kernel
theorem dX11_drawn_48 : decode cX11_drawn 48 = .ok (.iaload, 1) := by decide +kernel
theorem dX11_drawn_49 : decode cX11_drawn 49 = .ok (.ireturn, 1) := by decide +kernel
theorem dX11_drawn_50 : decode cX11_drawn 50 = .ok (.aload_n 0, 1) := by decide +kernel
theorem dX11_drawn_51 : decode cX11_drawn 51 = .ok (.getfield 27, 3) := by decide +kernel
theorem dX11_drawn_54 : decode cX11_drawn 54 = .ok (.getfield 134, 3) := by decide +kernel
theorem dX11_drawn_57 : decode cX11_drawn 57 = .ok (.iload_n 1, 1) := by decide +kernel
theorem dX11_drawn_58 : decode cX11_drawn 58 = .ok (.iaload, 1) := by decide +kernel
theorem dX11_drawn_59 : decode cX11_drawn 59 = .ok (.ireturn, 1) := by decide +kernel
theorem dX11_drawn_60 : decode cX11_drawn 60 = .ok (.aload_n 0, 1) := by decide +kernel
theorem dX11_drawn_61 : decode cX11_drawn 61 = .ok (.getfield 27, 3) := by decide +kernel
theorem dX11_drawn_64 : decode cX11_drawn 64 = .ok (.getfield 137, 3) := by decide +kernel
theorem dX11_drawn_67 : decode cX11_drawn 67 = .ok (.iload_n 1, 1) := by decide +kernel
theorem dX11_drawn_68 : decode cX11_drawn 68 = .ok (.iaload, 1) := by decide +kernel
theorem dX11_drawn_69 : decode cX11_drawn 69 = .ok (.ireturn, 1) := by decide +kernel
theorem dX11_drawn_70 : decode cX11_drawn 70 = .ok (.iconst (-1), 1) := by decide +kernel
theorem dX11_drawn_71 : decode cX11_drawn 71 = .ok (.ireturn, 1) := by decide +kernel
theorem dX11_image_0 : decode cX11_image 0 = .ok (.iload_n 1, 1) := by decide +kernel
theorem dX11_image_1 : decode cX11_image 1 = .ok (.ifCond .lt 8, 3) := by decide +kernel
theorem dX11_image_4 : decode cX11_image 4 = .ok (.iload_n 1, 1) := by decide +kernel
theorem dX11_image_5 : decode cX11_image 5 = .ok (.iconst 2, 1) := by decide +kernel
theorem dX11_image_6 : decode cX11_image 6 = .ok (.if_icmp .lt 9, 3) := by decide +kernel
theorem dX11_image_9 : decode cX11_image 9 = .ok (.aload_n 0, 1) := by decide +kernel
theorem dX11_image_10 : decode cX11_image 10 = .ok (.iconst (-1), 1) := by decide +kernel
theorem dX11_image_11 : decode cX11_image 11 = .ok (.invokevirtual 117, 3) := by decide +kernel
theorem dX11_image_14 : decode cX11_image 14 = .ok (.ireturn, 1) := by decide +kernel
theorem dX11_image_15 : decode cX11_image 15 = .ok (.aload_n 0, 1) := by decide +kernel
theorem dX11_image_16 : decode cX11_image 16 = .ok (.getfield 16, 3) := by decide +kernel
theorem dX11_image_19 : decode cX11_image 19 = .ok (.iload_n 1, 1) := by decide +kernel
theorem dX11_image_20 : decode cX11_image 20 = .ok (.aaload, 1) := by decide +kernel
theorem dX11_image_21 : decode cX11_image 21 = .ok (.aload_n 0, 1) := by decide +kernel
theorem dX11_image_22 : decode cX11_image 22 = .ok (.getfield 12, 3) := by decide +kernel
theorem dX11_image_25 : decode cX11_image 25 = .ok (.invokevirtual 342, 3) := by decide +kernel
theorem dX11_image_28 : decode cX11_image 28 = .ok (.aload_n 0, 1) := by decide +kernel
theorem dX11_image_29 : decode cX11_image 29 = .ok (.getfield 20, 3) := by decide +kernel
theorem dX11_image_32 : decode cX11_image 32 = .ok (.iload_n 1, 1) := by decide +kernel
theorem dX11_image_33 : decode cX11_image 33 = .ok (.iconst 1, 1) := by decide +kernel
theorem dX11_image_34 : decode cX11_image 34 = .ok (.bastore, 1) := by decide +kernel
theorem dX11_image_35 : decode cX11_image 35 = .ok (.aload_n 0, 1) := by decide +kernel
theorem dX11_image_36 : decode cX11_image 36 = .ok (.iconst 0, 1) := by decide +kernel
theorem dX11_image_37 : decode cX11_image 37 = .ok (.invokevirtual 117, 3) := by decide +kernel
theorem dX11_image_40 : decode cX11_image 40 = .ok (.ireturn, 1) := by decide +kernel
theorem dX11_back_0 : decode cX11_back 0 = .ok (.iload_n 1, 1) := by decide +kernel
theorem dX11_back_1 : decode cX11_back 1 = .ok (.ifCond .lt 8, 3) := by decide +kernel
theorem dX11_back_4 : decode cX11_back 4 = .ok (.iload_n 1, 1) := by decide +kernel
theorem dX11_back_5 : decode cX11_back 5 = .ok (.iconst 2, 1) := by decide +kernel
theorem dX11_back_6 : decode cX11_back 6 = .ok (.if_icmp .lt 9, 3) := by decide +kernel
theorem dX11_back_9 : decode cX11_back 9 = .ok (.aload_n 0, 1) := by decide +kernel
theorem dX11_back_10 : decode cX11_back 10 = .ok (.iconst (-1), 1) := by decide +kernel
theorem dX11_back_11 : decode cX11_back 11 = .ok (.invokevirtual 117, 3) := by decide +kernel
theorem dX11_back_14 : decode cX11_back 14 = .ok (.ireturn, 1) := by decide +kernel
theorem dX11_back_15 : decode cX11_back 15 = .ok (.aload_n 0, 1) := by decide +kernel
theorem dX11_back_16 : decode cX11_back 16 = .ok (.getfield 20, 3) := by decide +kernel
theorem dX11_back_19 : decode cX11_back 19 = .ok (.iload_n 1, 1) := by decide +kernel
theorem dX11_back_20 : decode cX11_back 20 = .ok (.baload, 1) := by decide +kernel
theorem dX11_back_21 : decode cX11_back 21 = .ok (.ifCond .ne 10, 3) := by decide +kernel
theorem dX11_back_24 : decode cX11_back 24 = .ok (.aload_n 0, 1) := by decide +kernel
theorem dX11_back_25 : decode cX11_back 25 = .ok (.bipush (-2), 2) := by decide +kernel
theorem dX11_back_27 : decode cX11_back 27 = .ok (.invokevirtual 117, 3) := by decide +kernel
theorem dX11_back_30 : decode cX11_back 30 = .ok (.ireturn, 1) := by decide +kernel
theorem dX11_back_31 : decode cX11_back 31 = .ok (.aload_n 0, 1) := by decide +kernel
theorem dX11_back_32 : decode cX11_back 32 = .ok (.getfield 12, 3) := by decide +kernel
theorem dX11_back_35 : decode cX11_back 35 = .ok (.aload_n 0, 1) := by decide +kernel
theorem dX11_back_36 : decode cX11_back 36 = .ok (.getfield 16, 3) := by decide +kernel
theorem dX11_back_39 : decode cX11_back 39 = .ok (.iload_n 1, 1) := by decide +kernel
theorem dX11_back_40 : decode cX11_back 40 = .ok (.aaload, 1) := by decide +kernel
theorem dX11_back_41 : decode cX11_back 41 = .ok (.invokevirtual 342, 3) := by decide +kernel
theorem dX11_back_44 : decode cX11_back 44 = .ok (.aload_n 0, 1) := by decide +kernel
theorem dX11_back_45 : decode cX11_back 45 = .ok (.getfield 72, 3) := by decide +kernel
theorem dX11_back_48 : decode cX11_back 48 = .ok (.invokevirtual 114, 3) := by decide +kernel
theorem dX11_back_51 : decode cX11_back 51 = .ok (.aload_n 0, 1) := by decide +kernel
theorem dX11_back_52 : decode cX11_back 52 = .ok (.iconst 0, 1) := by decide +kernel
theorem dX11_back_53 : decode cX11_back 53 = .ok (.invokevirtual 117, 3) := by decide +kernel
theorem dX11_back_56 : decode cX11_back 56 = .ok (.ireturn, 1) := by decide +kernel
theorem dX11_count_0 : decode cX11_count 0 = .ok (.aload_n 0, 1) := by decide +kernel
theorem dX11_count_1 : decode cX11_count 1 = .ok (.getfield 12, 3) := by decide +kernel
theorem dX11_count_4 : decode cX11_count 4 = .ok (.getfield 107, 3) := by decide +kernel
theorem dX11_count_7 : decode cX11_count 7 = .ok (.astore_n 2, 1) := by decide +kernel
theorem dX11_count_8 : decode cX11_count 8 = .ok (.iload_n 1, 1) := by decide +kernel
theorem dX11_count_9 : decode cX11_count 9 = .ok (.tableswitch 181 0 18 #[91, 96, 101, 106, 111, 119, 127, 135, 143, 143, 143, 143, 143, 153, 161, 161, 161, 171, 176], 91) := by decide +kernel
theorem dX11_count_100 : decode cX11_count 100 = .ok (.aload_n 2, 1) := by decide +kernel
theorem dX11_count_101 : decode cX11_count 101 = .ok (.getfield 298, 3) := by decide +kernel
theorem dX11_count_104 : decode cX11_count 104 = .ok (.ireturn, 1) := by decide +kernel
theorem dX11_count_105 : decode cX11_count 105 = .ok (.aload_n 2, 1) := by decide +kernel
theorem dX11_count_106 : decode cX11_count 106 = .ok (.invokevirtual 151, 3) := by decide +kernel
theorem dX11_count_109 : decode cX11_count 109 = .ok (.ireturn, 1) := by decide +kernel
theorem dX11_count_110 : decode cX11_count 110 = .ok (.aload_n 2, 1) := by decide +kernel
theorem dX11_count_111 : decode cX11_count 111 = .ok (.invokevirtual 345, 3) := by decide +kernel
theorem dX11_count_114 : decode cX11_count 114 = .ok (.ireturn, 1) := by decide +kernel
theorem dX11_count_115 : decode cX11_count 115 = .ok (.aload_n 2, 1) := by decide +kernel
theorem dX11_count_116 : decode cX11_count 116 = .ok (.getfield 348, 3) := by decide +kernel
theorem dX11_count_119 : decode cX11_count 119 = .ok (.ireturn, 1) := by decide +kernel
theorem dX11_count_120 : decode cX11_count 120 = .ok (.aload_n 0, 1) := by decide +kernel
theorem dX11_count_121 : decode cX11_count 121 = .ok (.getfield 12, 3) := by decide +kernel
theorem dX11_count_124 : decode cX11_count 124 = .ok (.getfield 307, 3) := by decide +kernel
theorem dX11_count_127 : decode cX11_count 127 = .ok (.ireturn, 1) := by decide +kernel
theorem dX11_count_128 : decode cX11_count 128 = .ok (.aload_n 0, 1) := by decide +kernel
theorem dX11_count_129 : decode cX11_count 129 = .ok (.getfield 12, 3) := by decide +kernel
theorem dX11_count_132 : decode cX11_count 132 = .ok (.getfield 196, 3) := by decide +kernel
theorem dX11_count_135 : decode cX11_count 135 = .ok (.ireturn, 1) := by decide +kernel
theorem dX11_count_136 : decode cX11_count 136 = .ok (.aload_n 0, 1) := by decide +kernel
theorem dX11_count_137 : decode cX11_count 137 = .ok (.getfield 72, 3) := by decide +kernel
theorem dX11_count_140 : decode cX11_count 140 = .ok (.getfield 351, 3) := by decide +kernel
theorem dX11_count_143 : decode cX11_count 143 = .ok (.ireturn, 1) := by decide +kernel
theorem dX11_count_144 : decode cX11_count 144 = .ok (.aload_n 0, 1) := by decide +kernel
theorem dX11_count_145 : decode cX11_count 145 = .ok (.getfield 37, 3) := by decide +kernel
theorem dX11_count_148 : decode cX11_count 148 = .ok (.getfield 186, 3) := by decide +kernel
theorem dX11_count_151 : decode cX11_count 151 = .ok (.ireturn, 1) := by decide +kernel
theorem dX11_count_152 : decode cX11_count 152 = .ok (.aload_n 0, 1) := by decide +kernel
theorem dX11_count_153 : decode cX11_count 153 = .ok (.getfield 90, 3) := by decide +kernel
theorem dX11_count_156 : decode cX11_count 156 = .ok (.iload_n 1, 1) := by decide +kernel
theorem dX11_count_157 : decode cX11_count 157 = .ok (.bipush 8, 2) := by decide +kernel
theorem dX11_count_159 : decode cX11_count 159 = .ok (.isub, 1) := by decide +kernel
theorem dX11_count_160 : decode cX11_count 160 = .ok (.iaload, 1) := by decide +kernel
theorem dX11_count_161 : decode cX11_count 161 = .ok (.ireturn, 1) := by decide +kernel
theorem dX11_count_162 : decode cX11_count 162 = .ok (.aload_n 0, 1) := by decide +kernel
theorem dX11_count_163 : decode cX11_count 163 = .ok (.getfield 12, 3) := by decide +kernel
theorem dX11_count_166 : decode cX11_count 166 = .ok (.getfield 230, 3) := by decide +kernel
theorem dX11_count_169 : decode cX11_count 169 = .ok (.ireturn, 1) := by decide +kernel
theorem dX11_count_170 : decode cX11_count 170 = .ok (.aload_n 2, 1) := by decide +kernel
theorem dX11_count_171 : decode cX11_count 171 = .ok (.getfield 183, 3) := by decide +kernel
theorem dX11_count_174 : decode cX11_count 174 = .ok (.iload_n 1, 1) := by decide +kernel
theorem dX11_count_175 : decode cX11_count 175 = .ok (.bipush 14, 2) := by decide +kernel
theorem dX11_count_177 : decode cX11_count 177 = .ok (.isub, 1) := by decide +kernel
theorem dX11_count_178 : decode cX11_count 178 = .ok (.iaload, 1) := by decide +kernel
theorem dX11_count_179 : decode cX11_count 179 = .ok (.ireturn, 1) := by decide +kernel
theorem dX11_count_180 : decode cX11_count 180 = .ok (.aload_n 2, 1) := by decide +kernel
theorem dX11_count_181 : decode cX11_count 181 = .ok (.getfield 155, 3) := by decide +kernel
theorem dX11_count_184 : decode cX11_count 184 = .ok (.ireturn, 1) := by decide +kernel
theorem dX11_count_185 : decode cX11_count 185 = .ok (.aload_n 2, 1) := by decide +kernel
theorem dX11_count_186 : decode cX11_count 186 = .ok (.getfield 158, 3) := by decide +kernel
theorem dX11_count_189 : decode cX11_count 189 = .ok (.ireturn, 1) := by decide +kernel
theorem dX11_count_190 : decode cX11_count 190 = .ok (.iconst (-1), 1) := by decide +kernel
theorem dX11_count_191 : decode cX11_count 191 = .ok (.ireturn, 1) := by decide +kernel
theorem dX11_status_0 : decode cX11_status 0 = .ok (.aload_n 0, 1) := by decide +kernel
theorem dX11_status_1 : decode cX11_status 1 = .ok (.getfield 94, 3) := by decide +kernel
theorem dX11_status_4 : decode cX11_status 4 = .ok (.ireturn, 1) := by decide +kernel
theorem dX11_onGrid_0 : decode cX11_onGrid 0 = .ok (.iload_n 0, 1) := by decide +kernel
theorem dX11_onGrid_1 : decode cX11_onGrid 1 = .ok (.ifCond .lt 13, 3) := by decide +kernel
theorem dX11_onGrid_4 : decode cX11_onGrid 4 = .ok (.iload_n 0, 1) := by decide +kernel
theorem dX11_onGrid_5 : decode cX11_onGrid 5 = .ok (.bipush 12, 2) := by decide +kernel
theorem dX11_onGrid_7 : decode cX11_onGrid 7 = .ok (.if_icmp .ge 7, 3) := by decide +kernel
theorem dX11_onGrid_10 : decode cX11_onGrid 10 = .ok (.iconst 1, 1) := by decide +kernel
theorem dX11_onGrid_11 : decode cX11_onGrid 11 = .ok (.goto 4, 3) := by decide +kernel
theorem dX11_onGrid_14 : decode cX11_onGrid 14 = .ok (.iconst 0, 1) := by decide +kernel
theorem dX11_onGrid_15 : decode cX11_onGrid 15 = .ok (.ireturn, 1) := by decide +kernel
theorem dX11_mostOfTerm_0 : decode cX11_mostOfTerm 0 = .ok (.iload_n 0, 1) := by decide +kernel
theorem dX11_mostOfTerm_1 : decode cX11_mostOfTerm 1 = .ok (.ifCond .ne 9, 3) := by decide +kernel
theorem dX11_mostOfTerm_4 : decode cX11_mostOfTerm 4 = .ok (.sipush 999, 3) := by decide +kernel
theorem dX11_mostOfTerm_7 : decode cX11_mostOfTerm 7 = .ok (.goto 15, 3) := by decide +kernel
theorem dX11_mostOfTerm_10 : decode cX11_mostOfTerm 10 = .ok (.iload_n 0, 1) := by decide +kernel
theorem dX11_mostOfTerm_11 : decode cX11_mostOfTerm 11 = .ok (.iconst 1, 1) := by decide +kernel
theorem dX11_mostOfTerm_12 : decode cX11_mostOfTerm 12 = .ok (.if_icmp .ne 8, 3) := by decide +kernel
theorem dX11_mostOfTerm_15 : decode cX11_mostOfTerm 15 = .ok (.bipush 10, 2) := by decide +kernel
theorem dX11_mostOfTerm_17 : decode cX11_mostOfTerm 17 = .ok (.goto 5, 3) := by decide +kernel
theorem dX11_mostOfTerm_20 : decode cX11_mostOfTerm 20 = .ok (.bipush 9, 2) := by decide +kernel
theorem dX11_mostOfTerm_22 : decode cX11_mostOfTerm 22 = .ok (.ireturn, 1) := by decide +kernel
theorem dX11_answer_0 : decode cX11_answer 0 = .ok (.aload_n 0, 1) := by decide +kernel
theorem dX11_answer_1 : decode cX11_answer 1 = .ok (.iload_n 1, 1) := by decide +kernel
theorem dX11_answer_2 : decode cX11_answer 2 = .ok (.ifCond .ge 7, 3) := by decide +kernel
theorem dX11_answer_5 : decode cX11_answer 5 = .ok (.iload_n 1, 1) := by decide +kernel
theorem dX11_answer_6 : decode cX11_answer 6 = .ok (.goto 4, 3) := by decide +kernel
theorem dX11_answer_9 : decode cX11_answer 9 = .ok (.iconst 0, 1) := by decide +kernel
theorem dX11_answer_10 : decode cX11_answer 10 = .ok (.putfield 94, 3) := by decide +kernel
theorem dX11_answer_13 : decode cX11_answer 13 = .ok (.iload_n 1, 1) := by decide +kernel
theorem dX11_answer_14 : decode cX11_answer 14 = .ok (.tableswitch 103 (-6) (-1) #[90, 77, 103, 64, 51, 38], 38) := by decide +kernel
theorem dX11_answer_52 : decode cX11_answer 52 = .ok (.aload_n 0, 1) := by decide +kernel
theorem dX11_answer_53 : decode cX11_answer 53 = .ok (.getfield 90, 3) := by decide +kernel
theorem dX11_answer_56 : decode cX11_answer 56 = .ok (.iconst 0, 1) := by decide +kernel
theorem dX11_answer_57 : decode cX11_answer 57 = .ok (.dup2, 1) := by decide +kernel
theorem dX11_answer_58 : decode cX11_answer 58 = .ok (.iaload, 1) := by decide +kernel
theorem dX11_answer_59 : decode cX11_answer 59 = .ok (.iconst 1, 1) := by decide +kernel
theorem dX11_answer_60 : decode cX11_answer 60 = .ok (.iadd, 1) := by decide +kernel
theorem dX11_answer_61 : decode cX11_answer 61 = .ok (.iastore, 1) := by decide +kernel
theorem dX11_answer_62 : decode cX11_answer 62 = .ok (.goto 55, 3) := by decide +kernel
theorem dX11_answer_65 : decode cX11_answer 65 = .ok (.aload_n 0, 1) := by decide +kernel
theorem dX11_answer_66 : decode cX11_answer 66 = .ok (.getfield 90, 3) := by decide +kernel
theorem dX11_answer_69 : decode cX11_answer 69 = .ok (.iconst 1, 1) := by decide +kernel
theorem dX11_answer_70 : decode cX11_answer 70 = .ok (.dup2, 1) := by decide +kernel
theorem dX11_answer_71 : decode cX11_answer 71 = .ok (.iaload, 1) := by decide +kernel
theorem dX11_answer_72 : decode cX11_answer 72 = .ok (.iconst 1, 1) := by decide +kernel
theorem dX11_answer_73 : decode cX11_answer 73 = .ok (.iadd, 1) := by decide +kernel
theorem dX11_answer_74 : decode cX11_answer 74 = .ok (.iastore, 1) := by decide +kernel
theorem dX11_answer_75 : decode cX11_answer 75 = .ok (.goto 42, 3) := by decide +kernel
theorem dX11_answer_78 : decode cX11_answer 78 = .ok (.aload_n 0, 1) := by decide +kernel
theorem dX11_answer_79 : decode cX11_answer 79 = .ok (.getfield 90, 3) := by decide +kernel
theorem dX11_answer_82 : decode cX11_answer 82 = .ok (.iconst 2, 1) := by decide +kernel
theorem dX11_answer_83 : decode cX11_answer 83 = .ok (.dup2, 1) := by decide +kernel
theorem dX11_answer_84 : decode cX11_answer 84 = .ok (.iaload, 1) := by decide +kernel
theorem dX11_answer_85 : decode cX11_answer 85 = .ok (.iconst 1, 1) := by decide +kernel
theorem dX11_answer_86 : decode cX11_answer 86 = .ok (.iadd, 1) := by decide +kernel
theorem dX11_answer_87 : decode cX11_answer 87 = .ok (.iastore, 1) := by decide +kernel
theorem dX11_answer_88 : decode cX11_answer 88 = .ok (.goto 29, 3) := by decide +kernel
theorem dX11_answer_91 : decode cX11_answer 91 = .ok (.aload_n 0, 1) := by decide +kernel
theorem dX11_answer_92 : decode cX11_answer 92 = .ok (.getfield 90, 3) := by decide +kernel
theorem dX11_answer_95 : decode cX11_answer 95 = .ok (.iconst 3, 1) := by decide +kernel
theorem dX11_answer_96 : decode cX11_answer 96 = .ok (.dup2, 1) := by decide +kernel
theorem dX11_answer_97 : decode cX11_answer 97 = .ok (.iaload, 1) := by decide +kernel
theorem dX11_answer_98 : decode cX11_answer 98 = .ok (.iconst 1, 1) := by decide +kernel
theorem dX11_answer_99 : decode cX11_answer 99 = .ok (.iadd, 1) := by decide +kernel
theorem dX11_answer_100 : decode cX11_answer 100 = .ok (.iastore, 1) := by decide +kernel
theorem dX11_answer_101 : decode cX11_answer 101 = .ok (.goto 16, 3) := by decide +kernel
theorem dX11_answer_104 : decode cX11_answer 104 = .ok (.aload_n 0, 1) := by decide +kernel
theorem dX11_answer_105 : decode cX11_answer 105 = .ok (.getfield 90, 3) := by decide +kernel
theorem dX11_answer_108 : decode cX11_answer 108 = .ok (.iconst 4, 1) := by decide +kernel
theorem dX11_answer_109 : decode cX11_answer 109 = .ok (.dup2, 1) := by decide +kernel
theorem dX11_answer_110 : decode cX11_answer 110 = .ok (.iaload, 1) := by decide +kernel
theorem dX11_answer_111 : decode cX11_answer 111 = .ok (.iconst 1, 1) := by decide +kernel
theorem dX11_answer_112 : decode cX11_answer 112 = .ok (.iadd, 1) := by decide +kernel
theorem dX11_answer_113 : decode cX11_answer 113 = .ok (.iastore, 1) := by decide +kernel
theorem dX11_answer_114 : decode cX11_answer 114 = .ok (.goto 3, 3) := by decide +kernel
theorem dX11_answer_117 : decode cX11_answer 117 = .ok (.iload_n 1, 1) := by decide +kernel
theorem dX11_answer_118 : decode cX11_answer 118 = .ok (.ireturn, 1) := by decide +kernel
theorem dX11_canLie_0 : decode cX11_canLie 0 = .ok (.aload_n 1, 1) := by decide +kernel
theorem dX11_canLie_1 : decode cX11_canLie 1 = .ok (.iload_n 2, 1) := by decide +kernel
theorem dX11_canLie_2 : decode cX11_canLie 2 = .ok (.iload_n 3, 1) := by decide +kernel
theorem dX11_canLie_3 : decode cX11_canLie 3 = .ok (.iload 4, 2) := by decide +kernel
theorem dX11_canLie_5 : decode cX11_canLie 5 = .ok (.invokevirtual 354, 3) := by decide +kernel
theorem dX11_canLie_8 : decode cX11_canLie 8 = .ok (.ifCond .eq 29, 3) := by decide +kernel
theorem dX11_canLie_11 : decode cX11_canLie 11 = .ok (.aload_n 0, 1) := by decide +kernel
theorem dX11_canLie_12 : decode cX11_canLie 12 = .ok (.getfield 65, 3) := by decide +kernel
theorem dX11_canLie_15 : decode cX11_canLie 15 = .ok (.aload_n 0, 1) := by decide +kernel
theorem dX11_canLie_16 : decode cX11_canLie 16 = .ok (.getfield 12, 3) := by decide +kernel
theorem dX11_canLie_19 : decode cX11_canLie 19 = .ok (.invokevirtual 143, 3) := by decide +kernel
theorem dX11_canLie_22 : decode cX11_canLie 22 = .ok (.aload_n 1, 1) := by decide +kernel
theorem dX11_canLie_23 : decode cX11_canLie 23 = .ok (.iload_n 2, 1) := by decide +kernel
theorem dX11_canLie_24 : decode cX11_canLie 24 = .ok (.iload_n 3, 1) := by decide +kernel
theorem dX11_canLie_25 : decode cX11_canLie 25 = .ok (.iload 4, 2) := by decide +kernel
theorem dX11_canLie_27 : decode cX11_canLie 27 = .ok (.invokevirtual 172, 3) := by decide +kernel
theorem dX11_canLie_30 : decode cX11_canLie 30 = .ok (.ifCond .ne 7, 3) := by decide +kernel
theorem dX11_canLie_33 : decode cX11_canLie 33 = .ok (.iconst 1, 1) := by decide +kernel
theorem dX11_canLie_34 : decode cX11_canLie 34 = .ok (.goto 4, 3) := by decide +kernel
theorem dX11_canLie_37 : decode cX11_canLie 37 = .ok (.iconst 0, 1) := by decide +kernel
theorem dX11_canLie_38 : decode cX11_canLie 38 = .ok (.ireturn, 1) := by decide +kernel
theorem dX11_doLay_0 : decode cX11_doLay 0 = .ok (.aload_n 0, 1) := by decide +kernel
theorem dX11_doLay_1 : decode cX11_doLay 1 = .ok (.getfield 12, 3) := by decide +kernel
theorem dX11_doLay_4 : decode cX11_doLay 4 = .ok (.getfield 107, 3) := by decide +kernel
theorem dX11_doLay_7 : decode cX11_doLay 7 = .ok (.astore 4, 2) := by decide +kernel
theorem dX11_doLay_9 : decode cX11_doLay 9 = .ok (.iload_n 2, 1) := by decide +kernel
theorem dX11_doLay_10 : decode cX11_doLay 10 = .ok (.invokestatic 165, 3) := by decide +kernel
theorem dX11_doLay_13 : decode cX11_doLay 13 = .ok (.ifCond .eq 10, 3) := by decide +kernel
theorem dX11_doLay_16 : decode cX11_doLay 16 = .ok (.iload_n 3, 1) := by decide +kernel
theorem dX11_doLay_17 : decode cX11_doLay 17 = .ok (.invokestatic 165, 3) := by decide +kernel
theorem dX11_doLay_20 : decode cX11_doLay 20 = .ok (.ifCond .ne 5, 3) := by decide +kernel
theorem dX11_doLay_23 : decode cX11_doLay 23 = .ok (.iconst (-1), 1) := by decide +kernel
theorem dX11_doLay_24 : decode cX11_doLay 24 = .ok (.ireturn, 1) := by decide +kernel
theorem dX11_doLay_25 : decode cX11_doLay 25 = .ok (.aload 4, 2) := by decide +kernel
theorem dX11_doLay_27 : decode cX11_doLay 27 = .ok (.iload_n 1, 1) := by decide +kernel
theorem dX11_doLay_28 : decode cX11_doLay 28 = .ok (.invokevirtual 121, 3) := by decide +kernel
theorem dX11_doLay_31 : decode cX11_doLay 31 = .ok (.ifCond .ne 6, 3) := by decide +kernel
theorem dX11_doLay_34 : decode cX11_doLay 34 = .ok (.bipush (-2), 2) := by decide +kernel
theorem dX11_doLay_36 : decode cX11_doLay 36 = .ok (.ireturn, 1) := by decide +kernel
theorem dX11_doLay_37 : decode cX11_doLay 37 = .ok (.aload_n 0, 1) := by decide +kernel
theorem dX11_doLay_38 : decode cX11_doLay 38 = .ok (.aload 4, 2) := by decide +kernel
theorem dX11_doLay_40 : decode cX11_doLay 40 = .ok (.iload_n 1, 1) := by decide +kernel
theorem dX11_doLay_41 : decode cX11_doLay 41 = .ok (.iload_n 2, 1) := by decide +kernel
theorem dX11_doLay_42 : decode cX11_doLay 42 = .ok (.iload_n 3, 1) := by decide +kernel
theorem dX11_doLay_43 : decode cX11_doLay 43 = .ok (.invokevirtual 176, 3) := by decide +kernel
theorem dX11_doLay_46 : decode cX11_doLay 46 = .ok (.ifCond .ne 6, 3) := by decide +kernel
theorem dX11_doLay_49 : decode cX11_doLay 49 = .ok (.bipush (-3), 2) := by decide +kernel
theorem dX11_doLay_51 : decode cX11_doLay 51 = .ok (.ireturn, 1) := by decide +kernel
theorem dX11_doLay_52 : decode cX11_doLay 52 = .ok (.aload_n 0, 1) := by decide +kernel
theorem dX11_doLay_53 : decode cX11_doLay 53 = .ok (.getfield 65, 3) := by decide +kernel
theorem dX11_doLay_56 : decode cX11_doLay 56 = .ok (.aload_n 0, 1) := by decide +kernel
theorem dX11_doLay_57 : decode cX11_doLay 57 = .ok (.getfield 12, 3) := by decide +kernel
theorem dX11_doLay_60 : decode cX11_doLay 60 = .ok (.invokevirtual 143, 3) := by decide +kernel
theorem dX11_doLay_63 : decode cX11_doLay 63 = .ok (.aload 4, 2) := by decide +kernel
theorem dX11_doLay_65 : decode cX11_doLay 65 = .ok (.iload_n 1, 1) := by decide +kernel
theorem dX11_doLay_66 : decode cX11_doLay 66 = .ok (.iload_n 2, 1) := by decide +kernel
theorem dX11_doLay_67 : decode cX11_doLay 67 = .ok (.iload_n 3, 1) := by decide +kernel
theorem dX11_doLay_68 : decode cX11_doLay 68 = .ok (.invokevirtual 168, 3) := by decide +kernel
theorem dX11_doLay_71 : decode cX11_doLay 71 = .ok (.istore 5, 2) := by decide +kernel
theorem dX11_doLay_73 : decode cX11_doLay 73 = .ok (.aload_n 0, 1) := by decide +kernel
theorem dX11_doLay_74 : decode cX11_doLay 74 = .ok (.getfield 72, 3) := by decide +kernel
theorem dX11_doLay_77 : decode cX11_doLay 77 = .ok (.iconst 0, 1) := by decide +kernel
theorem dX11_doLay_78 : decode cX11_doLay 78 = .ok (.aload 4, 2) := by decide +kernel
theorem dX11_doLay_80 : decode cX11_doLay 80 = .ok (.invokevirtual 358, 3) := by decide +kernel
theorem dX11_doLay_83 : decode cX11_doLay 83 = .ok (.aload 4, 2) := by decide +kernel
theorem dX11_doLay_85 : decode cX11_doLay 85 = .ok (.getfield 134, 3) := by decide +kernel
theorem dX11_doLay_88 : decode cX11_doLay 88 = .ok (.iload_n 1, 1) := by decide +kernel
theorem dX11_doLay_89 : decode cX11_doLay 89 = .ok (.iload_n 2, 1) := by decide +kernel
theorem dX11_doLay_90 : decode cX11_doLay 90 = .ok (.iastore, 1) := by decide +kernel
theorem dX11_doLay_91 : decode cX11_doLay 91 = .ok (.aload 4, 2) := by decide +kernel
theorem dX11_doLay_93 : decode cX11_doLay 93 = .ok (.getfield 137, 3) := by decide +kernel
theorem dX11_doLay_96 : decode cX11_doLay 96 = .ok (.iload_n 1, 1) := by decide +kernel
theorem dX11_doLay_97 : decode cX11_doLay 97 = .ok (.iload_n 3, 1) := by decide +kernel
theorem dX11_doLay_98 : decode cX11_doLay 98 = .ok (.iastore, 1) := by decide +kernel
theorem dX11_doLay_99 : decode cX11_doLay 99 = .ok (.aload 4, 2) := by decide +kernel
theorem dX11_doLay_101 : decode cX11_doLay 101 = .ok (.sipush 9999, 3) := by decide +kernel
theorem dX11_doLay_104 : decode cX11_doLay 104 = .ok (.aload 4, 2) := by decide +kernel
theorem dX11_doLay_106 : decode cX11_doLay 106 = .ok (.getfield 348, 3) := by decide +kernel
theorem dX11_doLay_109 : decode cX11_doLay 109 = .ok (.iload 5, 2) := by decide +kernel
theorem dX11_doLay_111 : decode cX11_doLay 111 = .ok (.iadd, 1) := by decide +kernel
theorem dX11_doLay_112 : decode cX11_doLay 112 = .ok (.invokestatic 362, 3) := by decide +kernel
theorem dX11_doLay_115 : decode cX11_doLay 115 = .ok (.putfield 348, 3) := by decide +kernel
theorem dX11_doLay_118 : decode cX11_doLay 118 = .ok (.iload 5, 2) := by decide +kernel
theorem dX11_doLay_120 : decode cX11_doLay 120 = .ok (.ireturn, 1) := by decide +kernel
theorem dX11_doRoll_0 : decode cX11_doRoll 0 = .ok (.aload_n 0, 1) := by decide +kernel
theorem dX11_doRoll_1 : decode cX11_doRoll 1 = .ok (.getfield 12, 3) := by decide +kernel
theorem dX11_doRoll_4 : decode cX11_doRoll 4 = .ok (.getfield 107, 3) := by decide +kernel
theorem dX11_doRoll_7 : decode cX11_doRoll 7 = .ok (.astore_n 2, 1) := by decide +kernel
theorem dX11_doRoll_8 : decode cX11_doRoll 8 = .ok (.aload_n 2, 1) := by decide +kernel
theorem dX11_doRoll_9 : decode cX11_doRoll 9 = .ok (.iload_n 1, 1) := by decide +kernel
theorem dX11_doRoll_10 : decode cX11_doRoll 10 = .ok (.invokevirtual 121, 3) := by decide +kernel
theorem dX11_doRoll_13 : decode cX11_doRoll 13 = .ok (.ifCond .ne 6, 3) := by decide +kernel
theorem dX11_doRoll_16 : decode cX11_doRoll 16 = .ok (.bipush (-2), 2) := by decide +kernel
theorem dX11_doRoll_18 : decode cX11_doRoll 18 = .ok (.ireturn, 1) := by decide +kernel
theorem dX11_doRoll_19 : decode cX11_doRoll 19 = .ok (.aload_n 2, 1) := by decide +kernel
theorem dX11_doRoll_20 : decode cX11_doRoll 20 = .ok (.iload_n 1, 1) := by decide +kernel
theorem dX11_doRoll_21 : decode cX11_doRoll 21 = .ok (.invokevirtual 140, 3) := by decide +kernel
theorem dX11_doRoll_24 : decode cX11_doRoll 24 = .ok (.ifCond .ne 6, 3) := by decide +kernel
theorem dX11_doRoll_27 : decode cX11_doRoll 27 = .ok (.bipush (-3), 2) := by decide +kernel
theorem dX11_doRoll_29 : decode cX11_doRoll 29 = .ok (.ireturn, 1) := by decide +kernel
theorem dX11_doRoll_30 : decode cX11_doRoll 30 = .ok (.aload_n 0, 1) := by decide +kernel
theorem dX11_doRoll_31 : decode cX11_doRoll 31 = .ok (.getfield 72, 3) := by decide +kernel
theorem dX11_doRoll_34 : decode cX11_doRoll 34 = .ok (.iconst 1, 1) := by decide +kernel
theorem dX11_doRoll_35 : decode cX11_doRoll 35 = .ok (.aload_n 2, 1) := by decide +kernel
theorem dX11_doRoll_36 : decode cX11_doRoll 36 = .ok (.invokevirtual 358, 3) := by decide +kernel
theorem dX11_doRoll_39 : decode cX11_doRoll 39 = .ok (.aload_n 2, 1) := by decide +kernel
theorem dX11_doRoll_40 : decode cX11_doRoll 40 = .ok (.iload_n 1, 1) := by decide +kernel
theorem dX11_doRoll_41 : decode cX11_doRoll 41 = .ok (.invokevirtual 301, 3) := by decide +kernel
theorem dX11_doRoll_44 : decode cX11_doRoll 44 = .ok (.aload_n 2, 1) := by decide +kernel
theorem dX11_doRoll_45 : decode cX11_doRoll 45 = .ok (.invokevirtual 249, 3) := by decide +kernel
theorem dX11_doRoll_48 : decode cX11_doRoll 48 = .ok (.ireturn, 1) := by decide +kernel
theorem dX11_doMirror_0 : decode cX11_doMirror 0 = .ok (.aload_n 0, 1) := by decide +kernel
theorem dX11_doMirror_1 : decode cX11_doMirror 1 = .ok (.getfield 72, 3) := by decide +kernel
theorem dX11_doMirror_4 : decode cX11_doMirror 4 = .ok (.iconst 2, 1) := by decide +kernel
theorem dX11_doMirror_5 : decode cX11_doMirror 5 = .ok (.aload_n 0, 1) := by decide +kernel
theorem dX11_doMirror_6 : decode cX11_doMirror 6 = .ok (.getfield 12, 3) := by decide +kernel
theorem dX11_doMirror_9 : decode cX11_doMirror 9 = .ok (.getfield 107, 3) := by decide +kernel
theorem dX11_doMirror_12 : decode cX11_doMirror 12 = .ok (.invokevirtual 358, 3) := by decide +kernel
theorem dX11_doMirror_15 : decode cX11_doMirror 15 = .ok (.aload_n 0, 1) := by decide +kernel
theorem dX11_doMirror_16 : decode cX11_doMirror 16 = .ok (.getfield 12, 3) := by decide +kernel
theorem dX11_doMirror_19 : decode cX11_doMirror 19 = .ok (.getfield 107, 3) := by decide +kernel
theorem dX11_doMirror_22 : decode cX11_doMirror 22 = .ok (.invokevirtual 367, 3) := by decide +kernel
theorem dX11_doMirror_25 : decode cX11_doMirror 25 = .ok (.ireturn, 1) := by decide +kernel
theorem dX11_doPass_0 : decode cX11_doPass 0 = .ok (.aload_n 0, 1) := by decide +kernel
theorem dX11_doPass_1 : decode cX11_doPass 1 = .ok (.getfield 12, 3) := by decide +kernel
theorem dX11_doPass_4 : decode cX11_doPass 4 = .ok (.getfield 107, 3) := by decide +kernel
theorem dX11_doPass_7 : decode cX11_doPass 7 = .ok (.getfield 183, 3) := by decide +kernel
theorem dX11_doPass_10 : decode cX11_doPass 10 = .ok (.iconst 0, 1) := by decide +kernel
theorem dX11_doPass_11 : decode cX11_doPass 11 = .ok (.iaload, 1) := by decide +kernel
theorem dX11_doPass_12 : decode cX11_doPass 12 = .ok (.sipush 999, 3) := by decide +kernel
theorem dX11_doPass_15 : decode cX11_doPass 15 = .ok (.if_icmp .lt 6, 3) := by decide +kernel
theorem dX11_doPass_18 : decode cX11_doPass 18 = .ok (.bipush (-3), 2) := by decide +kernel
theorem dX11_doPass_20 : decode cX11_doPass 20 = .ok (.ireturn, 1) := by decide +kernel
theorem dX11_doPass_21 : decode cX11_doPass 21 = .ok (.aload_n 0, 1) := by decide +kernel
theorem dX11_doPass_22 : decode cX11_doPass 22 = .ok (.getfield 72, 3) := by decide +kernel
theorem dX11_doPass_25 : decode cX11_doPass 25 = .ok (.iconst 3, 1) := by decide +kernel
theorem dX11_doPass_26 : decode cX11_doPass 26 = .ok (.aload_n 0, 1) := by decide +kernel
theorem dX11_doPass_27 : decode cX11_doPass 27 = .ok (.getfield 12, 3) := by decide +kernel
theorem dX11_doPass_30 : decode cX11_doPass 30 = .ok (.getfield 107, 3) := by decide +kernel
theorem dX11_doPass_33 : decode cX11_doPass 33 = .ok (.invokevirtual 358, 3) := by decide +kernel
theorem dX11_doPass_36 : decode cX11_doPass 36 = .ok (.aload_n 0, 1) := by decide +kernel
theorem dX11_doPass_37 : decode cX11_doPass 37 = .ok (.getfield 12, 3) := by decide +kernel
theorem dX11_doPass_40 : decode cX11_doPass 40 = .ok (.getfield 107, 3) := by decide +kernel
theorem dX11_doPass_43 : decode cX11_doPass 43 = .ok (.aload_n 0, 1) := by decide +kernel
theorem dX11_doPass_44 : decode cX11_doPass 44 = .ok (.getfield 65, 3) := by decide +kernel
theorem dX11_doPass_47 : decode cX11_doPass 47 = .ok (.aload_n 0, 1) := by decide +kernel
theorem dX11_doPass_48 : decode cX11_doPass 48 = .ok (.getfield 12, 3) := by decide +kernel
theorem dX11_doPass_51 : decode cX11_doPass 51 = .ok (.invokevirtual 143, 3) := by decide +kernel
theorem dX11_doPass_54 : decode cX11_doPass 54 = .ok (.invokevirtual 370, 3) := by decide +kernel
theorem dX11_doPass_57 : decode cX11_doPass 57 = .ok (.ireturn, 1) := by decide +kernel
theorem dX11_runOnce_0 : decode cX11_runOnce 0 = .ok (.aload_n 0, 1) := by decide +kernel
theorem dX11_runOnce_1 : decode cX11_runOnce 1 = .ok (.getfield 58, 3) := by decide +kernel
theorem dX11_runOnce_4 : decode cX11_runOnce 4 = .ok (.aload_n 0, 1) := by decide +kernel
theorem dX11_runOnce_5 : decode cX11_runOnce 5 = .ok (.getfield 12, 3) := by decide +kernel
theorem dX11_runOnce_8 : decode cX11_runOnce 8 = .ok (.getfield 107, 3) := by decide +kernel
theorem dX11_runOnce_11 : decode cX11_runOnce 11 = .ok (.invokevirtual 374, 3) := by decide +kernel
theorem dX11_runOnce_14 : decode cX11_runOnce 14 = .ok (.aload_n 0, 1) := by decide +kernel
theorem dX11_runOnce_15 : decode cX11_runOnce 15 = .ok (.getfield 58, 3) := by decide +kernel
theorem dX11_runOnce_18 : decode cX11_runOnce 18 = .ok (.aload_n 0, 1) := by decide +kernel
theorem dX11_runOnce_19 : decode cX11_runOnce 19 = .ok (.getfield 51, 3) := by decide +kernel
theorem dX11_runOnce_22 : decode cX11_runOnce 22 = .ok (.iload_n 1, 1) := by decide +kernel
theorem dX11_runOnce_23 : decode cX11_runOnce 23 = .ok (.invokevirtual 377, 3) := by decide +kernel
theorem dX11_runOnce_26 : decode cX11_runOnce 26 = .ok (.ifCond .ne 5, 3) := by decide +kernel
theorem dX11_runOnce_29 : decode cX11_runOnce 29 = .ok (.iconst 1, 1) := by decide +kernel
theorem dX11_runOnce_30 : decode cX11_runOnce 30 = .ok (.ireturn, 1) := by decide +kernel
theorem dX11_runOnce_31 : decode cX11_runOnce 31 = .ok (.aload_n 0, 1) := by decide +kernel
theorem dX11_runOnce_32 : decode cX11_runOnce 32 = .ok (.getfield 58, 3) := by decide +kernel
theorem dX11_runOnce_35 : decode cX11_runOnce 35 = .ok (.aload_n 0, 1) := by decide +kernel
theorem dX11_runOnce_36 : decode cX11_runOnce 36 = .ok (.getfield 51, 3) := by decide +kernel
theorem dX11_runOnce_39 : decode cX11_runOnce 39 = .ok (.iload_n 1, 1) := by decide +kernel
theorem dX11_runOnce_40 : decode cX11_runOnce 40 = .ok (.invokevirtual 381, 3) := by decide +kernel
theorem dX11_runOnce_43 : decode cX11_runOnce 43 = .ok (.ifCond .ne 5, 3) := by decide +kernel
theorem dX11_runOnce_46 : decode cX11_runOnce 46 = .ok (.iconst 0, 1) := by decide +kernel
theorem dX11_runOnce_47 : decode cX11_runOnce 47 = .ok (.ireturn, 1) := by decide +kernel
theorem dX11_runOnce_48 : decode cX11_runOnce 48 = .ok (.aload_n 0, 1) := by decide +kernel
theorem dX11_runOnce_49 : decode cX11_runOnce 49 = .ok (.getfield 51, 3) := by decide +kernel
theorem dX11_runOnce_52 : decode cX11_runOnce 52 = .ok (.iload_n 1, 1) := by decide +kernel
theorem dX11_runOnce_53 : decode cX11_runOnce 53 = .ok (.iconst 0, 1) := by decide +kernel
theorem dX11_runOnce_54 : decode cX11_runOnce 54 = .ok (.invokevirtual 217, 3) := by decide +kernel
theorem dX11_runOnce_57 : decode cX11_runOnce 57 = .ok (.tableswitch 97 0 2 #[27, 72, 89], 27) := by decide +kernel
theorem dX11_runOnce_84 : decode cX11_runOnce 84 = .ok (.aload_n 0, 1) := by decide +kernel
theorem dX11_runOnce_85 : decode cX11_runOnce 85 = .ok (.aload_n 0, 1) := by decide +kernel
theorem dX11_runOnce_86 : decode cX11_runOnce 86 = .ok (.getfield 58, 3) := by decide +kernel
theorem dX11_runOnce_89 : decode cX11_runOnce 89 = .ok (.getfield 384, 3) := by decide +kernel
theorem dX11_runOnce_92 : decode cX11_runOnce 92 = .ok (.iconst 0, 1) := by decide +kernel
theorem dX11_runOnce_93 : decode cX11_runOnce 93 = .ok (.iaload, 1) := by decide +kernel
theorem dX11_runOnce_94 : decode cX11_runOnce 94 = .ok (.aload_n 0, 1) := by decide +kernel
theorem dX11_runOnce_95 : decode cX11_runOnce 95 = .ok (.getfield 58, 3) := by decide +kernel
theorem dX11_runOnce_98 : decode cX11_runOnce 98 = .ok (.getfield 384, 3) := by decide +kernel
theorem dX11_runOnce_101 : decode cX11_runOnce 101 = .ok (.iconst 1, 1) := by decide +kernel
theorem dX11_runOnce_102 : decode cX11_runOnce 102 = .ok (.iaload, 1) := by decide +kernel
theorem dX11_runOnce_103 : decode cX11_runOnce 103 = .ok (.aload_n 0, 1) := by decide +kernel
theorem dX11_runOnce_104 : decode cX11_runOnce 104 = .ok (.getfield 58, 3) := by decide +kernel
theorem dX11_runOnce_107 : decode cX11_runOnce 107 = .ok (.getfield 384, 3) := by decide +kernel
theorem dX11_runOnce_110 : decode cX11_runOnce 110 = .ok (.iconst 2, 1) := by decide +kernel
theorem dX11_runOnce_111 : decode cX11_runOnce 111 = .ok (.iaload, 1) := by decide +kernel
theorem dX11_runOnce_112 : decode cX11_runOnce 112 = .ok (.invokevirtual 233, 3) := by decide +kernel
theorem dX11_runOnce_115 : decode cX11_runOnce 115 = .ok (.istore_n 2, 1) := by decide +kernel
theorem dX11_runOnce_116 : decode cX11_runOnce 116 = .ok (.aload_n 0, 1) := by decide +kernel
theorem dX11_runOnce_117 : decode cX11_runOnce 117 = .ok (.getfield 58, 3) := by decide +kernel
theorem dX11_runOnce_120 : decode cX11_runOnce 120 = .ok (.getfield 211, 3) := by decide +kernel
theorem dX11_runOnce_123 : decode cX11_runOnce 123 = .ok (.iconst 2, 1) := by decide +kernel
theorem dX11_runOnce_124 : decode cX11_runOnce 124 = .ok (.iload_n 2, 1) := by decide +kernel
theorem dX11_runOnce_125 : decode cX11_runOnce 125 = .ok (.iastore, 1) := by decide +kernel
theorem dX11_runOnce_126 : decode cX11_runOnce 126 = .ok (.goto 33, 3) := by decide +kernel
theorem dX11_runOnce_129 : decode cX11_runOnce 129 = .ok (.aload_n 0, 1) := by decide +kernel
theorem dX11_runOnce_130 : decode cX11_runOnce 130 = .ok (.aload_n 0, 1) := by decide +kernel
theorem dX11_runOnce_131 : decode cX11_runOnce 131 = .ok (.getfield 58, 3) := by decide +kernel
theorem dX11_runOnce_134 : decode cX11_runOnce 134 = .ok (.getfield 384, 3) := by decide +kernel
theorem dX11_runOnce_137 : decode cX11_runOnce 137 = .ok (.iconst 0, 1) := by decide +kernel
theorem dX11_runOnce_138 : decode cX11_runOnce 138 = .ok (.iaload, 1) := by decide +kernel
theorem dX11_runOnce_139 : decode cX11_runOnce 139 = .ok (.invokevirtual 236, 3) := by decide +kernel
theorem dX11_runOnce_142 : decode cX11_runOnce 142 = .ok (.istore_n 2, 1) := by decide +kernel
theorem dX11_runOnce_143 : decode cX11_runOnce 143 = .ok (.goto 16, 3) := by decide +kernel
theorem dX11_runOnce_146 : decode cX11_runOnce 146 = .ok (.aload_n 0, 1) := by decide +kernel
theorem dX11_runOnce_147 : decode cX11_runOnce 147 = .ok (.invokevirtual 239, 3) := by decide +kernel
theorem dX11_runOnce_150 : decode cX11_runOnce 150 = .ok (.istore_n 2, 1) := by decide +kernel
theorem dX11_runOnce_151 : decode cX11_runOnce 151 = .ok (.goto 8, 3) := by decide +kernel
theorem dX11_runOnce_154 : decode cX11_runOnce 154 = .ok (.aload_n 0, 1) := by decide +kernel
theorem dX11_runOnce_155 : decode cX11_runOnce 155 = .ok (.invokevirtual 242, 3) := by decide +kernel
theorem dX11_runOnce_158 : decode cX11_runOnce 158 = .ok (.istore_n 2, 1) := by decide +kernel
theorem dX11_runOnce_159 : decode cX11_runOnce 159 = .ok (.aload_n 0, 1) := by decide +kernel
theorem dX11_runOnce_160 : decode cX11_runOnce 160 = .ok (.getfield 58, 3) := by decide +kernel
theorem dX11_runOnce_163 : decode cX11_runOnce 163 = .ok (.getfield 211, 3) := by decide +kernel
theorem dX11_runOnce_166 : decode cX11_runOnce 166 = .ok (.iconst 1, 1) := by decide +kernel
theorem dX11_runOnce_167 : decode cX11_runOnce 167 = .ok (.dup2, 1) := by decide +kernel
theorem dX11_runOnce_168 : decode cX11_runOnce 168 = .ok (.iaload, 1) := by decide +kernel
theorem dX11_runOnce_169 : decode cX11_runOnce 169 = .ok (.iconst 1, 1) := by decide +kernel
theorem dX11_runOnce_170 : decode cX11_runOnce 170 = .ok (.iadd, 1) := by decide +kernel
theorem dX11_runOnce_171 : decode cX11_runOnce 171 = .ok (.iastore, 1) := by decide +kernel
theorem dX11_runOnce_172 : decode cX11_runOnce 172 = .ok (.iload_n 2, 1) := by decide +kernel
theorem dX11_runOnce_173 : decode cX11_runOnce 173 = .ok (.ifCond .lt 7, 3) := by decide +kernel
theorem dX11_runOnce_176 : decode cX11_runOnce 176 = .ok (.iconst 1, 1) := by decide +kernel
theorem dX11_runOnce_177 : decode cX11_runOnce 177 = .ok (.goto 4, 3) := by decide +kernel
theorem dX11_runOnce_180 : decode cX11_runOnce 180 = .ok (.iconst 0, 1) := by decide +kernel
theorem dX11_runOnce_181 : decode cX11_runOnce 181 = .ok (.ireturn, 1) := by decide +kernel
theorem dX11_nextDraw_0 : decode cX11_nextDraw 0 = .ok (.iload_n 0, 1) := by decide +kernel
theorem dX11_nextDraw_1 : decode cX11_nextDraw 1 = .ok (.sipush 1103, 3) := by decide +kernel
theorem dX11_nextDraw_4 : decode cX11_nextDraw 4 = .ok (.imul, 1) := by decide +kernel
theorem dX11_nextDraw_5 : decode cX11_nextDraw 5 = .ok (.sipush 12345, 3) := by decide +kernel
theorem dX11_nextDraw_8 : decode cX11_nextDraw 8 = .ok (.iadd, 1) := by decide +kernel
theorem dX11_nextDraw_9 : decode cX11_nextDraw 9 = .ok (.ldc_w 387, 3) := by decide +kernel
theorem dX11_nextDraw_12 : decode cX11_nextDraw 12 = .ok (.irem, 1) := by decide +kernel
theorem dX11_nextDraw_13 : decode cX11_nextDraw 13 = .ok (.ireturn, 1) := by decide +kernel
end
