theorem dX12_reads_0 : decode cX12_reads 0 = .ok (.aload_n 0, 1) := by decide +kernel
theorem dX12_reads_1 : decode cX12_reads 1 = .ok (.aload_n 0, 1) := by decide +kernel
theorem dX12_reads_2 : decode cX12_reads 2 = .ok (.getfield 169, 3) := by decide +kernel
theorem dX12_reads_5 : decode cX12_reads 5 = .ok (.invokevirtual 259, 3) := by decide +kernel
theorem dX12_reads_8 : decode cX12_reads 8 = .ok (.aload_n 0, 1) := by decide +kernel
theorem dX12_reads_9 : decode cX12_reads 9 = .ok (.iconst 0, 1) := by decide +kernel
theorem dX12_reads_10 : decode cX12_reads 10 = .ok (.putfield 169, 3) := by decide +kernel
theorem dX12_reads_13 : decode cX12_reads 13 = .ok (.aload_n 0, 1) := by decide +kernel
theorem dX12_reads_14 : decode cX12_reads 14 = .ok (.iconst 0, 1) := by decide +kernel
theorem dX12_reads_15 : decode cX12_reads 15 = .ok (.putfield 196, 3) := by decide +kernel
theorem dX12_reads_18 : decode cX12_reads 18 = .ok (.aload_n 0, 1) := by decide +kernel
theorem dX12_reads_19 : decode cX12_reads 19 = .ok (.iconst 0, 1) := by decide +kernel
theorem dX12_reads_20 : decode cX12_reads 20 = .ok (.putfield 205, 3) := by decide +kernel
theorem dX12_reads_23 : decode cX12_reads 23 = .ok (.aload_n 0, 1) := by decide +kernel
theorem dX12_reads_24 : decode cX12_reads 24 = .ok (.iconst (-1), 1) := by decide +kernel
theorem dX12_reads_25 : decode cX12_reads 25 = .ok (.putfield 189, 3) := by decide +kernel
theorem dX12_reads_28 : decode cX12_reads 28 = .ok (.aload_n 0, 1) := by decide +kernel
theorem dX12_reads_29 : decode cX12_reads 29 = .ok (.invokevirtual 262, 3) := by decide +kernel
theorem dX12_reads_32 : decode cX12_reads 32 = .ok (.iconst 1, 1) := by decide +kernel
theorem dX12_reads_33 : decode cX12_reads 33 = .ok (.istore_n 1, 1) := by decide +kernel
theorem dX12_reads_34 : decode cX12_reads 34 = .ok (.aload_n 0, 1) := by decide +kernel
theorem dX12_reads_35 : decode cX12_reads 35 = .ok (.bipush 59, 2) := by decide +kernel
theorem dX12_reads_37 : decode cX12_reads 37 = .ok (.invokestatic 240, 3) := by decide +kernel
theorem dX12_reads_40 : decode cX12_reads 40 = .ok (.invokevirtual 199, 3) := by decide +kernel
theorem dX12_reads_43 : decode cX12_reads 43 = .ok (.ifCond .eq 30, 3) := by decide +kernel
theorem dX12_reads_46 : decode cX12_reads 46 = .ok (.iload_n 1, 1) := by decide +kernel
theorem dX12_reads_47 : decode cX12_reads 47 = .ok (.bipush 12, 2) := by decide +kernel
theorem dX12_reads_49 : decode cX12_reads 49 = .ok (.if_icmp .ne 7, 3) := by decide +kernel
theorem dX12_reads_52 : decode cX12_reads 52 = .ok (.aload_n 0, 1) := by decide +kernel
theorem dX12_reads_53 : decode cX12_reads 53 = .ok (.invokevirtual 202, 3) := by decide +kernel
theorem dX12_reads_56 : decode cX12_reads 56 = .ok (.aload_n 0, 1) := by decide +kernel
theorem dX12_reads_57 : decode cX12_reads 57 = .ok (.invokevirtual 192, 3) := by decide +kernel
theorem dX12_reads_60 : decode cX12_reads 60 = .ok (.ifCond .eq 7, 3) := by decide +kernel
theorem dX12_reads_63 : decode cX12_reads 63 = .ok (.aload_n 0, 1) := by decide +kernel
theorem dX12_reads_64 : decode cX12_reads 64 = .ok (.invokevirtual 262, 3) := by decide +kernel
theorem dX12_reads_67 : decode cX12_reads 67 = .ok (.iinc 1 1, 3) := by decide +kernel
theorem dX12_reads_70 : decode cX12_reads 70 = .ok (.goto (-36), 3) := by decide +kernel
theorem dX12_reads_73 : decode cX12_reads 73 = .ok (.aload_n 0, 1) := by decide +kernel
theorem dX12_reads_74 : decode cX12_reads 74 = .ok (.invokevirtual 192, 3) := by decide +kernel
theorem dX12_reads_77 : decode cX12_reads 77 = .ok (.ifCond .eq 18, 3) := by decide +kernel
theorem dX12_reads_80 : decode cX12_reads 80 = .ok (.aload_n 0, 1) := by decide +kernel
theorem dX12_reads_81 : decode cX12_reads 81 = .ok (.getfield 196, 3) := by decide +kernel
theorem dX12_reads_84 : decode cX12_reads 84 = .ok (.aload_n 0, 1) := by decide +kernel
theorem dX12_reads_85 : decode cX12_reads 85 = .ok (.getfield 175, 3) := by decide +kernel
theorem dX12_reads_88 : decode cX12_reads 88 = .ok (.if_icmp .ge 7, 3) := by decide +kernel
theorem dX12_reads_91 : decode cX12_reads 91 = .ok (.aload_n 0, 1) := by decide +kernel
theorem dX12_reads_92 : decode cX12_reads 92 = .ok (.invokevirtual 202, 3) := by decide +kernel
theorem dX12_reads_95 : decode cX12_reads 95 = .ok (.aload_n 0, 1) := by decide +kernel
theorem dX12_reads_96 : decode cX12_reads 96 = .ok (.aload_n 0, 1) := by decide +kernel
theorem dX12_reads_97 : decode cX12_reads 97 = .ok (.getfield 189, 3) := by decide +kernel
theorem dX12_reads_100 : decode cX12_reads 100 = .ok (.putfield 51, 3) := by decide +kernel
theorem dX12_reads_103 : decode cX12_reads 103 = .ok (.aload_n 0, 1) := by decide +kernel
theorem dX12_reads_104 : decode cX12_reads 104 = .ok (.invokevirtual 192, 3) := by decide +kernel
theorem dX12_reads_107 : decode cX12_reads 107 = .ok (.ireturn, 1) := by decide +kernel
theorem dX12_readsAs_0 : decode cX12_readsAs 0 = .ok (.aload_n 0, 1) := by decide +kernel
theorem dX12_readsAs_1 : decode cX12_readsAs 1 = .ok (.iload_n 1, 1) := by decide +kernel
theorem dX12_readsAs_2 : decode cX12_readsAs 2 = .ok (.putfield 224, 3) := by decide +kernel
theorem dX12_readsAs_5 : decode cX12_readsAs 5 = .ok (.aload_n 0, 1) := by decide +kernel
theorem dX12_readsAs_6 : decode cX12_readsAs 6 = .ok (.iload_n 1, 1) := by decide +kernel
theorem dX12_readsAs_7 : decode cX12_readsAs 7 = .ok (.ifCond .eq 8, 3) := by decide +kernel
theorem dX12_readsAs_10 : decode cX12_readsAs 10 = .ok (.bipush 14, 2) := by decide +kernel
theorem dX12_readsAs_12 : decode cX12_readsAs 12 = .ok (.goto 5, 3) := by decide +kernel
theorem dX12_readsAs_15 : decode cX12_readsAs 15 = .ok (.bipush 8, 2) := by decide +kernel
theorem dX12_readsAs_17 : decode cX12_readsAs 17 = .ok (.putfield 250, 3) := by decide +kernel
theorem dX12_readsAs_20 : decode cX12_readsAs 20 = .ok (.aload_n 0, 1) := by decide +kernel
theorem dX12_readsAs_21 : decode cX12_readsAs 21 = .ok (.iload_n 1, 1) := by decide +kernel
theorem dX12_readsAs_22 : decode cX12_readsAs 22 = .ok (.ifCond .eq 8, 3) := by decide +kernel
theorem dX12_readsAs_25 : decode cX12_readsAs 25 = .ok (.bipush 20, 2) := by decide +kernel
theorem dX12_readsAs_27 : decode cX12_readsAs 27 = .ok (.goto 5, 3) := by decide +kernel
theorem dX12_readsAs_30 : decode cX12_readsAs 30 = .ok (.bipush 15, 2) := by decide +kernel
theorem dX12_readsAs_32 : decode cX12_readsAs 32 = .ok (.putfield 253, 3) := by decide +kernel
theorem dX12_readsAs_35 : decode cX12_readsAs 35 = .ok (.aload_n 0, 1) := by decide +kernel
theorem dX12_readsAs_36 : decode cX12_readsAs 36 = .ok (.invokevirtual 265, 3) := by decide +kernel
theorem dX12_readsAs_39 : decode cX12_readsAs 39 = .ok (.ireturn, 1) := by decide +kernel
theorem dX12_lays_0 : decode cX12_lays 0 = .ok (.aload_n 0, 1) := by decide +kernel
theorem dX12_lays_1 : decode cX12_lays 1 = .ok (.getfield 28, 3) := by decide +kernel
theorem dX12_lays_4 : decode cX12_lays 4 = .ok (.bipush 73, 2) := by decide +kernel
theorem dX12_lays_6 : decode cX12_lays 6 = .ok (.iload_n 1, 1) := by decide +kernel
theorem dX12_lays_7 : decode cX12_lays 7 = .ok (.iadd, 1) := by decide +kernel
theorem dX12_lays_8 : decode cX12_lays 8 = .ok (.aload_n 0, 1) := by decide +kernel
theorem dX12_lays_9 : decode cX12_lays 9 = .ok (.getfield 175, 3) := by decide +kernel
theorem dX12_lays_12 : decode cX12_lays 12 = .ok (.iastore, 1) := by decide +kernel
theorem dX12_lays_13 : decode cX12_lays 13 = .ok (.iconst 0, 1) := by decide +kernel
theorem dX12_lays_14 : decode cX12_lays 14 = .ok (.istore_n 2, 1) := by decide +kernel
theorem dX12_lays_15 : decode cX12_lays 15 = .ok (.iload_n 2, 1) := by decide +kernel
theorem dX12_lays_16 : decode cX12_lays 16 = .ok (.aload_n 0, 1) := by decide +kernel
theorem dX12_lays_17 : decode cX12_lays 17 = .ok (.getfield 175, 3) := by decide +kernel
theorem dX12_lays_20 : decode cX12_lays 20 = .ok (.if_icmp .ge 52, 3) := by decide +kernel
theorem dX12_lays_23 : decode cX12_lays 23 = .ok (.aload_n 0, 1) := by decide +kernel
theorem dX12_lays_24 : decode cX12_lays 24 = .ok (.getfield 28, 3) := by decide +kernel
theorem dX12_lays_27 : decode cX12_lays 27 = .ok (.bipush 80, 2) := by decide +kernel
theorem dX12_lays_29 : decode cX12_lays 29 = .ok (.sipush 400, 3) := by decide +kernel
theorem dX12_lays_32 : decode cX12_lays 32 = .ok (.iload_n 1, 1) := by decide +kernel
theorem dX12_lays_33 : decode cX12_lays 33 = .ok (.imul, 1) := by decide +kernel
theorem dX12_lays_34 : decode cX12_lays 34 = .ok (.iadd, 1) := by decide +kernel
theorem dX12_lays_35 : decode cX12_lays 35 = .ok (.iload_n 2, 1) := by decide +kernel
theorem dX12_lays_36 : decode cX12_lays 36 = .ok (.iadd, 1) := by decide +kernel
theorem dX12_lays_37 : decode cX12_lays 37 = .ok (.aload_n 0, 1) := by decide +kernel
theorem dX12_lays_38 : decode cX12_lays 38 = .ok (.getfield 54, 3) := by decide +kernel
theorem dX12_lays_41 : decode cX12_lays 41 = .ok (.iload_n 2, 1) := by decide +kernel
theorem dX12_lays_42 : decode cX12_lays 42 = .ok (.iaload, 1) := by decide +kernel
theorem dX12_lays_43 : decode cX12_lays 43 = .ok (.iastore, 1) := by decide +kernel
theorem dX12_lays_44 : decode cX12_lays 44 = .ok (.aload_n 0, 1) := by decide +kernel
theorem dX12_lays_45 : decode cX12_lays 45 = .ok (.getfield 28, 3) := by decide +kernel
theorem dX12_lays_48 : decode cX12_lays 48 = .ok (.sipush 2880, 3) := by decide +kernel
theorem dX12_lays_51 : decode cX12_lays 51 = .ok (.sipush 400, 3) := by decide +kernel
theorem dX12_lays_54 : decode cX12_lays 54 = .ok (.iload_n 1, 1) := by decide +kernel
theorem dX12_lays_55 : decode cX12_lays 55 = .ok (.imul, 1) := by decide +kernel
theorem dX12_lays_56 : decode cX12_lays 56 = .ok (.iadd, 1) := by decide +kernel
theorem dX12_lays_57 : decode cX12_lays 57 = .ok (.iload_n 2, 1) := by decide +kernel
theorem dX12_lays_58 : decode cX12_lays 58 = .ok (.iadd, 1) := by decide +kernel
theorem dX12_lays_59 : decode cX12_lays 59 = .ok (.aload_n 0, 1) := by decide +kernel
theorem dX12_lays_60 : decode cX12_lays 60 = .ok (.getfield 57, 3) := by decide +kernel
theorem dX12_lays_63 : decode cX12_lays 63 = .ok (.iload_n 2, 1) := by decide +kernel
theorem dX12_lays_64 : decode cX12_lays 64 = .ok (.iaload, 1) := by decide +kernel
theorem dX12_lays_65 : decode cX12_lays 65 = .ok (.iastore, 1) := by decide +kernel
theorem dX12_lays_66 : decode cX12_lays 66 = .ok (.iinc 2 1, 3) := by decide +kernel
theorem dX12_lays_69 : decode cX12_lays 69 = .ok (.goto (-54), 3) := by decide +kernel
theorem dX12_lays_72 : decode cX12_lays 72 = .ok (.return_, 1) := by decide +kernel
theorem dX12_law_0 : decode cX12_law 0 = .ok (.aload_n 0, 1) := by decide +kernel
theorem dX12_law_1 : decode cX12_law 1 = .ok (.getfield 28, 3) := by decide +kernel
theorem dX12_law_4 : decode cX12_law 4 = .ok (.bipush 71, 2) := by decide +kernel
theorem dX12_law_6 : decode cX12_law 6 = .ok (.iaload, 1) := by decide +kernel
theorem dX12_law_7 : decode cX12_law 7 = .ok (.bipush 6, 2) := by decide +kernel
theorem dX12_law_9 : decode cX12_law 9 = .ok (.if_icmp .ne 15, 3) := by decide +kernel
theorem dX12_law_12 : decode cX12_law 12 = .ok (.aload_n 0, 1) := by decide +kernel
theorem dX12_law_13 : decode cX12_law 13 = .ok (.iconst 0, 1) := by decide +kernel
theorem dX12_law_14 : decode cX12_law 14 = .ok (.putfield 169, 3) := by decide +kernel
theorem dX12_law_17 : decode cX12_law 17 = .ok (.aload_n 0, 1) := by decide +kernel
theorem dX12_law_18 : decode cX12_law 18 = .ok (.bipush (-5), 2) := by decide +kernel
theorem dX12_law_20 : decode cX12_law 20 = .ok (.invokevirtual 109, 3) := by decide +kernel
theorem dX12_law_23 : decode cX12_law 23 = .ok (.ireturn, 1) := by decide +kernel
theorem dX12_law_24 : decode cX12_law 24 = .ok (.aload_n 0, 1) := by decide +kernel
theorem dX12_law_25 : decode cX12_law 25 = .ok (.iconst 0, 1) := by decide +kernel
theorem dX12_law_26 : decode cX12_law 26 = .ok (.invokevirtual 268, 3) := by decide +kernel
theorem dX12_law_29 : decode cX12_law 29 = .ok (.ifCond .ne 10, 3) := by decide +kernel
theorem dX12_law_32 : decode cX12_law 32 = .ok (.aload_n 0, 1) := by decide +kernel
theorem dX12_law_33 : decode cX12_law 33 = .ok (.bipush (-6), 2) := by decide +kernel
theorem dX12_law_35 : decode cX12_law 35 = .ok (.invokevirtual 109, 3) := by decide +kernel
theorem dX12_law_38 : decode cX12_law 38 = .ok (.ireturn, 1) := by decide +kernel
theorem dX12_law_39 : decode cX12_law 39 = .ok (.aload_n 0, 1) := by decide +kernel
theorem dX12_law_40 : decode cX12_law 40 = .ok (.aload_n 0, 1) := by decide +kernel
theorem dX12_law_41 : decode cX12_law 41 = .ok (.getfield 28, 3) := by decide +kernel
theorem dX12_law_44 : decode cX12_law 44 = .ok (.bipush 71, 2) := by decide +kernel
theorem dX12_law_46 : decode cX12_law 46 = .ok (.iaload, 1) := by decide +kernel
theorem dX12_law_47 : decode cX12_law 47 = .ok (.invokevirtual 272, 3) := by decide +kernel
theorem dX12_law_50 : decode cX12_law 50 = .ok (.aload_n 0, 1) := by decide +kernel
theorem dX12_law_51 : decode cX12_law 51 = .ok (.getfield 28, 3) := by decide +kernel
theorem dX12_law_54 : decode cX12_law 54 = .ok (.bipush 71, 2) := by decide +kernel
theorem dX12_law_56 : decode cX12_law 56 = .ok (.dup2, 1) := by decide +kernel
theorem dX12_law_57 : decode cX12_law 57 = .ok (.iaload, 1) := by decide +kernel
theorem dX12_law_58 : decode cX12_law 58 = .ok (.iconst 1, 1) := by decide +kernel
theorem dX12_law_59 : decode cX12_law 59 = .ok (.iadd, 1) := by decide +kernel
theorem dX12_law_60 : decode cX12_law 60 = .ok (.iastore, 1) := by decide +kernel
theorem dX12_law_61 : decode cX12_law 61 = .ok (.aload_n 0, 1) := by decide +kernel
theorem dX12_law_62 : decode cX12_law 62 = .ok (.aload_n 0, 1) := by decide +kernel
theorem dX12_law_63 : decode cX12_law 63 = .ok (.getfield 28, 3) := by decide +kernel
theorem dX12_law_66 : decode cX12_law 66 = .ok (.bipush 71, 2) := by decide +kernel
theorem dX12_law_68 : decode cX12_law 68 = .ok (.iaload, 1) := by decide +kernel
theorem dX12_law_69 : decode cX12_law 69 = .ok (.iconst 1, 1) := by decide +kernel
theorem dX12_law_70 : decode cX12_law 70 = .ok (.isub, 1) := by decide +kernel
theorem dX12_law_71 : decode cX12_law 71 = .ok (.invokevirtual 14, 3) := by decide +kernel
theorem dX12_law_74 : decode cX12_law 74 = .ok (.ireturn, 1) := by decide +kernel
theorem dX12_fault_0 : decode cX12_fault 0 = .ok (.aload_n 0, 1) := by decide +kernel
theorem dX12_fault_1 : decode cX12_fault 1 = .ok (.getfield 51, 3) := by decide +kernel
theorem dX12_fault_4 : decode cX12_fault 4 = .ok (.ireturn, 1) := by decide +kernel
theorem dX12_isLaw_0 : decode cX12_isLaw 0 = .ok (.iload_n 1, 1) := by decide +kernel
theorem dX12_isLaw_1 : decode cX12_isLaw 1 = .ok (.iconst (-1), 1) := by decide +kernel
theorem dX12_isLaw_2 : decode cX12_isLaw 2 = .ok (.aload_n 0, 1) := by decide +kernel
theorem dX12_isLaw_3 : decode cX12_isLaw 3 = .ok (.getfield 28, 3) := by decide +kernel
theorem dX12_isLaw_6 : decode cX12_isLaw 6 = .ok (.bipush 71, 2) := by decide +kernel
theorem dX12_isLaw_8 : decode cX12_isLaw 8 = .ok (.iaload, 1) := by decide +kernel
theorem dX12_isLaw_9 : decode cX12_isLaw 9 = .ok (.iconst 1, 1) := by decide +kernel
theorem dX12_isLaw_10 : decode cX12_isLaw 10 = .ok (.isub, 1) := by decide +kernel
theorem dX12_isLaw_11 : decode cX12_isLaw 11 = .ok (.invokestatic 18, 3) := by decide +kernel
theorem dX12_isLaw_14 : decode cX12_isLaw 14 = .ok (.ireturn, 1) := by decide +kernel
theorem dX12_force_0 : decode cX12_force 0 = .ok (.aload_n 0, 1) := by decide +kernel
theorem dX12_force_1 : decode cX12_force 1 = .ok (.iload_n 1, 1) := by decide +kernel
theorem dX12_force_2 : decode cX12_force 2 = .ok (.invokevirtual 275, 3) := by decide +kernel
theorem dX12_force_5 : decode cX12_force 5 = .ok (.ifCond .ne 10, 3) := by decide +kernel
theorem dX12_force_8 : decode cX12_force 8 = .ok (.aload_n 0, 1) := by decide +kernel
theorem dX12_force_9 : decode cX12_force 9 = .ok (.bipush (-2), 2) := by decide +kernel
theorem dX12_force_11 : decode cX12_force 11 = .ok (.invokevirtual 109, 3) := by decide +kernel
theorem dX12_force_14 : decode cX12_force 14 = .ok (.ireturn, 1) := by decide +kernel
theorem dX12_force_15 : decode cX12_force 15 = .ok (.aload_n 0, 1) := by decide +kernel
theorem dX12_force_16 : decode cX12_force 16 = .ok (.getfield 28, 3) := by decide +kernel
theorem dX12_force_19 : decode cX12_force 19 = .ok (.bipush 72, 2) := by decide +kernel
theorem dX12_force_21 : decode cX12_force 21 = .ok (.iaload, 1) := by decide +kernel
theorem dX12_force_22 : decode cX12_force 22 = .ok (.istore_n 2, 1) := by decide +kernel
theorem dX12_force_23 : decode cX12_force 23 = .ok (.aload_n 0, 1) := by decide +kernel
theorem dX12_force_24 : decode cX12_force 24 = .ok (.getfield 28, 3) := by decide +kernel
theorem dX12_force_27 : decode cX12_force 27 = .ok (.bipush 72, 2) := by decide +kernel
theorem dX12_force_29 : decode cX12_force 29 = .ok (.iload_n 1, 1) := by decide +kernel
theorem dX12_force_30 : decode cX12_force 30 = .ok (.iastore, 1) := by decide +kernel
theorem dX12_force_31 : decode cX12_force 31 = .ok (.aload_n 0, 1) := by decide +kernel
theorem dX12_force_32 : decode cX12_force 32 = .ok (.iload_n 2, 1) := by decide +kernel
theorem dX12_force_33 : decode cX12_force 33 = .ok (.invokevirtual 14, 3) := by decide +kernel
theorem dX12_force_36 : decode cX12_force 36 = .ok (.ireturn, 1) := by decide +kernel
theorem dX12_codeAt_0 : decode cX12_codeAt 0 = .ok (.iload_n 1, 1) := by decide +kernel
theorem dX12_codeAt_1 : decode cX12_codeAt 1 = .ok (.aload_n 0, 1) := by decide +kernel
theorem dX12_codeAt_2 : decode cX12_codeAt 2 = .ok (.getfield 278, 3) := by decide +kernel
theorem dX12_codeAt_5 : decode cX12_codeAt 5 = .ok (.if_icmp .ge 15, 3) := by decide +kernel
theorem dX12_codeAt_8 : decode cX12_codeAt 8 = .ok (.aload_n 0, 1) := by decide +kernel
theorem dX12_codeAt_9 : decode cX12_codeAt 9 = .ok (.getfield 28, 3) := by decide +kernel
theorem dX12_codeAt_12 : decode cX12_codeAt 12 = .ok (.bipush 80, 2) := by decide +kernel
theorem dX12_codeAt_14 : decode cX12_codeAt 14 = .ok (.iload_n 1, 1) := by decide +kernel
theorem dX12_codeAt_15 : decode cX12_codeAt 15 = .ok (.iadd, 1) := by decide +kernel
theorem dX12_codeAt_16 : decode cX12_codeAt 16 = .ok (.iaload, 1) := by decide +kernel
theorem dX12_codeAt_17 : decode cX12_codeAt 17 = .ok (.goto 4, 3) := by decide +kernel
theorem dX12_codeAt_20 : decode cX12_codeAt 20 = .ok (.iconst 0, 1) := by decide +kernel
theorem dX12_codeAt_21 : decode cX12_codeAt 21 = .ok (.ireturn, 1) := by decide +kernel
theorem dX12_passes0_0 : decode cX12_passes0 0 = .ok (.aload_n 0, 1) := by decide +kernel
theorem dX12_passes0_1 : decode cX12_passes0 1 = .ok (.aload_n 0, 1) := by decide +kernel
theorem dX12_passes0_2 : decode cX12_passes0 2 = .ok (.getfield 281, 3) := by decide +kernel
theorem dX12_passes0_5 : decode cX12_passes0 5 = .ok (.invokevirtual 284, 3) := by decide +kernel
theorem dX12_passes0_8 : decode cX12_passes0 8 = .ok (.iload_n 1, 1) := by decide +kernel
theorem dX12_passes0_9 : decode cX12_passes0 9 = .ok (.if_icmp .ne 7, 3) := by decide +kernel
theorem dX12_passes0_12 : decode cX12_passes0 12 = .ok (.iconst 1, 1) := by decide +kernel
theorem dX12_passes0_13 : decode cX12_passes0 13 = .ok (.goto 4, 3) := by decide +kernel
theorem dX12_passes0_16 : decode cX12_passes0 16 = .ok (.iconst 0, 1) := by decide +kernel
theorem dX12_passes0_17 : decode cX12_passes0 17 = .ok (.istore_n 2, 1) := by decide +kernel
theorem dX12_passes0_18 : decode cX12_passes0 18 = .ok (.iload_n 2, 1) := by decide +kernel
theorem dX12_passes0_19 : decode cX12_passes0 19 = .ok (.ifCond .eq 13, 3) := by decide +kernel
theorem dX12_passes0_22 : decode cX12_passes0 22 = .ok (.aload_n 0, 1) := by decide +kernel
theorem dX12_passes0_23 : decode cX12_passes0 23 = .ok (.dup, 1) := by decide +kernel
theorem dX12_passes0_24 : decode cX12_passes0 24 = .ok (.getfield 281, 3) := by decide +kernel
theorem dX12_passes0_27 : decode cX12_passes0 27 = .ok (.iconst 1, 1) := by decide +kernel
theorem dX12_passes0_28 : decode cX12_passes0 28 = .ok (.iadd, 1) := by decide +kernel
theorem dX12_passes0_29 : decode cX12_passes0 29 = .ok (.putfield 281, 3) := by decide +kernel
theorem dX12_passes0_32 : decode cX12_passes0 32 = .ok (.iload_n 2, 1) := by decide +kernel
theorem dX12_passes0_33 : decode cX12_passes0 33 = .ok (.ireturn, 1) := by decide +kernel
theorem dX12_bounded_0 : decode cX12_bounded 0 = .ok (.iload_n 3, 1) := by decide +kernel
theorem dX12_bounded_1 : decode cX12_bounded 1 = .ok (.ifCond .eq 24, 3) := by decide +kernel
theorem dX12_bounded_4 : decode cX12_bounded 4 = .ok (.lload_n 1, 1) := by decide +kernel
theorem dX12_bounded_5 : decode cX12_bounded 5 = .ok (.ldc2_w 287, 3) := by decide +kernel
theorem dX12_bounded_8 : decode cX12_bounded 8 = .ok (.lcmp, 1) := by decide +kernel
theorem dX12_bounded_9 : decode cX12_bounded 9 = .ok (.ifCond .gt 11, 3) := by decide +kernel
theorem dX12_bounded_12 : decode cX12_bounded 12 = .ok (.lload_n 1, 1) := by decide +kernel
theorem dX12_bounded_13 : decode cX12_bounded 13 = .ok (.ldc2_w 289, 3) := by decide +kernel
theorem dX12_bounded_16 : decode cX12_bounded 16 = .ok (.lcmp, 1) := by decide +kernel
theorem dX12_bounded_17 : decode cX12_bounded 17 = .ok (.ifCond .ge 8, 3) := by decide +kernel
theorem dX12_bounded_20 : decode cX12_bounded 20 = .ok (.aload_n 0, 1) := by decide +kernel
theorem dX12_bounded_21 : decode cX12_bounded 21 = .ok (.iconst 1, 1) := by decide +kernel
theorem dX12_bounded_22 : decode cX12_bounded 22 = .ok (.putfield 291, 3) := by decide +kernel
theorem dX12_bounded_25 : decode cX12_bounded 25 = .ok (.aload_n 0, 1) := by decide +kernel
theorem dX12_bounded_26 : decode cX12_bounded 26 = .ok (.getfield 291, 3) := by decide +kernel
theorem dX12_bounded_29 : decode cX12_bounded 29 = .ok (.ifCond .eq 7, 3) := by decide +kernel
theorem dX12_bounded_32 : decode cX12_bounded 32 = .ok (.lconst 0, 1) := by decide +kernel
theorem dX12_bounded_33 : decode cX12_bounded 33 = .ok (.goto 4, 3) := by decide +kernel
theorem dX12_bounded_36 : decode cX12_bounded 36 = .ok (.lload_n 1, 1) := by decide +kernel
theorem dX12_bounded_37 : decode cX12_bounded 37 = .ok (.lreturn, 1) := by decide +kernel
theorem dX12_sumOf_0 : decode cX12_sumOf 0 = .ok (.aload_n 0, 1) := by decide +kernel
theorem dX12_sumOf_1 : decode cX12_sumOf 1 = .ok (.iload_n 1, 1) := by decide +kernel
theorem dX12_sumOf_2 : decode cX12_sumOf 2 = .ok (.invokevirtual 294, 3) := by decide +kernel
theorem dX12_sumOf_5 : decode cX12_sumOf 5 = .ok (.lstore_n 2, 1) := by decide +kernel
theorem dX12_sumOf_6 : decode cX12_sumOf 6 = .ok (.aload_n 0, 1) := by decide +kernel
theorem dX12_sumOf_7 : decode cX12_sumOf 7 = .ok (.aload_n 0, 1) := by decide +kernel
theorem dX12_sumOf_8 : decode cX12_sumOf 8 = .ok (.getfield 281, 3) := by decide +kernel
theorem dX12_sumOf_11 : decode cX12_sumOf 11 = .ok (.invokevirtual 284, 3) := by decide +kernel
theorem dX12_sumOf_14 : decode cX12_sumOf 14 = .ok (.bipush 43, 2) := by decide +kernel
theorem dX12_sumOf_16 : decode cX12_sumOf 16 = .ok (.invokestatic 240, 3) := by decide +kernel
theorem dX12_sumOf_19 : decode cX12_sumOf 19 = .ok (.if_icmp .eq 19, 3) := by decide +kernel
theorem dX12_sumOf_22 : decode cX12_sumOf 22 = .ok (.aload_n 0, 1) := by decide +kernel
theorem dX12_sumOf_23 : decode cX12_sumOf 23 = .ok (.aload_n 0, 1) := by decide +kernel
theorem dX12_sumOf_24 : decode cX12_sumOf 24 = .ok (.getfield 281, 3) := by decide +kernel
theorem dX12_sumOf_27 : decode cX12_sumOf 27 = .ok (.invokevirtual 284, 3) := by decide +kernel
theorem dX12_sumOf_30 : decode cX12_sumOf 30 = .ok (.bipush 45, 2) := by decide +kernel
theorem dX12_sumOf_32 : decode cX12_sumOf 32 = .ok (.invokestatic 240, 3) := by decide +kernel
theorem dX12_sumOf_35 : decode cX12_sumOf 35 = .ok (.if_icmp .ne 68, 3) := by decide +kernel
theorem dX12_sumOf_38 : decode cX12_sumOf 38 = .ok (.aload_n 0, 1) := by decide +kernel
theorem dX12_sumOf_39 : decode cX12_sumOf 39 = .ok (.aload_n 0, 1) := by decide +kernel
theorem dX12_sumOf_40 : decode cX12_sumOf 40 = .ok (.getfield 281, 3) := by decide +kernel
theorem dX12_sumOf_43 : decode cX12_sumOf 43 = .ok (.invokevirtual 284, 3) := by decide +kernel
theorem dX12_sumOf_46 : decode cX12_sumOf 46 = .ok (.bipush 43, 2) := by decide +kernel
theorem dX12_sumOf_48 : decode cX12_sumOf 48 = .ok (.invokestatic 240, 3) := by decide +kernel
theorem dX12_sumOf_51 : decode cX12_sumOf 51 = .ok (.if_icmp .ne 7, 3) := by decide +kernel
theorem dX12_sumOf_54 : decode cX12_sumOf 54 = .ok (.iconst 1, 1) := by decide +kernel
theorem dX12_sumOf_55 : decode cX12_sumOf 55 = .ok (.goto 4, 3) := by decide +kernel
theorem dX12_sumOf_58 : decode cX12_sumOf 58 = .ok (.iconst 0, 1) := by decide +kernel
theorem dX12_sumOf_59 : decode cX12_sumOf 59 = .ok (.istore 4, 2) := by decide +kernel
theorem dX12_sumOf_61 : decode cX12_sumOf 61 = .ok (.aload_n 0, 1) := by decide +kernel
theorem dX12_sumOf_62 : decode cX12_sumOf 62 = .ok (.dup, 1) := by decide +kernel
theorem dX12_sumOf_63 : decode cX12_sumOf 63 = .ok (.getfield 281, 3) := by decide +kernel
theorem dX12_sumOf_66 : decode cX12_sumOf 66 = .ok (.iconst 1, 1) := by decide +kernel
theorem dX12_sumOf_67 : decode cX12_sumOf 67 = .ok (.iadd, 1) := by decide +kernel
theorem dX12_sumOf_68 : decode cX12_sumOf 68 = .ok (.putfield 281, 3) := by decide +kernel
theorem dX12_sumOf_71 : decode cX12_sumOf 71 = .ok (.aload_n 0, 1) := by decide +kernel
theorem dX12_sumOf_72 : decode cX12_sumOf 72 = .ok (.iload_n 1, 1) := by decide +kernel
theorem dX12_sumOf_73 : decode cX12_sumOf 73 = .ok (.invokevirtual 294, 3) := by decide +kernel
theorem dX12_sumOf_76 : decode cX12_sumOf 76 = .ok (.lstore 5, 2) := by decide +kernel
theorem dX12_sumOf_78 : decode cX12_sumOf 78 = .ok (.aload_n 0, 1) := by decide +kernel
theorem dX12_sumOf_79 : decode cX12_sumOf 79 = .ok (.iload 4, 2) := by decide +kernel
theorem dX12_sumOf_81 : decode cX12_sumOf 81 = .ok (.ifCond .eq 10, 3) := by decide +kernel
theorem dX12_sumOf_84 : decode cX12_sumOf 84 = .ok (.lload_n 2, 1) := by decide +kernel
theorem dX12_sumOf_85 : decode cX12_sumOf 85 = .ok (.lload 5, 2) := by decide +kernel
theorem dX12_sumOf_87 : decode cX12_sumOf 87 = .ok (.ladd, 1) := by decide +kernel
theorem dX12_sumOf_88 : decode cX12_sumOf 88 = .ok (.goto 7, 3) := by decide +kernel
theorem dX12_sumOf_91 : decode cX12_sumOf 91 = .ok (.lload_n 2, 1) := by decide +kernel
theorem dX12_sumOf_92 : decode cX12_sumOf 92 = .ok (.lload 5, 2) := by decide +kernel
theorem dX12_sumOf_94 : decode cX12_sumOf 94 = .ok (.lsub, 1) := by decide +kernel
theorem dX12_sumOf_95 : decode cX12_sumOf 95 = .ok (.iload_n 1, 1) := by decide +kernel
theorem dX12_sumOf_96 : decode cX12_sumOf 96 = .ok (.invokevirtual 298, 3) := by decide +kernel
theorem dX12_sumOf_99 : decode cX12_sumOf 99 = .ok (.lstore_n 2, 1) := by decide +kernel
theorem dX12_sumOf_100 : decode cX12_sumOf 100 = .ok (.goto (-94), 3) := by decide +kernel
theorem dX12_sumOf_103 : decode cX12_sumOf 103 = .ok (.lload_n 2, 1) := by decide +kernel
theorem dX12_sumOf_104 : decode cX12_sumOf 104 = .ok (.lreturn, 1) := by decide +kernel
theorem dX12_termOf_0 : decode cX12_termOf 0 = .ok (.aload_n 0, 1) := by decide +kernel
theorem dX12_termOf_1 : decode cX12_termOf 1 = .ok (.iload_n 1, 1) := by decide +kernel
theorem dX12_termOf_2 : decode cX12_termOf 2 = .ok (.invokevirtual 302, 3) := by decide +kernel
theorem dX12_termOf_5 : decode cX12_termOf 5 = .ok (.lstore_n 2, 1) := by decide +kernel
theorem dX12_termOf_6 : decode cX12_termOf 6 = .ok (.aload_n 0, 1) := by decide +kernel
theorem dX12_termOf_7 : decode cX12_termOf 7 = .ok (.aload_n 0, 1) := by decide +kernel
theorem dX12_termOf_8 : decode cX12_termOf 8 = .ok (.getfield 281, 3) := by decide +kernel
theorem dX12_termOf_11 : decode cX12_termOf 11 = .ok (.invokevirtual 284, 3) := by decide +kernel
theorem dX12_termOf_14 : decode cX12_termOf 14 = .ok (.bipush 42, 2) := by decide +kernel
theorem dX12_termOf_16 : decode cX12_termOf 16 = .ok (.invokestatic 240, 3) := by decide +kernel
theorem dX12_termOf_19 : decode cX12_termOf 19 = .ok (.if_icmp .eq 35, 3) := by decide +kernel
theorem dX12_termOf_22 : decode cX12_termOf 22 = .ok (.aload_n 0, 1) := by decide +kernel
theorem dX12_termOf_23 : decode cX12_termOf 23 = .ok (.aload_n 0, 1) := by decide +kernel
theorem dX12_termOf_24 : decode cX12_termOf 24 = .ok (.getfield 281, 3) := by decide +kernel
theorem dX12_termOf_27 : decode cX12_termOf 27 = .ok (.invokevirtual 284, 3) := by decide +kernel
theorem dX12_termOf_30 : decode cX12_termOf 30 = .ok (.bipush 47, 2) := by decide +kernel
theorem dX12_termOf_32 : decode cX12_termOf 32 = .ok (.invokestatic 240, 3) := by decide +kernel
theorem dX12_termOf_35 : decode cX12_termOf 35 = .ok (.if_icmp .eq 19, 3) := by decide +kernel
theorem dX12_termOf_38 : decode cX12_termOf 38 = .ok (.aload_n 0, 1) := by decide +kernel
theorem dX12_termOf_39 : decode cX12_termOf 39 = .ok (.aload_n 0, 1) := by decide +kernel
theorem dX12_termOf_40 : decode cX12_termOf 40 = .ok (.getfield 281, 3) := by decide +kernel
theorem dX12_termOf_43 : decode cX12_termOf 43 = .ok (.invokevirtual 284, 3) := by decide +kernel
theorem dX12_termOf_46 : decode cX12_termOf 46 = .ok (.bipush 37, 2) := by decide +kernel
theorem dX12_termOf_48 : decode cX12_termOf 48 = .ok (.invokestatic 240, 3) := by decide +kernel
theorem dX12_termOf_51 : decode cX12_termOf 51 = .ok (.if_icmp .ne 117, 3) := by decide +kernel
theorem dX12_termOf_54 : decode cX12_termOf 54 = .ok (.aload_n 0, 1) := by decide +kernel
theorem dX12_termOf_55 : decode cX12_termOf 55 = .ok (.aload_n 0, 1) := by decide +kernel
theorem dX12_termOf_56 : decode cX12_termOf 56 = .ok (.getfield 281, 3) := by decide +kernel
theorem dX12_termOf_59 : decode cX12_termOf 59 = .ok (.invokevirtual 284, 3) := by decide +kernel
theorem dX12_termOf_62 : decode cX12_termOf 62 = .ok (.istore 4, 2) := by decide +kernel
theorem dX12_termOf_64 : decode cX12_termOf 64 = .ok (.aload_n 0, 1) := by decide +kernel
theorem dX12_termOf_65 : decode cX12_termOf 65 = .ok (.dup, 1) := by decide +kernel
theorem dX12_termOf_66 : decode cX12_termOf 66 = .ok (.getfield 281, 3) := by decide +kernel
theorem dX12_termOf_69 : decode cX12_termOf 69 = .ok (.iconst 1, 1) := by decide +kernel
theorem dX12_termOf_70 : decode cX12_termOf 70 = .ok (.iadd, 1) := by decide +kernel
theorem dX12_termOf_71 : decode cX12_termOf 71 = .ok (.putfield 281, 3) := by decide +kernel
theorem dX12_termOf_74 : decode cX12_termOf 74 = .ok (.aload_n 0, 1) := by decide +kernel
theorem dX12_termOf_75 : decode cX12_termOf 75 = .ok (.iload_n 1, 1) := by decide +kernel
theorem dX12_termOf_76 : decode cX12_termOf 76 = .ok (.invokevirtual 302, 3) := by decide +kernel
theorem dX12_termOf_79 : decode cX12_termOf 79 = .ok (.lstore 5, 2) := by decide +kernel
theorem dX12_termOf_81 : decode cX12_termOf 81 = .ok (.iload 4, 2) := by decide +kernel
theorem dX12_termOf_83 : decode cX12_termOf 83 = .ok (.bipush 42, 2) := by decide +kernel
theorem dX12_termOf_85 : decode cX12_termOf 85 = .ok (.invokestatic 240, 3) := by decide +kernel
theorem dX12_termOf_88 : decode cX12_termOf 88 = .ok (.if_icmp .eq 33, 3) := by decide +kernel
theorem dX12_termOf_91 : decode cX12_termOf 91 = .ok (.lload 5, 2) := by decide +kernel
theorem dX12_termOf_93 : decode cX12_termOf 93 = .ok (.lconst 0, 1) := by decide +kernel
theorem dX12_termOf_94 : decode cX12_termOf 94 = .ok (.lcmp, 1) := by decide +kernel
theorem dX12_termOf_95 : decode cX12_termOf 95 = .ok (.ifCond .ne 26, 3) := by decide +kernel
theorem dX12_termOf_98 : decode cX12_termOf 98 = .ok (.aload_n 0, 1) := by decide +kernel
theorem dX12_termOf_99 : decode cX12_termOf 99 = .ok (.aload_n 0, 1) := by decide +kernel
theorem dX12_termOf_100 : decode cX12_termOf 100 = .ok (.getfield 291, 3) := by decide +kernel
theorem dX12_termOf_103 : decode cX12_termOf 103 = .ok (.ifCond .ne 7, 3) := by decide +kernel
theorem dX12_termOf_106 : decode cX12_termOf 106 = .ok (.iload_n 1, 1) := by decide +kernel
theorem dX12_termOf_107 : decode cX12_termOf 107 = .ok (.ifCond .eq 7, 3) := by decide +kernel
theorem dX12_termOf_110 : decode cX12_termOf 110 = .ok (.iconst 1, 1) := by decide +kernel
theorem dX12_termOf_111 : decode cX12_termOf 111 = .ok (.goto 4, 3) := by decide +kernel
theorem dX12_termOf_114 : decode cX12_termOf 114 = .ok (.iconst 0, 1) := by decide +kernel
theorem dX12_termOf_115 : decode cX12_termOf 115 = .ok (.putfield 291, 3) := by decide +kernel
theorem dX12_termOf_118 : decode cX12_termOf 118 = .ok (.lconst 1, 1) := by decide +kernel
theorem dX12_termOf_119 : decode cX12_termOf 119 = .ok (.lstore 5, 2) := by decide +kernel
theorem dX12_termOf_121 : decode cX12_termOf 121 = .ok (.aload_n 0, 1) := by decide +kernel
theorem dX12_termOf_122 : decode cX12_termOf 122 = .ok (.iload 4, 2) := by decide +kernel
theorem dX12_termOf_124 : decode cX12_termOf 124 = .ok (.bipush 42, 2) := by decide +kernel
theorem dX12_termOf_126 : decode cX12_termOf 126 = .ok (.invokestatic 240, 3) := by decide +kernel
theorem dX12_termOf_129 : decode cX12_termOf 129 = .ok (.if_icmp .ne 10, 3) := by decide +kernel
theorem dX12_termOf_132 : decode cX12_termOf 132 = .ok (.lload_n 2, 1) := by decide +kernel
theorem dX12_termOf_133 : decode cX12_termOf 133 = .ok (.lload 5, 2) := by decide +kernel
theorem dX12_termOf_135 : decode cX12_termOf 135 = .ok (.lmul, 1) := by decide +kernel
theorem dX12_termOf_136 : decode cX12_termOf 136 = .ok (.goto 24, 3) := by decide +kernel
theorem dX12_termOf_139 : decode cX12_termOf 139 = .ok (.iload 4, 2) := by decide +kernel
theorem dX12_termOf_141 : decode cX12_termOf 141 = .ok (.bipush 47, 2) := by decide +kernel
theorem dX12_termOf_143 : decode cX12_termOf 143 = .ok (.invokestatic 240, 3) := by decide +kernel
theorem dX12_termOf_146 : decode cX12_termOf 146 = .ok (.if_icmp .ne 10, 3) := by decide +kernel
theorem dX12_termOf_149 : decode cX12_termOf 149 = .ok (.lload_n 2, 1) := by decide +kernel
theorem dX12_termOf_150 : decode cX12_termOf 150 = .ok (.lload 5, 2) := by decide +kernel
theorem dX12_termOf_152 : decode cX12_termOf 152 = .ok (.ldiv, 1) := by decide +kernel
theorem dX12_termOf_153 : decode cX12_termOf 153 = .ok (.goto 7, 3) := by decide +kernel
theorem dX12_termOf_156 : decode cX12_termOf 156 = .ok (.lload_n 2, 1) := by decide +kernel
theorem dX12_termOf_157 : decode cX12_termOf 157 = .ok (.lload 5, 2) := by decide +kernel
theorem dX12_termOf_159 : decode cX12_termOf 159 = .ok (.lrem, 1) := by decide +kernel
theorem dX12_termOf_160 : decode cX12_termOf 160 = .ok (.iload_n 1, 1) := by decide +kernel
theorem dX12_termOf_161 : decode cX12_termOf 161 = .ok (.invokevirtual 298, 3) := by decide +kernel
theorem dX12_termOf_164 : decode cX12_termOf 164 = .ok (.lstore_n 2, 1) := by decide +kernel
theorem dX12_termOf_165 : decode cX12_termOf 165 = .ok (.goto (-159), 3) := by decide +kernel
theorem dX12_termOf_168 : decode cX12_termOf 168 = .ok (.lload_n 2, 1) := by decide +kernel
theorem dX12_termOf_169 : decode cX12_termOf 169 = .ok (.lreturn, 1) := by decide +kernel
theorem dX12_partOf_0 : decode cX12_partOf 0 = .ok (.aload_n 0, 1) := by decide +kernel
theorem dX12_partOf_1 : decode cX12_partOf 1 = .ok (.bipush 91, 2) := by decide +kernel
theorem dX12_partOf_3 : decode cX12_partOf 3 = .ok (.invokestatic 240, 3) := by decide +kernel
theorem dX12_partOf_6 : decode cX12_partOf 6 = .ok (.invokevirtual 305, 3) := by decide +kernel
theorem dX12_partOf_9 : decode cX12_partOf 9 = .ok (.ifCond .eq 21, 3) := by decide +kernel
theorem dX12_partOf_12 : decode cX12_partOf 12 = .ok (.aload_n 0, 1) := by decide +kernel
theorem dX12_partOf_13 : decode cX12_partOf 13 = .ok (.iload_n 1, 1) := by decide +kernel
theorem dX12_partOf_14 : decode cX12_partOf 14 = .ok (.invokevirtual 308, 3) := by decide +kernel
theorem dX12_partOf_17 : decode cX12_partOf 17 = .ok (.lstore_n 2, 1) := by decide +kernel
theorem dX12_partOf_18 : decode cX12_partOf 18 = .ok (.aload_n 0, 1) := by decide +kernel
theorem dX12_partOf_19 : decode cX12_partOf 19 = .ok (.dup, 1) := by decide +kernel
theorem dX12_partOf_20 : decode cX12_partOf 20 = .ok (.getfield 281, 3) := by decide +kernel
theorem dX12_partOf_23 : decode cX12_partOf 23 = .ok (.iconst 1, 1) := by decide +kernel
theorem dX12_partOf_24 : decode cX12_partOf 24 = .ok (.iadd, 1) := by decide +kernel
theorem dX12_partOf_25 : decode cX12_partOf 25 = .ok (.putfield 281, 3) := by decide +kernel
theorem dX12_partOf_28 : decode cX12_partOf 28 = .ok (.lload_n 2, 1) := by decide +kernel
theorem dX12_partOf_29 : decode cX12_partOf 29 = .ok (.lreturn, 1) := by decide +kernel
theorem dX12_partOf_30 : decode cX12_partOf 30 = .ok (.aload_n 0, 1) := by decide +kernel
theorem dX12_partOf_31 : decode cX12_partOf 31 = .ok (.aload_n 0, 1) := by decide +kernel
theorem dX12_partOf_32 : decode cX12_partOf 32 = .ok (.getfield 281, 3) := by decide +kernel
theorem dX12_partOf_35 : decode cX12_partOf 35 = .ok (.invokevirtual 284, 3) := by decide +kernel
theorem dX12_partOf_38 : decode cX12_partOf 38 = .ok (.istore_n 2, 1) := by decide +kernel
theorem dX12_partOf_39 : decode cX12_partOf 39 = .ok (.iconst 0, 1) := by decide +kernel
theorem dX12_partOf_40 : decode cX12_partOf 40 = .ok (.istore_n 3, 1) := by decide +kernel
theorem dX12_partOf_41 : decode cX12_partOf 41 = .ok (.aload_n 0, 1) := by decide +kernel
theorem dX12_partOf_42 : decode cX12_partOf 42 = .ok (.dup, 1) := by decide +kernel
theorem dX12_partOf_43 : decode cX12_partOf 43 = .ok (.getfield 281, 3) := by decide +kernel
theorem dX12_partOf_46 : decode cX12_partOf 46 = .ok (.iconst 1, 1) := by decide +kernel
theorem dX12_partOf_47 : decode cX12_partOf 47 = .ok (.iadd, 1) := by decide +kernel
theorem dX12_partOf_48 : decode cX12_partOf 48 = .ok (.putfield 281, 3) := by decide +kernel
theorem dX12_partOf_51 : decode cX12_partOf 51 = .ok (.aload_n 0, 1) := by decide +kernel
theorem dX12_partOf_52 : decode cX12_partOf 52 = .ok (.getfield 311, 3) := by decide +kernel
theorem dX12_partOf_55 : decode cX12_partOf 55 = .ok (.ifCond .eq 39, 3) := by decide +kernel
theorem dX12_partOf_58 : decode cX12_partOf 58 = .ok (.iload_n 2, 1) := by decide +kernel
theorem dX12_partOf_59 : decode cX12_partOf 59 = .ok (.bipush 14, 2) := by decide +kernel
theorem dX12_partOf_61 : decode cX12_partOf 61 = .ok (.if_icmp .eq 9, 3) := by decide +kernel
theorem dX12_partOf_64 : decode cX12_partOf 64 = .ok (.iload_n 2, 1) := by decide +kernel
theorem dX12_partOf_65 : decode cX12_partOf 65 = .ok (.bipush 20, 2) := by decide +kernel
theorem dX12_partOf_67 : decode cX12_partOf 67 = .ok (.if_icmp .ne 27, 3) := by decide +kernel
theorem dX12_partOf_70 : decode cX12_partOf 70 = .ok (.aload_n 0, 1) := by decide +kernel
theorem dX12_partOf_71 : decode cX12_partOf 71 = .ok (.getfield 28, 3) := by decide +kernel
theorem dX12_partOf_74 : decode cX12_partOf 74 = .ok (.sipush 2880, 3) := by decide +kernel
theorem dX12_partOf_77 : decode cX12_partOf 77 = .ok (.aload_n 0, 1) := by decide +kernel
theorem dX12_partOf_78 : decode cX12_partOf 78 = .ok (.getfield 281, 3) := by decide +kernel
theorem dX12_partOf_81 : decode cX12_partOf 81 = .ok (.iadd, 1) := by decide +kernel
theorem dX12_partOf_82 : decode cX12_partOf 82 = .ok (.iaload, 1) := by decide +kernel
theorem dX12_partOf_83 : decode cX12_partOf 83 = .ok (.istore_n 3, 1) := by decide +kernel
theorem dX12_partOf_84 : decode cX12_partOf 84 = .ok (.aload_n 0, 1) := by decide +kernel
theorem dX12_partOf_85 : decode cX12_partOf 85 = .ok (.dup, 1) := by decide +kernel
theorem dX12_partOf_86 : decode cX12_partOf 86 = .ok (.getfield 281, 3) := by decide +kernel
theorem dX12_partOf_89 : decode cX12_partOf 89 = .ok (.iconst 1, 1) := by decide +kernel
theorem dX12_partOf_90 : decode cX12_partOf 90 = .ok (.iadd, 1) := by decide +kernel
theorem dX12_partOf_91 : decode cX12_partOf 91 = .ok (.putfield 281, 3) := by decide +kernel
theorem dX12_partOf_94 : decode cX12_partOf 94 = .ok (.iload_n 1, 1) := by decide +kernel
theorem dX12_partOf_95 : decode cX12_partOf 95 = .ok (.ifCond .eq 10, 3) := by decide +kernel
theorem dX12_partOf_98 : decode cX12_partOf 98 = .ok (.aload_n 0, 1) := by decide +kernel
theorem dX12_partOf_99 : decode cX12_partOf 99 = .ok (.getfield 291, 3) := by decide +kernel
theorem dX12_partOf_102 : decode cX12_partOf 102 = .ok (.ifCond .eq 5, 3) := by decide +kernel
theorem dX12_partOf_105 : decode cX12_partOf 105 = .ok (.lconst 0, 1) := by decide +kernel
theorem dX12_partOf_106 : decode cX12_partOf 106 = .ok (.lreturn, 1) := by decide +kernel
theorem dX12_partOf_107 : decode cX12_partOf 107 = .ok (.iload_n 2, 1) := by decide +kernel
theorem dX12_partOf_108 : decode cX12_partOf 108 = .ok (.bipush 50, 2) := by decide +kernel
theorem dX12_partOf_110 : decode cX12_partOf 110 = .ok (.if_icmp .ne 20, 3) := by decide +kernel
theorem dX12_partOf_113 : decode cX12_partOf 113 = .ok (.aload_n 0, 1) := by decide +kernel
theorem dX12_partOf_114 : decode cX12_partOf 114 = .ok (.getfield 28, 3) := by decide +kernel
theorem dX12_partOf_117 : decode cX12_partOf 117 = .ok (.sipush 2880, 3) := by decide +kernel
theorem dX12_partOf_120 : decode cX12_partOf 120 = .ok (.aload_n 0, 1) := by decide +kernel
theorem dX12_partOf_121 : decode cX12_partOf 121 = .ok (.getfield 281, 3) := by decide +kernel
theorem dX12_partOf_124 : decode cX12_partOf 124 = .ok (.iadd, 1) := by decide +kernel
theorem dX12_partOf_125 : decode cX12_partOf 125 = .ok (.iconst 1, 1) := by decide +kernel
theorem dX12_partOf_126 : decode cX12_partOf 126 = .ok (.isub, 1) := by decide +kernel
theorem dX12_partOf_127 : decode cX12_partOf 127 = .ok (.iaload, 1) := by decide +kernel
theorem dX12_partOf_128 : decode cX12_partOf 128 = .ok (.i2l, 1) := by decide +kernel
theorem dX12_partOf_129 : decode cX12_partOf 129 = .ok (.lreturn, 1) := by decide +kernel
theorem dX12_partOf_130 : decode cX12_partOf 130 = .ok (.aload_n 0, 1) := by decide +kernel
theorem dX12_partOf_131 : decode cX12_partOf 131 = .ok (.getfield 311, 3) := by decide +kernel
theorem dX12_partOf_134 : decode cX12_partOf 134 = .ok (.ifCond .eq 13, 3) := by decide +kernel
theorem dX12_partOf_137 : decode cX12_partOf 137 = .ok (.aload_n 0, 1) := by decide +kernel
theorem dX12_partOf_138 : decode cX12_partOf 138 = .ok (.iload_n 2, 1) := by decide +kernel
theorem dX12_partOf_139 : decode cX12_partOf 139 = .ok (.iload_n 3, 1) := by decide +kernel
theorem dX12_partOf_140 : decode cX12_partOf 140 = .ok (.invokevirtual 314, 3) := by decide +kernel
theorem dX12_partOf_143 : decode cX12_partOf 143 = .ok (.i2l, 1) := by decide +kernel
theorem dX12_partOf_144 : decode cX12_partOf 144 = .ok (.goto 13, 3) := by decide +kernel
theorem dX12_partOf_147 : decode cX12_partOf 147 = .ok (.aload_n 0, 1) := by decide +kernel
theorem dX12_partOf_148 : decode cX12_partOf 148 = .ok (.getfield 63, 3) := by decide +kernel
theorem dX12_partOf_151 : decode cX12_partOf 151 = .ok (.iload_n 2, 1) := by decide +kernel
theorem dX12_partOf_152 : decode cX12_partOf 152 = .ok (.bipush 8, 2) := by decide +kernel
theorem dX12_partOf_154 : decode cX12_partOf 154 = .ok (.isub, 1) := by decide +kernel
theorem dX12_partOf_155 : decode cX12_partOf 155 = .ok (.iaload, 1) := by decide +kernel
theorem dX12_partOf_156 : decode cX12_partOf 156 = .ok (.i2l, 1) := by decide +kernel
theorem dX12_partOf_157 : decode cX12_partOf 157 = .ok (.lreturn, 1) := by decide +kernel
theorem dX12_orderValue_0 : decode cX12_orderValue 0 = .ok (.iload_n 1, 1) := by decide +kernel
theorem dX12_orderValue_1 : decode cX12_orderValue 1 = .ok (.tableswitch 113 14 20 #[43, 90, 98, 103, 108, 113, 64], 43) := by decide +kernel
theorem dX12_orderValue_44 : decode cX12_orderValue 44 = .ok (.aload_n 0, 1) := by decide +kernel
theorem dX12_orderValue_45 : decode cX12_orderValue 45 = .ok (.iload_n 2, 1) := by decide +kernel
theorem dX12_orderValue_46 : decode cX12_orderValue 46 = .ok (.invokevirtual 134, 3) := by decide +kernel
theorem dX12_orderValue_49 : decode cX12_orderValue 49 = .ok (.ifCond .eq 14, 3) := by decide +kernel
theorem dX12_orderValue_52 : decode cX12_orderValue 52 = .ok (.aload_n 0, 1) := by decide +kernel
theorem dX12_orderValue_53 : decode cX12_orderValue 53 = .ok (.getfield 28, 3) := by decide +kernel
theorem dX12_orderValue_56 : decode cX12_orderValue 56 = .ok (.iconst 0, 1) := by decide +kernel
theorem dX12_orderValue_57 : decode cX12_orderValue 57 = .ok (.iload_n 2, 1) := by decide +kernel
theorem dX12_orderValue_58 : decode cX12_orderValue 58 = .ok (.iadd, 1) := by decide +kernel
theorem dX12_orderValue_59 : decode cX12_orderValue 59 = .ok (.iaload, 1) := by decide +kernel
theorem dX12_orderValue_60 : decode cX12_orderValue 60 = .ok (.goto 4, 3) := by decide +kernel
theorem dX12_orderValue_63 : decode cX12_orderValue 63 = .ok (.iconst (-1), 1) := by decide +kernel
theorem dX12_orderValue_64 : decode cX12_orderValue 64 = .ok (.ireturn, 1) := by decide +kernel
theorem dX12_orderValue_65 : decode cX12_orderValue 65 = .ok (.aload_n 0, 1) := by decide +kernel
theorem dX12_orderValue_66 : decode cX12_orderValue 66 = .ok (.iload_n 2, 1) := by decide +kernel
theorem dX12_orderValue_67 : decode cX12_orderValue 67 = .ok (.invokevirtual 134, 3) := by decide +kernel
theorem dX12_orderValue_70 : decode cX12_orderValue 70 = .ok (.ifCond .ne 7, 3) := by decide +kernel
theorem dX12_orderValue_73 : decode cX12_orderValue 73 = .ok (.iconst (-1), 1) := by decide +kernel
theorem dX12_orderValue_74 : decode cX12_orderValue 74 = .ok (.goto 16, 3) := by decide +kernel
theorem dX12_orderValue_77 : decode cX12_orderValue 77 = .ok (.aload_n 0, 1) := by decide +kernel
theorem dX12_orderValue_78 : decode cX12_orderValue 78 = .ok (.iload_n 2, 1) := by decide +kernel
theorem dX12_orderValue_79 : decode cX12_orderValue 79 = .ok (.invokevirtual 137, 3) := by decide +kernel
theorem dX12_orderValue_82 : decode cX12_orderValue 82 = .ok (.ifCond .eq 7, 3) := by decide +kernel
theorem dX12_orderValue_85 : decode cX12_orderValue 85 = .ok (.iconst 1, 1) := by decide +kernel
theorem dX12_orderValue_86 : decode cX12_orderValue 86 = .ok (.goto 4, 3) := by decide +kernel
theorem dX12_orderValue_89 : decode cX12_orderValue 89 = .ok (.iconst 0, 1) := by decide +kernel
theorem dX12_orderValue_90 : decode cX12_orderValue 90 = .ok (.ireturn, 1) := by decide +kernel
theorem dX12_orderValue_91 : decode cX12_orderValue 91 = .ok (.aload_n 0, 1) := by decide +kernel
theorem dX12_orderValue_92 : decode cX12_orderValue 92 = .ok (.getfield 28, 3) := by decide +kernel
theorem dX12_orderValue_95 : decode cX12_orderValue 95 = .ok (.bipush 28, 2) := by decide +kernel
theorem dX12_orderValue_97 : decode cX12_orderValue 97 = .ok (.iaload, 1) := by decide +kernel
theorem dX12_orderValue_98 : decode cX12_orderValue 98 = .ok (.ireturn, 1) := by decide +kernel
theorem dX12_orderValue_99 : decode cX12_orderValue 99 = .ok (.aload_n 0, 1) := by decide +kernel
theorem dX12_orderValue_100 : decode cX12_orderValue 100 = .ok (.getfield 317, 3) := by decide +kernel
theorem dX12_orderValue_103 : decode cX12_orderValue 103 = .ok (.ireturn, 1) := by decide +kernel
theorem dX12_orderValue_104 : decode cX12_orderValue 104 = .ok (.aload_n 0, 1) := by decide +kernel
theorem dX12_orderValue_105 : decode cX12_orderValue 105 = .ok (.getfield 320, 3) := by decide +kernel
theorem dX12_orderValue_108 : decode cX12_orderValue 108 = .ok (.ireturn, 1) := by decide +kernel
theorem dX12_orderValue_109 : decode cX12_orderValue 109 = .ok (.aload_n 0, 1) := by decide +kernel
theorem dX12_orderValue_110 : decode cX12_orderValue 110 = .ok (.invokevirtual 323, 3) := by decide +kernel
theorem dX12_orderValue_113 : decode cX12_orderValue 113 = .ok (.ireturn, 1) := by decide +kernel
theorem dX12_orderValue_114 : decode cX12_orderValue 114 = .ok (.aload_n 0, 1) := by decide +kernel
theorem dX12_orderValue_115 : decode cX12_orderValue 115 = .ok (.getfield 28, 3) := by decide +kernel
theorem dX12_orderValue_118 : decode cX12_orderValue 118 = .ok (.bipush 27, 2) := by decide +kernel
theorem dX12_orderValue_120 : decode cX12_orderValue 120 = .ok (.iaload, 1) := by decide +kernel
theorem dX12_orderValue_121 : decode cX12_orderValue 121 = .ok (.ireturn, 1) := by decide +kernel
theorem dX12_testOf_0 : decode cX12_testOf 0 = .ok (.aload_n 0, 1) := by decide +kernel
theorem dX12_testOf_1 : decode cX12_testOf 1 = .ok (.iload_n 1, 1) := by decide +kernel
theorem dX12_testOf_2 : decode cX12_testOf 2 = .ok (.invokevirtual 326, 3) := by decide +kernel
theorem dX12_testOf_5 : decode cX12_testOf 5 = .ok (.istore_n 2, 1) := by decide +kernel
theorem dX12_testOf_6 : decode cX12_testOf 6 = .ok (.aload_n 0, 1) := by decide +kernel
theorem dX12_testOf_7 : decode cX12_testOf 7 = .ok (.iconst 5, 1) := by decide +kernel
theorem dX12_testOf_8 : decode cX12_testOf 8 = .ok (.invokevirtual 305, 3) := by decide +kernel
theorem dX12_testOf_11 : decode cX12_testOf 11 = .ok (.ifCond .eq 38, 3) := by decide +kernel
theorem dX12_testOf_14 : decode cX12_testOf 14 = .ok (.aload_n 0, 1) := by decide +kernel
theorem dX12_testOf_15 : decode cX12_testOf 15 = .ok (.iload_n 1, 1) := by decide +kernel
theorem dX12_testOf_16 : decode cX12_testOf 16 = .ok (.ifCond .eq 11, 3) := by decide +kernel
theorem dX12_testOf_19 : decode cX12_testOf 19 = .ok (.iload_n 2, 1) := by decide +kernel
theorem dX12_testOf_20 : decode cX12_testOf 20 = .ok (.ifCond .ne 7, 3) := by decide +kernel
theorem dX12_testOf_23 : decode cX12_testOf 23 = .ok (.iconst 1, 1) := by decide +kernel
theorem dX12_testOf_24 : decode cX12_testOf 24 = .ok (.goto 4, 3) := by decide +kernel
theorem dX12_testOf_27 : decode cX12_testOf 27 = .ok (.iconst 0, 1) := by decide +kernel
theorem dX12_testOf_28 : decode cX12_testOf 28 = .ok (.invokevirtual 326, 3) := by decide +kernel
theorem dX12_testOf_31 : decode cX12_testOf 31 = .ok (.istore_n 3, 1) := by decide +kernel
theorem dX12_testOf_32 : decode cX12_testOf 32 = .ok (.iload_n 2, 1) := by decide +kernel
theorem dX12_testOf_33 : decode cX12_testOf 33 = .ok (.ifCond .ne 7, 3) := by decide +kernel
theorem dX12_testOf_36 : decode cX12_testOf 36 = .ok (.iload_n 3, 1) := by decide +kernel
theorem dX12_testOf_37 : decode cX12_testOf 37 = .ok (.ifCond .eq 7, 3) := by decide +kernel
theorem dX12_testOf_40 : decode cX12_testOf 40 = .ok (.iconst 1, 1) := by decide +kernel
theorem dX12_testOf_41 : decode cX12_testOf 41 = .ok (.goto 4, 3) := by decide +kernel
theorem dX12_testOf_44 : decode cX12_testOf 44 = .ok (.iconst 0, 1) := by decide +kernel
theorem dX12_testOf_45 : decode cX12_testOf 45 = .ok (.istore_n 2, 1) := by decide +kernel
theorem dX12_testOf_46 : decode cX12_testOf 46 = .ok (.goto (-40), 3) := by decide +kernel
theorem dX12_testOf_49 : decode cX12_testOf 49 = .ok (.iload_n 2, 1) := by decide +kernel
theorem dX12_testOf_50 : decode cX12_testOf 50 = .ok (.ireturn, 1) := by decide +kernel
theorem dX12_bothOf_0 : decode cX12_bothOf 0 = .ok (.aload_n 0, 1) := by decide +kernel
theorem dX12_bothOf_1 : decode cX12_bothOf 1 = .ok (.iload_n 1, 1) := by decide +kernel
theorem dX12_bothOf_2 : decode cX12_bothOf 2 = .ok (.invokevirtual 329, 3) := by decide +kernel
theorem dX12_bothOf_5 : decode cX12_bothOf 5 = .ok (.istore_n 2, 1) := by decide +kernel
theorem dX12_bothOf_6 : decode cX12_bothOf 6 = .ok (.aload_n 0, 1) := by decide +kernel
theorem dX12_bothOf_7 : decode cX12_bothOf 7 = .ok (.bipush 6, 2) := by decide +kernel
theorem dX12_bothOf_9 : decode cX12_bothOf 9 = .ok (.invokevirtual 305, 3) := by decide +kernel
theorem dX12_bothOf_12 : decode cX12_bothOf 12 = .ok (.ifCond .eq 38, 3) := by decide +kernel
theorem dX12_bothOf_15 : decode cX12_bothOf 15 = .ok (.aload_n 0, 1) := by decide +kernel
theorem dX12_bothOf_16 : decode cX12_bothOf 16 = .ok (.iload_n 1, 1) := by decide +kernel
theorem dX12_bothOf_17 : decode cX12_bothOf 17 = .ok (.ifCond .eq 11, 3) := by decide +kernel
theorem dX12_bothOf_20 : decode cX12_bothOf 20 = .ok (.iload_n 2, 1) := by decide +kernel
theorem dX12_bothOf_21 : decode cX12_bothOf 21 = .ok (.ifCond .eq 7, 3) := by decide +kernel
theorem dX12_bothOf_24 : decode cX12_bothOf 24 = .ok (.iconst 1, 1) := by decide +kernel
theorem dX12_bothOf_25 : decode cX12_bothOf 25 = .ok (.goto 4, 3) := by decide +kernel
theorem dX12_bothOf_28 : decode cX12_bothOf 28 = .ok (.iconst 0, 1) := by decide +kernel
theorem dX12_bothOf_29 : decode cX12_bothOf 29 = .ok (.invokevirtual 329, 3) := by decide +kernel
theorem dX12_bothOf_32 : decode cX12_bothOf 32 = .ok (.istore_n 3, 1) := by decide +kernel
theorem dX12_bothOf_33 : decode cX12_bothOf 33 = .ok (.iload_n 2, 1) := by decide +kernel
theorem dX12_bothOf_34 : decode cX12_bothOf 34 = .ok (.ifCond .eq 11, 3) := by decide +kernel
theorem dX12_bothOf_37 : decode cX12_bothOf 37 = .ok (.iload_n 3, 1) := by decide +kernel
theorem dX12_bothOf_38 : decode cX12_bothOf 38 = .ok (.ifCond .eq 7, 3) := by decide +kernel
theorem dX12_bothOf_41 : decode cX12_bothOf 41 = .ok (.iconst 1, 1) := by decide +kernel
theorem dX12_bothOf_42 : decode cX12_bothOf 42 = .ok (.goto 4, 3) := by decide +kernel
theorem dX12_bothOf_45 : decode cX12_bothOf 45 = .ok (.iconst 0, 1) := by decide +kernel
theorem dX12_bothOf_46 : decode cX12_bothOf 46 = .ok (.istore_n 2, 1) := by decide +kernel
theorem dX12_bothOf_47 : decode cX12_bothOf 47 = .ok (.goto (-41), 3) := by decide +kernel
theorem dX12_bothOf_50 : decode cX12_bothOf 50 = .ok (.iload_n 2, 1) := by decide +kernel
theorem dX12_bothOf_51 : decode cX12_bothOf 51 = .ok (.ireturn, 1) := by decide +kernel
theorem dX12_plainOf_0 : decode cX12_plainOf 0 = .ok (.iconst 0, 1) := by decide +kernel
theorem dX12_plainOf_1 : decode cX12_plainOf 1 = .ok (.istore_n 2, 1) := by decide +kernel
theorem dX12_plainOf_2 : decode cX12_plainOf 2 = .ok (.aload_n 0, 1) := by decide +kernel
theorem dX12_plainOf_3 : decode cX12_plainOf 3 = .ok (.bipush 7, 2) := by decide +kernel
theorem dX12_plainOf_5 : decode cX12_plainOf 5 = .ok (.invokevirtual 305, 3) := by decide +kernel
theorem dX12_plainOf_8 : decode cX12_plainOf 8 = .ok (.ifCond .eq 16, 3) := by decide +kernel
theorem dX12_plainOf_11 : decode cX12_plainOf 11 = .ok (.iload_n 2, 1) := by decide +kernel
theorem dX12_plainOf_12 : decode cX12_plainOf 12 = .ok (.ifCond .ne 7, 3) := by decide +kernel
theorem dX12_plainOf_15 : decode cX12_plainOf 15 = .ok (.iconst 1, 1) := by decide +kernel
theorem dX12_plainOf_16 : decode cX12_plainOf 16 = .ok (.goto 4, 3) := by decide +kernel
theorem dX12_plainOf_19 : decode cX12_plainOf 19 = .ok (.iconst 0, 1) := by decide +kernel
theorem dX12_plainOf_20 : decode cX12_plainOf 20 = .ok (.istore_n 2, 1) := by decide +kernel
theorem dX12_plainOf_21 : decode cX12_plainOf 21 = .ok (.goto (-19), 3) := by decide +kernel
theorem dX12_plainOf_24 : decode cX12_plainOf 24 = .ok (.aload_n 0, 1) := by decide +kernel
theorem dX12_plainOf_25 : decode cX12_plainOf 25 = .ok (.iload_n 1, 1) := by decide +kernel
theorem dX12_plainOf_26 : decode cX12_plainOf 26 = .ok (.invokevirtual 332, 3) := by decide +kernel
theorem dX12_plainOf_29 : decode cX12_plainOf 29 = .ok (.iload_n 2, 1) := by decide +kernel
theorem dX12_plainOf_30 : decode cX12_plainOf 30 = .ok (.if_icmp .eq 7, 3) := by decide +kernel
theorem dX12_plainOf_33 : decode cX12_plainOf 33 = .ok (.iconst 1, 1) := by decide +kernel
theorem dX12_plainOf_34 : decode cX12_plainOf 34 = .ok (.goto 4, 3) := by decide +kernel
theorem dX12_plainOf_37 : decode cX12_plainOf 37 = .ok (.iconst 0, 1) := by decide +kernel
theorem dX12_plainOf_38 : decode cX12_plainOf 38 = .ok (.ireturn, 1) := by decide +kernel
theorem dX12_positiveOf_0 : decode cX12_positiveOf 0 = .ok (.aload_n 0, 1) := by decide +kernel
theorem dX12_positiveOf_1 : decode cX12_positiveOf 1 = .ok (.bipush 40, 2) := by decide +kernel
theorem dX12_positiveOf_3 : decode cX12_positiveOf 3 = .ok (.invokestatic 240, 3) := by decide +kernel
theorem dX12_positiveOf_6 : decode cX12_positiveOf 6 = .ok (.invokevirtual 305, 3) := by decide +kernel
theorem dX12_positiveOf_9 : decode cX12_positiveOf 9 = .ok (.ifCond .eq 21, 3) := by decide +kernel
theorem dX12_positiveOf_12 : decode cX12_positiveOf 12 = .ok (.aload_n 0, 1) := by decide +kernel
theorem dX12_positiveOf_13 : decode cX12_positiveOf 13 = .ok (.iload_n 1, 1) := by decide +kernel
theorem dX12_positiveOf_14 : decode cX12_positiveOf 14 = .ok (.invokevirtual 335, 3) := by decide +kernel
theorem dX12_positiveOf_17 : decode cX12_positiveOf 17 = .ok (.istore_n 2, 1) := by decide +kernel
theorem dX12_positiveOf_18 : decode cX12_positiveOf 18 = .ok (.aload_n 0, 1) := by decide +kernel
theorem dX12_positiveOf_19 : decode cX12_positiveOf 19 = .ok (.dup, 1) := by decide +kernel
theorem dX12_positiveOf_20 : decode cX12_positiveOf 20 = .ok (.getfield 281, 3) := by decide +kernel
theorem dX12_positiveOf_23 : decode cX12_positiveOf 23 = .ok (.iconst 1, 1) := by decide +kernel
theorem dX12_positiveOf_24 : decode cX12_positiveOf 24 = .ok (.iadd, 1) := by decide +kernel
theorem dX12_positiveOf_25 : decode cX12_positiveOf 25 = .ok (.putfield 281, 3) := by decide +kernel
theorem dX12_positiveOf_28 : decode cX12_positiveOf 28 = .ok (.iload_n 2, 1) := by decide +kernel
theorem dX12_positiveOf_29 : decode cX12_positiveOf 29 = .ok (.ireturn, 1) := by decide +kernel
theorem dX12_positiveOf_30 : decode cX12_positiveOf 30 = .ok (.aload_n 0, 1) := by decide +kernel
theorem dX12_positiveOf_31 : decode cX12_positiveOf 31 = .ok (.iload_n 1, 1) := by decide +kernel
theorem dX12_positiveOf_32 : decode cX12_positiveOf 32 = .ok (.invokevirtual 308, 3) := by decide +kernel
theorem dX12_positiveOf_35 : decode cX12_positiveOf 35 = .ok (.lstore_n 2, 1) := by decide +kernel
theorem dX12_positiveOf_36 : decode cX12_positiveOf 36 = .ok (.aload_n 0, 1) := by decide +kernel
theorem dX12_positiveOf_37 : decode cX12_positiveOf 37 = .ok (.aload_n 0, 1) := by decide +kernel
theorem dX12_positiveOf_38 : decode cX12_positiveOf 38 = .ok (.getfield 281, 3) := by decide +kernel
theorem dX12_positiveOf_41 : decode cX12_positiveOf 41 = .ok (.invokevirtual 284, 3) := by decide +kernel
theorem dX12_positiveOf_44 : decode cX12_positiveOf 44 = .ok (.istore 4, 2) := by decide +kernel
theorem dX12_positiveOf_46 : decode cX12_positiveOf 46 = .ok (.aload_n 0, 1) := by decide +kernel
theorem dX12_positiveOf_47 : decode cX12_positiveOf 47 = .ok (.dup, 1) := by decide +kernel
theorem dX12_positiveOf_48 : decode cX12_positiveOf 48 = .ok (.getfield 281, 3) := by decide +kernel
theorem dX12_positiveOf_51 : decode cX12_positiveOf 51 = .ok (.iconst 1, 1) := by decide +kernel
theorem dX12_positiveOf_52 : decode cX12_positiveOf 52 = .ok (.iadd, 1) := by decide +kernel
theorem dX12_positiveOf_53 : decode cX12_positiveOf 53 = .ok (.putfield 281, 3) := by decide +kernel
theorem dX12_positiveOf_56 : decode cX12_positiveOf 56 = .ok (.aload_n 0, 1) := by decide +kernel
theorem dX12_positiveOf_57 : decode cX12_positiveOf 57 = .ok (.iload_n 1, 1) := by decide +kernel
theorem dX12_positiveOf_58 : decode cX12_positiveOf 58 = .ok (.invokevirtual 308, 3) := by decide +kernel
theorem dX12_positiveOf_61 : decode cX12_positiveOf 61 = .ok (.lstore 5, 2) := by decide +kernel
theorem dX12_positiveOf_63 : decode cX12_positiveOf 63 = .ok (.iload_n 1, 1) := by decide +kernel
theorem dX12_positiveOf_64 : decode cX12_positiveOf 64 = .ok (.ifCond .eq 61, 3) := by decide +kernel
theorem dX12_positiveOf_67 : decode cX12_positiveOf 67 = .ok (.aload_n 0, 1) := by decide +kernel
theorem dX12_positiveOf_68 : decode cX12_positiveOf 68 = .ok (.getfield 291, 3) := by decide +kernel
theorem dX12_positiveOf_71 : decode cX12_positiveOf 71 = .ok (.ifCond .ne 54, 3) := by decide +kernel
theorem dX12_positiveOf_74 : decode cX12_positiveOf 74 = .ok (.iload 4, 2) := by decide +kernel
theorem dX12_positiveOf_76 : decode cX12_positiveOf 76 = .ok (.bipush 60, 2) := by decide +kernel
theorem dX12_positiveOf_78 : decode cX12_positiveOf 78 = .ok (.invokestatic 240, 3) := by decide +kernel
theorem dX12_positiveOf_81 : decode cX12_positiveOf 81 = .ok (.if_icmp .ne 13, 3) := by decide +kernel
theorem dX12_positiveOf_84 : decode cX12_positiveOf 84 = .ok (.lload_n 2, 1) := by decide +kernel
theorem dX12_positiveOf_85 : decode cX12_positiveOf 85 = .ok (.lload 5, 2) := by decide +kernel
theorem dX12_positiveOf_87 : decode cX12_positiveOf 87 = .ok (.lcmp, 1) := by decide +kernel
theorem dX12_positiveOf_88 : decode cX12_positiveOf 88 = .ok (.ifCond .ge 37, 3) := by decide +kernel
theorem dX12_positiveOf_91 : decode cX12_positiveOf 91 = .ok (.goto 30, 3) := by decide +kernel
theorem dX12_positiveOf_94 : decode cX12_positiveOf 94 = .ok (.iload 4, 2) := by decide +kernel
theorem dX12_positiveOf_96 : decode cX12_positiveOf 96 = .ok (.bipush 62, 2) := by decide +kernel
theorem dX12_positiveOf_98 : decode cX12_positiveOf 98 = .ok (.invokestatic 240, 3) := by decide +kernel
theorem dX12_positiveOf_101 : decode cX12_positiveOf 101 = .ok (.if_icmp .ne 13, 3) := by decide +kernel
theorem dX12_positiveOf_104 : decode cX12_positiveOf 104 = .ok (.lload_n 2, 1) := by decide +kernel
theorem dX12_positiveOf_105 : decode cX12_positiveOf 105 = .ok (.lload 5, 2) := by decide +kernel
theorem dX12_positiveOf_107 : decode cX12_positiveOf 107 = .ok (.lcmp, 1) := by decide +kernel
theorem dX12_positiveOf_108 : decode cX12_positiveOf 108 = .ok (.ifCond .le 17, 3) := by decide +kernel
theorem dX12_positiveOf_111 : decode cX12_positiveOf 111 = .ok (.goto 10, 3) := by decide +kernel
theorem dX12_positiveOf_114 : decode cX12_positiveOf 114 = .ok (.lload_n 2, 1) := by decide +kernel
theorem dX12_positiveOf_115 : decode cX12_positiveOf 115 = .ok (.lload 5, 2) := by decide +kernel
theorem dX12_positiveOf_117 : decode cX12_positiveOf 117 = .ok (.lcmp, 1) := by decide +kernel
theorem dX12_positiveOf_118 : decode cX12_positiveOf 118 = .ok (.ifCond .ne 7, 3) := by decide +kernel
theorem dX12_positiveOf_121 : decode cX12_positiveOf 121 = .ok (.iconst 1, 1) := by decide +kernel
theorem dX12_positiveOf_122 : decode cX12_positiveOf 122 = .ok (.goto 4, 3) := by decide +kernel
theorem dX12_positiveOf_125 : decode cX12_positiveOf 125 = .ok (.iconst 0, 1) := by decide +kernel
theorem dX12_positiveOf_126 : decode cX12_positiveOf 126 = .ok (.ireturn, 1) := by decide +kernel
theorem dX12_setsAsked_0 : decode cX12_setsAsked 0 = .ok (.aload_n 0, 1) := by decide +kernel
theorem dX12_setsAsked_1 : decode cX12_setsAsked 1 = .ok (.getfield 63, 3) := by decide +kernel
theorem dX12_setsAsked_4 : decode cX12_setsAsked 4 = .ok (.iconst 0, 1) := by decide +kernel
theorem dX12_setsAsked_5 : decode cX12_setsAsked 5 = .ok (.iload_n 1, 1) := by decide +kernel
theorem dX12_setsAsked_6 : decode cX12_setsAsked 6 = .ok (.iastore, 1) := by decide +kernel
theorem dX12_setsAsked_7 : decode cX12_setsAsked 7 = .ok (.aload_n 0, 1) := by decide +kernel
theorem dX12_setsAsked_8 : decode cX12_setsAsked 8 = .ok (.getfield 63, 3) := by decide +kernel
theorem dX12_setsAsked_11 : decode cX12_setsAsked 11 = .ok (.iconst 1, 1) := by decide +kernel
theorem dX12_setsAsked_12 : decode cX12_setsAsked 12 = .ok (.aload_n 0, 1) := by decide +kernel
theorem dX12_setsAsked_13 : decode cX12_setsAsked 13 = .ok (.getfield 28, 3) := by decide +kernel
theorem dX12_setsAsked_16 : decode cX12_setsAsked 16 = .ok (.bipush 29, 2) := by decide +kernel
theorem dX12_setsAsked_18 : decode cX12_setsAsked 18 = .ok (.iload_n 1, 1) := by decide +kernel
theorem dX12_setsAsked_19 : decode cX12_setsAsked 19 = .ok (.iadd, 1) := by decide +kernel
theorem dX12_setsAsked_20 : decode cX12_setsAsked 20 = .ok (.iaload, 1) := by decide +kernel
theorem dX12_setsAsked_21 : decode cX12_setsAsked 21 = .ok (.iastore, 1) := by decide +kernel
theorem dX12_setsAsked_22 : decode cX12_setsAsked 22 = .ok (.aload_n 0, 1) := by decide +kernel
theorem dX12_setsAsked_23 : decode cX12_setsAsked 23 = .ok (.getfield 63, 3) := by decide +kernel
theorem dX12_setsAsked_26 : decode cX12_setsAsked 26 = .ok (.iconst 2, 1) := by decide +kernel
theorem dX12_setsAsked_27 : decode cX12_setsAsked 27 = .ok (.aload_n 0, 1) := by decide +kernel
theorem dX12_setsAsked_28 : decode cX12_setsAsked 28 = .ok (.getfield 28, 3) := by decide +kernel
theorem dX12_setsAsked_31 : decode cX12_setsAsked 31 = .ok (.bipush 38, 2) := by decide +kernel
theorem dX12_setsAsked_33 : decode cX12_setsAsked 33 = .ok (.iload_n 1, 1) := by decide +kernel
theorem dX12_setsAsked_34 : decode cX12_setsAsked 34 = .ok (.iadd, 1) := by decide +kernel
theorem dX12_setsAsked_35 : decode cX12_setsAsked 35 = .ok (.iaload, 1) := by decide +kernel
theorem dX12_setsAsked_36 : decode cX12_setsAsked 36 = .ok (.iastore, 1) := by decide +kernel
theorem dX12_setsAsked_37 : decode cX12_setsAsked 37 = .ok (.aload_n 0, 1) := by decide +kernel
theorem dX12_setsAsked_38 : decode cX12_setsAsked 38 = .ok (.getfield 63, 3) := by decide +kernel
theorem dX12_setsAsked_41 : decode cX12_setsAsked 41 = .ok (.iconst 3, 1) := by decide +kernel
theorem dX12_setsAsked_42 : decode cX12_setsAsked 42 = .ok (.iload_n 2, 1) := by decide +kernel
theorem dX12_setsAsked_43 : decode cX12_setsAsked 43 = .ok (.iastore, 1) := by decide +kernel
theorem dX12_setsAsked_44 : decode cX12_setsAsked 44 = .ok (.aload_n 0, 1) := by decide +kernel
theorem dX12_setsAsked_45 : decode cX12_setsAsked 45 = .ok (.getfield 63, 3) := by decide +kernel
theorem dX12_setsAsked_48 : decode cX12_setsAsked 48 = .ok (.iconst 4, 1) := by decide +kernel
theorem dX12_setsAsked_49 : decode cX12_setsAsked 49 = .ok (.iload_n 3, 1) := by decide +kernel
theorem dX12_setsAsked_50 : decode cX12_setsAsked 50 = .ok (.iastore, 1) := by decide +kernel
theorem dX12_setsAsked_51 : decode cX12_setsAsked 51 = .ok (.aload_n 0, 1) := by decide +kernel
theorem dX12_setsAsked_52 : decode cX12_setsAsked 52 = .ok (.getfield 63, 3) := by decide +kernel
theorem dX12_setsAsked_55 : decode cX12_setsAsked 55 = .ok (.iconst 5, 1) := by decide +kernel
theorem dX12_setsAsked_56 : decode cX12_setsAsked 56 = .ok (.aload_n 0, 1) := by decide +kernel
theorem dX12_setsAsked_57 : decode cX12_setsAsked 57 = .ok (.getfield 28, 3) := by decide +kernel
theorem dX12_setsAsked_60 : decode cX12_setsAsked 60 = .ok (.bipush 66, 2) := by decide +kernel
theorem dX12_setsAsked_62 : decode cX12_setsAsked 62 = .ok (.iaload, 1) := by decide +kernel
theorem dX12_setsAsked_63 : decode cX12_setsAsked 63 = .ok (.iastore, 1) := by decide +kernel
theorem dX12_setsAsked_64 : decode cX12_setsAsked 64 = .ok (.aload_n 0, 1) := by decide +kernel
theorem dX12_setsAsked_65 : decode cX12_setsAsked 65 = .ok (.getfield 63, 3) := by decide +kernel
theorem dX12_setsAsked_68 : decode cX12_setsAsked 68 = .ok (.bipush 6, 2) := by decide +kernel
theorem dX12_setsAsked_70 : decode cX12_setsAsked 70 = .ok (.aload_n 0, 1) := by decide +kernel
theorem dX12_setsAsked_71 : decode cX12_setsAsked 71 = .ok (.getfield 28, 3) := by decide +kernel
theorem dX12_setsAsked_74 : decode cX12_setsAsked 74 = .ok (.iconst 0, 1) := by decide +kernel
theorem dX12_setsAsked_75 : decode cX12_setsAsked 75 = .ok (.iload_n 1, 1) := by decide +kernel
theorem dX12_setsAsked_76 : decode cX12_setsAsked 76 = .ok (.iadd, 1) := by decide +kernel
theorem dX12_setsAsked_77 : decode cX12_setsAsked 77 = .ok (.iaload, 1) := by decide +kernel
theorem dX12_setsAsked_78 : decode cX12_setsAsked 78 = .ok (.iastore, 1) := by decide +kernel
theorem dX12_setsAsked_79 : decode cX12_setsAsked 79 = .ok (.aload_n 0, 1) := by decide +kernel
theorem dX12_setsAsked_80 : decode cX12_setsAsked 80 = .ok (.getfield 63, 3) := by decide +kernel
theorem dX12_setsAsked_83 : decode cX12_setsAsked 83 = .ok (.bipush 7, 2) := by decide +kernel
theorem dX12_setsAsked_85 : decode cX12_setsAsked 85 = .ok (.aload_n 0, 1) := by decide +kernel
theorem dX12_setsAsked_86 : decode cX12_setsAsked 86 = .ok (.getfield 28, 3) := by decide +kernel
theorem dX12_setsAsked_89 : decode cX12_setsAsked 89 = .ok (.bipush 28, 2) := by decide +kernel
theorem dX12_setsAsked_91 : decode cX12_setsAsked 91 = .ok (.iaload, 1) := by decide +kernel
theorem dX12_setsAsked_92 : decode cX12_setsAsked 92 = .ok (.iastore, 1) := by decide +kernel
theorem dX12_setsAsked_93 : decode cX12_setsAsked 93 = .ok (.return_, 1) := by decide +kernel
theorem dX12_tells_0 : decode cX12_tells 0 = .ok (.aload_n 0, 1) := by decide +kernel
theorem dX12_tells_1 : decode cX12_tells 1 = .ok (.getfield 28, 3) := by decide +kernel
theorem dX12_tells_4 : decode cX12_tells 4 = .ok (.bipush 72, 2) := by decide +kernel
theorem dX12_tells_6 : decode cX12_tells 6 = .ok (.iaload, 1) := by decide +kernel
theorem dX12_tells_7 : decode cX12_tells 7 = .ok (.iconst (-1), 1) := by decide +kernel
theorem dX12_tells_8 : decode cX12_tells 8 = .ok (.if_icmp .ne 6, 3) := by decide +kernel
theorem dX12_tells_11 : decode cX12_tells 11 = .ok (.iload 6, 2) := by decide +kernel
theorem dX12_tells_13 : decode cX12_tells 13 = .ok (.ireturn, 1) := by decide +kernel
theorem dX12_tells_14 : decode cX12_tells 14 = .ok (.aload_n 0, 1) := by decide +kernel
theorem dX12_tells_15 : decode cX12_tells 15 = .ok (.iload_n 2, 1) := by decide +kernel
theorem dX12_tells_16 : decode cX12_tells 16 = .ok (.iload_n 3, 1) := by decide +kernel
theorem dX12_tells_17 : decode cX12_tells 17 = .ok (.iload 4, 2) := by decide +kernel
theorem dX12_tells_19 : decode cX12_tells 19 = .ok (.invokevirtual 338, 3) := by decide +kernel
theorem dX12_tells_22 : decode cX12_tells 22 = .ok (.aload_n 0, 1) := by decide +kernel
theorem dX12_tells_23 : decode cX12_tells 23 = .ok (.iconst 0, 1) := by decide +kernel
theorem dX12_tells_24 : decode cX12_tells 24 = .ok (.putfield 311, 3) := by decide +kernel
theorem dX12_tells_27 : decode cX12_tells 27 = .ok (.iload 6, 2) := by decide +kernel
theorem dX12_tells_29 : decode cX12_tells 29 = .ok (.i2l, 1) := by decide +kernel
theorem dX12_tells_30 : decode cX12_tells 30 = .ok (.lstore 7, 2) := by decide +kernel
theorem dX12_tells_32 : decode cX12_tells 32 = .ok (.aload_n 0, 1) := by decide +kernel
theorem dX12_tells_33 : decode cX12_tells 33 = .ok (.sipush 400, 3) := by decide +kernel
theorem dX12_tells_36 : decode cX12_tells 36 = .ok (.aload_n 0, 1) := by decide +kernel
theorem dX12_tells_37 : decode cX12_tells 37 = .ok (.getfield 28, 3) := by decide +kernel
theorem dX12_tells_40 : decode cX12_tells 40 = .ok (.bipush 72, 2) := by decide +kernel
theorem dX12_tells_42 : decode cX12_tells 42 = .ok (.iaload, 1) := by decide +kernel
theorem dX12_tells_43 : decode cX12_tells 43 = .ok (.imul, 1) := by decide +kernel
theorem dX12_tells_44 : decode cX12_tells 44 = .ok (.putfield 281, 3) := by decide +kernel
theorem dX12_tells_47 : decode cX12_tells 47 = .ok (.aload_n 0, 1) := by decide +kernel
theorem dX12_tells_48 : decode cX12_tells 48 = .ok (.aload_n 0, 1) := by decide +kernel
theorem dX12_tells_49 : decode cX12_tells 49 = .ok (.getfield 281, 3) := by decide +kernel
theorem dX12_tells_52 : decode cX12_tells 52 = .ok (.aload_n 0, 1) := by decide +kernel
theorem dX12_tells_53 : decode cX12_tells 53 = .ok (.getfield 28, 3) := by decide +kernel
theorem dX12_tells_56 : decode cX12_tells 56 = .ok (.bipush 73, 2) := by decide +kernel
theorem dX12_tells_58 : decode cX12_tells 58 = .ok (.aload_n 0, 1) := by decide +kernel
theorem dX12_tells_59 : decode cX12_tells 59 = .ok (.getfield 28, 3) := by decide +kernel
theorem dX12_tells_62 : decode cX12_tells 62 = .ok (.bipush 72, 2) := by decide +kernel
theorem dX12_tells_64 : decode cX12_tells 64 = .ok (.iaload, 1) := by decide +kernel
theorem dX12_tells_65 : decode cX12_tells 65 = .ok (.iadd, 1) := by decide +kernel
theorem dX12_tells_66 : decode cX12_tells 66 = .ok (.iaload, 1) := by decide +kernel
theorem dX12_tells_67 : decode cX12_tells 67 = .ok (.iadd, 1) := by decide +kernel
theorem dX12_tells_68 : decode cX12_tells 68 = .ok (.putfield 278, 3) := by decide +kernel
theorem dX12_tells_71 : decode cX12_tells 71 = .ok (.aload_n 0, 1) := by decide +kernel
theorem dX12_tells_72 : decode cX12_tells 72 = .ok (.getfield 281, 3) := by decide +kernel
theorem dX12_tells_75 : decode cX12_tells 75 = .ok (.aload_n 0, 1) := by decide +kernel
theorem dX12_tells_76 : decode cX12_tells 76 = .ok (.getfield 278, 3) := by decide +kernel
theorem dX12_tells_79 : decode cX12_tells 79 = .ok (.if_icmp .ge 145, 3) := by decide +kernel
theorem dX12_tells_82 : decode cX12_tells 82 = .ok (.aload_n 0, 1) := by decide +kernel
theorem dX12_tells_83 : decode cX12_tells 83 = .ok (.aload_n 0, 1) := by decide +kernel
theorem dX12_tells_84 : decode cX12_tells 84 = .ok (.getfield 281, 3) := by decide +kernel
theorem dX12_tells_87 : decode cX12_tells 87 = .ok (.invokevirtual 284, 3) := by decide +kernel
theorem dX12_tells_90 : decode cX12_tells 90 = .ok (.istore 9, 2) := by decide +kernel
theorem dX12_tells_92 : decode cX12_tells 92 = .ok (.aload_n 0, 1) := by decide +kernel
theorem dX12_tells_93 : decode cX12_tells 93 = .ok (.iconst 0, 1) := by decide +kernel
theorem dX12_tells_94 : decode cX12_tells 94 = .ok (.putfield 291, 3) := by decide +kernel
theorem dX12_tells_97 : decode cX12_tells 97 = .ok (.aload_n 0, 1) := by decide +kernel
theorem dX12_tells_98 : decode cX12_tells 98 = .ok (.dup, 1) := by decide +kernel
theorem dX12_tells_99 : decode cX12_tells 99 = .ok (.getfield 281, 3) := by decide +kernel
theorem dX12_tells_102 : decode cX12_tells 102 = .ok (.iconst 1, 1) := by decide +kernel
theorem dX12_tells_103 : decode cX12_tells 103 = .ok (.iadd, 1) := by decide +kernel
theorem dX12_tells_104 : decode cX12_tells 104 = .ok (.putfield 281, 3) := by decide +kernel
theorem dX12_tells_107 : decode cX12_tells 107 = .ok (.iload 9, 2) := by decide +kernel
theorem dX12_tells_109 : decode cX12_tells 109 = .ok (.iconst 3, 1) := by decide +kernel
theorem dX12_tells_110 : decode cX12_tells 110 = .ok (.if_icmp .ne 7, 3) := by decide +kernel
theorem dX12_tells_113 : decode cX12_tells 113 = .ok (.lconst 1, 1) := by decide +kernel
theorem dX12_tells_114 : decode cX12_tells 114 = .ok (.goto 8, 3) := by decide +kernel
theorem dX12_tells_117 : decode cX12_tells 117 = .ok (.aload_n 0, 1) := by decide +kernel
theorem dX12_tells_118 : decode cX12_tells 118 = .ok (.iconst 1, 1) := by decide +kernel
theorem dX12_tells_119 : decode cX12_tells 119 = .ok (.invokevirtual 308, 3) := by decide +kernel
theorem dX12_tells_122 : decode cX12_tells 122 = .ok (.lstore 10, 2) := by decide +kernel
theorem dX12_tells_124 : decode cX12_tells 124 = .ok (.aload_n 0, 1) := by decide +kernel
theorem dX12_tells_125 : decode cX12_tells 125 = .ok (.getfield 291, 3) := by decide +kernel
theorem dX12_tells_128 : decode cX12_tells 128 = .ok (.istore 12, 2) := by decide +kernel
theorem dX12_tells_130 : decode cX12_tells 130 = .ok (.aload_n 0, 1) := by decide +kernel
theorem dX12_tells_131 : decode cX12_tells 131 = .ok (.iconst 0, 1) := by decide +kernel
theorem dX12_tells_132 : decode cX12_tells 132 = .ok (.putfield 291, 3) := by decide +kernel
theorem dX12_tells_135 : decode cX12_tells 135 = .ok (.aload_n 0, 1) := by decide +kernel
theorem dX12_tells_136 : decode cX12_tells 136 = .ok (.iconst 4, 1) := by decide +kernel
theorem dX12_tells_137 : decode cX12_tells 137 = .ok (.invokevirtual 305, 3) := by decide +kernel
theorem dX12_tells_140 : decode cX12_tells 140 = .ok (.ifCond .eq 11, 3) := by decide +kernel
theorem dX12_tells_143 : decode cX12_tells 143 = .ok (.aload_n 0, 1) := by decide +kernel
theorem dX12_tells_144 : decode cX12_tells 144 = .ok (.iconst 1, 1) := by decide +kernel
theorem dX12_tells_145 : decode cX12_tells 145 = .ok (.invokevirtual 335, 3) := by decide +kernel
theorem dX12_tells_148 : decode cX12_tells 148 = .ok (.ifCond .eq 7, 3) := by decide +kernel
theorem dX12_tells_151 : decode cX12_tells 151 = .ok (.iconst 1, 1) := by decide +kernel
theorem dX12_tells_152 : decode cX12_tells 152 = .ok (.goto 4, 3) := by decide +kernel
theorem dX12_tells_155 : decode cX12_tells 155 = .ok (.iconst 0, 1) := by decide +kernel
theorem dX12_tells_156 : decode cX12_tells 156 = .ok (.istore 13, 2) := by decide +kernel
theorem dX12_tells_158 : decode cX12_tells 158 = .ok (.iload 9, 2) := by decide +kernel
theorem dX12_tells_160 : decode cX12_tells 160 = .ok (.iload_n 1, 1) := by decide +kernel
theorem dX12_tells_161 : decode cX12_tells 161 = .ok (.if_icmp .ne 50, 3) := by decide +kernel
theorem dX12_tells_164 : decode cX12_tells 164 = .ok (.iload 13, 2) := by decide +kernel
theorem dX12_tells_166 : decode cX12_tells 166 = .ok (.ifCond .eq 45, 3) := by decide +kernel
theorem dX12_tells_169 : decode cX12_tells 169 = .ok (.aload_n 0, 1) := by decide +kernel
theorem dX12_tells_170 : decode cX12_tells 170 = .ok (.getfield 291, 3) := by decide +kernel
theorem dX12_tells_173 : decode cX12_tells 173 = .ok (.ifCond .ne 38, 3) := by decide +kernel
theorem dX12_tells_176 : decode cX12_tells 176 = .ok (.iload 12, 2) := by decide +kernel
theorem dX12_tells_178 : decode cX12_tells 178 = .ok (.ifCond .ne 33, 3) := by decide +kernel
theorem dX12_tells_181 : decode cX12_tells 181 = .ok (.lload 10, 2) := by decide +kernel
theorem dX12_tells_183 : decode cX12_tells 183 = .ok (.lconst 0, 1) := by decide +kernel
theorem dX12_tells_184 : decode cX12_tells 184 = .ok (.lcmp, 1) := by decide +kernel
theorem dX12_tells_185 : decode cX12_tells 185 = .ok (.ifCond .ge 7, 3) := by decide +kernel
theorem dX12_tells_188 : decode cX12_tells 188 = .ok (.lconst 0, 1) := by decide +kernel
theorem dX12_tells_189 : decode cX12_tells 189 = .ok (.goto 20, 3) := by decide +kernel
theorem dX12_tells_192 : decode cX12_tells 192 = .ok (.lload 10, 2) := by decide +kernel
theorem dX12_tells_194 : decode cX12_tells 194 = .ok (.iload 5, 2) := by decide +kernel
theorem dX12_tells_196 : decode cX12_tells 196 = .ok (.i2l, 1) := by decide +kernel
theorem dX12_tells_197 : decode cX12_tells 197 = .ok (.lcmp, 1) := by decide +kernel
theorem dX12_tells_198 : decode cX12_tells 198 = .ok (.ifCond .le 9, 3) := by decide +kernel
theorem dX12_tells_201 : decode cX12_tells 201 = .ok (.iload 5, 2) := by decide +kernel
theorem dX12_tells_203 : decode cX12_tells 203 = .ok (.i2l, 1) := by decide +kernel
theorem dX12_tells_204 : decode cX12_tells 204 = .ok (.goto 5, 3) := by decide +kernel
theorem dX12_tells_207 : decode cX12_tells 207 = .ok (.lload 10, 2) := by decide +kernel
theorem dX12_tells_209 : decode cX12_tells 209 = .ok (.lstore 7, 2) := by decide +kernel
theorem dX12_tells_211 : decode cX12_tells 211 = .ok (.aload_n 0, 1) := by decide +kernel
theorem dX12_tells_212 : decode cX12_tells 212 = .ok (.dup, 1) := by decide +kernel
theorem dX12_tells_213 : decode cX12_tells 213 = .ok (.getfield 281, 3) := by decide +kernel
theorem dX12_tells_216 : decode cX12_tells 216 = .ok (.iconst 1, 1) := by decide +kernel
theorem dX12_tells_217 : decode cX12_tells 217 = .ok (.iadd, 1) := by decide +kernel
theorem dX12_tells_218 : decode cX12_tells 218 = .ok (.putfield 281, 3) := by decide +kernel
theorem dX12_tells_221 : decode cX12_tells 221 = .ok (.goto (-150), 3) := by decide +kernel
theorem dX12_tells_224 : decode cX12_tells 224 = .ok (.lload 7, 2) := by decide +kernel
theorem dX12_tells_226 : decode cX12_tells 226 = .ok (.l2i, 1) := by decide +kernel
theorem dX12_tells_227 : decode cX12_tells 227 = .ok (.ireturn, 1) := by decide +kernel
theorem dX12_costsAt_0 : decode cX12_costsAt 0 = .ok (.aload_n 0, 1) := by decide +kernel
theorem dX12_costsAt_1 : decode cX12_costsAt 1 = .ok (.iconst 1, 1) := by decide +kernel
theorem dX12_costsAt_2 : decode cX12_costsAt 2 = .ok (.iload_n 1, 1) := by decide +kernel
theorem dX12_costsAt_3 : decode cX12_costsAt 3 = .ok (.iload_n 2, 1) := by decide +kernel
theorem dX12_costsAt_4 : decode cX12_costsAt 4 = .ok (.iload_n 3, 1) := by decide +kernel
theorem dX12_costsAt_5 : decode cX12_costsAt 5 = .ok (.bipush 99, 2) := by decide +kernel
theorem dX12_costsAt_7 : decode cX12_costsAt 7 = .ok (.aload_n 0, 1) := by decide +kernel
theorem dX12_costsAt_8 : decode cX12_costsAt 8 = .ok (.getfield 28, 3) := by decide +kernel
theorem dX12_costsAt_11 : decode cX12_costsAt 11 = .ok (.bipush 29, 2) := by decide +kernel
theorem dX12_costsAt_13 : decode cX12_costsAt 13 = .ok (.iload_n 1, 1) := by decide +kernel
theorem dX12_costsAt_14 : decode cX12_costsAt 14 = .ok (.iadd, 1) := by decide +kernel
theorem dX12_costsAt_15 : decode cX12_costsAt 15 = .ok (.iaload, 1) := by decide +kernel
theorem dX12_costsAt_16 : decode cX12_costsAt 16 = .ok (.invokevirtual 341, 3) := by decide +kernel
theorem dX12_costsAt_19 : decode cX12_costsAt 19 = .ok (.ireturn, 1) := by decide +kernel
theorem dX12_isBarred_0 : decode cX12_isBarred 0 = .ok (.aload_n 0, 1) := by decide +kernel
theorem dX12_isBarred_1 : decode cX12_isBarred 1 = .ok (.iconst 3, 1) := by decide +kernel
theorem dX12_isBarred_2 : decode cX12_isBarred 2 = .ok (.iload_n 1, 1) := by decide +kernel
theorem dX12_isBarred_3 : decode cX12_isBarred 3 = .ok (.iload_n 2, 1) := by decide +kernel
theorem dX12_isBarred_4 : decode cX12_isBarred 4 = .ok (.iload_n 3, 1) := by decide +kernel
theorem dX12_isBarred_5 : decode cX12_isBarred 5 = .ok (.iconst 1, 1) := by decide +kernel
theorem dX12_isBarred_6 : decode cX12_isBarred 6 = .ok (.iconst 0, 1) := by decide +kernel
theorem dX12_isBarred_7 : decode cX12_isBarred 7 = .ok (.invokevirtual 341, 3) := by decide +kernel
theorem dX12_isBarred_10 : decode cX12_isBarred 10 = .ok (.iconst 1, 1) := by decide +kernel
theorem dX12_isBarred_11 : decode cX12_isBarred 11 = .ok (.if_icmp .ne 7, 3) := by decide +kernel
theorem dX12_isBarred_14 : decode cX12_isBarred 14 = .ok (.iconst 1, 1) := by decide +kernel
theorem dX12_isBarred_15 : decode cX12_isBarred 15 = .ok (.goto 4, 3) := by decide +kernel
theorem dX12_isBarred_18 : decode cX12_isBarred 18 = .ok (.iconst 0, 1) := by decide +kernel
theorem dX12_isBarred_19 : decode cX12_isBarred 19 = .ok (.ireturn, 1) := by decide +kernel
theorem dX12_wearsNow_0 : decode cX12_wearsNow 0 = .ok (.aload_n 0, 1) := by decide +kernel
theorem dX12_wearsNow_1 : decode cX12_wearsNow 1 = .ok (.iconst 2, 1) := by decide +kernel
theorem dX12_wearsNow_2 : decode cX12_wearsNow 2 = .ok (.iload_n 1, 1) := by decide +kernel
theorem dX12_wearsNow_3 : decode cX12_wearsNow 3 = .ok (.aload_n 0, 1) := by decide +kernel
theorem dX12_wearsNow_4 : decode cX12_wearsNow 4 = .ok (.getfield 28, 3) := by decide +kernel
theorem dX12_wearsNow_7 : decode cX12_wearsNow 7 = .ok (.bipush 9, 2) := by decide +kernel
theorem dX12_wearsNow_9 : decode cX12_wearsNow 9 = .ok (.iload_n 1, 1) := by decide +kernel
theorem dX12_wearsNow_10 : decode cX12_wearsNow 10 = .ok (.iadd, 1) := by decide +kernel
theorem dX12_wearsNow_11 : decode cX12_wearsNow 11 = .ok (.iaload, 1) := by decide +kernel
theorem dX12_wearsNow_12 : decode cX12_wearsNow 12 = .ok (.aload_n 0, 1) := by decide +kernel
theorem dX12_wearsNow_13 : decode cX12_wearsNow 13 = .ok (.getfield 28, 3) := by decide +kernel
theorem dX12_wearsNow_16 : decode cX12_wearsNow 16 = .ok (.bipush 18, 2) := by decide +kernel
theorem dX12_wearsNow_18 : decode cX12_wearsNow 18 = .ok (.iload_n 1, 1) := by decide +kernel
theorem dX12_wearsNow_19 : decode cX12_wearsNow 19 = .ok (.iadd, 1) := by decide +kernel
theorem dX12_wearsNow_20 : decode cX12_wearsNow 20 = .ok (.iaload, 1) := by decide +kernel
theorem dX12_wearsNow_21 : decode cX12_wearsNow 21 = .ok (.bipush 9, 2) := by decide +kernel
theorem dX12_wearsNow_23 : decode cX12_wearsNow 23 = .ok (.iconst 1, 1) := by decide +kernel
theorem dX12_wearsNow_24 : decode cX12_wearsNow 24 = .ok (.invokevirtual 341, 3) := by decide +kernel
theorem dX12_wearsNow_27 : decode cX12_wearsNow 27 = .ok (.ireturn, 1) := by decide +kernel
theorem dX12_turnsSquare_0 : decode cX12_turnsSquare 0 = .ok (.iload_n 3, 1) := by decide +kernel
theorem dX12_turnsSquare_1 : decode cX12_turnsSquare 1 = .ok (.istore 4, 2) := by decide +kernel
theorem dX12_turnsSquare_3 : decode cX12_turnsSquare 3 = .ok (.iload 4, 2) := by decide +kernel
theorem dX12_turnsSquare_5 : decode cX12_turnsSquare 5 = .ok (.iload_n 3, 1) := by decide +kernel
theorem dX12_turnsSquare_6 : decode cX12_turnsSquare 6 = .ok (.iload_n 1, 1) := by decide +kernel
theorem dX12_turnsSquare_7 : decode cX12_turnsSquare 7 = .ok (.iadd, 1) := by decide +kernel
theorem dX12_turnsSquare_8 : decode cX12_turnsSquare 8 = .ok (.if_icmp .ge 26, 3) := by decide +kernel
theorem dX12_turnsSquare_11 : decode cX12_turnsSquare 11 = .ok (.aload_n 0, 1) := by decide +kernel
theorem dX12_turnsSquare_12 : decode cX12_turnsSquare 12 = .ok (.getfield 66, 3) := by decide +kernel
theorem dX12_turnsSquare_15 : decode cX12_turnsSquare 15 = .ok (.iload 4, 2) := by decide +kernel
theorem dX12_turnsSquare_17 : decode cX12_turnsSquare 17 = .ok (.dup2, 1) := by decide +kernel
theorem dX12_turnsSquare_18 : decode cX12_turnsSquare 18 = .ok (.iaload, 1) := by decide +kernel
theorem dX12_turnsSquare_19 : decode cX12_turnsSquare 19 = .ok (.iconst 1, 1) := by decide +kernel
theorem dX12_turnsSquare_20 : decode cX12_turnsSquare 20 = .ok (.iload_n 1, 1) := by decide +kernel
theorem dX12_turnsSquare_21 : decode cX12_turnsSquare 21 = .ok (.ishl, 1) := by decide +kernel
theorem dX12_turnsSquare_22 : decode cX12_turnsSquare 22 = .ok (.iconst 1, 1) := by decide +kernel
theorem dX12_turnsSquare_23 : decode cX12_turnsSquare 23 = .ok (.isub, 1) := by decide +kernel
theorem dX12_turnsSquare_24 : decode cX12_turnsSquare 24 = .ok (.iload_n 2, 1) := by decide +kernel
theorem dX12_turnsSquare_25 : decode cX12_turnsSquare 25 = .ok (.ishl, 1) := by decide +kernel
theorem dX12_turnsSquare_26 : decode cX12_turnsSquare 26 = .ok (.ixor, 1) := by decide +kernel
theorem dX12_turnsSquare_27 : decode cX12_turnsSquare 27 = .ok (.iastore, 1) := by decide +kernel
theorem dX12_turnsSquare_28 : decode cX12_turnsSquare 28 = .ok (.iinc 4 1, 3) := by decide +kernel
theorem dX12_turnsSquare_31 : decode cX12_turnsSquare 31 = .ok (.goto (-28), 3) := by decide +kernel
theorem dX12_turnsSquare_34 : decode cX12_turnsSquare 34 = .ok (.return_, 1) := by decide +kernel
theorem dX12_laysCovered_0 : decode cX12_laysCovered 0 = .ok (.iconst 0, 1) := by decide +kernel
theorem dX12_laysCovered_1 : decode cX12_laysCovered 1 = .ok (.istore_n 1, 1) := by decide +kernel
theorem dX12_laysCovered_2 : decode cX12_laysCovered 2 = .ok (.iload_n 1, 1) := by decide +kernel
theorem dX12_laysCovered_3 : decode cX12_laysCovered 3 = .ok (.bipush 12, 2) := by decide +kernel
theorem dX12_laysCovered_5 : decode cX12_laysCovered 5 = .ok (.if_icmp .ge 16, 3) := by decide +kernel
theorem dX12_laysCovered_8 : decode cX12_laysCovered 8 = .ok (.aload_n 0, 1) := by decide +kernel
theorem dX12_laysCovered_9 : decode cX12_laysCovered 9 = .ok (.getfield 66, 3) := by decide +kernel
theorem dX12_laysCovered_12 : decode cX12_laysCovered 12 = .ok (.iload_n 1, 1) := by decide +kernel
theorem dX12_laysCovered_13 : decode cX12_laysCovered 13 = .ok (.iconst 0, 1) := by decide +kernel
theorem dX12_laysCovered_14 : decode cX12_laysCovered 14 = .ok (.iastore, 1) := by decide +kernel
theorem dX12_laysCovered_15 : decode cX12_laysCovered 15 = .ok (.iinc 1 1, 3) := by decide +kernel
theorem dX12_laysCovered_18 : decode cX12_laysCovered 18 = .ok (.goto (-16), 3) := by decide +kernel
theorem dX12_laysCovered_21 : decode cX12_laysCovered 21 = .ok (.iconst 0, 1) := by decide +kernel
theorem dX12_laysCovered_22 : decode cX12_laysCovered 22 = .ok (.istore_n 1, 1) := by decide +kernel
theorem dX12_laysCovered_23 : decode cX12_laysCovered 23 = .ok (.iload_n 1, 1) := by decide +kernel
theorem dX12_laysCovered_24 : decode cX12_laysCovered 24 = .ok (.aload_n 0, 1) := by decide +kernel
theorem dX12_laysCovered_25 : decode cX12_laysCovered 25 = .ok (.invokevirtual 115, 3) := by decide +kernel
theorem dX12_laysCovered_28 : decode cX12_laysCovered 28 = .ok (.if_icmp .ge 48, 3) := by decide +kernel
theorem dX12_laysCovered_31 : decode cX12_laysCovered 31 = .ok (.aload_n 0, 1) := by decide +kernel
theorem dX12_laysCovered_32 : decode cX12_laysCovered 32 = .ok (.iload_n 1, 1) := by decide +kernel
theorem dX12_laysCovered_33 : decode cX12_laysCovered 33 = .ok (.invokevirtual 137, 3) := by decide +kernel
theorem dX12_laysCovered_36 : decode cX12_laysCovered 36 = .ok (.ifCond .eq 34, 3) := by decide +kernel
theorem dX12_laysCovered_39 : decode cX12_laysCovered 39 = .ok (.aload_n 0, 1) := by decide +kernel
theorem dX12_laysCovered_40 : decode cX12_laysCovered 40 = .ok (.aload_n 0, 1) := by decide +kernel
theorem dX12_laysCovered_41 : decode cX12_laysCovered 41 = .ok (.getfield 28, 3) := by decide +kernel
theorem dX12_laysCovered_44 : decode cX12_laysCovered 44 = .ok (.bipush 29, 2) := by decide +kernel
theorem dX12_laysCovered_46 : decode cX12_laysCovered 46 = .ok (.iload_n 1, 1) := by decide +kernel
theorem dX12_laysCovered_47 : decode cX12_laysCovered 47 = .ok (.iadd, 1) := by decide +kernel
theorem dX12_laysCovered_48 : decode cX12_laysCovered 48 = .ok (.iaload, 1) := by decide +kernel
theorem dX12_laysCovered_49 : decode cX12_laysCovered 49 = .ok (.aload_n 0, 1) := by decide +kernel
theorem dX12_laysCovered_50 : decode cX12_laysCovered 50 = .ok (.getfield 28, 3) := by decide +kernel
theorem dX12_laysCovered_53 : decode cX12_laysCovered 53 = .ok (.bipush 9, 2) := by decide +kernel
theorem dX12_laysCovered_55 : decode cX12_laysCovered 55 = .ok (.iload_n 1, 1) := by decide +kernel
theorem dX12_laysCovered_56 : decode cX12_laysCovered 56 = .ok (.iadd, 1) := by decide +kernel
theorem dX12_laysCovered_57 : decode cX12_laysCovered 57 = .ok (.iaload, 1) := by decide +kernel
theorem dX12_laysCovered_58 : decode cX12_laysCovered 58 = .ok (.aload_n 0, 1) := by decide +kernel
theorem dX12_laysCovered_59 : decode cX12_laysCovered 59 = .ok (.getfield 28, 3) := by decide +kernel
theorem dX12_laysCovered_62 : decode cX12_laysCovered 62 = .ok (.bipush 18, 2) := by decide +kernel
theorem dX12_laysCovered_64 : decode cX12_laysCovered 64 = .ok (.iload_n 1, 1) := by decide +kernel
theorem dX12_laysCovered_65 : decode cX12_laysCovered 65 = .ok (.iadd, 1) := by decide +kernel
theorem dX12_laysCovered_66 : decode cX12_laysCovered 66 = .ok (.iaload, 1) := by decide +kernel
theorem dX12_laysCovered_67 : decode cX12_laysCovered 67 = .ok (.invokevirtual 345, 3) := by decide +kernel
theorem dX12_laysCovered_70 : decode cX12_laysCovered 70 = .ok (.iinc 1 1, 3) := by decide +kernel
theorem dX12_laysCovered_73 : decode cX12_laysCovered 73 = .ok (.goto (-50), 3) := by decide +kernel
theorem dX12_laysCovered_76 : decode cX12_laysCovered 76 = .ok (.return_, 1) := by decide +kernel
theorem dX12_isFree_0 : decode cX12_isFree 0 = .ok (.iload_n 2, 1) := by decide +kernel
theorem dX12_isFree_1 : decode cX12_isFree 1 = .ok (.iload_n 1, 1) := by decide +kernel
theorem dX12_isFree_2 : decode cX12_isFree 2 = .ok (.iadd, 1) := by decide +kernel
theorem dX12_isFree_3 : decode cX12_isFree 3 = .ok (.iload 4, 2) := by decide +kernel
theorem dX12_isFree_5 : decode cX12_isFree 5 = .ok (.if_icmp .gt 15, 3) := by decide +kernel
theorem dX12_isFree_8 : decode cX12_isFree 8 = .ok (.iload_n 3, 1) := by decide +kernel
theorem dX12_isFree_9 : decode cX12_isFree 9 = .ok (.iload_n 1, 1) := by decide +kernel
theorem dX12_isFree_10 : decode cX12_isFree 10 = .ok (.iadd, 1) := by decide +kernel
theorem dX12_isFree_11 : decode cX12_isFree 11 = .ok (.iload 5, 2) := by decide +kernel
theorem dX12_isFree_13 : decode cX12_isFree 13 = .ok (.if_icmp .gt 7, 3) := by decide +kernel
theorem dX12_isFree_16 : decode cX12_isFree 16 = .ok (.iconst 1, 1) := by decide +kernel
theorem dX12_isFree_17 : decode cX12_isFree 17 = .ok (.goto 4, 3) := by decide +kernel
theorem dX12_isFree_20 : decode cX12_isFree 20 = .ok (.iconst 0, 1) := by decide +kernel
theorem dX12_isFree_21 : decode cX12_isFree 21 = .ok (.istore 6, 2) := by decide +kernel
theorem dX12_isFree_23 : decode cX12_isFree 23 = .ok (.iload_n 3, 1) := by decide +kernel
theorem dX12_isFree_24 : decode cX12_isFree 24 = .ok (.istore 7, 2) := by decide +kernel
theorem dX12_isFree_26 : decode cX12_isFree 26 = .ok (.iload 7, 2) := by decide +kernel
theorem dX12_isFree_28 : decode cX12_isFree 28 = .ok (.iload_n 3, 1) := by decide +kernel
theorem dX12_isFree_29 : decode cX12_isFree 29 = .ok (.iload_n 1, 1) := by decide +kernel
theorem dX12_isFree_30 : decode cX12_isFree 30 = .ok (.iadd, 1) := by decide +kernel
theorem dX12_isFree_31 : decode cX12_isFree 31 = .ok (.if_icmp .ge 39, 3) := by decide +kernel
theorem dX12_isFree_34 : decode cX12_isFree 34 = .ok (.iload 6, 2) := by decide +kernel
theorem dX12_isFree_36 : decode cX12_isFree 36 = .ok (.ifCond .eq 34, 3) := by decide +kernel
theorem dX12_isFree_39 : decode cX12_isFree 39 = .ok (.aload_n 0, 1) := by decide +kernel
theorem dX12_isFree_40 : decode cX12_isFree 40 = .ok (.getfield 66, 3) := by decide +kernel
theorem dX12_isFree_43 : decode cX12_isFree 43 = .ok (.iload 7, 2) := by decide +kernel
theorem dX12_isFree_45 : decode cX12_isFree 45 = .ok (.iaload, 1) := by decide +kernel
theorem dX12_isFree_46 : decode cX12_isFree 46 = .ok (.iconst 1, 1) := by decide +kernel
theorem dX12_isFree_47 : decode cX12_isFree 47 = .ok (.iload_n 1, 1) := by decide +kernel
theorem dX12_isFree_48 : decode cX12_isFree 48 = .ok (.ishl, 1) := by decide +kernel
theorem dX12_isFree_49 : decode cX12_isFree 49 = .ok (.iconst 1, 1) := by decide +kernel
theorem dX12_isFree_50 : decode cX12_isFree 50 = .ok (.isub, 1) := by decide +kernel
theorem dX12_isFree_51 : decode cX12_isFree 51 = .ok (.iload_n 2, 1) := by decide +kernel
theorem dX12_isFree_52 : decode cX12_isFree 52 = .ok (.ishl, 1) := by decide +kernel
theorem dX12_isFree_53 : decode cX12_isFree 53 = .ok (.iand, 1) := by decide +kernel
theorem dX12_isFree_54 : decode cX12_isFree 54 = .ok (.ifCond .ne 7, 3) := by decide +kernel
theorem dX12_isFree_57 : decode cX12_isFree 57 = .ok (.iconst 1, 1) := by decide +kernel
theorem dX12_isFree_58 : decode cX12_isFree 58 = .ok (.goto 4, 3) := by decide +kernel
theorem dX12_isFree_61 : decode cX12_isFree 61 = .ok (.iconst 0, 1) := by decide +kernel
theorem dX12_isFree_62 : decode cX12_isFree 62 = .ok (.istore 6, 2) := by decide +kernel
theorem dX12_isFree_64 : decode cX12_isFree 64 = .ok (.iinc 7 1, 3) := by decide +kernel
theorem dX12_isFree_67 : decode cX12_isFree 67 = .ok (.goto (-41), 3) := by decide +kernel
theorem dX12_isFree_70 : decode cX12_isFree 70 = .ok (.iload 6, 2) := by decide +kernel
theorem dX12_isFree_72 : decode cX12_isFree 72 = .ok (.ireturn, 1) := by decide +kernel
theorem dX12_firstBare_0 : decode cX12_firstBare 0 = .ok (.iconst 0, 1) := by decide +kernel
theorem dX12_firstBare_1 : decode cX12_firstBare 1 = .ok (.istore_n 3, 1) := by decide +kernel
theorem dX12_firstBare_2 : decode cX12_firstBare 2 = .ok (.iload_n 3, 1) := by decide +kernel
theorem dX12_firstBare_3 : decode cX12_firstBare 3 = .ok (.iload_n 2, 1) := by decide +kernel
theorem dX12_firstBare_4 : decode cX12_firstBare 4 = .ok (.if_icmp .ge 46, 3) := by decide +kernel
theorem dX12_firstBare_7 : decode cX12_firstBare 7 = .ok (.iconst 0, 1) := by decide +kernel
theorem dX12_firstBare_8 : decode cX12_firstBare 8 = .ok (.istore 4, 2) := by decide +kernel
theorem dX12_firstBare_10 : decode cX12_firstBare 10 = .ok (.iload 4, 2) := by decide +kernel
theorem dX12_firstBare_12 : decode cX12_firstBare 12 = .ok (.iload_n 1, 1) := by decide +kernel
theorem dX12_firstBare_13 : decode cX12_firstBare 13 = .ok (.if_icmp .ge 31, 3) := by decide +kernel
theorem dX12_firstBare_16 : decode cX12_firstBare 16 = .ok (.aload_n 0, 1) := by decide +kernel
theorem dX12_firstBare_17 : decode cX12_firstBare 17 = .ok (.getfield 66, 3) := by decide +kernel
theorem dX12_firstBare_20 : decode cX12_firstBare 20 = .ok (.iload_n 3, 1) := by decide +kernel
theorem dX12_firstBare_21 : decode cX12_firstBare 21 = .ok (.iaload, 1) := by decide +kernel
theorem dX12_firstBare_22 : decode cX12_firstBare 22 = .ok (.iload 4, 2) := by decide +kernel
theorem dX12_firstBare_24 : decode cX12_firstBare 24 = .ok (.invokestatic 348, 3) := by decide +kernel
theorem dX12_firstBare_27 : decode cX12_firstBare 27 = .ok (.ifCond .ne 11, 3) := by decide +kernel
theorem dX12_firstBare_30 : decode cX12_firstBare 30 = .ok (.bipush 12, 2) := by decide +kernel
theorem dX12_firstBare_32 : decode cX12_firstBare 32 = .ok (.iload_n 3, 1) := by decide +kernel
theorem dX12_firstBare_33 : decode cX12_firstBare 33 = .ok (.imul, 1) := by decide +kernel
theorem dX12_firstBare_34 : decode cX12_firstBare 34 = .ok (.iload 4, 2) := by decide +kernel
theorem dX12_firstBare_36 : decode cX12_firstBare 36 = .ok (.iadd, 1) := by decide +kernel
theorem dX12_firstBare_37 : decode cX12_firstBare 37 = .ok (.ireturn, 1) := by decide +kernel
theorem dX12_firstBare_38 : decode cX12_firstBare 38 = .ok (.iinc 4 1, 3) := by decide +kernel
theorem dX12_firstBare_41 : decode cX12_firstBare 41 = .ok (.goto (-31), 3) := by decide +kernel
theorem dX12_firstBare_44 : decode cX12_firstBare 44 = .ok (.iinc 3 1, 3) := by decide +kernel
theorem dX12_firstBare_47 : decode cX12_firstBare 47 = .ok (.goto (-45), 3) := by decide +kernel
theorem dX12_firstBare_50 : decode cX12_firstBare 50 = .ok (.iconst (-1), 1) := by decide +kernel
theorem dX12_firstBare_51 : decode cX12_firstBare 51 = .ok (.ireturn, 1) := by decide +kernel
theorem dX12_bareMany_0 : decode cX12_bareMany 0 = .ok (.aload_n 0, 1) := by decide +kernel
theorem dX12_bareMany_1 : decode cX12_bareMany 1 = .ok (.getfield 28, 3) := by decide +kernel
theorem dX12_bareMany_4 : decode cX12_bareMany 4 = .ok (.bipush 67, 2) := by decide +kernel
theorem dX12_bareMany_6 : decode cX12_bareMany 6 = .ok (.iaload, 1) := by decide +kernel
theorem dX12_bareMany_7 : decode cX12_bareMany 7 = .ok (.aload_n 0, 1) := by decide +kernel
theorem dX12_bareMany_8 : decode cX12_bareMany 8 = .ok (.getfield 28, 3) := by decide +kernel
theorem dX12_bareMany_11 : decode cX12_bareMany 11 = .ok (.bipush 68, 2) := by decide +kernel
theorem dX12_bareMany_13 : decode cX12_bareMany 13 = .ok (.iaload, 1) := by decide +kernel
theorem dX12_bareMany_14 : decode cX12_bareMany 14 = .ok (.imul, 1) := by decide +kernel
theorem dX12_bareMany_15 : decode cX12_bareMany 15 = .ok (.istore_n 1, 1) := by decide +kernel
theorem dX12_bareMany_16 : decode cX12_bareMany 16 = .ok (.iconst 0, 1) := by decide +kernel
theorem dX12_bareMany_17 : decode cX12_bareMany 17 = .ok (.istore_n 2, 1) := by decide +kernel
theorem dX12_bareMany_18 : decode cX12_bareMany 18 = .ok (.iload_n 2, 1) := by decide +kernel
theorem dX12_bareMany_19 : decode cX12_bareMany 19 = .ok (.aload_n 0, 1) := by decide +kernel
theorem dX12_bareMany_20 : decode cX12_bareMany 20 = .ok (.invokevirtual 115, 3) := by decide +kernel
theorem dX12_bareMany_23 : decode cX12_bareMany 23 = .ok (.if_icmp .ge 43, 3) := by decide +kernel
theorem dX12_bareMany_26 : decode cX12_bareMany 26 = .ok (.iload_n 1, 1) := by decide +kernel
theorem dX12_bareMany_27 : decode cX12_bareMany 27 = .ok (.aload_n 0, 1) := by decide +kernel
theorem dX12_bareMany_28 : decode cX12_bareMany 28 = .ok (.iload_n 2, 1) := by decide +kernel
theorem dX12_bareMany_29 : decode cX12_bareMany 29 = .ok (.invokevirtual 137, 3) := by decide +kernel
theorem dX12_bareMany_32 : decode cX12_bareMany 32 = .ok (.ifCond .eq 25, 3) := by decide +kernel
theorem dX12_bareMany_35 : decode cX12_bareMany 35 = .ok (.aload_n 0, 1) := by decide +kernel
theorem dX12_bareMany_36 : decode cX12_bareMany 36 = .ok (.getfield 28, 3) := by decide +kernel
theorem dX12_bareMany_39 : decode cX12_bareMany 39 = .ok (.bipush 29, 2) := by decide +kernel
theorem dX12_bareMany_41 : decode cX12_bareMany 41 = .ok (.iload_n 2, 1) := by decide +kernel
theorem dX12_bareMany_42 : decode cX12_bareMany 42 = .ok (.iadd, 1) := by decide +kernel
theorem dX12_bareMany_43 : decode cX12_bareMany 43 = .ok (.iaload, 1) := by decide +kernel
theorem dX12_bareMany_44 : decode cX12_bareMany 44 = .ok (.aload_n 0, 1) := by decide +kernel
theorem dX12_bareMany_45 : decode cX12_bareMany 45 = .ok (.getfield 28, 3) := by decide +kernel
theorem dX12_bareMany_48 : decode cX12_bareMany 48 = .ok (.bipush 29, 2) := by decide +kernel
theorem dX12_bareMany_50 : decode cX12_bareMany 50 = .ok (.iload_n 2, 1) := by decide +kernel
theorem dX12_bareMany_51 : decode cX12_bareMany 51 = .ok (.iadd, 1) := by decide +kernel
theorem dX12_bareMany_52 : decode cX12_bareMany 52 = .ok (.iaload, 1) := by decide +kernel
theorem dX12_bareMany_53 : decode cX12_bareMany 53 = .ok (.imul, 1) := by decide +kernel
theorem dX12_bareMany_54 : decode cX12_bareMany 54 = .ok (.goto 4, 3) := by decide +kernel
theorem dX12_bareMany_57 : decode cX12_bareMany 57 = .ok (.iconst 0, 1) := by decide +kernel
theorem dX12_bareMany_58 : decode cX12_bareMany 58 = .ok (.isub, 1) := by decide +kernel
theorem dX12_bareMany_59 : decode cX12_bareMany 59 = .ok (.istore_n 1, 1) := by decide +kernel
theorem dX12_bareMany_60 : decode cX12_bareMany 60 = .ok (.iinc 2 1, 3) := by decide +kernel
theorem dX12_bareMany_63 : decode cX12_bareMany 63 = .ok (.goto (-45), 3) := by decide +kernel
theorem dX12_bareMany_66 : decode cX12_bareMany 66 = .ok (.iload_n 1, 1) := by decide +kernel
theorem dX12_bareMany_67 : decode cX12_bareMany 67 = .ok (.ireturn, 1) := by decide +kernel
theorem dX12_bare_0 : decode cX12_bare 0 = .ok (.iload_n 1, 1) := by decide +kernel
theorem dX12_bare_1 : decode cX12_bare 1 = .ok (.iconst 0, 1) := by decide +kernel
theorem dX12_bare_2 : decode cX12_bare 2 = .ok (.iconst 2, 1) := by decide +kernel
theorem dX12_bare_3 : decode cX12_bare 3 = .ok (.invokestatic 18, 3) := by decide +kernel
theorem dX12_bare_6 : decode cX12_bare 6 = .ok (.ifCond .ne 5, 3) := by decide +kernel
theorem dX12_bare_9 : decode cX12_bare 9 = .ok (.iconst (-1), 1) := by decide +kernel
theorem dX12_bare_10 : decode cX12_bare 10 = .ok (.ireturn, 1) := by decide +kernel
theorem dX12_bare_11 : decode cX12_bare 11 = .ok (.iload_n 1, 1) := by decide +kernel
theorem dX12_bare_12 : decode cX12_bare 12 = .ok (.ifCond .ne 8, 3) := by decide +kernel
theorem dX12_bare_15 : decode cX12_bare 15 = .ok (.aload_n 0, 1) := by decide +kernel
theorem dX12_bare_16 : decode cX12_bare 16 = .ok (.invokevirtual 323, 3) := by decide +kernel
theorem dX12_bare_19 : decode cX12_bare 19 = .ok (.ireturn, 1) := by decide +kernel
theorem dX12_bare_20 : decode cX12_bare 20 = .ok (.aload_n 0, 1) := by decide +kernel
theorem dX12_bare_21 : decode cX12_bare 21 = .ok (.invokevirtual 351, 3) := by decide +kernel
theorem dX12_bare_24 : decode cX12_bare 24 = .ok (.aload_n 0, 1) := by decide +kernel
theorem dX12_bare_25 : decode cX12_bare 25 = .ok (.aload_n 0, 1) := by decide +kernel
theorem dX12_bare_26 : decode cX12_bare 26 = .ok (.getfield 28, 3) := by decide +kernel
theorem dX12_bare_29 : decode cX12_bare 29 = .ok (.bipush 67, 2) := by decide +kernel
theorem dX12_bare_31 : decode cX12_bare 31 = .ok (.iaload, 1) := by decide +kernel
theorem dX12_bare_32 : decode cX12_bare 32 = .ok (.aload_n 0, 1) := by decide +kernel
theorem dX12_bare_33 : decode cX12_bare 33 = .ok (.getfield 28, 3) := by decide +kernel
theorem dX12_bare_36 : decode cX12_bare 36 = .ok (.bipush 68, 2) := by decide +kernel
theorem dX12_bare_38 : decode cX12_bare 38 = .ok (.iaload, 1) := by decide +kernel
theorem dX12_bare_39 : decode cX12_bare 39 = .ok (.invokevirtual 354, 3) := by decide +kernel
theorem dX12_bare_42 : decode cX12_bare 42 = .ok (.istore_n 2, 1) := by decide +kernel
theorem dX12_bare_43 : decode cX12_bare 43 = .ok (.iload_n 2, 1) := by decide +kernel
theorem dX12_bare_44 : decode cX12_bare 44 = .ok (.iconst (-1), 1) := by decide +kernel
theorem dX12_bare_45 : decode cX12_bare 45 = .ok (.if_icmp .ne 7, 3) := by decide +kernel
theorem dX12_bare_48 : decode cX12_bare 48 = .ok (.iconst (-1), 1) := by decide +kernel
theorem dX12_bare_49 : decode cX12_bare 49 = .ok (.goto 19, 3) := by decide +kernel
theorem dX12_bare_52 : decode cX12_bare 52 = .ok (.iload_n 1, 1) := by decide +kernel
theorem dX12_bare_53 : decode cX12_bare 53 = .ok (.iconst 1, 1) := by decide +kernel
theorem dX12_bare_54 : decode cX12_bare 54 = .ok (.if_icmp .ne 10, 3) := by decide +kernel
theorem dX12_bare_57 : decode cX12_bare 57 = .ok (.iload_n 2, 1) := by decide +kernel
theorem dX12_bare_58 : decode cX12_bare 58 = .ok (.bipush 12, 2) := by decide +kernel
theorem dX12_bare_60 : decode cX12_bare 60 = .ok (.irem, 1) := by decide +kernel
theorem dX12_bare_61 : decode cX12_bare 61 = .ok (.goto 7, 3) := by decide +kernel
theorem dX12_bare_64 : decode cX12_bare 64 = .ok (.iload_n 2, 1) := by decide +kernel
theorem dX12_bare_65 : decode cX12_bare 65 = .ok (.bipush 12, 2) := by decide +kernel
theorem dX12_bare_67 : decode cX12_bare 67 = .ok (.idiv, 1) := by decide +kernel
theorem dX12_bare_68 : decode cX12_bare 68 = .ok (.ireturn, 1) := by decide +kernel
theorem dX12_canLay_0 : decode cX12_canLay 0 = .ok (.aload_n 0, 1) := by decide +kernel
theorem dX12_canLay_1 : decode cX12_canLay 1 = .ok (.iload_n 1, 1) := by decide +kernel
theorem dX12_canLay_2 : decode cX12_canLay 2 = .ok (.invokevirtual 137, 3) := by decide +kernel
theorem dX12_canLay_5 : decode cX12_canLay 5 = .ok (.ifCond .ne 11, 3) := by decide +kernel
theorem dX12_canLay_8 : decode cX12_canLay 8 = .ok (.aload_n 0, 1) := by decide +kernel
theorem dX12_canLay_9 : decode cX12_canLay 9 = .ok (.iload_n 1, 1) := by decide +kernel
theorem dX12_canLay_10 : decode cX12_canLay 10 = .ok (.invokevirtual 357, 3) := by decide +kernel
theorem dX12_canLay_13 : decode cX12_canLay 13 = .ok (.ifCond .ne 5, 3) := by decide +kernel
theorem dX12_canLay_16 : decode cX12_canLay 16 = .ok (.iconst 0, 1) := by decide +kernel
theorem dX12_canLay_17 : decode cX12_canLay 17 = .ok (.ireturn, 1) := by decide +kernel
theorem dX12_canLay_18 : decode cX12_canLay 18 = .ok (.aload_n 0, 1) := by decide +kernel
theorem dX12_canLay_19 : decode cX12_canLay 19 = .ok (.invokevirtual 351, 3) := by decide +kernel
theorem dX12_canLay_22 : decode cX12_canLay 22 = .ok (.aload_n 0, 1) := by decide +kernel
theorem dX12_canLay_23 : decode cX12_canLay 23 = .ok (.aload_n 0, 1) := by decide +kernel
theorem dX12_canLay_24 : decode cX12_canLay 24 = .ok (.getfield 28, 3) := by decide +kernel
theorem dX12_canLay_27 : decode cX12_canLay 27 = .ok (.bipush 29, 2) := by decide +kernel
theorem dX12_canLay_29 : decode cX12_canLay 29 = .ok (.iload_n 1, 1) := by decide +kernel
theorem dX12_canLay_30 : decode cX12_canLay 30 = .ok (.iadd, 1) := by decide +kernel
theorem dX12_canLay_31 : decode cX12_canLay 31 = .ok (.iaload, 1) := by decide +kernel
theorem dX12_canLay_32 : decode cX12_canLay 32 = .ok (.iload_n 2, 1) := by decide +kernel
theorem dX12_canLay_33 : decode cX12_canLay 33 = .ok (.iload_n 3, 1) := by decide +kernel
theorem dX12_canLay_34 : decode cX12_canLay 34 = .ok (.aload_n 0, 1) := by decide +kernel
theorem dX12_canLay_35 : decode cX12_canLay 35 = .ok (.getfield 28, 3) := by decide +kernel
theorem dX12_canLay_38 : decode cX12_canLay 38 = .ok (.bipush 67, 2) := by decide +kernel
theorem dX12_canLay_40 : decode cX12_canLay 40 = .ok (.iaload, 1) := by decide +kernel
theorem dX12_canLay_41 : decode cX12_canLay 41 = .ok (.aload_n 0, 1) := by decide +kernel
theorem dX12_canLay_42 : decode cX12_canLay 42 = .ok (.getfield 28, 3) := by decide +kernel
theorem dX12_canLay_45 : decode cX12_canLay 45 = .ok (.bipush 68, 2) := by decide +kernel
theorem dX12_canLay_47 : decode cX12_canLay 47 = .ok (.iaload, 1) := by decide +kernel
theorem dX12_canLay_48 : decode cX12_canLay 48 = .ok (.invokevirtual 360, 3) := by decide +kernel
theorem dX12_canLay_51 : decode cX12_canLay 51 = .ok (.ifCond .eq 17, 3) := by decide +kernel
theorem dX12_canLay_54 : decode cX12_canLay 54 = .ok (.aload_n 0, 1) := by decide +kernel
theorem dX12_canLay_55 : decode cX12_canLay 55 = .ok (.iload_n 1, 1) := by decide +kernel
theorem dX12_canLay_56 : decode cX12_canLay 56 = .ok (.iload_n 2, 1) := by decide +kernel
theorem dX12_canLay_57 : decode cX12_canLay 57 = .ok (.iload_n 3, 1) := by decide +kernel
theorem dX12_canLay_58 : decode cX12_canLay 58 = .ok (.invokevirtual 156, 3) := by decide +kernel
theorem dX12_canLay_61 : decode cX12_canLay 61 = .ok (.ifCond .ne 7, 3) := by decide +kernel
theorem dX12_canLay_64 : decode cX12_canLay 64 = .ok (.iconst 1, 1) := by decide +kernel
theorem dX12_canLay_65 : decode cX12_canLay 65 = .ok (.goto 4, 3) := by decide +kernel
theorem dX12_canLay_68 : decode cX12_canLay 68 = .ok (.iconst 0, 1) := by decide +kernel
theorem dX12_canLay_69 : decode cX12_canLay 69 = .ok (.ireturn, 1) := by decide +kernel
theorem dX12_laysAt_0 : decode cX12_laysAt 0 = .ok (.aload_n 0, 1) := by decide +kernel
theorem dX12_laysAt_1 : decode cX12_laysAt 1 = .ok (.iload_n 1, 1) := by decide +kernel
theorem dX12_laysAt_2 : decode cX12_laysAt 2 = .ok (.iload_n 2, 1) := by decide +kernel
theorem dX12_laysAt_3 : decode cX12_laysAt 3 = .ok (.iload_n 3, 1) := by decide +kernel
theorem dX12_laysAt_4 : decode cX12_laysAt 4 = .ok (.invokevirtual 152, 3) := by decide +kernel
theorem dX12_laysAt_7 : decode cX12_laysAt 7 = .ok (.istore 4, 2) := by decide +kernel
theorem dX12_laysAt_9 : decode cX12_laysAt 9 = .ok (.aload_n 0, 1) := by decide +kernel
theorem dX12_laysAt_10 : decode cX12_laysAt 10 = .ok (.getfield 28, 3) := by decide +kernel
theorem dX12_laysAt_13 : decode cX12_laysAt 13 = .ok (.bipush 9, 2) := by decide +kernel
theorem dX12_laysAt_15 : decode cX12_laysAt 15 = .ok (.iload_n 1, 1) := by decide +kernel
theorem dX12_laysAt_16 : decode cX12_laysAt 16 = .ok (.iadd, 1) := by decide +kernel
theorem dX12_laysAt_17 : decode cX12_laysAt 17 = .ok (.iload_n 2, 1) := by decide +kernel
theorem dX12_laysAt_18 : decode cX12_laysAt 18 = .ok (.iastore, 1) := by decide +kernel
theorem dX12_laysAt_19 : decode cX12_laysAt 19 = .ok (.aload_n 0, 1) := by decide +kernel
theorem dX12_laysAt_20 : decode cX12_laysAt 20 = .ok (.getfield 28, 3) := by decide +kernel
theorem dX12_laysAt_23 : decode cX12_laysAt 23 = .ok (.bipush 18, 2) := by decide +kernel
theorem dX12_laysAt_25 : decode cX12_laysAt 25 = .ok (.iload_n 1, 1) := by decide +kernel
theorem dX12_laysAt_26 : decode cX12_laysAt 26 = .ok (.iadd, 1) := by decide +kernel
theorem dX12_laysAt_27 : decode cX12_laysAt 27 = .ok (.iload_n 3, 1) := by decide +kernel
theorem dX12_laysAt_28 : decode cX12_laysAt 28 = .ok (.iastore, 1) := by decide +kernel
theorem dX12_laysAt_29 : decode cX12_laysAt 29 = .ok (.aload_n 0, 1) := by decide +kernel
theorem dX12_laysAt_30 : decode cX12_laysAt 30 = .ok (.getfield 28, 3) := by decide +kernel
theorem dX12_laysAt_33 : decode cX12_laysAt 33 = .ok (.bipush 27, 2) := by decide +kernel
theorem dX12_laysAt_35 : decode cX12_laysAt 35 = .ok (.sipush 9999, 3) := by decide +kernel
theorem dX12_laysAt_38 : decode cX12_laysAt 38 = .ok (.aload_n 0, 1) := by decide +kernel
theorem dX12_laysAt_39 : decode cX12_laysAt 39 = .ok (.getfield 28, 3) := by decide +kernel
theorem dX12_laysAt_42 : decode cX12_laysAt 42 = .ok (.bipush 27, 2) := by decide +kernel
theorem dX12_laysAt_44 : decode cX12_laysAt 44 = .ok (.iaload, 1) := by decide +kernel
theorem dX12_laysAt_45 : decode cX12_laysAt 45 = .ok (.iload 4, 2) := by decide +kernel
theorem dX12_laysAt_47 : decode cX12_laysAt 47 = .ok (.iadd, 1) := by decide +kernel
theorem dX12_laysAt_48 : decode cX12_laysAt 48 = .ok (.invokestatic 364, 3) := by decide +kernel
theorem dX12_laysAt_51 : decode cX12_laysAt 51 = .ok (.iastore, 1) := by decide +kernel
theorem dX12_laysAt_52 : decode cX12_laysAt 52 = .ok (.iload 4, 2) := by decide +kernel
theorem dX12_laysAt_54 : decode cX12_laysAt 54 = .ok (.ireturn, 1) := by decide +kernel
theorem dX12_yearPasses_0 : decode cX12_yearPasses 0 = .ok (.iconst 0, 1) := by decide +kernel
theorem dX12_yearPasses_1 : decode cX12_yearPasses 1 = .ok (.istore_n 1, 1) := by decide +kernel
theorem dX12_yearPasses_2 : decode cX12_yearPasses 2 = .ok (.iconst 0, 1) := by decide +kernel
theorem dX12_yearPasses_3 : decode cX12_yearPasses 3 = .ok (.istore_n 2, 1) := by decide +kernel
theorem dX12_yearPasses_4 : decode cX12_yearPasses 4 = .ok (.iload_n 2, 1) := by decide +kernel
theorem dX12_yearPasses_5 : decode cX12_yearPasses 5 = .ok (.aload_n 0, 1) := by decide +kernel
theorem dX12_yearPasses_6 : decode cX12_yearPasses 6 = .ok (.invokevirtual 115, 3) := by decide +kernel
theorem dX12_yearPasses_9 : decode cX12_yearPasses 9 = .ok (.if_icmp .ge 32, 3) := by decide +kernel
theorem dX12_yearPasses_12 : decode cX12_yearPasses 12 = .ok (.aload_n 0, 1) := by decide +kernel
theorem dX12_yearPasses_13 : decode cX12_yearPasses 13 = .ok (.getfield 69, 3) := by decide +kernel
theorem dX12_yearPasses_16 : decode cX12_yearPasses 16 = .ok (.iload_n 2, 1) := by decide +kernel
theorem dX12_yearPasses_17 : decode cX12_yearPasses 17 = .ok (.aload_n 0, 1) := by decide +kernel
theorem dX12_yearPasses_18 : decode cX12_yearPasses 18 = .ok (.iload_n 2, 1) := by decide +kernel
theorem dX12_yearPasses_19 : decode cX12_yearPasses 19 = .ok (.invokevirtual 137, 3) := by decide +kernel
theorem dX12_yearPasses_22 : decode cX12_yearPasses 22 = .ok (.ifCond .eq 11, 3) := by decide +kernel
theorem dX12_yearPasses_25 : decode cX12_yearPasses 25 = .ok (.aload_n 0, 1) := by decide +kernel
theorem dX12_yearPasses_26 : decode cX12_yearPasses 26 = .ok (.iload_n 2, 1) := by decide +kernel
theorem dX12_yearPasses_27 : decode cX12_yearPasses 27 = .ok (.invokevirtual 140, 3) := by decide +kernel
theorem dX12_yearPasses_30 : decode cX12_yearPasses 30 = .ok (.goto 4, 3) := by decide +kernel
theorem dX12_yearPasses_33 : decode cX12_yearPasses 33 = .ok (.iconst 0, 1) := by decide +kernel
theorem dX12_yearPasses_34 : decode cX12_yearPasses 34 = .ok (.iastore, 1) := by decide +kernel
theorem dX12_yearPasses_35 : decode cX12_yearPasses 35 = .ok (.iinc 2 1, 3) := by decide +kernel
theorem dX12_yearPasses_38 : decode cX12_yearPasses 38 = .ok (.goto (-34), 3) := by decide +kernel
theorem dX12_yearPasses_41 : decode cX12_yearPasses 41 = .ok (.iconst 0, 1) := by decide +kernel
theorem dX12_yearPasses_42 : decode cX12_yearPasses 42 = .ok (.istore_n 2, 1) := by decide +kernel
theorem dX12_yearPasses_43 : decode cX12_yearPasses 43 = .ok (.iload_n 2, 1) := by decide +kernel
theorem dX12_yearPasses_44 : decode cX12_yearPasses 44 = .ok (.aload_n 0, 1) := by decide +kernel
theorem dX12_yearPasses_45 : decode cX12_yearPasses 45 = .ok (.invokevirtual 115, 3) := by decide +kernel
theorem dX12_yearPasses_48 : decode cX12_yearPasses 48 = .ok (.if_icmp .ge 66, 3) := by decide +kernel
theorem dX12_yearPasses_51 : decode cX12_yearPasses 51 = .ok (.aload_n 0, 1) := by decide +kernel
theorem dX12_yearPasses_52 : decode cX12_yearPasses 52 = .ok (.iload_n 2, 1) := by decide +kernel
theorem dX12_yearPasses_53 : decode cX12_yearPasses 53 = .ok (.invokevirtual 137, 3) := by decide +kernel
theorem dX12_yearPasses_56 : decode cX12_yearPasses 56 = .ok (.ifCond .ne 6, 3) := by decide +kernel
theorem dX12_yearPasses_59 : decode cX12_yearPasses 59 = .ok (.goto 49, 3) := by decide +kernel
theorem dX12_yearPasses_62 : decode cX12_yearPasses 62 = .ok (.aload_n 0, 1) := by decide +kernel
theorem dX12_yearPasses_63 : decode cX12_yearPasses 63 = .ok (.getfield 28, 3) := by decide +kernel
theorem dX12_yearPasses_66 : decode cX12_yearPasses 66 = .ok (.iconst 0, 1) := by decide +kernel
theorem dX12_yearPasses_67 : decode cX12_yearPasses 67 = .ok (.iload_n 2, 1) := by decide +kernel
theorem dX12_yearPasses_68 : decode cX12_yearPasses 68 = .ok (.iadd, 1) := by decide +kernel
theorem dX12_yearPasses_69 : decode cX12_yearPasses 69 = .ok (.iconst 0, 1) := by decide +kernel
theorem dX12_yearPasses_70 : decode cX12_yearPasses 70 = .ok (.aload_n 0, 1) := by decide +kernel
theorem dX12_yearPasses_71 : decode cX12_yearPasses 71 = .ok (.getfield 28, 3) := by decide +kernel
theorem dX12_yearPasses_74 : decode cX12_yearPasses 74 = .ok (.iconst 0, 1) := by decide +kernel
theorem dX12_yearPasses_75 : decode cX12_yearPasses 75 = .ok (.iload_n 2, 1) := by decide +kernel
theorem dX12_yearPasses_76 : decode cX12_yearPasses 76 = .ok (.iadd, 1) := by decide +kernel
theorem dX12_yearPasses_77 : decode cX12_yearPasses 77 = .ok (.iaload, 1) := by decide +kernel
theorem dX12_yearPasses_78 : decode cX12_yearPasses 78 = .ok (.aload_n 0, 1) := by decide +kernel
theorem dX12_yearPasses_79 : decode cX12_yearPasses 79 = .ok (.getfield 69, 3) := by decide +kernel
theorem dX12_yearPasses_82 : decode cX12_yearPasses 82 = .ok (.iload_n 2, 1) := by decide +kernel
theorem dX12_yearPasses_83 : decode cX12_yearPasses 83 = .ok (.iaload, 1) := by decide +kernel
theorem dX12_yearPasses_84 : decode cX12_yearPasses 84 = .ok (.isub, 1) := by decide +kernel
theorem dX12_yearPasses_85 : decode cX12_yearPasses 85 = .ok (.invokestatic 367, 3) := by decide +kernel
theorem dX12_yearPasses_88 : decode cX12_yearPasses 88 = .ok (.iastore, 1) := by decide +kernel
theorem dX12_yearPasses_89 : decode cX12_yearPasses 89 = .ok (.aload_n 0, 1) := by decide +kernel
theorem dX12_yearPasses_90 : decode cX12_yearPasses 90 = .ok (.iload_n 2, 1) := by decide +kernel
theorem dX12_yearPasses_91 : decode cX12_yearPasses 91 = .ok (.invokevirtual 357, 3) := by decide +kernel
theorem dX12_yearPasses_94 : decode cX12_yearPasses 94 = .ok (.ifCond .eq 6, 3) := by decide +kernel
theorem dX12_yearPasses_97 : decode cX12_yearPasses 97 = .ok (.goto 11, 3) := by decide +kernel
theorem dX12_yearPasses_100 : decode cX12_yearPasses 100 = .ok (.aload_n 0, 1) := by decide +kernel
theorem dX12_yearPasses_101 : decode cX12_yearPasses 101 = .ok (.iload_n 2, 1) := by decide +kernel
theorem dX12_yearPasses_102 : decode cX12_yearPasses 102 = .ok (.invokevirtual 123, 3) := by decide +kernel
theorem dX12_yearPasses_105 : decode cX12_yearPasses 105 = .ok (.iinc 1 1, 3) := by decide +kernel
theorem dX12_yearPasses_108 : decode cX12_yearPasses 108 = .ok (.iinc 2 1, 3) := by decide +kernel
theorem dX12_yearPasses_111 : decode cX12_yearPasses 111 = .ok (.goto (-68), 3) := by decide +kernel
theorem dX12_yearPasses_114 : decode cX12_yearPasses 114 = .ok (.aload_n 0, 1) := by decide +kernel
theorem dX12_yearPasses_115 : decode cX12_yearPasses 115 = .ok (.getfield 28, 3) := by decide +kernel
theorem dX12_yearPasses_118 : decode cX12_yearPasses 118 = .ok (.bipush 28, 2) := by decide +kernel
theorem dX12_yearPasses_120 : decode cX12_yearPasses 120 = .ok (.dup2, 1) := by decide +kernel
theorem dX12_yearPasses_121 : decode cX12_yearPasses 121 = .ok (.iaload, 1) := by decide +kernel
theorem dX12_yearPasses_122 : decode cX12_yearPasses 122 = .ok (.iconst 1, 1) := by decide +kernel
theorem dX12_yearPasses_123 : decode cX12_yearPasses 123 = .ok (.iadd, 1) := by decide +kernel
theorem dX12_yearPasses_124 : decode cX12_yearPasses 124 = .ok (.iastore, 1) := by decide +kernel
theorem dX12_yearPasses_125 : decode cX12_yearPasses 125 = .ok (.iload_n 1, 1) := by decide +kernel
theorem dX12_yearPasses_126 : decode cX12_yearPasses 126 = .ok (.ireturn, 1) := by decide +kernel
theorem dX12_keeps_0 : decode cX12_keeps 0 = .ok (.bipush 30, 2) := by decide +kernel
theorem dX12_keeps_2 : decode cX12_keeps 2 = .ok (.istore_n 2, 1) := by decide +kernel
theorem dX12_keeps_3 : decode cX12_keeps 3 = .ok (.aload_n 0, 1) := by decide +kernel
theorem dX12_keeps_4 : decode cX12_keeps 4 = .ok (.getfield 11, 3) := by decide +kernel
theorem dX12_keeps_7 : decode cX12_keeps 7 = .ok (.bipush 16, 2) := by decide +kernel
theorem dX12_keeps_9 : decode cX12_keeps 9 = .ok (.if_icmp .ne 43, 3) := by decide +kernel
theorem dX12_keeps_12 : decode cX12_keeps 12 = .ok (.iconst 0, 1) := by decide +kernel
theorem dX12_keeps_13 : decode cX12_keeps 13 = .ok (.istore_n 3, 1) := by decide +kernel
theorem dX12_keeps_14 : decode cX12_keeps 14 = .ok (.iload_n 3, 1) := by decide +kernel
theorem dX12_keeps_15 : decode cX12_keeps 15 = .ok (.bipush 15, 2) := by decide +kernel
theorem dX12_keeps_17 : decode cX12_keeps 17 = .ok (.iload_n 2, 1) := by decide +kernel
theorem dX12_keeps_18 : decode cX12_keeps 18 = .ok (.imul, 1) := by decide +kernel
theorem dX12_keeps_19 : decode cX12_keeps 19 = .ok (.if_icmp .ge 23, 3) := by decide +kernel
theorem dX12_keeps_22 : decode cX12_keeps 22 = .ok (.aload_n 0, 1) := by decide +kernel
theorem dX12_keeps_23 : decode cX12_keeps 23 = .ok (.getfield 72, 3) := by decide +kernel
theorem dX12_keeps_26 : decode cX12_keeps 26 = .ok (.iload_n 3, 1) := by decide +kernel
theorem dX12_keeps_27 : decode cX12_keeps 27 = .ok (.aload_n 0, 1) := by decide +kernel
theorem dX12_keeps_28 : decode cX12_keeps 28 = .ok (.getfield 72, 3) := by decide +kernel
theorem dX12_keeps_31 : decode cX12_keeps 31 = .ok (.iload_n 3, 1) := by decide +kernel
theorem dX12_keeps_32 : decode cX12_keeps 32 = .ok (.iload_n 2, 1) := by decide +kernel
theorem dX12_keeps_33 : decode cX12_keeps 33 = .ok (.iadd, 1) := by decide +kernel
theorem dX12_keeps_34 : decode cX12_keeps 34 = .ok (.iaload, 1) := by decide +kernel
theorem dX12_keeps_35 : decode cX12_keeps 35 = .ok (.iastore, 1) := by decide +kernel
theorem dX12_keeps_36 : decode cX12_keeps 36 = .ok (.iinc 3 1, 3) := by decide +kernel
theorem dX12_keeps_39 : decode cX12_keeps 39 = .ok (.goto (-25), 3) := by decide +kernel
theorem dX12_keeps_42 : decode cX12_keeps 42 = .ok (.aload_n 0, 1) := by decide +kernel
theorem dX12_keeps_43 : decode cX12_keeps 43 = .ok (.dup, 1) := by decide +kernel
theorem dX12_keeps_44 : decode cX12_keeps 44 = .ok (.getfield 11, 3) := by decide +kernel
theorem dX12_keeps_47 : decode cX12_keeps 47 = .ok (.iconst 1, 1) := by decide +kernel
theorem dX12_keeps_48 : decode cX12_keeps 48 = .ok (.isub, 1) := by decide +kernel
theorem dX12_keeps_49 : decode cX12_keeps 49 = .ok (.putfield 11, 3) := by decide +kernel
theorem dX12_keeps_52 : decode cX12_keeps 52 = .ok (.iconst 0, 1) := by decide +kernel
theorem dX12_keeps_53 : decode cX12_keeps 53 = .ok (.istore_n 3, 1) := by decide +kernel
theorem dX12_keeps_54 : decode cX12_keeps 54 = .ok (.iload_n 3, 1) := by decide +kernel
theorem dX12_keeps_55 : decode cX12_keeps 55 = .ok (.bipush 29, 2) := by decide +kernel
theorem dX12_keeps_57 : decode cX12_keeps 57 = .ok (.if_icmp .ge 28, 3) := by decide +kernel
theorem dX12_keeps_60 : decode cX12_keeps 60 = .ok (.aload_n 0, 1) := by decide +kernel
theorem dX12_keeps_61 : decode cX12_keeps 61 = .ok (.getfield 72, 3) := by decide +kernel
theorem dX12_keeps_64 : decode cX12_keeps 64 = .ok (.iload_n 2, 1) := by decide +kernel
theorem dX12_keeps_65 : decode cX12_keeps 65 = .ok (.aload_n 0, 1) := by decide +kernel
theorem dX12_keeps_66 : decode cX12_keeps 66 = .ok (.getfield 11, 3) := by decide +kernel
theorem dX12_keeps_69 : decode cX12_keeps 69 = .ok (.imul, 1) := by decide +kernel
theorem dX12_keeps_70 : decode cX12_keeps 70 = .ok (.iload_n 3, 1) := by decide +kernel
theorem dX12_keeps_71 : decode cX12_keeps 71 = .ok (.iadd, 1) := by decide +kernel
theorem dX12_keeps_72 : decode cX12_keeps 72 = .ok (.aload_n 0, 1) := by decide +kernel
theorem dX12_keeps_73 : decode cX12_keeps 73 = .ok (.getfield 28, 3) := by decide +kernel
theorem dX12_keeps_76 : decode cX12_keeps 76 = .ok (.iload_n 3, 1) := by decide +kernel
theorem dX12_keeps_77 : decode cX12_keeps 77 = .ok (.iaload, 1) := by decide +kernel
theorem dX12_keeps_78 : decode cX12_keeps 78 = .ok (.iastore, 1) := by decide +kernel
theorem dX12_keeps_79 : decode cX12_keeps 79 = .ok (.iinc 3 1, 3) := by decide +kernel
theorem dX12_keeps_82 : decode cX12_keeps 82 = .ok (.goto (-28), 3) := by decide +kernel
theorem dX12_keeps_85 : decode cX12_keeps 85 = .ok (.aload_n 0, 1) := by decide +kernel
theorem dX12_keeps_86 : decode cX12_keeps 86 = .ok (.getfield 72, 3) := by decide +kernel
theorem dX12_keeps_89 : decode cX12_keeps 89 = .ok (.iload_n 2, 1) := by decide +kernel
theorem dX12_keeps_90 : decode cX12_keeps 90 = .ok (.aload_n 0, 1) := by decide +kernel
theorem dX12_keeps_91 : decode cX12_keeps 91 = .ok (.getfield 11, 3) := by decide +kernel
theorem dX12_keeps_94 : decode cX12_keeps 94 = .ok (.imul, 1) := by decide +kernel
theorem dX12_keeps_95 : decode cX12_keeps 95 = .ok (.bipush 29, 2) := by decide +kernel
theorem dX12_keeps_97 : decode cX12_keeps 97 = .ok (.iadd, 1) := by decide +kernel
theorem dX12_keeps_98 : decode cX12_keeps 98 = .ok (.iload_n 1, 1) := by decide +kernel
theorem dX12_keeps_99 : decode cX12_keeps 99 = .ok (.iastore, 1) := by decide +kernel
theorem dX12_keeps_100 : decode cX12_keeps 100 = .ok (.aload_n 0, 1) := by decide +kernel
theorem dX12_keeps_101 : decode cX12_keeps 101 = .ok (.dup, 1) := by decide +kernel
theorem dX12_keeps_102 : decode cX12_keeps 102 = .ok (.getfield 11, 3) := by decide +kernel
theorem dX12_keeps_105 : decode cX12_keeps 105 = .ok (.iconst 1, 1) := by decide +kernel
theorem dX12_keeps_106 : decode cX12_keeps 106 = .ok (.iadd, 1) := by decide +kernel
theorem dX12_keeps_107 : decode cX12_keeps 107 = .ok (.putfield 11, 3) := by decide +kernel
theorem dX12_keeps_110 : decode cX12_keeps 110 = .ok (.return_, 1) := by decide +kernel
theorem dX12_undo_0 : decode cX12_undo 0 = .ok (.aload_n 0, 1) := by decide +kernel
theorem dX12_undo_1 : decode cX12_undo 1 = .ok (.getfield 11, 3) := by decide +kernel
theorem dX12_undo_4 : decode cX12_undo 4 = .ok (.ifCond .ne 10, 3) := by decide +kernel
theorem dX12_undo_7 : decode cX12_undo 7 = .ok (.aload_n 0, 1) := by decide +kernel
theorem dX12_undo_8 : decode cX12_undo 8 = .ok (.bipush (-3), 2) := by decide +kernel
theorem dX12_undo_10 : decode cX12_undo 10 = .ok (.invokevirtual 109, 3) := by decide +kernel
theorem dX12_undo_13 : decode cX12_undo 13 = .ok (.ireturn, 1) := by decide +kernel
theorem dX12_undo_14 : decode cX12_undo 14 = .ok (.aload_n 0, 1) := by decide +kernel
theorem dX12_undo_15 : decode cX12_undo 15 = .ok (.dup, 1) := by decide +kernel
theorem dX12_undo_16 : decode cX12_undo 16 = .ok (.getfield 11, 3) := by decide +kernel
theorem dX12_undo_19 : decode cX12_undo 19 = .ok (.iconst 1, 1) := by decide +kernel
theorem dX12_undo_20 : decode cX12_undo 20 = .ok (.isub, 1) := by decide +kernel
theorem dX12_undo_21 : decode cX12_undo 21 = .ok (.putfield 11, 3) := by decide +kernel
theorem dX12_undo_24 : decode cX12_undo 24 = .ok (.bipush 30, 2) := by decide +kernel
theorem dX12_undo_26 : decode cX12_undo 26 = .ok (.aload_n 0, 1) := by decide +kernel
theorem dX12_undo_27 : decode cX12_undo 27 = .ok (.getfield 11, 3) := by decide +kernel
theorem dX12_undo_30 : decode cX12_undo 30 = .ok (.imul, 1) := by decide +kernel
theorem dX12_undo_31 : decode cX12_undo 31 = .ok (.istore_n 1, 1) := by decide +kernel
theorem dX12_undo_32 : decode cX12_undo 32 = .ok (.iconst 0, 1) := by decide +kernel
theorem dX12_undo_33 : decode cX12_undo 33 = .ok (.istore_n 2, 1) := by decide +kernel
theorem dX12_undo_34 : decode cX12_undo 34 = .ok (.iload_n 2, 1) := by decide +kernel
theorem dX12_undo_35 : decode cX12_undo 35 = .ok (.bipush 29, 2) := by decide +kernel
theorem dX12_undo_37 : decode cX12_undo 37 = .ok (.if_icmp .ge 23, 3) := by decide +kernel
theorem dX12_undo_40 : decode cX12_undo 40 = .ok (.aload_n 0, 1) := by decide +kernel
theorem dX12_undo_41 : decode cX12_undo 41 = .ok (.getfield 28, 3) := by decide +kernel
theorem dX12_undo_44 : decode cX12_undo 44 = .ok (.iload_n 2, 1) := by decide +kernel
theorem dX12_undo_45 : decode cX12_undo 45 = .ok (.aload_n 0, 1) := by decide +kernel
theorem dX12_undo_46 : decode cX12_undo 46 = .ok (.getfield 72, 3) := by decide +kernel
theorem dX12_undo_49 : decode cX12_undo 49 = .ok (.iload_n 1, 1) := by decide +kernel
theorem dX12_undo_50 : decode cX12_undo 50 = .ok (.iload_n 2, 1) := by decide +kernel
theorem dX12_undo_51 : decode cX12_undo 51 = .ok (.iadd, 1) := by decide +kernel
theorem dX12_undo_52 : decode cX12_undo 52 = .ok (.iaload, 1) := by decide +kernel
theorem dX12_undo_53 : decode cX12_undo 53 = .ok (.iastore, 1) := by decide +kernel
theorem dX12_undo_54 : decode cX12_undo 54 = .ok (.iinc 2 1, 3) := by decide +kernel
theorem dX12_undo_57 : decode cX12_undo 57 = .ok (.goto (-23), 3) := by decide +kernel
theorem dX12_undo_60 : decode cX12_undo 60 = .ok (.aload_n 0, 1) := by decide +kernel
theorem dX12_undo_61 : decode cX12_undo 61 = .ok (.aload_n 0, 1) := by decide +kernel
theorem dX12_undo_62 : decode cX12_undo 62 = .ok (.getfield 72, 3) := by decide +kernel
theorem dX12_undo_65 : decode cX12_undo 65 = .ok (.iload_n 1, 1) := by decide +kernel
theorem dX12_undo_66 : decode cX12_undo 66 = .ok (.bipush 29, 2) := by decide +kernel
theorem dX12_undo_68 : decode cX12_undo 68 = .ok (.iadd, 1) := by decide +kernel
theorem dX12_undo_69 : decode cX12_undo 69 = .ok (.iaload, 1) := by decide +kernel
theorem dX12_undo_70 : decode cX12_undo 70 = .ok (.invokevirtual 14, 3) := by decide +kernel
theorem dX12_undo_73 : decode cX12_undo 73 = .ok (.ireturn, 1) := by decide +kernel
theorem dX12_goodOr_0 : decode cX12_goodOr 0 = .ok (.iload_n 1, 1) := by decide +kernel
theorem dX12_goodOr_1 : decode cX12_goodOr 1 = .ok (.ifCond .ge 11, 3) := by decide +kernel
theorem dX12_goodOr_4 : decode cX12_goodOr 4 = .ok (.aload_n 0, 1) := by decide +kernel
theorem dX12_goodOr_5 : decode cX12_goodOr 5 = .ok (.iload_n 1, 1) := by decide +kernel
theorem dX12_goodOr_6 : decode cX12_goodOr 6 = .ok (.invokevirtual 109, 3) := by decide +kernel
theorem dX12_goodOr_9 : decode cX12_goodOr 9 = .ok (.goto 8, 3) := by decide +kernel
theorem dX12_goodOr_12 : decode cX12_goodOr 12 = .ok (.aload_n 0, 1) := by decide +kernel
theorem dX12_goodOr_13 : decode cX12_goodOr 13 = .ok (.iload_n 1, 1) := by decide +kernel
theorem dX12_goodOr_14 : decode cX12_goodOr 14 = .ok (.invokevirtual 14, 3) := by decide +kernel
theorem dX12_goodOr_17 : decode cX12_goodOr 17 = .ok (.ireturn, 1) := by decide +kernel
theorem dX12_laysKept_0 : decode cX12_laysKept 0 = .ok (.iload_n 2, 1) := by decide +kernel
theorem dX12_laysKept_1 : decode cX12_laysKept 1 = .ok (.invokestatic 149, 3) := by decide +kernel
theorem dX12_laysKept_4 : decode cX12_laysKept 4 = .ok (.ifCond .eq 10, 3) := by decide +kernel
theorem dX12_laysKept_7 : decode cX12_laysKept 7 = .ok (.iload_n 3, 1) := by decide +kernel
theorem dX12_laysKept_8 : decode cX12_laysKept 8 = .ok (.invokestatic 149, 3) := by decide +kernel
theorem dX12_laysKept_11 : decode cX12_laysKept 11 = .ok (.ifCond .ne 5, 3) := by decide +kernel
theorem dX12_laysKept_14 : decode cX12_laysKept 14 = .ok (.iconst (-1), 1) := by decide +kernel
theorem dX12_laysKept_15 : decode cX12_laysKept 15 = .ok (.ireturn, 1) := by decide +kernel
theorem dX12_laysKept_16 : decode cX12_laysKept 16 = .ok (.aload_n 0, 1) := by decide +kernel
theorem dX12_laysKept_17 : decode cX12_laysKept 17 = .ok (.iload_n 1, 1) := by decide +kernel
theorem dX12_laysKept_18 : decode cX12_laysKept 18 = .ok (.invokevirtual 134, 3) := by decide +kernel
theorem dX12_laysKept_21 : decode cX12_laysKept 21 = .ok (.ifCond .ne 6, 3) := by decide +kernel
theorem dX12_laysKept_24 : decode cX12_laysKept 24 = .ok (.bipush (-2), 2) := by decide +kernel
theorem dX12_laysKept_26 : decode cX12_laysKept 26 = .ok (.ireturn, 1) := by decide +kernel
theorem dX12_laysKept_27 : decode cX12_laysKept 27 = .ok (.aload_n 0, 1) := by decide +kernel
theorem dX12_laysKept_28 : decode cX12_laysKept 28 = .ok (.iload_n 1, 1) := by decide +kernel
theorem dX12_laysKept_29 : decode cX12_laysKept 29 = .ok (.iload_n 2, 1) := by decide +kernel
theorem dX12_laysKept_30 : decode cX12_laysKept 30 = .ok (.iload_n 3, 1) := by decide +kernel
theorem dX12_laysKept_31 : decode cX12_laysKept 31 = .ok (.invokevirtual 159, 3) := by decide +kernel
theorem dX12_laysKept_34 : decode cX12_laysKept 34 = .ok (.ifCond .ne 6, 3) := by decide +kernel
theorem dX12_laysKept_37 : decode cX12_laysKept 37 = .ok (.bipush (-3), 2) := by decide +kernel
theorem dX12_laysKept_39 : decode cX12_laysKept 39 = .ok (.ireturn, 1) := by decide +kernel
theorem dX12_laysKept_40 : decode cX12_laysKept 40 = .ok (.aload_n 0, 1) := by decide +kernel
theorem dX12_laysKept_41 : decode cX12_laysKept 41 = .ok (.iconst 0, 1) := by decide +kernel
theorem dX12_laysKept_42 : decode cX12_laysKept 42 = .ok (.invokevirtual 370, 3) := by decide +kernel
theorem dX12_laysKept_45 : decode cX12_laysKept 45 = .ok (.aload_n 0, 1) := by decide +kernel
theorem dX12_laysKept_46 : decode cX12_laysKept 46 = .ok (.iload_n 1, 1) := by decide +kernel
theorem dX12_laysKept_47 : decode cX12_laysKept 47 = .ok (.iload_n 2, 1) := by decide +kernel
theorem dX12_laysKept_48 : decode cX12_laysKept 48 = .ok (.iload_n 3, 1) := by decide +kernel
theorem dX12_laysKept_49 : decode cX12_laysKept 49 = .ok (.invokevirtual 373, 3) := by decide +kernel
theorem dX12_laysKept_52 : decode cX12_laysKept 52 = .ok (.ireturn, 1) := by decide +kernel
theorem dX12_rollsKept_0 : decode cX12_rollsKept 0 = .ok (.aload_n 0, 1) := by decide +kernel
theorem dX12_rollsKept_1 : decode cX12_rollsKept 1 = .ok (.iload_n 1, 1) := by decide +kernel
theorem dX12_rollsKept_2 : decode cX12_rollsKept 2 = .ok (.invokevirtual 134, 3) := by decide +kernel
theorem dX12_rollsKept_5 : decode cX12_rollsKept 5 = .ok (.ifCond .ne 6, 3) := by decide +kernel
theorem dX12_rollsKept_8 : decode cX12_rollsKept 8 = .ok (.bipush (-2), 2) := by decide +kernel
theorem dX12_rollsKept_10 : decode cX12_rollsKept 10 = .ok (.ireturn, 1) := by decide +kernel
theorem dX12_rollsKept_11 : decode cX12_rollsKept 11 = .ok (.aload_n 0, 1) := by decide +kernel
theorem dX12_rollsKept_12 : decode cX12_rollsKept 12 = .ok (.iload_n 1, 1) := by decide +kernel
theorem dX12_rollsKept_13 : decode cX12_rollsKept 13 = .ok (.invokevirtual 137, 3) := by decide +kernel
theorem dX12_rollsKept_16 : decode cX12_rollsKept 16 = .ok (.ifCond .ne 6, 3) := by decide +kernel
theorem dX12_rollsKept_19 : decode cX12_rollsKept 19 = .ok (.bipush (-3), 2) := by decide +kernel
theorem dX12_rollsKept_21 : decode cX12_rollsKept 21 = .ok (.ireturn, 1) := by decide +kernel
theorem dX12_rollsKept_22 : decode cX12_rollsKept 22 = .ok (.aload_n 0, 1) := by decide +kernel
theorem dX12_rollsKept_23 : decode cX12_rollsKept 23 = .ok (.iconst 1, 1) := by decide +kernel
theorem dX12_rollsKept_24 : decode cX12_rollsKept 24 = .ok (.invokevirtual 370, 3) := by decide +kernel
theorem dX12_rollsKept_27 : decode cX12_rollsKept 27 = .ok (.aload_n 0, 1) := by decide +kernel
theorem dX12_rollsKept_28 : decode cX12_rollsKept 28 = .ok (.iload_n 1, 1) := by decide +kernel
theorem dX12_rollsKept_29 : decode cX12_rollsKept 29 = .ok (.invokevirtual 123, 3) := by decide +kernel
theorem dX12_rollsKept_32 : decode cX12_rollsKept 32 = .ok (.aload_n 0, 1) := by decide +kernel
theorem dX12_rollsKept_33 : decode cX12_rollsKept 33 = .ok (.invokevirtual 323, 3) := by decide +kernel
theorem dX12_rollsKept_36 : decode cX12_rollsKept 36 = .ok (.ireturn, 1) := by decide +kernel
theorem dX12_mirrorsKept_0 : decode cX12_mirrorsKept 0 = .ok (.aload_n 0, 1) := by decide +kernel
theorem dX12_mirrorsKept_1 : decode cX12_mirrorsKept 1 = .ok (.iconst 2, 1) := by decide +kernel
theorem dX12_mirrorsKept_2 : decode cX12_mirrorsKept 2 = .ok (.invokevirtual 370, 3) := by decide +kernel
theorem dX12_mirrorsKept_5 : decode cX12_mirrorsKept 5 = .ok (.iconst 0, 1) := by decide +kernel
theorem dX12_mirrorsKept_6 : decode cX12_mirrorsKept 6 = .ok (.istore_n 1, 1) := by decide +kernel
theorem dX12_mirrorsKept_7 : decode cX12_mirrorsKept 7 = .ok (.iload_n 1, 1) := by decide +kernel
theorem dX12_mirrorsKept_8 : decode cX12_mirrorsKept 8 = .ok (.aload_n 0, 1) := by decide +kernel
theorem dX12_mirrorsKept_9 : decode cX12_mirrorsKept 9 = .ok (.invokevirtual 115, 3) := by decide +kernel
theorem dX12_mirrorsKept_12 : decode cX12_mirrorsKept 12 = .ok (.if_icmp .ge 57, 3) := by decide +kernel
theorem dX12_mirrorsKept_15 : decode cX12_mirrorsKept 15 = .ok (.aload_n 0, 1) := by decide +kernel
theorem dX12_mirrorsKept_16 : decode cX12_mirrorsKept 16 = .ok (.getfield 28, 3) := by decide +kernel
theorem dX12_mirrorsKept_19 : decode cX12_mirrorsKept 19 = .ok (.bipush 9, 2) := by decide +kernel
theorem dX12_mirrorsKept_21 : decode cX12_mirrorsKept 21 = .ok (.iload_n 1, 1) := by decide +kernel
theorem dX12_mirrorsKept_22 : decode cX12_mirrorsKept 22 = .ok (.iadd, 1) := by decide +kernel
theorem dX12_mirrorsKept_23 : decode cX12_mirrorsKept 23 = .ok (.aload_n 0, 1) := by decide +kernel
theorem dX12_mirrorsKept_24 : decode cX12_mirrorsKept 24 = .ok (.iload_n 1, 1) := by decide +kernel
theorem dX12_mirrorsKept_25 : decode cX12_mirrorsKept 25 = .ok (.invokevirtual 137, 3) := by decide +kernel
theorem dX12_mirrorsKept_28 : decode cX12_mirrorsKept 28 = .ok (.ifCond .eq 33, 3) := by decide +kernel
theorem dX12_mirrorsKept_31 : decode cX12_mirrorsKept 31 = .ok (.aload_n 0, 1) := by decide +kernel
theorem dX12_mirrorsKept_32 : decode cX12_mirrorsKept 32 = .ok (.getfield 28, 3) := by decide +kernel
theorem dX12_mirrorsKept_35 : decode cX12_mirrorsKept 35 = .ok (.bipush 67, 2) := by decide +kernel
theorem dX12_mirrorsKept_37 : decode cX12_mirrorsKept 37 = .ok (.iaload, 1) := by decide +kernel
theorem dX12_mirrorsKept_38 : decode cX12_mirrorsKept 38 = .ok (.aload_n 0, 1) := by decide +kernel
theorem dX12_mirrorsKept_39 : decode cX12_mirrorsKept 39 = .ok (.getfield 28, 3) := by decide +kernel
theorem dX12_mirrorsKept_42 : decode cX12_mirrorsKept 42 = .ok (.bipush 9, 2) := by decide +kernel
theorem dX12_mirrorsKept_44 : decode cX12_mirrorsKept 44 = .ok (.iload_n 1, 1) := by decide +kernel
theorem dX12_mirrorsKept_45 : decode cX12_mirrorsKept 45 = .ok (.iadd, 1) := by decide +kernel
theorem dX12_mirrorsKept_46 : decode cX12_mirrorsKept 46 = .ok (.iaload, 1) := by decide +kernel
theorem dX12_mirrorsKept_47 : decode cX12_mirrorsKept 47 = .ok (.isub, 1) := by decide +kernel
theorem dX12_mirrorsKept_48 : decode cX12_mirrorsKept 48 = .ok (.aload_n 0, 1) := by decide +kernel
theorem dX12_mirrorsKept_49 : decode cX12_mirrorsKept 49 = .ok (.getfield 28, 3) := by decide +kernel
theorem dX12_mirrorsKept_52 : decode cX12_mirrorsKept 52 = .ok (.bipush 29, 2) := by decide +kernel
theorem dX12_mirrorsKept_54 : decode cX12_mirrorsKept 54 = .ok (.iload_n 1, 1) := by decide +kernel
theorem dX12_mirrorsKept_55 : decode cX12_mirrorsKept 55 = .ok (.iadd, 1) := by decide +kernel
theorem dX12_mirrorsKept_56 : decode cX12_mirrorsKept 56 = .ok (.iaload, 1) := by decide +kernel
theorem dX12_mirrorsKept_57 : decode cX12_mirrorsKept 57 = .ok (.isub, 1) := by decide +kernel
theorem dX12_mirrorsKept_58 : decode cX12_mirrorsKept 58 = .ok (.goto 4, 3) := by decide +kernel
theorem dX12_mirrorsKept_61 : decode cX12_mirrorsKept 61 = .ok (.iconst (-1), 1) := by decide +kernel
theorem dX12_mirrorsKept_62 : decode cX12_mirrorsKept 62 = .ok (.iastore, 1) := by decide +kernel
theorem dX12_mirrorsKept_63 : decode cX12_mirrorsKept 63 = .ok (.iinc 1 1, 3) := by decide +kernel
theorem dX12_mirrorsKept_66 : decode cX12_mirrorsKept 66 = .ok (.goto (-59), 3) := by decide +kernel
theorem dX12_mirrorsKept_69 : decode cX12_mirrorsKept 69 = .ok (.aload_n 0, 1) := by decide +kernel
theorem dX12_mirrorsKept_70 : decode cX12_mirrorsKept 70 = .ok (.invokevirtual 143, 3) := by decide +kernel
theorem dX12_mirrorsKept_73 : decode cX12_mirrorsKept 73 = .ok (.ireturn, 1) := by decide +kernel
theorem dX12_passesKept_0 : decode cX12_passesKept 0 = .ok (.aload_n 0, 1) := by decide +kernel
theorem dX12_passesKept_1 : decode cX12_passesKept 1 = .ok (.getfield 28, 3) := by decide +kernel
theorem dX12_passesKept_4 : decode cX12_passesKept 4 = .ok (.bipush 28, 2) := by decide +kernel
theorem dX12_passesKept_6 : decode cX12_passesKept 6 = .ok (.iaload, 1) := by decide +kernel
theorem dX12_passesKept_7 : decode cX12_passesKept 7 = .ok (.sipush 999, 3) := by decide +kernel
theorem dX12_passesKept_10 : decode cX12_passesKept 10 = .ok (.if_icmp .ne 6, 3) := by decide +kernel
theorem dX12_passesKept_13 : decode cX12_passesKept 13 = .ok (.bipush (-3), 2) := by decide +kernel
theorem dX12_passesKept_15 : decode cX12_passesKept 15 = .ok (.ireturn, 1) := by decide +kernel
theorem dX12_passesKept_16 : decode cX12_passesKept 16 = .ok (.aload_n 0, 1) := by decide +kernel
theorem dX12_passesKept_17 : decode cX12_passesKept 17 = .ok (.iconst 3, 1) := by decide +kernel
theorem dX12_passesKept_18 : decode cX12_passesKept 18 = .ok (.invokevirtual 370, 3) := by decide +kernel
theorem dX12_passesKept_21 : decode cX12_passesKept 21 = .ok (.aload_n 0, 1) := by decide +kernel
theorem dX12_passesKept_22 : decode cX12_passesKept 22 = .ok (.invokevirtual 376, 3) := by decide +kernel
theorem dX12_passesKept_25 : decode cX12_passesKept 25 = .ok (.ireturn, 1) := by decide +kernel
theorem dX12_lay_0 : decode cX12_lay 0 = .ok (.aload_n 0, 1) := by decide +kernel
theorem dX12_lay_1 : decode cX12_lay 1 = .ok (.aload_n 0, 1) := by decide +kernel
theorem dX12_lay_2 : decode cX12_lay 2 = .ok (.iload_n 1, 1) := by decide +kernel
theorem dX12_lay_3 : decode cX12_lay 3 = .ok (.iload_n 2, 1) := by decide +kernel
theorem dX12_lay_4 : decode cX12_lay 4 = .ok (.iload_n 3, 1) := by decide +kernel
theorem dX12_lay_5 : decode cX12_lay 5 = .ok (.invokevirtual 379, 3) := by decide +kernel
theorem dX12_lay_8 : decode cX12_lay 8 = .ok (.invokevirtual 382, 3) := by decide +kernel
theorem dX12_lay_11 : decode cX12_lay 11 = .ok (.ireturn, 1) := by decide +kernel
theorem dX12_roll_0 : decode cX12_roll 0 = .ok (.aload_n 0, 1) := by decide +kernel
theorem dX12_roll_1 : decode cX12_roll 1 = .ok (.aload_n 0, 1) := by decide +kernel
theorem dX12_roll_2 : decode cX12_roll 2 = .ok (.iload_n 1, 1) := by decide +kernel
theorem dX12_roll_3 : decode cX12_roll 3 = .ok (.invokevirtual 385, 3) := by decide +kernel
theorem dX12_roll_6 : decode cX12_roll 6 = .ok (.invokevirtual 382, 3) := by decide +kernel
theorem dX12_roll_9 : decode cX12_roll 9 = .ok (.ireturn, 1) := by decide +kernel
theorem dX12_mirror_0 : decode cX12_mirror 0 = .ok (.aload_n 0, 1) := by decide +kernel
theorem dX12_mirror_1 : decode cX12_mirror 1 = .ok (.aload_n 0, 1) := by decide +kernel
theorem dX12_mirror_2 : decode cX12_mirror 2 = .ok (.invokevirtual 388, 3) := by decide +kernel
theorem dX12_mirror_5 : decode cX12_mirror 5 = .ok (.invokevirtual 382, 3) := by decide +kernel
theorem dX12_mirror_8 : decode cX12_mirror 8 = .ok (.ireturn, 1) := by decide +kernel
theorem dX12_pass_0 : decode cX12_pass 0 = .ok (.aload_n 0, 1) := by decide +kernel
theorem dX12_pass_1 : decode cX12_pass 1 = .ok (.aload_n 0, 1) := by decide +kernel
theorem dX12_pass_2 : decode cX12_pass 2 = .ok (.invokevirtual 391, 3) := by decide +kernel
theorem dX12_pass_5 : decode cX12_pass 5 = .ok (.invokevirtual 382, 3) := by decide +kernel
theorem dX12_pass_8 : decode cX12_pass 8 = .ok (.ireturn, 1) := by decide +kernel
theorem dX12_priceAt_0 : decode cX12_priceAt 0 = .ok (.aload_n 0, 1) := by decide +kernel
theorem dX12_priceAt_1 : decode cX12_priceAt 1 = .ok (.getfield 78, 3) := by decide +kernel
theorem dX12_priceAt_4 : decode cX12_priceAt 4 = .ok (.sipush 144, 3) := by decide +kernel
theorem dX12_priceAt_7 : decode cX12_priceAt 7 = .ok (.iload_n 1, 1) := by decide +kernel
theorem dX12_priceAt_8 : decode cX12_priceAt 8 = .ok (.imul, 1) := by decide +kernel
theorem dX12_priceAt_9 : decode cX12_priceAt 9 = .ok (.iload_n 2, 1) := by decide +kernel
theorem dX12_priceAt_10 : decode cX12_priceAt 10 = .ok (.iadd, 1) := by decide +kernel
theorem dX12_priceAt_11 : decode cX12_priceAt 11 = .ok (.iaload, 1) := by decide +kernel
theorem dX12_priceAt_12 : decode cX12_priceAt 12 = .ok (.ireturn, 1) := by decide +kernel
theorem dX12_laysPrices_0 : decode cX12_laysPrices 0 = .ok (.iconst 0, 1) := by decide +kernel
theorem dX12_laysPrices_1 : decode cX12_laysPrices 1 = .ok (.istore_n 2, 1) := by decide +kernel
theorem dX12_laysPrices_2 : decode cX12_laysPrices 2 = .ok (.iload_n 2, 1) := by decide +kernel
theorem dX12_laysPrices_3 : decode cX12_laysPrices 3 = .ok (.aload_n 0, 1) := by decide +kernel
theorem dX12_laysPrices_4 : decode cX12_laysPrices 4 = .ok (.invokevirtual 115, 3) := by decide +kernel
theorem dX12_laysPrices_7 : decode cX12_laysPrices 7 = .ok (.if_icmp .ge 81, 3) := by decide +kernel
theorem dX12_laysPrices_10 : decode cX12_laysPrices 10 = .ok (.iconst 0, 1) := by decide +kernel
theorem dX12_laysPrices_11 : decode cX12_laysPrices 11 = .ok (.istore_n 3, 1) := by decide +kernel
theorem dX12_laysPrices_12 : decode cX12_laysPrices 12 = .ok (.iload_n 3, 1) := by decide +kernel
theorem dX12_laysPrices_13 : decode cX12_laysPrices 13 = .ok (.sipush 144, 3) := by decide +kernel
theorem dX12_laysPrices_16 : decode cX12_laysPrices 16 = .ok (.if_icmp .ge 66, 3) := by decide +kernel
theorem dX12_laysPrices_19 : decode cX12_laysPrices 19 = .ok (.iload_n 1, 1) := by decide +kernel
theorem dX12_laysPrices_20 : decode cX12_laysPrices 20 = .ok (.iload_n 2, 1) := by decide +kernel
theorem dX12_laysPrices_21 : decode cX12_laysPrices 21 = .ok (.invokestatic 348, 3) := by decide +kernel
theorem dX12_laysPrices_24 : decode cX12_laysPrices 24 = .ok (.ifCond .eq 58, 3) := by decide +kernel
theorem dX12_laysPrices_27 : decode cX12_laysPrices 27 = .ok (.iload_n 3, 1) := by decide +kernel
theorem dX12_laysPrices_28 : decode cX12_laysPrices 28 = .ok (.bipush 12, 2) := by decide +kernel
theorem dX12_laysPrices_30 : decode cX12_laysPrices 30 = .ok (.irem, 1) := by decide +kernel
theorem dX12_laysPrices_31 : decode cX12_laysPrices 31 = .ok (.istore 4, 2) := by decide +kernel
theorem dX12_laysPrices_33 : decode cX12_laysPrices 33 = .ok (.iload_n 3, 1) := by decide +kernel
theorem dX12_laysPrices_34 : decode cX12_laysPrices 34 = .ok (.bipush 12, 2) := by decide +kernel
theorem dX12_laysPrices_36 : decode cX12_laysPrices 36 = .ok (.idiv, 1) := by decide +kernel
theorem dX12_laysPrices_37 : decode cX12_laysPrices 37 = .ok (.istore 5, 2) := by decide +kernel
theorem dX12_laysPrices_39 : decode cX12_laysPrices 39 = .ok (.aload_n 0, 1) := by decide +kernel
theorem dX12_laysPrices_40 : decode cX12_laysPrices 40 = .ok (.getfield 78, 3) := by decide +kernel
theorem dX12_laysPrices_43 : decode cX12_laysPrices 43 = .ok (.sipush 144, 3) := by decide +kernel
theorem dX12_laysPrices_46 : decode cX12_laysPrices 46 = .ok (.iload_n 2, 1) := by decide +kernel
theorem dX12_laysPrices_47 : decode cX12_laysPrices 47 = .ok (.imul, 1) := by decide +kernel
theorem dX12_laysPrices_48 : decode cX12_laysPrices 48 = .ok (.iload_n 3, 1) := by decide +kernel
theorem dX12_laysPrices_49 : decode cX12_laysPrices 49 = .ok (.iadd, 1) := by decide +kernel
theorem dX12_laysPrices_50 : decode cX12_laysPrices 50 = .ok (.aload_n 0, 1) := by decide +kernel
theorem dX12_laysPrices_51 : decode cX12_laysPrices 51 = .ok (.iload_n 2, 1) := by decide +kernel
theorem dX12_laysPrices_52 : decode cX12_laysPrices 52 = .ok (.iload 4, 2) := by decide +kernel
theorem dX12_laysPrices_54 : decode cX12_laysPrices 54 = .ok (.iload 5, 2) := by decide +kernel
theorem dX12_laysPrices_56 : decode cX12_laysPrices 56 = .ok (.invokevirtual 156, 3) := by decide +kernel
theorem dX12_laysPrices_59 : decode cX12_laysPrices 59 = .ok (.ifCond .eq 7, 3) := by decide +kernel
theorem dX12_laysPrices_62 : decode cX12_laysPrices 62 = .ok (.iconst (-1), 1) := by decide +kernel
theorem dX12_laysPrices_63 : decode cX12_laysPrices 63 = .ok (.goto 12, 3) := by decide +kernel
theorem dX12_laysPrices_66 : decode cX12_laysPrices 66 = .ok (.aload_n 0, 1) := by decide +kernel
theorem dX12_laysPrices_67 : decode cX12_laysPrices 67 = .ok (.iload_n 2, 1) := by decide +kernel
theorem dX12_laysPrices_68 : decode cX12_laysPrices 68 = .ok (.iload 4, 2) := by decide +kernel
theorem dX12_laysPrices_70 : decode cX12_laysPrices 70 = .ok (.iload 5, 2) := by decide +kernel
theorem dX12_laysPrices_72 : decode cX12_laysPrices 72 = .ok (.invokevirtual 152, 3) := by decide +kernel
theorem dX12_laysPrices_75 : decode cX12_laysPrices 75 = .ok (.iastore, 1) := by decide +kernel
theorem dX12_laysPrices_76 : decode cX12_laysPrices 76 = .ok (.iinc 3 1, 3) := by decide +kernel
theorem dX12_laysPrices_79 : decode cX12_laysPrices 79 = .ok (.goto (-67), 3) := by decide +kernel
theorem dX12_laysPrices_82 : decode cX12_laysPrices 82 = .ok (.iinc 2 1, 3) := by decide +kernel
theorem dX12_laysPrices_85 : decode cX12_laysPrices 85 = .ok (.goto (-83), 3) := by decide +kernel
theorem dX12_laysPrices_88 : decode cX12_laysPrices 88 = .ok (.return_, 1) := by decide +kernel
theorem dX12_rolledWhole_0 : decode cX12_rolledWhole 0 = .ok (.iconst 0, 1) := by decide +kernel
theorem dX12_rolledWhole_1 : decode cX12_rolledWhole 1 = .ok (.istore_n 1, 1) := by decide +kernel
theorem dX12_rolledWhole_2 : decode cX12_rolledWhole 2 = .ok (.iconst 0, 1) := by decide +kernel
theorem dX12_rolledWhole_3 : decode cX12_rolledWhole 3 = .ok (.istore_n 2, 1) := by decide +kernel
theorem dX12_rolledWhole_4 : decode cX12_rolledWhole 4 = .ok (.iload_n 2, 1) := by decide +kernel
theorem dX12_rolledWhole_5 : decode cX12_rolledWhole 5 = .ok (.aload_n 0, 1) := by decide +kernel
theorem dX12_rolledWhole_6 : decode cX12_rolledWhole 6 = .ok (.invokevirtual 115, 3) := by decide +kernel
theorem dX12_rolledWhole_9 : decode cX12_rolledWhole 9 = .ok (.if_icmp .ge 35, 3) := by decide +kernel
theorem dX12_rolledWhole_12 : decode cX12_rolledWhole 12 = .ok (.iload_n 1, 1) := by decide +kernel
theorem dX12_rolledWhole_13 : decode cX12_rolledWhole 13 = .ok (.aload_n 0, 1) := by decide +kernel
theorem dX12_rolledWhole_14 : decode cX12_rolledWhole 14 = .ok (.iload_n 2, 1) := by decide +kernel
theorem dX12_rolledWhole_15 : decode cX12_rolledWhole 15 = .ok (.invokevirtual 137, 3) := by decide +kernel
theorem dX12_rolledWhole_18 : decode cX12_rolledWhole 18 = .ok (.ifCond .ne 17, 3) := by decide +kernel
theorem dX12_rolledWhole_21 : decode cX12_rolledWhole 21 = .ok (.aload_n 0, 1) := by decide +kernel
theorem dX12_rolledWhole_22 : decode cX12_rolledWhole 22 = .ok (.iload_n 2, 1) := by decide +kernel
theorem dX12_rolledWhole_23 : decode cX12_rolledWhole 23 = .ok (.invokevirtual 357, 3) := by decide +kernel
theorem dX12_rolledWhole_26 : decode cX12_rolledWhole 26 = .ok (.ifCond .eq 9, 3) := by decide +kernel
theorem dX12_rolledWhole_29 : decode cX12_rolledWhole 29 = .ok (.iconst 1, 1) := by decide +kernel
theorem dX12_rolledWhole_30 : decode cX12_rolledWhole 30 = .ok (.iload_n 2, 1) := by decide +kernel
theorem dX12_rolledWhole_31 : decode cX12_rolledWhole 31 = .ok (.ishl, 1) := by decide +kernel
theorem dX12_rolledWhole_32 : decode cX12_rolledWhole 32 = .ok (.goto 4, 3) := by decide +kernel
theorem dX12_rolledWhole_35 : decode cX12_rolledWhole 35 = .ok (.iconst 0, 1) := by decide +kernel
theorem dX12_rolledWhole_36 : decode cX12_rolledWhole 36 = .ok (.ior, 1) := by decide +kernel
theorem dX12_rolledWhole_37 : decode cX12_rolledWhole 37 = .ok (.istore_n 1, 1) := by decide +kernel
theorem dX12_rolledWhole_38 : decode cX12_rolledWhole 38 = .ok (.iinc 2 1, 3) := by decide +kernel
theorem dX12_rolledWhole_41 : decode cX12_rolledWhole 41 = .ok (.goto (-37), 3) := by decide +kernel
theorem dX12_rolledWhole_44 : decode cX12_rolledWhole 44 = .ok (.iload_n 1, 1) := by decide +kernel
theorem dX12_rolledWhole_45 : decode cX12_rolledWhole 45 = .ok (.ireturn, 1) := by decide +kernel
theorem dX12_carpetBehind_0 : decode cX12_carpetBehind 0 = .ok (.aload_n 0, 1) := by decide +kernel
theorem dX12_carpetBehind_1 : decode cX12_carpetBehind 1 = .ok (.iload_n 2, 1) := by decide +kernel
theorem dX12_carpetBehind_2 : decode cX12_carpetBehind 2 = .ok (.iload_n 3, 1) := by decide +kernel
theorem dX12_carpetBehind_3 : decode cX12_carpetBehind 3 = .ok (.invokevirtual 394, 3) := by decide +kernel
theorem dX12_carpetBehind_6 : decode cX12_carpetBehind 6 = .ok (.istore 4, 2) := by decide +kernel
theorem dX12_carpetBehind_8 : decode cX12_carpetBehind 8 = .ok (.iconst 0, 1) := by decide +kernel
theorem dX12_carpetBehind_9 : decode cX12_carpetBehind 9 = .ok (.istore 5, 2) := by decide +kernel
theorem dX12_carpetBehind_11 : decode cX12_carpetBehind 11 = .ok (.iload 5, 2) := by decide +kernel
theorem dX12_carpetBehind_13 : decode cX12_carpetBehind 13 = .ok (.iload_n 1, 1) := by decide +kernel
theorem dX12_carpetBehind_14 : decode cX12_carpetBehind 14 = .ok (.if_icmp .ge 98, 3) := by decide +kernel
theorem dX12_carpetBehind_17 : decode cX12_carpetBehind 17 = .ok (.aload_n 0, 1) := by decide +kernel
theorem dX12_carpetBehind_18 : decode cX12_carpetBehind 18 = .ok (.getfield 28, 3) := by decide +kernel
theorem dX12_carpetBehind_21 : decode cX12_carpetBehind 21 = .ok (.bipush 29, 2) := by decide +kernel
theorem dX12_carpetBehind_23 : decode cX12_carpetBehind 23 = .ok (.aload_n 0, 1) := by decide +kernel
theorem dX12_carpetBehind_24 : decode cX12_carpetBehind 24 = .ok (.getfield 81, 3) := by decide +kernel
theorem dX12_carpetBehind_27 : decode cX12_carpetBehind 27 = .ok (.iload 5, 2) := by decide +kernel
theorem dX12_carpetBehind_29 : decode cX12_carpetBehind 29 = .ok (.iaload, 1) := by decide +kernel
theorem dX12_carpetBehind_30 : decode cX12_carpetBehind 30 = .ok (.iadd, 1) := by decide +kernel
theorem dX12_carpetBehind_31 : decode cX12_carpetBehind 31 = .ok (.iaload, 1) := by decide +kernel
theorem dX12_carpetBehind_32 : decode cX12_carpetBehind 32 = .ok (.istore 6, 2) := by decide +kernel
theorem dX12_carpetBehind_34 : decode cX12_carpetBehind 34 = .ok (.iload_n 2, 1) := by decide +kernel
theorem dX12_carpetBehind_35 : decode cX12_carpetBehind 35 = .ok (.aload_n 0, 1) := by decide +kernel
theorem dX12_carpetBehind_36 : decode cX12_carpetBehind 36 = .ok (.getfield 84, 3) := by decide +kernel
theorem dX12_carpetBehind_39 : decode cX12_carpetBehind 39 = .ok (.iload 5, 2) := by decide +kernel
theorem dX12_carpetBehind_41 : decode cX12_carpetBehind 41 = .ok (.iaload, 1) := by decide +kernel
theorem dX12_carpetBehind_42 : decode cX12_carpetBehind 42 = .ok (.bipush 12, 2) := by decide +kernel
theorem dX12_carpetBehind_44 : decode cX12_carpetBehind 44 = .ok (.irem, 1) := by decide +kernel
theorem dX12_carpetBehind_45 : decode cX12_carpetBehind 45 = .ok (.isub, 1) := by decide +kernel
theorem dX12_carpetBehind_46 : decode cX12_carpetBehind 46 = .ok (.iconst 0, 1) := by decide +kernel
theorem dX12_carpetBehind_47 : decode cX12_carpetBehind 47 = .ok (.iload 6, 2) := by decide +kernel
theorem dX12_carpetBehind_49 : decode cX12_carpetBehind 49 = .ok (.iconst 1, 1) := by decide +kernel
theorem dX12_carpetBehind_50 : decode cX12_carpetBehind 50 = .ok (.isub, 1) := by decide +kernel
theorem dX12_carpetBehind_51 : decode cX12_carpetBehind 51 = .ok (.invokestatic 18, 3) := by decide +kernel
theorem dX12_carpetBehind_54 : decode cX12_carpetBehind 54 = .ok (.ifCond .eq 30, 3) := by decide +kernel
theorem dX12_carpetBehind_57 : decode cX12_carpetBehind 57 = .ok (.iload_n 3, 1) := by decide +kernel
theorem dX12_carpetBehind_58 : decode cX12_carpetBehind 58 = .ok (.aload_n 0, 1) := by decide +kernel
theorem dX12_carpetBehind_59 : decode cX12_carpetBehind 59 = .ok (.getfield 84, 3) := by decide +kernel
theorem dX12_carpetBehind_62 : decode cX12_carpetBehind 62 = .ok (.iload 5, 2) := by decide +kernel
theorem dX12_carpetBehind_64 : decode cX12_carpetBehind 64 = .ok (.iaload, 1) := by decide +kernel
theorem dX12_carpetBehind_65 : decode cX12_carpetBehind 65 = .ok (.bipush 12, 2) := by decide +kernel
theorem dX12_carpetBehind_67 : decode cX12_carpetBehind 67 = .ok (.idiv, 1) := by decide +kernel
theorem dX12_carpetBehind_68 : decode cX12_carpetBehind 68 = .ok (.isub, 1) := by decide +kernel
theorem dX12_carpetBehind_69 : decode cX12_carpetBehind 69 = .ok (.iconst 0, 1) := by decide +kernel
theorem dX12_carpetBehind_70 : decode cX12_carpetBehind 70 = .ok (.iload 6, 2) := by decide +kernel
theorem dX12_carpetBehind_72 : decode cX12_carpetBehind 72 = .ok (.iconst 1, 1) := by decide +kernel
theorem dX12_carpetBehind_73 : decode cX12_carpetBehind 73 = .ok (.isub, 1) := by decide +kernel
theorem dX12_carpetBehind_74 : decode cX12_carpetBehind 74 = .ok (.invokestatic 18, 3) := by decide +kernel
theorem dX12_carpetBehind_77 : decode cX12_carpetBehind 77 = .ok (.ifCond .eq 7, 3) := by decide +kernel
theorem dX12_carpetBehind_80 : decode cX12_carpetBehind 80 = .ok (.iconst 1, 1) := by decide +kernel
theorem dX12_carpetBehind_81 : decode cX12_carpetBehind 81 = .ok (.goto 4, 3) := by decide +kernel
theorem dX12_carpetBehind_84 : decode cX12_carpetBehind 84 = .ok (.iconst 0, 1) := by decide +kernel
theorem dX12_carpetBehind_85 : decode cX12_carpetBehind 85 = .ok (.istore 7, 2) := by decide +kernel
theorem dX12_carpetBehind_87 : decode cX12_carpetBehind 87 = .ok (.iload 7, 2) := by decide +kernel
theorem dX12_carpetBehind_89 : decode cX12_carpetBehind 89 = .ok (.ifCond .eq 13, 3) := by decide +kernel
theorem dX12_carpetBehind_92 : decode cX12_carpetBehind 92 = .ok (.aload_n 0, 1) := by decide +kernel
theorem dX12_carpetBehind_93 : decode cX12_carpetBehind 93 = .ok (.getfield 81, 3) := by decide +kernel
theorem dX12_carpetBehind_96 : decode cX12_carpetBehind 96 = .ok (.iload 5, 2) := by decide +kernel
theorem dX12_carpetBehind_98 : decode cX12_carpetBehind 98 = .ok (.iaload, 1) := by decide +kernel
theorem dX12_carpetBehind_99 : decode cX12_carpetBehind 99 = .ok (.goto 5, 3) := by decide +kernel
theorem dX12_carpetBehind_102 : decode cX12_carpetBehind 102 = .ok (.iload 4, 2) := by decide +kernel
theorem dX12_carpetBehind_104 : decode cX12_carpetBehind 104 = .ok (.istore 4, 2) := by decide +kernel
theorem dX12_carpetBehind_106 : decode cX12_carpetBehind 106 = .ok (.iinc 5 1, 3) := by decide +kernel
theorem dX12_carpetBehind_109 : decode cX12_carpetBehind 109 = .ok (.goto (-98), 3) := by decide +kernel
theorem dX12_carpetBehind_112 : decode cX12_carpetBehind 112 = .ok (.iload 4, 2) := by decide +kernel
theorem dX12_carpetBehind_114 : decode cX12_carpetBehind 114 = .ok (.ireturn, 1) := by decide +kernel
theorem dX12_isSeenSo_0 : decode cX12_isSeenSo 0 = .ok (.iconst 1, 1) := by decide +kernel
theorem dX12_isSeenSo_1 : decode cX12_isSeenSo 1 = .ok (.istore_n 2, 1) := by decide +kernel
theorem dX12_isSeenSo_2 : decode cX12_isSeenSo 2 = .ok (.iconst 0, 1) := by decide +kernel
theorem dX12_isSeenSo_3 : decode cX12_isSeenSo 3 = .ok (.istore_n 3, 1) := by decide +kernel
theorem dX12_isSeenSo_4 : decode cX12_isSeenSo 4 = .ok (.iload_n 3, 1) := by decide +kernel
theorem dX12_isSeenSo_5 : decode cX12_isSeenSo 5 = .ok (.aload_n 0, 1) := by decide +kernel
theorem dX12_isSeenSo_6 : decode cX12_isSeenSo 6 = .ok (.getfield 28, 3) := by decide +kernel
theorem dX12_isSeenSo_9 : decode cX12_isSeenSo 9 = .ok (.bipush 70, 2) := by decide +kernel
theorem dX12_isSeenSo_11 : decode cX12_isSeenSo 11 = .ok (.iaload, 1) := by decide +kernel
theorem dX12_isSeenSo_12 : decode cX12_isSeenSo 12 = .ok (.if_icmp .ge 82, 3) := by decide +kernel
theorem dX12_isSeenSo_15 : decode cX12_isSeenSo 15 = .ok (.iload_n 2, 1) := by decide +kernel
theorem dX12_isSeenSo_16 : decode cX12_isSeenSo 16 = .ok (.ifCond .eq 78, 3) := by decide +kernel
theorem dX12_isSeenSo_19 : decode cX12_isSeenSo 19 = .ok (.aload_n 0, 1) := by decide +kernel
theorem dX12_isSeenSo_20 : decode cX12_isSeenSo 20 = .ok (.iload_n 1, 1) := by decide +kernel
theorem dX12_isSeenSo_21 : decode cX12_isSeenSo 21 = .ok (.aload_n 0, 1) := by decide +kernel
theorem dX12_isSeenSo_22 : decode cX12_isSeenSo 22 = .ok (.getfield 28, 3) := by decide +kernel
theorem dX12_isSeenSo_25 : decode cX12_isSeenSo 25 = .ok (.bipush 47, 2) := by decide +kernel
theorem dX12_isSeenSo_27 : decode cX12_isSeenSo 27 = .ok (.iconst 3, 1) := by decide +kernel
theorem dX12_isSeenSo_28 : decode cX12_isSeenSo 28 = .ok (.iload_n 3, 1) := by decide +kernel
theorem dX12_isSeenSo_29 : decode cX12_isSeenSo 29 = .ok (.imul, 1) := by decide +kernel
theorem dX12_isSeenSo_30 : decode cX12_isSeenSo 30 = .ok (.iadd, 1) := by decide +kernel
theorem dX12_isSeenSo_31 : decode cX12_isSeenSo 31 = .ok (.iaload, 1) := by decide +kernel
theorem dX12_isSeenSo_32 : decode cX12_isSeenSo 32 = .ok (.aload_n 0, 1) := by decide +kernel
theorem dX12_isSeenSo_33 : decode cX12_isSeenSo 33 = .ok (.getfield 28, 3) := by decide +kernel
theorem dX12_isSeenSo_36 : decode cX12_isSeenSo 36 = .ok (.bipush 47, 2) := by decide +kernel
theorem dX12_isSeenSo_38 : decode cX12_isSeenSo 38 = .ok (.iconst 3, 1) := by decide +kernel
theorem dX12_isSeenSo_39 : decode cX12_isSeenSo 39 = .ok (.iload_n 3, 1) := by decide +kernel
theorem dX12_isSeenSo_40 : decode cX12_isSeenSo 40 = .ok (.imul, 1) := by decide +kernel
theorem dX12_isSeenSo_41 : decode cX12_isSeenSo 41 = .ok (.iadd, 1) := by decide +kernel
theorem dX12_isSeenSo_42 : decode cX12_isSeenSo 42 = .ok (.iconst 1, 1) := by decide +kernel
theorem dX12_isSeenSo_43 : decode cX12_isSeenSo 43 = .ok (.iadd, 1) := by decide +kernel
theorem dX12_isSeenSo_44 : decode cX12_isSeenSo 44 = .ok (.iaload, 1) := by decide +kernel
theorem dX12_isSeenSo_45 : decode cX12_isSeenSo 45 = .ok (.invokevirtual 397, 3) := by decide +kernel
theorem dX12_isSeenSo_48 : decode cX12_isSeenSo 48 = .ok (.istore 4, 2) := by decide +kernel
theorem dX12_isSeenSo_50 : decode cX12_isSeenSo 50 = .ok (.iload 4, 2) := by decide +kernel
theorem dX12_isSeenSo_52 : decode cX12_isSeenSo 52 = .ok (.iconst (-1), 1) := by decide +kernel
theorem dX12_isSeenSo_53 : decode cX12_isSeenSo 53 = .ok (.if_icmp .eq 33, 3) := by decide +kernel
theorem dX12_isSeenSo_56 : decode cX12_isSeenSo 56 = .ok (.aload_n 0, 1) := by decide +kernel
theorem dX12_isSeenSo_57 : decode cX12_isSeenSo 57 = .ok (.getfield 28, 3) := by decide +kernel
theorem dX12_isSeenSo_60 : decode cX12_isSeenSo 60 = .ok (.bipush 29, 2) := by decide +kernel
theorem dX12_isSeenSo_62 : decode cX12_isSeenSo 62 = .ok (.iload 4, 2) := by decide +kernel
theorem dX12_isSeenSo_64 : decode cX12_isSeenSo 64 = .ok (.iadd, 1) := by decide +kernel
theorem dX12_isSeenSo_65 : decode cX12_isSeenSo 65 = .ok (.iaload, 1) := by decide +kernel
theorem dX12_isSeenSo_66 : decode cX12_isSeenSo 66 = .ok (.aload_n 0, 1) := by decide +kernel
theorem dX12_isSeenSo_67 : decode cX12_isSeenSo 67 = .ok (.getfield 28, 3) := by decide +kernel
theorem dX12_isSeenSo_70 : decode cX12_isSeenSo 70 = .ok (.bipush 47, 2) := by decide +kernel
theorem dX12_isSeenSo_72 : decode cX12_isSeenSo 72 = .ok (.iconst 3, 1) := by decide +kernel
theorem dX12_isSeenSo_73 : decode cX12_isSeenSo 73 = .ok (.iload_n 3, 1) := by decide +kernel
theorem dX12_isSeenSo_74 : decode cX12_isSeenSo 74 = .ok (.imul, 1) := by decide +kernel
theorem dX12_isSeenSo_75 : decode cX12_isSeenSo 75 = .ok (.iadd, 1) := by decide +kernel
theorem dX12_isSeenSo_76 : decode cX12_isSeenSo 76 = .ok (.iconst 2, 1) := by decide +kernel
theorem dX12_isSeenSo_77 : decode cX12_isSeenSo 77 = .ok (.iadd, 1) := by decide +kernel
theorem dX12_isSeenSo_78 : decode cX12_isSeenSo 78 = .ok (.iaload, 1) := by decide +kernel
theorem dX12_isSeenSo_79 : decode cX12_isSeenSo 79 = .ok (.if_icmp .ne 7, 3) := by decide +kernel
theorem dX12_isSeenSo_82 : decode cX12_isSeenSo 82 = .ok (.iconst 1, 1) := by decide +kernel
theorem dX12_isSeenSo_83 : decode cX12_isSeenSo 83 = .ok (.goto 4, 3) := by decide +kernel
theorem dX12_isSeenSo_86 : decode cX12_isSeenSo 86 = .ok (.iconst 0, 1) := by decide +kernel
theorem dX12_isSeenSo_87 : decode cX12_isSeenSo 87 = .ok (.istore_n 2, 1) := by decide +kernel
theorem dX12_isSeenSo_88 : decode cX12_isSeenSo 88 = .ok (.iinc 3 1, 3) := by decide +kernel
theorem dX12_isSeenSo_91 : decode cX12_isSeenSo 91 = .ok (.goto (-87), 3) := by decide +kernel
theorem dX12_isSeenSo_94 : decode cX12_isSeenSo 94 = .ok (.iload_n 2, 1) := by decide +kernel
theorem dX12_isSeenSo_95 : decode cX12_isSeenSo 95 = .ok (.ireturn, 1) := by decide +kernel
theorem dX12_countsRow_0 : decode cX12_countsRow 0 = .ok (.iconst 0, 1) := by decide +kernel
theorem dX12_countsRow_1 : decode cX12_countsRow 1 = .ok (.istore_n 2, 1) := by decide +kernel
theorem dX12_countsRow_2 : decode cX12_countsRow 2 = .ok (.iload_n 2, 1) := by decide +kernel
theorem dX12_countsRow_3 : decode cX12_countsRow 3 = .ok (.iload_n 1, 1) := by decide +kernel
theorem dX12_countsRow_4 : decode cX12_countsRow 4 = .ok (.if_icmp .ge 79, 3) := by decide +kernel
theorem dX12_countsRow_7 : decode cX12_countsRow 7 = .ok (.aload_n 0, 1) := by decide +kernel
theorem dX12_countsRow_8 : decode cX12_countsRow 8 = .ok (.getfield 28, 3) := by decide +kernel
theorem dX12_countsRow_11 : decode cX12_countsRow 11 = .ok (.bipush 29, 2) := by decide +kernel
theorem dX12_countsRow_13 : decode cX12_countsRow 13 = .ok (.aload_n 0, 1) := by decide +kernel
theorem dX12_countsRow_14 : decode cX12_countsRow 14 = .ok (.getfield 81, 3) := by decide +kernel
theorem dX12_countsRow_17 : decode cX12_countsRow 17 = .ok (.iload_n 2, 1) := by decide +kernel
theorem dX12_countsRow_18 : decode cX12_countsRow 18 = .ok (.iaload, 1) := by decide +kernel
theorem dX12_countsRow_19 : decode cX12_countsRow 19 = .ok (.iadd, 1) := by decide +kernel
theorem dX12_countsRow_20 : decode cX12_countsRow 20 = .ok (.iaload, 1) := by decide +kernel
theorem dX12_countsRow_21 : decode cX12_countsRow 21 = .ok (.istore_n 3, 1) := by decide +kernel
theorem dX12_countsRow_22 : decode cX12_countsRow 22 = .ok (.iconst 0, 1) := by decide +kernel
theorem dX12_countsRow_23 : decode cX12_countsRow 23 = .ok (.istore 4, 2) := by decide +kernel
theorem dX12_countsRow_25 : decode cX12_countsRow 25 = .ok (.iload 4, 2) := by decide +kernel
theorem dX12_countsRow_27 : decode cX12_countsRow 27 = .ok (.iload_n 3, 1) := by decide +kernel
theorem dX12_countsRow_28 : decode cX12_countsRow 28 = .ok (.iload_n 3, 1) := by decide +kernel
theorem dX12_countsRow_29 : decode cX12_countsRow 29 = .ok (.imul, 1) := by decide +kernel
theorem dX12_countsRow_30 : decode cX12_countsRow 30 = .ok (.if_icmp .ge 47, 3) := by decide +kernel
theorem dX12_countsRow_33 : decode cX12_countsRow 33 = .ok (.aload_n 0, 1) := by decide +kernel
theorem dX12_countsRow_34 : decode cX12_countsRow 34 = .ok (.getfield 90, 3) := by decide +kernel
theorem dX12_countsRow_37 : decode cX12_countsRow 37 = .ok (.bipush 9, 2) := by decide +kernel
theorem dX12_countsRow_39 : decode cX12_countsRow 39 = .ok (.aload_n 0, 1) := by decide +kernel
theorem dX12_countsRow_40 : decode cX12_countsRow 40 = .ok (.getfield 84, 3) := by decide +kernel
theorem dX12_countsRow_43 : decode cX12_countsRow 43 = .ok (.iload_n 2, 1) := by decide +kernel
theorem dX12_countsRow_44 : decode cX12_countsRow 44 = .ok (.iaload, 1) := by decide +kernel
theorem dX12_countsRow_45 : decode cX12_countsRow 45 = .ok (.iload 4, 2) := by decide +kernel
theorem dX12_countsRow_47 : decode cX12_countsRow 47 = .ok (.iload_n 3, 1) := by decide +kernel
theorem dX12_countsRow_48 : decode cX12_countsRow 48 = .ok (.idiv, 1) := by decide +kernel
theorem dX12_countsRow_49 : decode cX12_countsRow 49 = .ok (.bipush 12, 2) := by decide +kernel
theorem dX12_countsRow_51 : decode cX12_countsRow 51 = .ok (.imul, 1) := by decide +kernel
theorem dX12_countsRow_52 : decode cX12_countsRow 52 = .ok (.iadd, 1) := by decide +kernel
theorem dX12_countsRow_53 : decode cX12_countsRow 53 = .ok (.iload 4, 2) := by decide +kernel
theorem dX12_countsRow_55 : decode cX12_countsRow 55 = .ok (.iload_n 3, 1) := by decide +kernel
theorem dX12_countsRow_56 : decode cX12_countsRow 56 = .ok (.irem, 1) := by decide +kernel
theorem dX12_countsRow_57 : decode cX12_countsRow 57 = .ok (.iadd, 1) := by decide +kernel
theorem dX12_countsRow_58 : decode cX12_countsRow 58 = .ok (.imul, 1) := by decide +kernel
theorem dX12_countsRow_59 : decode cX12_countsRow 59 = .ok (.aload_n 0, 1) := by decide +kernel
theorem dX12_countsRow_60 : decode cX12_countsRow 60 = .ok (.getfield 81, 3) := by decide +kernel
theorem dX12_countsRow_63 : decode cX12_countsRow 63 = .ok (.iload_n 2, 1) := by decide +kernel
theorem dX12_countsRow_64 : decode cX12_countsRow 64 = .ok (.iaload, 1) := by decide +kernel
theorem dX12_countsRow_65 : decode cX12_countsRow 65 = .ok (.iadd, 1) := by decide +kernel
theorem dX12_countsRow_66 : decode cX12_countsRow 66 = .ok (.dup2, 1) := by decide +kernel
theorem dX12_countsRow_67 : decode cX12_countsRow 67 = .ok (.iaload, 1) := by decide +kernel
theorem dX12_countsRow_68 : decode cX12_countsRow 68 = .ok (.iconst 1, 1) := by decide +kernel
theorem dX12_countsRow_69 : decode cX12_countsRow 69 = .ok (.iadd, 1) := by decide +kernel
theorem dX12_countsRow_70 : decode cX12_countsRow 70 = .ok (.iastore, 1) := by decide +kernel
theorem dX12_countsRow_71 : decode cX12_countsRow 71 = .ok (.iinc 4 1, 3) := by decide +kernel
theorem dX12_countsRow_74 : decode cX12_countsRow 74 = .ok (.goto (-49), 3) := by decide +kernel
theorem dX12_countsRow_77 : decode cX12_countsRow 77 = .ok (.iinc 2 1, 3) := by decide +kernel
theorem dX12_countsRow_80 : decode cX12_countsRow 80 = .ok (.goto (-78), 3) := by decide +kernel
theorem dX12_countsRow_83 : decode cX12_countsRow 83 = .ok (.return_, 1) := by decide +kernel
theorem dX12_fills_0 : decode cX12_fills 0 = .ok (.aload_n 0, 1) := by decide +kernel
theorem dX12_fills_1 : decode cX12_fills 1 = .ok (.getfield 400, 3) := by decide +kernel
theorem dX12_fills_4 : decode cX12_fills 4 = .ok (.ifCond .eq 12, 3) := by decide +kernel
theorem dX12_fills_7 : decode cX12_fills 7 = .ok (.aload_n 0, 1) := by decide +kernel
theorem dX12_fills_8 : decode cX12_fills 8 = .ok (.iload_n 1, 1) := by decide +kernel
theorem dX12_fills_9 : decode cX12_fills 9 = .ok (.invokevirtual 403, 3) := by decide +kernel
theorem dX12_fills_12 : decode cX12_fills 12 = .ok (.ifCond .ne 4, 3) := by decide +kernel
theorem dX12_fills_15 : decode cX12_fills 15 = .ok (.return_, 1) := by decide +kernel
theorem dX12_fills_16 : decode cX12_fills 16 = .ok (.aload_n 0, 1) := by decide +kernel
theorem dX12_fills_17 : decode cX12_fills 17 = .ok (.dup, 1) := by decide +kernel
theorem dX12_fills_18 : decode cX12_fills 18 = .ok (.getfield 406, 3) := by decide +kernel
theorem dX12_fills_21 : decode cX12_fills 21 = .ok (.iconst 1, 1) := by decide +kernel
theorem dX12_fills_22 : decode cX12_fills 22 = .ok (.iadd, 1) := by decide +kernel
theorem dX12_fills_23 : decode cX12_fills 23 = .ok (.putfield 406, 3) := by decide +kernel
theorem dX12_fills_26 : decode cX12_fills 26 = .ok (.aload_n 0, 1) := by decide +kernel
theorem dX12_fills_27 : decode cX12_fills 27 = .ok (.aload_n 0, 1) := by decide +kernel
theorem dX12_fills_28 : decode cX12_fills 28 = .ok (.getfield 409, 3) := by decide +kernel
theorem dX12_fills_31 : decode cX12_fills 31 = .ok (.iload_n 2, 1) := by decide +kernel
theorem dX12_fills_32 : decode cX12_fills 32 = .ok (.invokestatic 364, 3) := by decide +kernel
theorem dX12_fills_35 : decode cX12_fills 35 = .ok (.putfield 409, 3) := by decide +kernel
theorem dX12_fills_38 : decode cX12_fills 38 = .ok (.aload_n 0, 1) := by decide +kernel
theorem dX12_fills_39 : decode cX12_fills 39 = .ok (.getfield 400, 3) := by decide +kernel
theorem dX12_fills_42 : decode cX12_fills 42 = .ok (.ifCond .eq 8, 3) := by decide +kernel
theorem dX12_fills_45 : decode cX12_fills 45 = .ok (.aload_n 0, 1) := by decide +kernel
theorem dX12_fills_46 : decode cX12_fills 46 = .ok (.iload_n 1, 1) := by decide +kernel
theorem dX12_fills_47 : decode cX12_fills 47 = .ok (.invokevirtual 412, 3) := by decide +kernel
theorem dX12_fills_50 : decode cX12_fills 50 = .ok (.aload_n 0, 1) := by decide +kernel
theorem dX12_fills_51 : decode cX12_fills 51 = .ok (.getfield 406, 3) := by decide +kernel
theorem dX12_fills_54 : decode cX12_fills 54 = .ok (.iconst 1, 1) := by decide +kernel
theorem dX12_fills_55 : decode cX12_fills 55 = .ok (.if_icmp .le 4, 3) := by decide +kernel
theorem dX12_fills_58 : decode cX12_fills 58 = .ok (.return_, 1) := by decide +kernel
theorem dX12_fills_59 : decode cX12_fills 59 = .ok (.aload_n 0, 1) := by decide +kernel
theorem dX12_fills_60 : decode cX12_fills 60 = .ok (.iload_n 1, 1) := by decide +kernel
theorem dX12_fills_61 : decode cX12_fills 61 = .ok (.putfield 415, 3) := by decide +kernel
theorem dX12_fills_64 : decode cX12_fills 64 = .ok (.iconst 0, 1) := by decide +kernel
theorem dX12_fills_65 : decode cX12_fills 65 = .ok (.istore_n 3, 1) := by decide +kernel
theorem dX12_fills_66 : decode cX12_fills 66 = .ok (.iload_n 3, 1) := by decide +kernel
theorem dX12_fills_67 : decode cX12_fills 67 = .ok (.iload_n 1, 1) := by decide +kernel
theorem dX12_fills_68 : decode cX12_fills 68 = .ok (.if_icmp .ge 21, 3) := by decide +kernel
theorem dX12_fills_71 : decode cX12_fills 71 = .ok (.aload_n 0, 1) := by decide +kernel
theorem dX12_fills_72 : decode cX12_fills 72 = .ok (.getfield 87, 3) := by decide +kernel
theorem dX12_fills_75 : decode cX12_fills 75 = .ok (.iload_n 3, 1) := by decide +kernel
theorem dX12_fills_76 : decode cX12_fills 76 = .ok (.aload_n 0, 1) := by decide +kernel
theorem dX12_fills_77 : decode cX12_fills 77 = .ok (.getfield 81, 3) := by decide +kernel
theorem dX12_fills_80 : decode cX12_fills 80 = .ok (.iload_n 3, 1) := by decide +kernel
theorem dX12_fills_81 : decode cX12_fills 81 = .ok (.iaload, 1) := by decide +kernel
theorem dX12_fills_82 : decode cX12_fills 82 = .ok (.iastore, 1) := by decide +kernel
theorem dX12_fills_83 : decode cX12_fills 83 = .ok (.iinc 3 1, 3) := by decide +kernel
theorem dX12_fills_86 : decode cX12_fills 86 = .ok (.goto (-20), 3) := by decide +kernel
theorem dX12_fills_89 : decode cX12_fills 89 = .ok (.return_, 1) := by decide +kernel
theorem dX12_goesOn_0 : decode cX12_goesOn 0 = .ok (.aload_n 0, 1) := by decide +kernel
theorem dX12_goesOn_1 : decode cX12_goesOn 1 = .ok (.getfield 418, 3) := by decide +kernel
theorem dX12_goesOn_4 : decode cX12_goesOn 4 = .ok (.ifCond .eq 11, 3) := by decide +kernel
theorem dX12_goesOn_7 : decode cX12_goesOn 7 = .ok (.aload_n 0, 1) := by decide +kernel
theorem dX12_goesOn_8 : decode cX12_goesOn 8 = .ok (.getfield 406, 3) := by decide +kernel
theorem dX12_goesOn_11 : decode cX12_goesOn 11 = .ok (.ifCond .le 4, 3) := by decide +kernel
theorem dX12_goesOn_14 : decode cX12_goesOn 14 = .ok (.return_, 1) := by decide +kernel
theorem dX12_goesOn_15 : decode cX12_goesOn 15 = .ok (.aload_n 0, 1) := by decide +kernel
theorem dX12_goesOn_16 : decode cX12_goesOn 16 = .ok (.aload_n 0, 1) := by decide +kernel
theorem dX12_goesOn_17 : decode cX12_goesOn 17 = .ok (.getfield 421, 3) := by decide +kernel
theorem dX12_goesOn_20 : decode cX12_goesOn 20 = .ok (.aload_n 0, 1) := by decide +kernel
theorem dX12_goesOn_21 : decode cX12_goesOn 21 = .ok (.getfield 424, 3) := by decide +kernel
theorem dX12_goesOn_24 : decode cX12_goesOn 24 = .ok (.invokevirtual 354, 3) := by decide +kernel
theorem dX12_goesOn_27 : decode cX12_goesOn 27 = .ok (.istore 4, 2) := by decide +kernel
theorem dX12_goesOn_29 : decode cX12_goesOn 29 = .ok (.iload 4, 2) := by decide +kernel
theorem dX12_goesOn_31 : decode cX12_goesOn 31 = .ok (.iconst (-1), 1) := by decide +kernel
theorem dX12_goesOn_32 : decode cX12_goesOn 32 = .ok (.if_icmp .ne 10, 3) := by decide +kernel
theorem dX12_goesOn_35 : decode cX12_goesOn 35 = .ok (.aload_n 0, 1) := by decide +kernel
theorem dX12_goesOn_36 : decode cX12_goesOn 36 = .ok (.iload_n 2, 1) := by decide +kernel
theorem dX12_goesOn_37 : decode cX12_goesOn 37 = .ok (.iload_n 3, 1) := by decide +kernel
theorem dX12_goesOn_38 : decode cX12_goesOn 38 = .ok (.invokevirtual 427, 3) := by decide +kernel
theorem dX12_goesOn_41 : decode cX12_goesOn 41 = .ok (.return_, 1) := by decide +kernel
theorem dX12_goesOn_42 : decode cX12_goesOn 42 = .ok (.iload 4, 2) := by decide +kernel
theorem dX12_goesOn_44 : decode cX12_goesOn 44 = .ok (.bipush 12, 2) := by decide +kernel
theorem dX12_goesOn_46 : decode cX12_goesOn 46 = .ok (.irem, 1) := by decide +kernel
theorem dX12_goesOn_47 : decode cX12_goesOn 47 = .ok (.istore 5, 2) := by decide +kernel
theorem dX12_goesOn_49 : decode cX12_goesOn 49 = .ok (.iload 4, 2) := by decide +kernel
theorem dX12_goesOn_51 : decode cX12_goesOn 51 = .ok (.bipush 12, 2) := by decide +kernel
theorem dX12_goesOn_53 : decode cX12_goesOn 53 = .ok (.idiv, 1) := by decide +kernel
theorem dX12_goesOn_54 : decode cX12_goesOn 54 = .ok (.istore 6, 2) := by decide +kernel
theorem dX12_goesOn_56 : decode cX12_goesOn 56 = .ok (.iconst 0, 1) := by decide +kernel
theorem dX12_goesOn_57 : decode cX12_goesOn 57 = .ok (.istore 7, 2) := by decide +kernel
theorem dX12_goesOn_59 : decode cX12_goesOn 59 = .ok (.iload 7, 2) := by decide +kernel
theorem dX12_goesOn_61 : decode cX12_goesOn 61 = .ok (.aload_n 0, 1) := by decide +kernel
theorem dX12_goesOn_62 : decode cX12_goesOn 62 = .ok (.invokevirtual 115, 3) := by decide +kernel
theorem dX12_goesOn_65 : decode cX12_goesOn 65 = .ok (.if_icmp .ge 139, 3) := by decide +kernel
theorem dX12_goesOn_68 : decode cX12_goesOn 68 = .ok (.iload_n 1, 1) := by decide +kernel
theorem dX12_goesOn_69 : decode cX12_goesOn 69 = .ok (.iload 7, 2) := by decide +kernel
theorem dX12_goesOn_71 : decode cX12_goesOn 71 = .ok (.invokestatic 348, 3) := by decide +kernel
theorem dX12_goesOn_74 : decode cX12_goesOn 74 = .ok (.ifCond .eq 124, 3) := by decide +kernel
theorem dX12_goesOn_77 : decode cX12_goesOn 77 = .ok (.aload_n 0, 1) := by decide +kernel
theorem dX12_goesOn_78 : decode cX12_goesOn 78 = .ok (.iload 7, 2) := by decide +kernel
theorem dX12_goesOn_80 : decode cX12_goesOn 80 = .ok (.iload 4, 2) := by decide +kernel
theorem dX12_goesOn_82 : decode cX12_goesOn 82 = .ok (.invokevirtual 430, 3) := by decide +kernel
theorem dX12_goesOn_85 : decode cX12_goesOn 85 = .ok (.iconst (-1), 1) := by decide +kernel
theorem dX12_goesOn_86 : decode cX12_goesOn 86 = .ok (.if_icmp .eq 112, 3) := by decide +kernel
theorem dX12_goesOn_89 : decode cX12_goesOn 89 = .ok (.aload_n 0, 1) := by decide +kernel
theorem dX12_goesOn_90 : decode cX12_goesOn 90 = .ok (.aload_n 0, 1) := by decide +kernel
theorem dX12_goesOn_91 : decode cX12_goesOn 91 = .ok (.getfield 28, 3) := by decide +kernel
theorem dX12_goesOn_94 : decode cX12_goesOn 94 = .ok (.bipush 29, 2) := by decide +kernel
theorem dX12_goesOn_96 : decode cX12_goesOn 96 = .ok (.iload 7, 2) := by decide +kernel
theorem dX12_goesOn_98 : decode cX12_goesOn 98 = .ok (.iadd, 1) := by decide +kernel
theorem dX12_goesOn_99 : decode cX12_goesOn 99 = .ok (.iaload, 1) := by decide +kernel
theorem dX12_goesOn_100 : decode cX12_goesOn 100 = .ok (.iload 5, 2) := by decide +kernel
theorem dX12_goesOn_102 : decode cX12_goesOn 102 = .ok (.iload 6, 2) := by decide +kernel
theorem dX12_goesOn_104 : decode cX12_goesOn 104 = .ok (.aload_n 0, 1) := by decide +kernel
theorem dX12_goesOn_105 : decode cX12_goesOn 105 = .ok (.getfield 421, 3) := by decide +kernel
theorem dX12_goesOn_108 : decode cX12_goesOn 108 = .ok (.aload_n 0, 1) := by decide +kernel
theorem dX12_goesOn_109 : decode cX12_goesOn 109 = .ok (.getfield 424, 3) := by decide +kernel
theorem dX12_goesOn_112 : decode cX12_goesOn 112 = .ok (.invokevirtual 360, 3) := by decide +kernel
theorem dX12_goesOn_115 : decode cX12_goesOn 115 = .ok (.ifCond .ne 6, 3) := by decide +kernel
theorem dX12_goesOn_118 : decode cX12_goesOn 118 = .ok (.goto 80, 3) := by decide +kernel
theorem dX12_goesOn_121 : decode cX12_goesOn 121 = .ok (.aload_n 0, 1) := by decide +kernel
theorem dX12_goesOn_122 : decode cX12_goesOn 122 = .ok (.aload_n 0, 1) := by decide +kernel
theorem dX12_goesOn_123 : decode cX12_goesOn 123 = .ok (.getfield 28, 3) := by decide +kernel
theorem dX12_goesOn_126 : decode cX12_goesOn 126 = .ok (.bipush 29, 2) := by decide +kernel
theorem dX12_goesOn_128 : decode cX12_goesOn 128 = .ok (.iload 7, 2) := by decide +kernel
theorem dX12_goesOn_130 : decode cX12_goesOn 130 = .ok (.iadd, 1) := by decide +kernel
theorem dX12_goesOn_131 : decode cX12_goesOn 131 = .ok (.iaload, 1) := by decide +kernel
theorem dX12_goesOn_132 : decode cX12_goesOn 132 = .ok (.iload 5, 2) := by decide +kernel
theorem dX12_goesOn_134 : decode cX12_goesOn 134 = .ok (.iload 6, 2) := by decide +kernel
theorem dX12_goesOn_136 : decode cX12_goesOn 136 = .ok (.invokevirtual 345, 3) := by decide +kernel
theorem dX12_goesOn_139 : decode cX12_goesOn 139 = .ok (.aload_n 0, 1) := by decide +kernel
theorem dX12_goesOn_140 : decode cX12_goesOn 140 = .ok (.getfield 81, 3) := by decide +kernel
theorem dX12_goesOn_143 : decode cX12_goesOn 143 = .ok (.iload_n 2, 1) := by decide +kernel
theorem dX12_goesOn_144 : decode cX12_goesOn 144 = .ok (.iload 7, 2) := by decide +kernel
theorem dX12_goesOn_146 : decode cX12_goesOn 146 = .ok (.iastore, 1) := by decide +kernel
theorem dX12_goesOn_147 : decode cX12_goesOn 147 = .ok (.aload_n 0, 1) := by decide +kernel
theorem dX12_goesOn_148 : decode cX12_goesOn 148 = .ok (.getfield 84, 3) := by decide +kernel
theorem dX12_goesOn_151 : decode cX12_goesOn 151 = .ok (.iload_n 2, 1) := by decide +kernel
theorem dX12_goesOn_152 : decode cX12_goesOn 152 = .ok (.iload 4, 2) := by decide +kernel
theorem dX12_goesOn_154 : decode cX12_goesOn 154 = .ok (.iastore, 1) := by decide +kernel
theorem dX12_goesOn_155 : decode cX12_goesOn 155 = .ok (.aload_n 0, 1) := by decide +kernel
theorem dX12_goesOn_156 : decode cX12_goesOn 156 = .ok (.iload_n 1, 1) := by decide +kernel
theorem dX12_goesOn_157 : decode cX12_goesOn 157 = .ok (.iconst 1, 1) := by decide +kernel
theorem dX12_goesOn_158 : decode cX12_goesOn 158 = .ok (.iload 7, 2) := by decide +kernel
theorem dX12_goesOn_160 : decode cX12_goesOn 160 = .ok (.ishl, 1) := by decide +kernel
theorem dX12_goesOn_161 : decode cX12_goesOn 161 = .ok (.iconst (-1), 1) := by decide +kernel
theorem dX12_goesOn_162 : decode cX12_goesOn 162 = .ok (.ixor, 1) := by decide +kernel
theorem dX12_goesOn_163 : decode cX12_goesOn 163 = .ok (.iand, 1) := by decide +kernel
theorem dX12_goesOn_164 : decode cX12_goesOn 164 = .ok (.iload_n 2, 1) := by decide +kernel
theorem dX12_goesOn_165 : decode cX12_goesOn 165 = .ok (.iconst 1, 1) := by decide +kernel
theorem dX12_goesOn_166 : decode cX12_goesOn 166 = .ok (.iadd, 1) := by decide +kernel
theorem dX12_goesOn_167 : decode cX12_goesOn 167 = .ok (.iload_n 3, 1) := by decide +kernel
theorem dX12_goesOn_168 : decode cX12_goesOn 168 = .ok (.aload_n 0, 1) := by decide +kernel
theorem dX12_goesOn_169 : decode cX12_goesOn 169 = .ok (.iload 7, 2) := by decide +kernel
theorem dX12_goesOn_171 : decode cX12_goesOn 171 = .ok (.iload 4, 2) := by decide +kernel
theorem dX12_goesOn_173 : decode cX12_goesOn 173 = .ok (.invokevirtual 430, 3) := by decide +kernel
theorem dX12_goesOn_176 : decode cX12_goesOn 176 = .ok (.iadd, 1) := by decide +kernel
theorem dX12_goesOn_177 : decode cX12_goesOn 177 = .ok (.invokevirtual 433, 3) := by decide +kernel
theorem dX12_goesOn_180 : decode cX12_goesOn 180 = .ok (.aload_n 0, 1) := by decide +kernel
theorem dX12_goesOn_181 : decode cX12_goesOn 181 = .ok (.aload_n 0, 1) := by decide +kernel
theorem dX12_goesOn_182 : decode cX12_goesOn 182 = .ok (.getfield 28, 3) := by decide +kernel
theorem dX12_goesOn_185 : decode cX12_goesOn 185 = .ok (.bipush 29, 2) := by decide +kernel
theorem dX12_goesOn_187 : decode cX12_goesOn 187 = .ok (.iload 7, 2) := by decide +kernel
theorem dX12_goesOn_189 : decode cX12_goesOn 189 = .ok (.iadd, 1) := by decide +kernel
theorem dX12_goesOn_190 : decode cX12_goesOn 190 = .ok (.iaload, 1) := by decide +kernel
theorem dX12_goesOn_191 : decode cX12_goesOn 191 = .ok (.iload 5, 2) := by decide +kernel
theorem dX12_goesOn_193 : decode cX12_goesOn 193 = .ok (.iload 6, 2) := by decide +kernel
theorem dX12_goesOn_195 : decode cX12_goesOn 195 = .ok (.invokevirtual 345, 3) := by decide +kernel
theorem dX12_goesOn_198 : decode cX12_goesOn 198 = .ok (.iinc 7 1, 3) := by decide +kernel
theorem dX12_goesOn_201 : decode cX12_goesOn 201 = .ok (.goto (-142), 3) := by decide +kernel
theorem dX12_goesOn_204 : decode cX12_goesOn 204 = .ok (.return_, 1) := by decide +kernel
theorem dX12_goesThrough_0 : decode cX12_goesThrough 0 = .ok (.aload_n 0, 1) := by decide +kernel
theorem dX12_goesThrough_1 : decode cX12_goesThrough 1 = .ok (.iload_n 2, 1) := by decide +kernel
theorem dX12_goesThrough_2 : decode cX12_goesThrough 2 = .ok (.putfield 421, 3) := by decide +kernel
theorem dX12_goesThrough_5 : decode cX12_goesThrough 5 = .ok (.aload_n 0, 1) := by decide +kernel
theorem dX12_goesThrough_6 : decode cX12_goesThrough 6 = .ok (.iload_n 3, 1) := by decide +kernel
theorem dX12_goesThrough_7 : decode cX12_goesThrough 7 = .ok (.putfield 424, 3) := by decide +kernel
theorem dX12_goesThrough_10 : decode cX12_goesThrough 10 = .ok (.aload_n 0, 1) := by decide +kernel
theorem dX12_goesThrough_11 : decode cX12_goesThrough 11 = .ok (.iconst 0, 1) := by decide +kernel
theorem dX12_goesThrough_12 : decode cX12_goesThrough 12 = .ok (.putfield 406, 3) := by decide +kernel
theorem dX12_goesThrough_15 : decode cX12_goesThrough 15 = .ok (.aload_n 0, 1) := by decide +kernel
theorem dX12_goesThrough_16 : decode cX12_goesThrough 16 = .ok (.iconst 0, 1) := by decide +kernel
theorem dX12_goesThrough_17 : decode cX12_goesThrough 17 = .ok (.putfield 415, 3) := by decide +kernel
theorem dX12_goesThrough_20 : decode cX12_goesThrough 20 = .ok (.aload_n 0, 1) := by decide +kernel
theorem dX12_goesThrough_21 : decode cX12_goesThrough 21 = .ok (.ldc 188, 2) := by decide +kernel
theorem dX12_goesThrough_23 : decode cX12_goesThrough 23 = .ok (.putfield 409, 3) := by decide +kernel
theorem dX12_goesThrough_26 : decode cX12_goesThrough 26 = .ok (.aload_n 0, 1) := by decide +kernel
theorem dX12_goesThrough_27 : decode cX12_goesThrough 27 = .ok (.iload_n 1, 1) := by decide +kernel
theorem dX12_goesThrough_28 : decode cX12_goesThrough 28 = .ok (.iconst 0, 1) := by decide +kernel
theorem dX12_goesThrough_29 : decode cX12_goesThrough 29 = .ok (.iconst 0, 1) := by decide +kernel
theorem dX12_goesThrough_30 : decode cX12_goesThrough 30 = .ok (.invokevirtual 433, 3) := by decide +kernel
theorem dX12_goesThrough_33 : decode cX12_goesThrough 33 = .ok (.return_, 1) := by decide +kernel
theorem dX12_fillsNow_0 : decode cX12_fillsNow 0 = .ok (.aload_n 0, 1) := by decide +kernel
theorem dX12_fillsNow_1 : decode cX12_fillsNow 1 = .ok (.invokevirtual 436, 3) := by decide +kernel
theorem dX12_fillsNow_4 : decode cX12_fillsNow 4 = .ok (.istore_n 2, 1) := by decide +kernel
theorem dX12_fillsNow_5 : decode cX12_fillsNow 5 = .ok (.aload_n 0, 1) := by decide +kernel
theorem dX12_fillsNow_6 : decode cX12_fillsNow 6 = .ok (.iload_n 2, 1) := by decide +kernel
theorem dX12_fillsNow_7 : decode cX12_fillsNow 7 = .ok (.invokevirtual 439, 3) := by decide +kernel
theorem dX12_fillsNow_10 : decode cX12_fillsNow 10 = .ok (.aload_n 0, 1) := by decide +kernel
theorem dX12_fillsNow_11 : decode cX12_fillsNow 11 = .ok (.invokevirtual 351, 3) := by decide +kernel
theorem dX12_fillsNow_14 : decode cX12_fillsNow 14 = .ok (.aload_n 0, 1) := by decide +kernel
theorem dX12_fillsNow_15 : decode cX12_fillsNow 15 = .ok (.iload_n 1, 1) := by decide +kernel
theorem dX12_fillsNow_16 : decode cX12_fillsNow 16 = .ok (.putfield 400, 3) := by decide +kernel
theorem dX12_fillsNow_19 : decode cX12_fillsNow 19 = .ok (.aload_n 0, 1) := by decide +kernel
theorem dX12_fillsNow_20 : decode cX12_fillsNow 20 = .ok (.iconst 0, 1) := by decide +kernel
theorem dX12_fillsNow_21 : decode cX12_fillsNow 21 = .ok (.putfield 418, 3) := by decide +kernel
theorem dX12_fillsNow_24 : decode cX12_fillsNow 24 = .ok (.aload_n 0, 1) := by decide +kernel
theorem dX12_fillsNow_25 : decode cX12_fillsNow 25 = .ok (.iload_n 2, 1) := by decide +kernel
theorem dX12_fillsNow_26 : decode cX12_fillsNow 26 = .ok (.aload_n 0, 1) := by decide +kernel
theorem dX12_fillsNow_27 : decode cX12_fillsNow 27 = .ok (.getfield 28, 3) := by decide +kernel
theorem dX12_fillsNow_30 : decode cX12_fillsNow 30 = .ok (.bipush 67, 2) := by decide +kernel
theorem dX12_fillsNow_32 : decode cX12_fillsNow 32 = .ok (.iaload, 1) := by decide +kernel
theorem dX12_fillsNow_33 : decode cX12_fillsNow 33 = .ok (.aload_n 0, 1) := by decide +kernel
theorem dX12_fillsNow_34 : decode cX12_fillsNow 34 = .ok (.getfield 28, 3) := by decide +kernel
theorem dX12_fillsNow_37 : decode cX12_fillsNow 37 = .ok (.bipush 68, 2) := by decide +kernel
theorem dX12_fillsNow_39 : decode cX12_fillsNow 39 = .ok (.iaload, 1) := by decide +kernel
theorem dX12_fillsNow_40 : decode cX12_fillsNow 40 = .ok (.invokevirtual 442, 3) := by decide +kernel
theorem dX12_fillsNow_43 : decode cX12_fillsNow 43 = .ok (.return_, 1) := by decide +kernel
theorem dX12_fill_0 : decode cX12_fill 0 = .ok (.iload_n 1, 1) := by decide +kernel
theorem dX12_fill_1 : decode cX12_fill 1 = .ok (.iconst (-1), 1) := by decide +kernel
theorem dX12_fill_2 : decode cX12_fill 2 = .ok (.if_icmp .ge 5, 3) := by decide +kernel
theorem dX12_fill_5 : decode cX12_fill 5 = .ok (.iconst (-1), 1) := by decide +kernel
theorem dX12_fill_6 : decode cX12_fill 6 = .ok (.ireturn, 1) := by decide +kernel
theorem dX12_fill_7 : decode cX12_fill 7 = .ok (.aload_n 0, 1) := by decide +kernel
theorem dX12_fill_8 : decode cX12_fill 8 = .ok (.iconst 0, 1) := by decide +kernel
theorem dX12_fill_9 : decode cX12_fill 9 = .ok (.invokevirtual 445, 3) := by decide +kernel
theorem dX12_fill_12 : decode cX12_fill 12 = .ok (.aload_n 0, 1) := by decide +kernel
theorem dX12_fill_13 : decode cX12_fill 13 = .ok (.getfield 406, 3) := by decide +kernel
theorem dX12_fill_16 : decode cX12_fill 16 = .ok (.ifCond .ne 5, 3) := by decide +kernel
theorem dX12_fill_19 : decode cX12_fill 19 = .ok (.iconst (-1), 1) := by decide +kernel
theorem dX12_fill_20 : decode cX12_fill 20 = .ok (.ireturn, 1) := by decide +kernel
theorem dX12_fill_21 : decode cX12_fill 21 = .ok (.iload_n 1, 1) := by decide +kernel
theorem dX12_fill_22 : decode cX12_fill 22 = .ok (.iconst (-1), 1) := by decide +kernel
theorem dX12_fill_23 : decode cX12_fill 23 = .ok (.if_icmp .ne 10, 3) := by decide +kernel
theorem dX12_fill_26 : decode cX12_fill 26 = .ok (.aload_n 0, 1) := by decide +kernel
theorem dX12_fill_27 : decode cX12_fill 27 = .ok (.getfield 415, 3) := by decide +kernel
theorem dX12_fill_30 : decode cX12_fill 30 = .ok (.goto 21, 3) := by decide +kernel
theorem dX12_fill_33 : decode cX12_fill 33 = .ok (.iload_n 1, 1) := by decide +kernel
theorem dX12_fill_34 : decode cX12_fill 34 = .ok (.aload_n 0, 1) := by decide +kernel
theorem dX12_fill_35 : decode cX12_fill 35 = .ok (.getfield 415, 3) := by decide +kernel
theorem dX12_fill_38 : decode cX12_fill 38 = .ok (.if_icmp .ge 12, 3) := by decide +kernel
theorem dX12_fill_41 : decode cX12_fill 41 = .ok (.aload_n 0, 1) := by decide +kernel
theorem dX12_fill_42 : decode cX12_fill 42 = .ok (.getfield 87, 3) := by decide +kernel
theorem dX12_fill_45 : decode cX12_fill 45 = .ok (.iload_n 1, 1) := by decide +kernel
theorem dX12_fill_46 : decode cX12_fill 46 = .ok (.iaload, 1) := by decide +kernel
theorem dX12_fill_47 : decode cX12_fill 47 = .ok (.goto 4, 3) := by decide +kernel
theorem dX12_fill_50 : decode cX12_fill 50 = .ok (.iconst (-1), 1) := by decide +kernel
theorem dX12_fill_51 : decode cX12_fill 51 = .ok (.ireturn, 1) := by decide +kernel
theorem dX12_ways_0 : decode cX12_ways 0 = .ok (.aload_n 0, 1) := by decide +kernel
theorem dX12_ways_1 : decode cX12_ways 1 = .ok (.iconst 0, 1) := by decide +kernel
theorem dX12_ways_2 : decode cX12_ways 2 = .ok (.invokevirtual 445, 3) := by decide +kernel
theorem dX12_ways_5 : decode cX12_ways 5 = .ok (.aload_n 0, 1) := by decide +kernel
theorem dX12_ways_6 : decode cX12_ways 6 = .ok (.getfield 406, 3) := by decide +kernel
theorem dX12_ways_9 : decode cX12_ways 9 = .ok (.ireturn, 1) := by decide +kernel
theorem dX12_cheapest_0 : decode cX12_cheapest 0 = .ok (.aload_n 0, 1) := by decide +kernel
theorem dX12_cheapest_1 : decode cX12_cheapest 1 = .ok (.iconst 0, 1) := by decide +kernel
theorem dX12_cheapest_2 : decode cX12_cheapest 2 = .ok (.invokevirtual 445, 3) := by decide +kernel
theorem dX12_cheapest_5 : decode cX12_cheapest 5 = .ok (.aload_n 0, 1) := by decide +kernel
theorem dX12_cheapest_6 : decode cX12_cheapest 6 = .ok (.getfield 406, 3) := by decide +kernel
theorem dX12_cheapest_9 : decode cX12_cheapest 9 = .ok (.ifCond .ne 7, 3) := by decide +kernel
theorem dX12_cheapest_12 : decode cX12_cheapest 12 = .ok (.iconst (-1), 1) := by decide +kernel
theorem dX12_cheapest_13 : decode cX12_cheapest 13 = .ok (.goto 7, 3) := by decide +kernel
theorem dX12_cheapest_16 : decode cX12_cheapest 16 = .ok (.aload_n 0, 1) := by decide +kernel
theorem dX12_cheapest_17 : decode cX12_cheapest 17 = .ok (.getfield 409, 3) := by decide +kernel
theorem dX12_cheapest_20 : decode cX12_cheapest 20 = .ok (.ireturn, 1) := by decide +kernel
theorem dX12_compare_0 : decode cX12_compare 0 = .ok (.aload_n 0, 1) := by decide +kernel
theorem dX12_compare_1 : decode cX12_compare 1 = .ok (.iload_n 1, 1) := by decide +kernel
theorem dX12_compare_2 : decode cX12_compare 2 = .ok (.invokevirtual 275, 3) := by decide +kernel
theorem dX12_compare_5 : decode cX12_compare 5 = .ok (.ifCond .ne 5, 3) := by decide +kernel
theorem dX12_compare_8 : decode cX12_compare 8 = .ok (.iconst (-1), 1) := by decide +kernel
theorem dX12_compare_9 : decode cX12_compare 9 = .ok (.ireturn, 1) := by decide +kernel
theorem dX12_compare_10 : decode cX12_compare 10 = .ok (.aload_n 0, 1) := by decide +kernel
theorem dX12_compare_11 : decode cX12_compare 11 = .ok (.getfield 28, 3) := by decide +kernel
theorem dX12_compare_14 : decode cX12_compare 14 = .ok (.bipush 72, 2) := by decide +kernel
theorem dX12_compare_16 : decode cX12_compare 16 = .ok (.iaload, 1) := by decide +kernel
theorem dX12_compare_17 : decode cX12_compare 17 = .ok (.istore_n 2, 1) := by decide +kernel
theorem dX12_compare_18 : decode cX12_compare 18 = .ok (.aload_n 0, 1) := by decide +kernel
theorem dX12_compare_19 : decode cX12_compare 19 = .ok (.getfield 28, 3) := by decide +kernel
theorem dX12_compare_22 : decode cX12_compare 22 = .ok (.bipush 72, 2) := by decide +kernel
theorem dX12_compare_24 : decode cX12_compare 24 = .ok (.iload_n 1, 1) := by decide +kernel
theorem dX12_compare_25 : decode cX12_compare 25 = .ok (.iastore, 1) := by decide +kernel
theorem dX12_compare_26 : decode cX12_compare 26 = .ok (.aload_n 0, 1) := by decide +kernel
theorem dX12_compare_27 : decode cX12_compare 27 = .ok (.invokevirtual 449, 3) := by decide +kernel
theorem dX12_compare_30 : decode cX12_compare 30 = .ok (.istore_n 3, 1) := by decide +kernel
theorem dX12_compare_31 : decode cX12_compare 31 = .ok (.aload_n 0, 1) := by decide +kernel
theorem dX12_compare_32 : decode cX12_compare 32 = .ok (.getfield 28, 3) := by decide +kernel
theorem dX12_compare_35 : decode cX12_compare 35 = .ok (.bipush 72, 2) := by decide +kernel
theorem dX12_compare_37 : decode cX12_compare 37 = .ok (.iload_n 2, 1) := by decide +kernel
theorem dX12_compare_38 : decode cX12_compare 38 = .ok (.iastore, 1) := by decide +kernel
theorem dX12_compare_39 : decode cX12_compare 39 = .ok (.iload_n 3, 1) := by decide +kernel
theorem dX12_compare_40 : decode cX12_compare 40 = .ok (.ireturn, 1) := by decide +kernel
theorem dX12_isMovable_0 : decode cX12_isMovable 0 = .ok (.aload_n 0, 1) := by decide +kernel
theorem dX12_isMovable_1 : decode cX12_isMovable 1 = .ok (.getfield 28, 3) := by decide +kernel
theorem dX12_isMovable_4 : decode cX12_isMovable 4 = .ok (.bipush 9, 2) := by decide +kernel
theorem dX12_isMovable_6 : decode cX12_isMovable 6 = .ok (.iload_n 1, 1) := by decide +kernel
theorem dX12_isMovable_7 : decode cX12_isMovable 7 = .ok (.iadd, 1) := by decide +kernel
theorem dX12_isMovable_8 : decode cX12_isMovable 8 = .ok (.iaload, 1) := by decide +kernel
theorem dX12_isMovable_9 : decode cX12_isMovable 9 = .ok (.istore_n 2, 1) := by decide +kernel
theorem dX12_isMovable_10 : decode cX12_isMovable 10 = .ok (.aload_n 0, 1) := by decide +kernel
theorem dX12_isMovable_11 : decode cX12_isMovable 11 = .ok (.getfield 28, 3) := by decide +kernel
theorem dX12_isMovable_14 : decode cX12_isMovable 14 = .ok (.bipush 18, 2) := by decide +kernel
theorem dX12_isMovable_16 : decode cX12_isMovable 16 = .ok (.iload_n 1, 1) := by decide +kernel
theorem dX12_isMovable_17 : decode cX12_isMovable 17 = .ok (.iadd, 1) := by decide +kernel
theorem dX12_isMovable_18 : decode cX12_isMovable 18 = .ok (.iaload, 1) := by decide +kernel
theorem dX12_isMovable_19 : decode cX12_isMovable 19 = .ok (.istore_n 3, 1) := by decide +kernel
theorem dX12_isMovable_20 : decode cX12_isMovable 20 = .ok (.aload_n 0, 1) := by decide +kernel
theorem dX12_isMovable_21 : decode cX12_isMovable 21 = .ok (.iload_n 1, 1) := by decide +kernel
theorem dX12_isMovable_22 : decode cX12_isMovable 22 = .ok (.invokevirtual 123, 3) := by decide +kernel
theorem dX12_isMovable_25 : decode cX12_isMovable 25 = .ok (.aload_n 0, 1) := by decide +kernel
theorem dX12_isMovable_26 : decode cX12_isMovable 26 = .ok (.iconst 0, 1) := by decide +kernel
theorem dX12_isMovable_27 : decode cX12_isMovable 27 = .ok (.invokevirtual 445, 3) := by decide +kernel
theorem dX12_isMovable_30 : decode cX12_isMovable 30 = .ok (.aload_n 0, 1) := by decide +kernel
theorem dX12_isMovable_31 : decode cX12_isMovable 31 = .ok (.getfield 28, 3) := by decide +kernel
theorem dX12_isMovable_34 : decode cX12_isMovable 34 = .ok (.bipush 9, 2) := by decide +kernel
theorem dX12_isMovable_36 : decode cX12_isMovable 36 = .ok (.iload_n 1, 1) := by decide +kernel
theorem dX12_isMovable_37 : decode cX12_isMovable 37 = .ok (.iadd, 1) := by decide +kernel
theorem dX12_isMovable_38 : decode cX12_isMovable 38 = .ok (.iload_n 2, 1) := by decide +kernel
theorem dX12_isMovable_39 : decode cX12_isMovable 39 = .ok (.iastore, 1) := by decide +kernel
theorem dX12_isMovable_40 : decode cX12_isMovable 40 = .ok (.aload_n 0, 1) := by decide +kernel
theorem dX12_isMovable_41 : decode cX12_isMovable 41 = .ok (.getfield 28, 3) := by decide +kernel
theorem dX12_isMovable_44 : decode cX12_isMovable 44 = .ok (.bipush 18, 2) := by decide +kernel
theorem dX12_isMovable_46 : decode cX12_isMovable 46 = .ok (.iload_n 1, 1) := by decide +kernel
theorem dX12_isMovable_47 : decode cX12_isMovable 47 = .ok (.iadd, 1) := by decide +kernel
theorem dX12_isMovable_48 : decode cX12_isMovable 48 = .ok (.iload_n 3, 1) := by decide +kernel
theorem dX12_isMovable_49 : decode cX12_isMovable 49 = .ok (.iastore, 1) := by decide +kernel
theorem dX12_isMovable_50 : decode cX12_isMovable 50 = .ok (.aload_n 0, 1) := by decide +kernel
theorem dX12_isMovable_51 : decode cX12_isMovable 51 = .ok (.getfield 406, 3) := by decide +kernel
theorem dX12_isMovable_54 : decode cX12_isMovable 54 = .ok (.iconst 1, 1) := by decide +kernel
theorem dX12_isMovable_55 : decode cX12_isMovable 55 = .ok (.if_icmp .ne 25, 3) := by decide +kernel
theorem dX12_isMovable_58 : decode cX12_isMovable 58 = .ok (.aload_n 0, 1) := by decide +kernel
theorem dX12_isMovable_59 : decode cX12_isMovable 59 = .ok (.getfield 415, 3) := by decide +kernel
theorem dX12_isMovable_62 : decode cX12_isMovable 62 = .ok (.iconst 1, 1) := by decide +kernel
theorem dX12_isMovable_63 : decode cX12_isMovable 63 = .ok (.if_icmp .ne 13, 3) := by decide +kernel
theorem dX12_isMovable_66 : decode cX12_isMovable 66 = .ok (.aload_n 0, 1) := by decide +kernel
theorem dX12_isMovable_67 : decode cX12_isMovable 67 = .ok (.getfield 87, 3) := by decide +kernel
theorem dX12_isMovable_70 : decode cX12_isMovable 70 = .ok (.iconst 0, 1) := by decide +kernel
theorem dX12_isMovable_71 : decode cX12_isMovable 71 = .ok (.iaload, 1) := by decide +kernel
theorem dX12_isMovable_72 : decode cX12_isMovable 72 = .ok (.iload_n 1, 1) := by decide +kernel
theorem dX12_isMovable_73 : decode cX12_isMovable 73 = .ok (.if_icmp .eq 7, 3) := by decide +kernel
theorem dX12_isMovable_76 : decode cX12_isMovable 76 = .ok (.iconst 1, 1) := by decide +kernel
theorem dX12_isMovable_77 : decode cX12_isMovable 77 = .ok (.goto 4, 3) := by decide +kernel
theorem dX12_isMovable_80 : decode cX12_isMovable 80 = .ok (.iconst 0, 1) := by decide +kernel
theorem dX12_isMovable_81 : decode cX12_isMovable 81 = .ok (.ireturn, 1) := by decide +kernel
theorem dX12_free_0 : decode cX12_free 0 = .ok (.iconst 0, 1) := by decide +kernel
theorem dX12_free_1 : decode cX12_free 1 = .ok (.istore_n 1, 1) := by decide +kernel
theorem dX12_free_2 : decode cX12_free 2 = .ok (.iconst 0, 1) := by decide +kernel
theorem dX12_free_3 : decode cX12_free 3 = .ok (.istore_n 2, 1) := by decide +kernel
theorem dX12_free_4 : decode cX12_free 4 = .ok (.iload_n 2, 1) := by decide +kernel
theorem dX12_free_5 : decode cX12_free 5 = .ok (.aload_n 0, 1) := by decide +kernel
theorem dX12_free_6 : decode cX12_free 6 = .ok (.invokevirtual 115, 3) := by decide +kernel
theorem dX12_free_9 : decode cX12_free 9 = .ok (.if_icmp .ge 35, 3) := by decide +kernel
theorem dX12_free_12 : decode cX12_free 12 = .ok (.iload_n 1, 1) := by decide +kernel
theorem dX12_free_13 : decode cX12_free 13 = .ok (.aload_n 0, 1) := by decide +kernel
theorem dX12_free_14 : decode cX12_free 14 = .ok (.iload_n 2, 1) := by decide +kernel
theorem dX12_free_15 : decode cX12_free 15 = .ok (.invokevirtual 137, 3) := by decide +kernel
theorem dX12_free_18 : decode cX12_free 18 = .ok (.ifCond .eq 17, 3) := by decide +kernel
theorem dX12_free_21 : decode cX12_free 21 = .ok (.aload_n 0, 1) := by decide +kernel
theorem dX12_free_22 : decode cX12_free 22 = .ok (.iload_n 2, 1) := by decide +kernel
theorem dX12_free_23 : decode cX12_free 23 = .ok (.invokevirtual 452, 3) := by decide +kernel
theorem dX12_free_26 : decode cX12_free 26 = .ok (.ifCond .eq 9, 3) := by decide +kernel
theorem dX12_free_29 : decode cX12_free 29 = .ok (.iconst 1, 1) := by decide +kernel
theorem dX12_free_30 : decode cX12_free 30 = .ok (.iload_n 2, 1) := by decide +kernel
theorem dX12_free_31 : decode cX12_free 31 = .ok (.ishl, 1) := by decide +kernel
theorem dX12_free_32 : decode cX12_free 32 = .ok (.goto 4, 3) := by decide +kernel
theorem dX12_free_35 : decode cX12_free 35 = .ok (.iconst 0, 1) := by decide +kernel
theorem dX12_free_36 : decode cX12_free 36 = .ok (.ior, 1) := by decide +kernel
theorem dX12_free_37 : decode cX12_free 37 = .ok (.istore_n 1, 1) := by decide +kernel
theorem dX12_free_38 : decode cX12_free 38 = .ok (.iinc 2 1, 3) := by decide +kernel
theorem dX12_free_41 : decode cX12_free 41 = .ok (.goto (-37), 3) := by decide +kernel
theorem dX12_free_44 : decode cX12_free 44 = .ok (.iload_n 1, 1) := by decide +kernel
theorem dX12_free_45 : decode cX12_free 45 = .ok (.ireturn, 1) := by decide +kernel
theorem dX12_canFill_0 : decode cX12_canFill 0 = .ok (.iconst 0, 1) := by decide +kernel
theorem dX12_canFill_1 : decode cX12_canFill 1 = .ok (.istore 4, 2) := by decide +kernel
theorem dX12_canFill_3 : decode cX12_canFill 3 = .ok (.iload 4, 2) := by decide +kernel
theorem dX12_canFill_5 : decode cX12_canFill 5 = .ok (.bipush 12, 2) := by decide +kernel
theorem dX12_canFill_7 : decode cX12_canFill 7 = .ok (.if_icmp .ge 17, 3) := by decide +kernel
theorem dX12_canFill_10 : decode cX12_canFill 10 = .ok (.aload_n 0, 1) := by decide +kernel
theorem dX12_canFill_11 : decode cX12_canFill 11 = .ok (.getfield 66, 3) := by decide +kernel
theorem dX12_canFill_14 : decode cX12_canFill 14 = .ok (.iload 4, 2) := by decide +kernel
theorem dX12_canFill_16 : decode cX12_canFill 16 = .ok (.iconst 0, 1) := by decide +kernel
theorem dX12_canFill_17 : decode cX12_canFill 17 = .ok (.iastore, 1) := by decide +kernel
theorem dX12_canFill_18 : decode cX12_canFill 18 = .ok (.iinc 4 1, 3) := by decide +kernel
theorem dX12_canFill_21 : decode cX12_canFill 21 = .ok (.goto (-18), 3) := by decide +kernel
theorem dX12_canFill_24 : decode cX12_canFill 24 = .ok (.aload_n 0, 1) := by decide +kernel
theorem dX12_canFill_25 : decode cX12_canFill 25 = .ok (.iload_n 1, 1) := by decide +kernel
theorem dX12_canFill_26 : decode cX12_canFill 26 = .ok (.iload_n 2, 1) := by decide +kernel
theorem dX12_canFill_27 : decode cX12_canFill 27 = .ok (.iload_n 3, 1) := by decide +kernel
theorem dX12_canFill_28 : decode cX12_canFill 28 = .ok (.invokevirtual 442, 3) := by decide +kernel
theorem dX12_canFill_31 : decode cX12_canFill 31 = .ok (.aload_n 0, 1) := by decide +kernel
theorem dX12_canFill_32 : decode cX12_canFill 32 = .ok (.getfield 406, 3) := by decide +kernel
theorem dX12_canFill_35 : decode cX12_canFill 35 = .ok (.ifCond .le 7, 3) := by decide +kernel
theorem dX12_canFill_38 : decode cX12_canFill 38 = .ok (.iconst 1, 1) := by decide +kernel
theorem dX12_canFill_39 : decode cX12_canFill 39 = .ok (.goto 4, 3) := by decide +kernel
theorem dX12_canFill_42 : decode cX12_canFill 42 = .ok (.iconst 0, 1) := by decide +kernel
theorem dX12_canFill_43 : decode cX12_canFill 43 = .ok (.ireturn, 1) := by decide +kernel
