theorem dX7_tallyKey_0 : decode cX7_tallyKey 0 = .ok (.aload_n 0, 1) := by decide +kernel
theorem dX7_tallyKey_1 : decode cX7_tallyKey 1 = .ok (.lload_n 1, 1) := by decide +kernel
theorem dX7_tallyKey_2 : decode cX7_tallyKey 2 = .ok (.iconst 0, 1) := by decide +kernel
theorem dX7_tallyKey_3 : decode cX7_tallyKey 3 = .ok (.invokevirtual 104, 3) := by decide +kernel
theorem dX7_tallyKey_6 : decode cX7_tallyKey 6 = .ok (.istore 4, 2) := by decide +kernel
theorem dX7_tallyKey_8 : decode cX7_tallyKey 8 = .ok (.iconst 0, 1) := by decide +kernel
theorem dX7_tallyKey_9 : decode cX7_tallyKey 9 = .ok (.istore 5, 2) := by decide +kernel
theorem dX7_tallyKey_11 : decode cX7_tallyKey 11 = .ok (.iload 5, 2) := by decide +kernel
theorem dX7_tallyKey_13 : decode cX7_tallyKey 13 = .ok (.aload_n 0, 1) := by decide +kernel
theorem dX7_tallyKey_14 : decode cX7_tallyKey 14 = .ok (.getfield 38, 3) := by decide +kernel
theorem dX7_tallyKey_17 : decode cX7_tallyKey 17 = .ok (.getfield 123, 3) := by decide +kernel
theorem dX7_tallyKey_20 : decode cX7_tallyKey 20 = .ok (.if_icmp .ge 101, 3) := by decide +kernel
theorem dX7_tallyKey_23 : decode cX7_tallyKey 23 = .ok (.aload_n 0, 1) := by decide +kernel
theorem dX7_tallyKey_24 : decode cX7_tallyKey 24 = .ok (.lload_n 1, 1) := by decide +kernel
theorem dX7_tallyKey_25 : decode cX7_tallyKey 25 = .ok (.iload 5, 2) := by decide +kernel
theorem dX7_tallyKey_27 : decode cX7_tallyKey 27 = .ok (.iload 4, 2) := by decide +kernel
theorem dX7_tallyKey_29 : decode cX7_tallyKey 29 = .ok (.invokevirtual 108, 3) := by decide +kernel
theorem dX7_tallyKey_32 : decode cX7_tallyKey 32 = .ok (.ifCond .eq 83, 3) := by decide +kernel
theorem dX7_tallyKey_35 : decode cX7_tallyKey 35 = .ok (.aload_n 0, 1) := by decide +kernel
theorem dX7_tallyKey_36 : decode cX7_tallyKey 36 = .ok (.iload 5, 2) := by decide +kernel
theorem dX7_tallyKey_38 : decode cX7_tallyKey 38 = .ok (.iload 4, 2) := by decide +kernel
theorem dX7_tallyKey_40 : decode cX7_tallyKey 40 = .ok (.invokevirtual 112, 3) := by decide +kernel
theorem dX7_tallyKey_43 : decode cX7_tallyKey 43 = .ok (.iconst (-1), 1) := by decide +kernel
theorem dX7_tallyKey_44 : decode cX7_tallyKey 44 = .ok (.if_icmp .ne 6, 3) := by decide +kernel
theorem dX7_tallyKey_47 : decode cX7_tallyKey 47 = .ok (.goto 68, 3) := by decide +kernel
theorem dX7_tallyKey_50 : decode cX7_tallyKey 50 = .ok (.aload_n 0, 1) := by decide +kernel
theorem dX7_tallyKey_51 : decode cX7_tallyKey 51 = .ok (.getfield 12, 3) := by decide +kernel
theorem dX7_tallyKey_54 : decode cX7_tallyKey 54 = .ok (.aload_n 0, 1) := by decide +kernel
theorem dX7_tallyKey_55 : decode cX7_tallyKey 55 = .ok (.lload_n 1, 1) := by decide +kernel
theorem dX7_tallyKey_56 : decode cX7_tallyKey 56 = .ok (.iload 5, 2) := by decide +kernel
theorem dX7_tallyKey_58 : decode cX7_tallyKey 58 = .ok (.iload 4, 2) := by decide +kernel
theorem dX7_tallyKey_60 : decode cX7_tallyKey 60 = .ok (.invokevirtual 152, 3) := by decide +kernel
theorem dX7_tallyKey_63 : decode cX7_tallyKey 63 = .ok (.invokevirtual 145, 3) := by decide +kernel
theorem dX7_tallyKey_66 : decode cX7_tallyKey 66 = .ok (.istore 6, 2) := by decide +kernel
theorem dX7_tallyKey_68 : decode cX7_tallyKey 68 = .ok (.iload 6, 2) := by decide +kernel
theorem dX7_tallyKey_70 : decode cX7_tallyKey 70 = .ok (.iconst (-1), 1) := by decide +kernel
theorem dX7_tallyKey_71 : decode cX7_tallyKey 71 = .ok (.if_icmp .ne 15, 3) := by decide +kernel
theorem dX7_tallyKey_74 : decode cX7_tallyKey 74 = .ok (.aload_n 0, 1) := by decide +kernel
theorem dX7_tallyKey_75 : decode cX7_tallyKey 75 = .ok (.iload 5, 2) := by decide +kernel
theorem dX7_tallyKey_77 : decode cX7_tallyKey 77 = .ok (.iload 4, 2) := by decide +kernel
theorem dX7_tallyKey_79 : decode cX7_tallyKey 79 = .ok (.iload_n 3, 1) := by decide +kernel
theorem dX7_tallyKey_80 : decode cX7_tallyKey 80 = .ok (.invokevirtual 222, 3) := by decide +kernel
theorem dX7_tallyKey_83 : decode cX7_tallyKey 83 = .ok (.goto 32, 3) := by decide +kernel
theorem dX7_tallyKey_86 : decode cX7_tallyKey 86 = .ok (.aload_n 0, 1) := by decide +kernel
theorem dX7_tallyKey_87 : decode cX7_tallyKey 87 = .ok (.getfield 12, 3) := by decide +kernel
theorem dX7_tallyKey_90 : decode cX7_tallyKey 90 = .ok (.iload 6, 2) := by decide +kernel
theorem dX7_tallyKey_92 : decode cX7_tallyKey 92 = .ok (.iload_n 3, 1) := by decide +kernel
theorem dX7_tallyKey_93 : decode cX7_tallyKey 93 = .ok (.invokevirtual 202, 3) := by decide +kernel
theorem dX7_tallyKey_96 : decode cX7_tallyKey 96 = .ok (.aload_n 0, 1) := by decide +kernel
theorem dX7_tallyKey_97 : decode cX7_tallyKey 97 = .ok (.iload 5, 2) := by decide +kernel
theorem dX7_tallyKey_99 : decode cX7_tallyKey 99 = .ok (.iload 4, 2) := by decide +kernel
theorem dX7_tallyKey_101 : decode cX7_tallyKey 101 = .ok (.iload_n 3, 1) := by decide +kernel
theorem dX7_tallyKey_102 : decode cX7_tallyKey 102 = .ok (.aload_n 0, 1) := by decide +kernel
theorem dX7_tallyKey_103 : decode cX7_tallyKey 103 = .ok (.getfield 12, 3) := by decide +kernel
theorem dX7_tallyKey_106 : decode cX7_tallyKey 106 = .ok (.iload 6, 2) := by decide +kernel
theorem dX7_tallyKey_108 : decode cX7_tallyKey 108 = .ok (.invokevirtual 149, 3) := by decide +kernel
theorem dX7_tallyKey_111 : decode cX7_tallyKey 111 = .ok (.imul, 1) := by decide +kernel
theorem dX7_tallyKey_112 : decode cX7_tallyKey 112 = .ok (.invokevirtual 222, 3) := by decide +kernel
theorem dX7_tallyKey_115 : decode cX7_tallyKey 115 = .ok (.iinc 5 1, 3) := by decide +kernel
theorem dX7_tallyKey_118 : decode cX7_tallyKey 118 = .ok (.goto (-107), 3) := by decide +kernel
theorem dX7_tallyKey_121 : decode cX7_tallyKey 121 = .ok (.return_, 1) := by decide +kernel
theorem dX7_tallyRow_0 : decode cX7_tallyRow 0 = .ok (.iload_n 3, 1) := by decide +kernel
theorem dX7_tallyRow_1 : decode cX7_tallyRow 1 = .ok (.ifCond .ne 5, 3) := by decide +kernel
theorem dX7_tallyRow_4 : decode cX7_tallyRow 4 = .ok (.iconst 1, 1) := by decide +kernel
theorem dX7_tallyRow_5 : decode cX7_tallyRow 5 = .ok (.ireturn, 1) := by decide +kernel
theorem dX7_tallyRow_6 : decode cX7_tallyRow 6 = .ok (.aload_n 0, 1) := by decide +kernel
theorem dX7_tallyRow_7 : decode cX7_tallyRow 7 = .ok (.lload_n 1, 1) := by decide +kernel
theorem dX7_tallyRow_8 : decode cX7_tallyRow 8 = .ok (.iload 4, 2) := by decide +kernel
theorem dX7_tallyRow_10 : decode cX7_tallyRow 10 = .ok (.invokevirtual 104, 3) := by decide +kernel
theorem dX7_tallyRow_13 : decode cX7_tallyRow 13 = .ok (.istore 6, 2) := by decide +kernel
theorem dX7_tallyRow_15 : decode cX7_tallyRow 15 = .ok (.iconst 0, 1) := by decide +kernel
theorem dX7_tallyRow_16 : decode cX7_tallyRow 16 = .ok (.istore 7, 2) := by decide +kernel
theorem dX7_tallyRow_18 : decode cX7_tallyRow 18 = .ok (.iconst 0, 1) := by decide +kernel
theorem dX7_tallyRow_19 : decode cX7_tallyRow 19 = .ok (.istore 8, 2) := by decide +kernel
theorem dX7_tallyRow_21 : decode cX7_tallyRow 21 = .ok (.iload 8, 2) := by decide +kernel
theorem dX7_tallyRow_23 : decode cX7_tallyRow 23 = .ok (.aload_n 0, 1) := by decide +kernel
theorem dX7_tallyRow_24 : decode cX7_tallyRow 24 = .ok (.getfield 38, 3) := by decide +kernel
theorem dX7_tallyRow_27 : decode cX7_tallyRow 27 = .ok (.getfield 123, 3) := by decide +kernel
theorem dX7_tallyRow_30 : decode cX7_tallyRow 30 = .ok (.if_icmp .ge 104, 3) := by decide +kernel
theorem dX7_tallyRow_33 : decode cX7_tallyRow 33 = .ok (.iload 5, 2) := by decide +kernel
theorem dX7_tallyRow_35 : decode cX7_tallyRow 35 = .ok (.bipush 9, 2) := by decide +kernel
theorem dX7_tallyRow_37 : decode cX7_tallyRow 37 = .ok (.if_icmp .ge 97, 3) := by decide +kernel
theorem dX7_tallyRow_40 : decode cX7_tallyRow 40 = .ok (.aload_n 0, 1) := by decide +kernel
theorem dX7_tallyRow_41 : decode cX7_tallyRow 41 = .ok (.lload_n 1, 1) := by decide +kernel
theorem dX7_tallyRow_42 : decode cX7_tallyRow 42 = .ok (.iload 8, 2) := by decide +kernel
theorem dX7_tallyRow_44 : decode cX7_tallyRow 44 = .ok (.iload 6, 2) := by decide +kernel
theorem dX7_tallyRow_46 : decode cX7_tallyRow 46 = .ok (.invokevirtual 108, 3) := by decide +kernel
theorem dX7_tallyRow_49 : decode cX7_tallyRow 49 = .ok (.ifCond .eq 79, 3) := by decide +kernel
theorem dX7_tallyRow_52 : decode cX7_tallyRow 52 = .ok (.aload_n 0, 1) := by decide +kernel
theorem dX7_tallyRow_53 : decode cX7_tallyRow 53 = .ok (.iload 8, 2) := by decide +kernel
theorem dX7_tallyRow_55 : decode cX7_tallyRow 55 = .ok (.iload 6, 2) := by decide +kernel
theorem dX7_tallyRow_57 : decode cX7_tallyRow 57 = .ok (.invokevirtual 112, 3) := by decide +kernel
theorem dX7_tallyRow_60 : decode cX7_tallyRow 60 = .ok (.iconst (-1), 1) := by decide +kernel
theorem dX7_tallyRow_61 : decode cX7_tallyRow 61 = .ok (.if_icmp .ne 6, 3) := by decide +kernel
theorem dX7_tallyRow_64 : decode cX7_tallyRow 64 = .ok (.goto 64, 3) := by decide +kernel
theorem dX7_tallyRow_67 : decode cX7_tallyRow 67 = .ok (.aload_n 0, 1) := by decide +kernel
theorem dX7_tallyRow_68 : decode cX7_tallyRow 68 = .ok (.aload_n 0, 1) := by decide +kernel
theorem dX7_tallyRow_69 : decode cX7_tallyRow 69 = .ok (.lload_n 1, 1) := by decide +kernel
theorem dX7_tallyRow_70 : decode cX7_tallyRow 70 = .ok (.iload 8, 2) := by decide +kernel
theorem dX7_tallyRow_72 : decode cX7_tallyRow 72 = .ok (.iload 6, 2) := by decide +kernel
theorem dX7_tallyRow_74 : decode cX7_tallyRow 74 = .ok (.invokevirtual 152, 3) := by decide +kernel
theorem dX7_tallyRow_77 : decode cX7_tallyRow 77 = .ok (.iload_n 3, 1) := by decide +kernel
theorem dX7_tallyRow_78 : decode cX7_tallyRow 78 = .ok (.aload_n 0, 1) := by decide +kernel
theorem dX7_tallyRow_79 : decode cX7_tallyRow 79 = .ok (.getfield 38, 3) := by decide +kernel
theorem dX7_tallyRow_82 : decode cX7_tallyRow 82 = .ok (.getfield 87, 3) := by decide +kernel
theorem dX7_tallyRow_85 : decode cX7_tallyRow 85 = .ok (.iload 8, 2) := by decide +kernel
theorem dX7_tallyRow_87 : decode cX7_tallyRow 87 = .ok (.iaload, 1) := by decide +kernel
theorem dX7_tallyRow_88 : decode cX7_tallyRow 88 = .ok (.aload_n 0, 1) := by decide +kernel
theorem dX7_tallyRow_89 : decode cX7_tallyRow 89 = .ok (.getfield 38, 3) := by decide +kernel
theorem dX7_tallyRow_92 : decode cX7_tallyRow 92 = .ok (.getfield 87, 3) := by decide +kernel
theorem dX7_tallyRow_95 : decode cX7_tallyRow 95 = .ok (.iload 8, 2) := by decide +kernel
theorem dX7_tallyRow_97 : decode cX7_tallyRow 97 = .ok (.iaload, 1) := by decide +kernel
theorem dX7_tallyRow_98 : decode cX7_tallyRow 98 = .ok (.imul, 1) := by decide +kernel
theorem dX7_tallyRow_99 : decode cX7_tallyRow 99 = .ok (.isub, 1) := by decide +kernel
theorem dX7_tallyRow_100 : decode cX7_tallyRow 100 = .ok (.iload 6, 2) := by decide +kernel
theorem dX7_tallyRow_102 : decode cX7_tallyRow 102 = .ok (.iload 5, 2) := by decide +kernel
theorem dX7_tallyRow_104 : decode cX7_tallyRow 104 = .ok (.iconst 1, 1) := by decide +kernel
theorem dX7_tallyRow_105 : decode cX7_tallyRow 105 = .ok (.iadd, 1) := by decide +kernel
theorem dX7_tallyRow_106 : decode cX7_tallyRow 106 = .ok (.invokevirtual 199, 3) := by decide +kernel
theorem dX7_tallyRow_109 : decode cX7_tallyRow 109 = .ok (.istore 9, 2) := by decide +kernel
theorem dX7_tallyRow_111 : decode cX7_tallyRow 111 = .ok (.aload_n 0, 1) := by decide +kernel
theorem dX7_tallyRow_112 : decode cX7_tallyRow 112 = .ok (.iload 8, 2) := by decide +kernel
theorem dX7_tallyRow_114 : decode cX7_tallyRow 114 = .ok (.iload 6, 2) := by decide +kernel
theorem dX7_tallyRow_116 : decode cX7_tallyRow 116 = .ok (.iload 9, 2) := by decide +kernel
theorem dX7_tallyRow_118 : decode cX7_tallyRow 118 = .ok (.invokevirtual 222, 3) := by decide +kernel
theorem dX7_tallyRow_121 : decode cX7_tallyRow 121 = .ok (.iload 7, 2) := by decide +kernel
theorem dX7_tallyRow_123 : decode cX7_tallyRow 123 = .ok (.iload 9, 2) := by decide +kernel
theorem dX7_tallyRow_125 : decode cX7_tallyRow 125 = .ok (.iadd, 1) := by decide +kernel
theorem dX7_tallyRow_126 : decode cX7_tallyRow 126 = .ok (.istore 7, 2) := by decide +kernel
theorem dX7_tallyRow_128 : decode cX7_tallyRow 128 = .ok (.iinc 8 1, 3) := by decide +kernel
theorem dX7_tallyRow_131 : decode cX7_tallyRow 131 = .ok (.goto (-110), 3) := by decide +kernel
theorem dX7_tallyRow_134 : decode cX7_tallyRow 134 = .ok (.iload 7, 2) := by decide +kernel
theorem dX7_tallyRow_136 : decode cX7_tallyRow 136 = .ok (.ireturn, 1) := by decide +kernel
theorem dX7_addToTally_0 : decode cX7_addToTally 0 = .ok (.aload_n 0, 1) := by decide +kernel
theorem dX7_addToTally_1 : decode cX7_addToTally 1 = .ok (.getfield 38, 3) := by decide +kernel
theorem dX7_addToTally_4 : decode cX7_addToTally 4 = .ok (.getfield 87, 3) := by decide +kernel
theorem dX7_addToTally_7 : decode cX7_addToTally 7 = .ok (.iload_n 1, 1) := by decide +kernel
theorem dX7_addToTally_8 : decode cX7_addToTally 8 = .ok (.iaload, 1) := by decide +kernel
theorem dX7_addToTally_9 : decode cX7_addToTally 9 = .ok (.istore 4, 2) := by decide +kernel
theorem dX7_addToTally_11 : decode cX7_addToTally 11 = .ok (.iconst 0, 1) := by decide +kernel
theorem dX7_addToTally_12 : decode cX7_addToTally 12 = .ok (.istore 5, 2) := by decide +kernel
theorem dX7_addToTally_14 : decode cX7_addToTally 14 = .ok (.iload 5, 2) := by decide +kernel
theorem dX7_addToTally_16 : decode cX7_addToTally 16 = .ok (.iload 4, 2) := by decide +kernel
theorem dX7_addToTally_18 : decode cX7_addToTally 18 = .ok (.if_icmp .ge 54, 3) := by decide +kernel
theorem dX7_addToTally_21 : decode cX7_addToTally 21 = .ok (.iload_n 3, 1) := by decide +kernel
theorem dX7_addToTally_22 : decode cX7_addToTally 22 = .ok (.ifCond .le 50, 3) := by decide +kernel
theorem dX7_addToTally_25 : decode cX7_addToTally 25 = .ok (.iconst 0, 1) := by decide +kernel
theorem dX7_addToTally_26 : decode cX7_addToTally 26 = .ok (.istore 6, 2) := by decide +kernel
theorem dX7_addToTally_28 : decode cX7_addToTally 28 = .ok (.iload 6, 2) := by decide +kernel
theorem dX7_addToTally_30 : decode cX7_addToTally 30 = .ok (.iload 4, 2) := by decide +kernel
theorem dX7_addToTally_32 : decode cX7_addToTally 32 = .ok (.if_icmp .ge 34, 3) := by decide +kernel
theorem dX7_addToTally_35 : decode cX7_addToTally 35 = .ok (.aload_n 0, 1) := by decide +kernel
theorem dX7_addToTally_36 : decode cX7_addToTally 36 = .ok (.getfield 25, 3) := by decide +kernel
theorem dX7_addToTally_39 : decode cX7_addToTally 39 = .ok (.iload_n 1, 1) := by decide +kernel
theorem dX7_addToTally_40 : decode cX7_addToTally 40 = .ok (.sipush 144, 3) := by decide +kernel
theorem dX7_addToTally_43 : decode cX7_addToTally 43 = .ok (.imul, 1) := by decide +kernel
theorem dX7_addToTally_44 : decode cX7_addToTally 44 = .ok (.iload_n 2, 1) := by decide +kernel
theorem dX7_addToTally_45 : decode cX7_addToTally 45 = .ok (.iadd, 1) := by decide +kernel
theorem dX7_addToTally_46 : decode cX7_addToTally 46 = .ok (.iload 5, 2) := by decide +kernel
theorem dX7_addToTally_48 : decode cX7_addToTally 48 = .ok (.bipush 12, 2) := by decide +kernel
theorem dX7_addToTally_50 : decode cX7_addToTally 50 = .ok (.imul, 1) := by decide +kernel
theorem dX7_addToTally_51 : decode cX7_addToTally 51 = .ok (.iadd, 1) := by decide +kernel
theorem dX7_addToTally_52 : decode cX7_addToTally 52 = .ok (.iload 6, 2) := by decide +kernel
theorem dX7_addToTally_54 : decode cX7_addToTally 54 = .ok (.iadd, 1) := by decide +kernel
theorem dX7_addToTally_55 : decode cX7_addToTally 55 = .ok (.dup2, 1) := by decide +kernel
theorem dX7_addToTally_56 : decode cX7_addToTally 56 = .ok (.iaload, 1) := by decide +kernel
theorem dX7_addToTally_57 : decode cX7_addToTally 57 = .ok (.iload_n 3, 1) := by decide +kernel
theorem dX7_addToTally_58 : decode cX7_addToTally 58 = .ok (.iadd, 1) := by decide +kernel
theorem dX7_addToTally_59 : decode cX7_addToTally 59 = .ok (.iastore, 1) := by decide +kernel
theorem dX7_addToTally_60 : decode cX7_addToTally 60 = .ok (.iinc 6 1, 3) := by decide +kernel
theorem dX7_addToTally_63 : decode cX7_addToTally 63 = .ok (.goto (-35), 3) := by decide +kernel
theorem dX7_addToTally_66 : decode cX7_addToTally 66 = .ok (.iinc 5 1, 3) := by decide +kernel
theorem dX7_addToTally_69 : decode cX7_addToTally 69 = .ok (.goto (-55), 3) := by decide +kernel
theorem dX7_addToTally_72 : decode cX7_addToTally 72 = .ok (.return_, 1) := by decide +kernel
theorem dX8_init_0 : decode cX8_init 0 = .ok (.aload_n 0, 1) := by decide +kernel
theorem dX8_init_1 : decode cX8_init 1 = .ok (.invokespecial 3, 3) := by decide +kernel
theorem dX8_init_4 : decode cX8_init 4 = .ok (.aload_n 0, 1) := by decide +kernel
theorem dX8_init_5 : decode cX8_init 5 = .ok (.new 9, 3) := by decide +kernel
theorem dX8_init_8 : decode cX8_init 8 = .ok (.dup, 1) := by decide +kernel
theorem dX8_init_9 : decode cX8_init 9 = .ok (.invokespecial 11, 3) := by decide +kernel
theorem dX8_init_12 : decode cX8_init 12 = .ok (.putfield 12, 3) := by decide +kernel
theorem dX8_init_15 : decode cX8_init 15 = .ok (.aload_n 0, 1) := by decide +kernel
theorem dX8_init_16 : decode cX8_init 16 = .ok (.bipush 6, 2) := by decide +kernel
theorem dX8_init_18 : decode cX8_init 18 = .ok (.anewarray 18, 3) := by decide +kernel
theorem dX8_init_21 : decode cX8_init 21 = .ok (.putfield 20, 3) := by decide +kernel
theorem dX8_init_24 : decode cX8_init 24 = .ok (.aload_n 0, 1) := by decide +kernel
theorem dX8_init_25 : decode cX8_init 25 = .ok (.bipush 6, 2) := by decide +kernel
theorem dX8_init_27 : decode cX8_init 27 = .ok (.newarray .int, 2) := by decide +kernel
theorem dX8_init_29 : decode cX8_init 29 = .ok (.putfield 24, 3) := by decide +kernel
theorem dX8_init_32 : decode cX8_init 32 = .ok (.aload_n 0, 1) := by decide +kernel
theorem dX8_init_33 : decode cX8_init 33 = .ok (.bipush 6, 2) := by decide +kernel
theorem dX8_init_35 : decode cX8_init 35 = .ok (.newarray .int, 2) := by decide +kernel
theorem dX8_init_37 : decode cX8_init 37 = .ok (.putfield 28, 3) := by decide +kernel
theorem dX8_init_40 : decode cX8_init 40 = .ok (.aload_n 0, 1) := by decide +kernel
theorem dX8_init_41 : decode cX8_init 41 = .ok (.bipush 6, 2) := by decide +kernel
theorem dX8_init_43 : decode cX8_init 43 = .ok (.newarray .int, 2) := by decide +kernel
theorem dX8_init_45 : decode cX8_init 45 = .ok (.putfield 31, 3) := by decide +kernel
theorem dX8_init_48 : decode cX8_init 48 = .ok (.aload_n 0, 1) := by decide +kernel
theorem dX8_init_49 : decode cX8_init 49 = .ok (.iconst 0, 1) := by decide +kernel
theorem dX8_init_50 : decode cX8_init 50 = .ok (.putfield 34, 3) := by decide +kernel
theorem dX8_init_53 : decode cX8_init 53 = .ok (.aload_n 0, 1) := by decide +kernel
theorem dX8_init_54 : decode cX8_init 54 = .ok (.iconst (-1), 1) := by decide +kernel
theorem dX8_init_55 : decode cX8_init 55 = .ok (.putfield 38, 3) := by decide +kernel
theorem dX8_init_58 : decode cX8_init 58 = .ok (.aload_n 0, 1) := by decide +kernel
theorem dX8_init_59 : decode cX8_init 59 = .ok (.iconst 0, 1) := by decide +kernel
theorem dX8_init_60 : decode cX8_init 60 = .ok (.putfield 41, 3) := by decide +kernel
theorem dX8_init_63 : decode cX8_init 63 = .ok (.iconst 0, 1) := by decide +kernel
theorem dX8_init_64 : decode cX8_init 64 = .ok (.istore_n 1, 1) := by decide +kernel
theorem dX8_init_65 : decode cX8_init 65 = .ok (.iload_n 1, 1) := by decide +kernel
theorem dX8_init_66 : decode cX8_init 66 = .ok (.bipush 6, 2) := by decide +kernel
theorem dX8_init_68 : decode cX8_init 68 = .ok (.if_icmp .ge 22, 3) := by decide +kernel
theorem dX8_init_71 : decode cX8_init 71 = .ok (.aload_n 0, 1) := by decide +kernel
theorem dX8_init_72 : decode cX8_init 72 = .ok (.getfield 20, 3) := by decide +kernel
theorem dX8_init_75 : decode cX8_init 75 = .ok (.iload_n 1, 1) := by decide +kernel
theorem dX8_init_76 : decode cX8_init 76 = .ok (.new 18, 3) := by decide +kernel
theorem dX8_init_79 : decode cX8_init 79 = .ok (.dup, 1) := by decide +kernel
theorem dX8_init_80 : decode cX8_init 80 = .ok (.invokespecial 44, 3) := by decide +kernel
theorem dX8_init_83 : decode cX8_init 83 = .ok (.aastore, 1) := by decide +kernel
theorem dX8_init_84 : decode cX8_init 84 = .ok (.iinc 1 1, 3) := by decide +kernel
theorem dX8_init_87 : decode cX8_init 87 = .ok (.goto (-22), 3) := by decide +kernel
theorem dX8_init_90 : decode cX8_init 90 = .ok (.return_, 1) := by decide +kernel
theorem dX8_lawOf_0 : decode cX8_lawOf 0 = .ok (.iload_n 1, 1) := by decide +kernel
theorem dX8_lawOf_1 : decode cX8_lawOf 1 = .ok (.ifCond .lt 20, 3) := by decide +kernel
theorem dX8_lawOf_4 : decode cX8_lawOf 4 = .ok (.iload_n 1, 1) := by decide +kernel
theorem dX8_lawOf_5 : decode cX8_lawOf 5 = .ok (.aload_n 0, 1) := by decide +kernel
theorem dX8_lawOf_6 : decode cX8_lawOf 6 = .ok (.getfield 34, 3) := by decide +kernel
theorem dX8_lawOf_9 : decode cX8_lawOf 9 = .ok (.if_icmp .ge 12, 3) := by decide +kernel
theorem dX8_lawOf_12 : decode cX8_lawOf 12 = .ok (.aload_n 0, 1) := by decide +kernel
theorem dX8_lawOf_13 : decode cX8_lawOf 13 = .ok (.getfield 20, 3) := by decide +kernel
theorem dX8_lawOf_16 : decode cX8_lawOf 16 = .ok (.iload_n 1, 1) := by decide +kernel
theorem dX8_lawOf_17 : decode cX8_lawOf 17 = .ok (.aaload, 1) := by decide +kernel
theorem dX8_lawOf_18 : decode cX8_lawOf 18 = .ok (.goto 4, 3) := by decide +kernel
theorem dX8_lawOf_21 : decode cX8_lawOf 21 = .ok (.aconst_null, 1) := by decide +kernel
theorem dX8_lawOf_22 : decode cX8_lawOf 22 = .ok (.areturn, 1) := by decide +kernel
theorem dX8_forcedLaw_0 : decode cX8_forcedLaw 0 = .ok (.aload_n 0, 1) := by decide +kernel
theorem dX8_forcedLaw_1 : decode cX8_forcedLaw 1 = .ok (.aload_n 0, 1) := by decide +kernel
theorem dX8_forcedLaw_2 : decode cX8_forcedLaw 2 = .ok (.getfield 38, 3) := by decide +kernel
theorem dX8_forcedLaw_5 : decode cX8_forcedLaw 5 = .ok (.invokevirtual 45, 3) := by decide +kernel
theorem dX8_forcedLaw_8 : decode cX8_forcedLaw 8 = .ok (.areturn, 1) := by decide +kernel
theorem dX8_copyFrom_0 : decode cX8_copyFrom 0 = .ok (.aload_n 0, 1) := by decide +kernel
theorem dX8_copyFrom_1 : decode cX8_copyFrom 1 = .ok (.getfield 12, 3) := by decide +kernel
theorem dX8_copyFrom_4 : decode cX8_copyFrom 4 = .ok (.aload_n 1, 1) := by decide +kernel
theorem dX8_copyFrom_5 : decode cX8_copyFrom 5 = .ok (.getfield 12, 3) := by decide +kernel
theorem dX8_copyFrom_8 : decode cX8_copyFrom 8 = .ok (.invokevirtual 49, 3) := by decide +kernel
theorem dX8_copyFrom_11 : decode cX8_copyFrom 11 = .ok (.iconst 0, 1) := by decide +kernel
theorem dX8_copyFrom_12 : decode cX8_copyFrom 12 = .ok (.istore_n 2, 1) := by decide +kernel
theorem dX8_copyFrom_13 : decode cX8_copyFrom 13 = .ok (.iload_n 2, 1) := by decide +kernel
theorem dX8_copyFrom_14 : decode cX8_copyFrom 14 = .ok (.aload_n 1, 1) := by decide +kernel
theorem dX8_copyFrom_15 : decode cX8_copyFrom 15 = .ok (.getfield 34, 3) := by decide +kernel
theorem dX8_copyFrom_18 : decode cX8_copyFrom 18 = .ok (.if_icmp .ge 24, 3) := by decide +kernel
theorem dX8_copyFrom_21 : decode cX8_copyFrom 21 = .ok (.aload_n 0, 1) := by decide +kernel
theorem dX8_copyFrom_22 : decode cX8_copyFrom 22 = .ok (.getfield 20, 3) := by decide +kernel
theorem dX8_copyFrom_25 : decode cX8_copyFrom 25 = .ok (.iload_n 2, 1) := by decide +kernel
theorem dX8_copyFrom_26 : decode cX8_copyFrom 26 = .ok (.aaload, 1) := by decide +kernel
theorem dX8_copyFrom_27 : decode cX8_copyFrom 27 = .ok (.aload_n 1, 1) := by decide +kernel
theorem dX8_copyFrom_28 : decode cX8_copyFrom 28 = .ok (.getfield 20, 3) := by decide +kernel
theorem dX8_copyFrom_31 : decode cX8_copyFrom 31 = .ok (.iload_n 2, 1) := by decide +kernel
theorem dX8_copyFrom_32 : decode cX8_copyFrom 32 = .ok (.aaload, 1) := by decide +kernel
theorem dX8_copyFrom_33 : decode cX8_copyFrom 33 = .ok (.invokevirtual 53, 3) := by decide +kernel
theorem dX8_copyFrom_36 : decode cX8_copyFrom 36 = .ok (.iinc 2 1, 3) := by decide +kernel
theorem dX8_copyFrom_39 : decode cX8_copyFrom 39 = .ok (.goto (-26), 3) := by decide +kernel
theorem dX8_copyFrom_42 : decode cX8_copyFrom 42 = .ok (.aload_n 1, 1) := by decide +kernel
theorem dX8_copyFrom_43 : decode cX8_copyFrom 43 = .ok (.getfield 24, 3) := by decide +kernel
theorem dX8_copyFrom_46 : decode cX8_copyFrom 46 = .ok (.iconst 0, 1) := by decide +kernel
theorem dX8_copyFrom_47 : decode cX8_copyFrom 47 = .ok (.aload_n 0, 1) := by decide +kernel
theorem dX8_copyFrom_48 : decode cX8_copyFrom 48 = .ok (.getfield 24, 3) := by decide +kernel
theorem dX8_copyFrom_51 : decode cX8_copyFrom 51 = .ok (.iconst 0, 1) := by decide +kernel
theorem dX8_copyFrom_52 : decode cX8_copyFrom 52 = .ok (.bipush 6, 2) := by decide +kernel
theorem dX8_copyFrom_54 : decode cX8_copyFrom 54 = .ok (.invokestatic 56, 3) := by decide +kernel
theorem dX8_copyFrom_57 : decode cX8_copyFrom 57 = .ok (.aload_n 1, 1) := by decide +kernel
theorem dX8_copyFrom_58 : decode cX8_copyFrom 58 = .ok (.getfield 28, 3) := by decide +kernel
theorem dX8_copyFrom_61 : decode cX8_copyFrom 61 = .ok (.iconst 0, 1) := by decide +kernel
theorem dX8_copyFrom_62 : decode cX8_copyFrom 62 = .ok (.aload_n 0, 1) := by decide +kernel
theorem dX8_copyFrom_63 : decode cX8_copyFrom 63 = .ok (.getfield 28, 3) := by decide +kernel
theorem dX8_copyFrom_66 : decode cX8_copyFrom 66 = .ok (.iconst 0, 1) := by decide +kernel
theorem dX8_copyFrom_67 : decode cX8_copyFrom 67 = .ok (.bipush 6, 2) := by decide +kernel
theorem dX8_copyFrom_69 : decode cX8_copyFrom 69 = .ok (.invokestatic 56, 3) := by decide +kernel
theorem dX8_copyFrom_72 : decode cX8_copyFrom 72 = .ok (.aload_n 1, 1) := by decide +kernel
theorem dX8_copyFrom_73 : decode cX8_copyFrom 73 = .ok (.getfield 31, 3) := by decide +kernel
theorem dX8_copyFrom_76 : decode cX8_copyFrom 76 = .ok (.iconst 0, 1) := by decide +kernel
theorem dX8_copyFrom_77 : decode cX8_copyFrom 77 = .ok (.aload_n 0, 1) := by decide +kernel
theorem dX8_copyFrom_78 : decode cX8_copyFrom 78 = .ok (.getfield 31, 3) := by decide +kernel
theorem dX8_copyFrom_81 : decode cX8_copyFrom 81 = .ok (.iconst 0, 1) := by decide +kernel
theorem dX8_copyFrom_82 : decode cX8_copyFrom 82 = .ok (.bipush 6, 2) := by decide +kernel
theorem dX8_copyFrom_84 : decode cX8_copyFrom 84 = .ok (.invokestatic 56, 3) := by decide +kernel
theorem dX8_copyFrom_87 : decode cX8_copyFrom 87 = .ok (.aload_n 0, 1) := by decide +kernel
theorem dX8_copyFrom_88 : decode cX8_copyFrom 88 = .ok (.aload_n 1, 1) := by decide +kernel
theorem dX8_copyFrom_89 : decode cX8_copyFrom 89 = .ok (.getfield 34, 3) := by decide +kernel
theorem dX8_copyFrom_92 : decode cX8_copyFrom 92 = .ok (.putfield 34, 3) := by decide +kernel
theorem dX8_copyFrom_95 : decode cX8_copyFrom 95 = .ok (.aload_n 0, 1) := by decide +kernel
theorem dX8_copyFrom_96 : decode cX8_copyFrom 96 = .ok (.aload_n 1, 1) := by decide +kernel
theorem dX8_copyFrom_97 : decode cX8_copyFrom 97 = .ok (.getfield 38, 3) := by decide +kernel
theorem dX8_copyFrom_100 : decode cX8_copyFrom 100 = .ok (.putfield 38, 3) := by decide +kernel
theorem dX8_copyFrom_103 : decode cX8_copyFrom 103 = .ok (.aload_n 0, 1) := by decide +kernel
theorem dX8_copyFrom_104 : decode cX8_copyFrom 104 = .ok (.aload_n 1, 1) := by decide +kernel
theorem dX8_copyFrom_105 : decode cX8_copyFrom 105 = .ok (.getfield 41, 3) := by decide +kernel
theorem dX8_copyFrom_108 : decode cX8_copyFrom 108 = .ok (.putfield 41, 3) := by decide +kernel
theorem dX8_copyFrom_111 : decode cX8_copyFrom 111 = .ok (.return_, 1) := by decide +kernel
theorem dX9_init_0 : decode cX9_init 0 = .ok (.aload_n 0, 1) := by decide +kernel
theorem dX9_init_1 : decode cX9_init 1 = .ok (.invokespecial 3, 3) := by decide +kernel
theorem dX9_init_4 : decode cX9_init 4 = .ok (.aload_n 0, 1) := by decide +kernel
theorem dX9_init_5 : decode cX9_init 5 = .ok (.sipush 400, 3) := by decide +kernel
theorem dX9_init_8 : decode cX9_init 8 = .ok (.newarray .int, 2) := by decide +kernel
theorem dX9_init_10 : decode cX9_init 10 = .ok (.putfield 9, 3) := by decide +kernel
theorem dX9_init_13 : decode cX9_init 13 = .ok (.aload_n 0, 1) := by decide +kernel
theorem dX9_init_14 : decode cX9_init 14 = .ok (.iconst 0, 1) := by decide +kernel
theorem dX9_init_15 : decode cX9_init 15 = .ok (.putfield 15, 3) := by decide +kernel
theorem dX9_init_18 : decode cX9_init 18 = .ok (.return_, 1) := by decide +kernel
theorem dX9_addFour_0 : decode cX9_addFour 0 = .ok (.bipush 24, 2) := by decide +kernel
theorem dX9_addFour_2 : decode cX9_addFour 2 = .ok (.istore_n 2, 1) := by decide +kernel
theorem dX9_addFour_3 : decode cX9_addFour 3 = .ok (.iload_n 2, 1) := by decide +kernel
theorem dX9_addFour_4 : decode cX9_addFour 4 = .ok (.ifCond .lt 45, 3) := by decide +kernel
theorem dX9_addFour_7 : decode cX9_addFour 7 = .ok (.aload_n 0, 1) := by decide +kernel
theorem dX9_addFour_8 : decode cX9_addFour 8 = .ok (.getfield 15, 3) := by decide +kernel
theorem dX9_addFour_11 : decode cX9_addFour 11 = .ok (.sipush 400, 3) := by decide +kernel
theorem dX9_addFour_14 : decode cX9_addFour 14 = .ok (.if_icmp .ge 35, 3) := by decide +kernel
theorem dX9_addFour_17 : decode cX9_addFour 17 = .ok (.aload_n 0, 1) := by decide +kernel
theorem dX9_addFour_18 : decode cX9_addFour 18 = .ok (.getfield 9, 3) := by decide +kernel
theorem dX9_addFour_21 : decode cX9_addFour 21 = .ok (.aload_n 0, 1) := by decide +kernel
theorem dX9_addFour_22 : decode cX9_addFour 22 = .ok (.getfield 15, 3) := by decide +kernel
theorem dX9_addFour_25 : decode cX9_addFour 25 = .ok (.iload_n 1, 1) := by decide +kernel
theorem dX9_addFour_26 : decode cX9_addFour 26 = .ok (.iload_n 2, 1) := by decide +kernel
theorem dX9_addFour_27 : decode cX9_addFour 27 = .ok (.iushr, 1) := by decide +kernel
theorem dX9_addFour_28 : decode cX9_addFour 28 = .ok (.sipush 255, 3) := by decide +kernel
theorem dX9_addFour_31 : decode cX9_addFour 31 = .ok (.iand, 1) := by decide +kernel
theorem dX9_addFour_32 : decode cX9_addFour 32 = .ok (.iastore, 1) := by decide +kernel
theorem dX9_addFour_33 : decode cX9_addFour 33 = .ok (.aload_n 0, 1) := by decide +kernel
theorem dX9_addFour_34 : decode cX9_addFour 34 = .ok (.dup, 1) := by decide +kernel
theorem dX9_addFour_35 : decode cX9_addFour 35 = .ok (.getfield 15, 3) := by decide +kernel
theorem dX9_addFour_38 : decode cX9_addFour 38 = .ok (.iconst 1, 1) := by decide +kernel
theorem dX9_addFour_39 : decode cX9_addFour 39 = .ok (.iadd, 1) := by decide +kernel
theorem dX9_addFour_40 : decode cX9_addFour 40 = .ok (.putfield 15, 3) := by decide +kernel
theorem dX9_addFour_43 : decode cX9_addFour 43 = .ok (.iinc 2 (-8), 3) := by decide +kernel
theorem dX9_addFour_46 : decode cX9_addFour 46 = .ok (.goto (-43), 3) := by decide +kernel
theorem dX9_addFour_49 : decode cX9_addFour 49 = .ok (.return_, 1) := by decide +kernel
theorem dX10_init_0 : decode cX10_init 0 = .ok (.aload_n 0, 1) := by decide +kernel
theorem dX10_init_1 : decode cX10_init 1 = .ok (.invokespecial 5, 3) := by decide +kernel
theorem dX10_init_4 : decode cX10_init 4 = .ok (.aload_n 0, 1) := by decide +kernel
theorem dX10_init_5 : decode cX10_init 5 = .ok (.sipush 400, 3) := by decide +kernel
theorem dX10_init_8 : decode cX10_init 8 = .ok (.newarray .int, 2) := by decide +kernel
theorem dX10_init_10 : decode cX10_init 10 = .ok (.putfield 11, 3) := by decide +kernel
theorem dX10_init_13 : decode cX10_init 13 = .ok (.aload_n 0, 1) := by decide +kernel
theorem dX10_init_14 : decode cX10_init 14 = .ok (.bipush 96, 2) := by decide +kernel
theorem dX10_init_16 : decode cX10_init 16 = .ok (.newarray .int, 2) := by decide +kernel
theorem dX10_init_18 : decode cX10_init 18 = .ok (.putfield 15, 3) := by decide +kernel
theorem dX10_init_21 : decode cX10_init 21 = .ok (.aload_n 0, 1) := by decide +kernel
theorem dX10_init_22 : decode cX10_init 22 = .ok (.iconst 0, 1) := by decide +kernel
theorem dX10_init_23 : decode cX10_init 23 = .ok (.putfield 18, 3) := by decide +kernel
theorem dX10_init_26 : decode cX10_init 26 = .ok (.aload_n 0, 1) := by decide +kernel
theorem dX10_init_27 : decode cX10_init 27 = .ok (.iconst 0, 1) := by decide +kernel
theorem dX10_init_28 : decode cX10_init 28 = .ok (.putfield 22, 3) := by decide +kernel
theorem dX10_init_31 : decode cX10_init 31 = .ok (.return_, 1) := by decide +kernel
theorem dX10_clear_0 : decode cX10_clear 0 = .ok (.aload_n 0, 1) := by decide +kernel
theorem dX10_clear_1 : decode cX10_clear 1 = .ok (.iconst 0, 1) := by decide +kernel
theorem dX10_clear_2 : decode cX10_clear 2 = .ok (.putfield 18, 3) := by decide +kernel
theorem dX10_clear_5 : decode cX10_clear 5 = .ok (.aload_n 0, 1) := by decide +kernel
theorem dX10_clear_6 : decode cX10_clear 6 = .ok (.iconst 0, 1) := by decide +kernel
theorem dX10_clear_7 : decode cX10_clear 7 = .ok (.putfield 22, 3) := by decide +kernel
theorem dX10_clear_10 : decode cX10_clear 10 = .ok (.return_, 1) := by decide +kernel
theorem dX10_copyFrom_0 : decode cX10_copyFrom 0 = .ok (.aload_n 1, 1) := by decide +kernel
theorem dX10_copyFrom_1 : decode cX10_copyFrom 1 = .ok (.getfield 11, 3) := by decide +kernel
theorem dX10_copyFrom_4 : decode cX10_copyFrom 4 = .ok (.iconst 0, 1) := by decide +kernel
theorem dX10_copyFrom_5 : decode cX10_copyFrom 5 = .ok (.aload_n 0, 1) := by decide +kernel
theorem dX10_copyFrom_6 : decode cX10_copyFrom 6 = .ok (.getfield 11, 3) := by decide +kernel
theorem dX10_copyFrom_9 : decode cX10_copyFrom 9 = .ok (.iconst 0, 1) := by decide +kernel
theorem dX10_copyFrom_10 : decode cX10_copyFrom 10 = .ok (.aload_n 1, 1) := by decide +kernel
theorem dX10_copyFrom_11 : decode cX10_copyFrom 11 = .ok (.getfield 18, 3) := by decide +kernel
theorem dX10_copyFrom_14 : decode cX10_copyFrom 14 = .ok (.invokestatic 25, 3) := by decide +kernel
theorem dX10_copyFrom_17 : decode cX10_copyFrom 17 = .ok (.aload_n 1, 1) := by decide +kernel
theorem dX10_copyFrom_18 : decode cX10_copyFrom 18 = .ok (.getfield 15, 3) := by decide +kernel
theorem dX10_copyFrom_21 : decode cX10_copyFrom 21 = .ok (.iconst 0, 1) := by decide +kernel
theorem dX10_copyFrom_22 : decode cX10_copyFrom 22 = .ok (.aload_n 0, 1) := by decide +kernel
theorem dX10_copyFrom_23 : decode cX10_copyFrom 23 = .ok (.getfield 15, 3) := by decide +kernel
theorem dX10_copyFrom_26 : decode cX10_copyFrom 26 = .ok (.iconst 0, 1) := by decide +kernel
theorem dX10_copyFrom_27 : decode cX10_copyFrom 27 = .ok (.aload_n 1, 1) := by decide +kernel
theorem dX10_copyFrom_28 : decode cX10_copyFrom 28 = .ok (.getfield 22, 3) := by decide +kernel
theorem dX10_copyFrom_31 : decode cX10_copyFrom 31 = .ok (.bipush 8, 2) := by decide +kernel
theorem dX10_copyFrom_33 : decode cX10_copyFrom 33 = .ok (.imul, 1) := by decide +kernel
theorem dX10_copyFrom_34 : decode cX10_copyFrom 34 = .ok (.invokestatic 25, 3) := by decide +kernel
theorem dX10_copyFrom_37 : decode cX10_copyFrom 37 = .ok (.aload_n 0, 1) := by decide +kernel
theorem dX10_copyFrom_38 : decode cX10_copyFrom 38 = .ok (.aload_n 1, 1) := by decide +kernel
theorem dX10_copyFrom_39 : decode cX10_copyFrom 39 = .ok (.getfield 18, 3) := by decide +kernel
theorem dX10_copyFrom_42 : decode cX10_copyFrom 42 = .ok (.putfield 18, 3) := by decide +kernel
theorem dX10_copyFrom_45 : decode cX10_copyFrom 45 = .ok (.aload_n 0, 1) := by decide +kernel
theorem dX10_copyFrom_46 : decode cX10_copyFrom 46 = .ok (.aload_n 1, 1) := by decide +kernel
theorem dX10_copyFrom_47 : decode cX10_copyFrom 47 = .ok (.getfield 22, 3) := by decide +kernel
theorem dX10_copyFrom_50 : decode cX10_copyFrom 50 = .ok (.putfield 22, 3) := by decide +kernel
theorem dX10_copyFrom_53 : decode cX10_copyFrom 53 = .ok (.return_, 1) := by decide +kernel
theorem dX10_add_0 : decode cX10_add 0 = .ok (.iload_n 1, 1) := by decide +kernel
theorem dX10_add_1 : decode cX10_add 1 = .ok (.iconst (-1), 1) := by decide +kernel
theorem dX10_add_2 : decode cX10_add 2 = .ok (.if_icmp .eq 35, 3) := by decide +kernel
theorem dX10_add_5 : decode cX10_add 5 = .ok (.aload_n 0, 1) := by decide +kernel
theorem dX10_add_6 : decode cX10_add 6 = .ok (.getfield 18, 3) := by decide +kernel
theorem dX10_add_9 : decode cX10_add 9 = .ok (.aload_n 0, 1) := by decide +kernel
theorem dX10_add_10 : decode cX10_add 10 = .ok (.getfield 11, 3) := by decide +kernel
theorem dX10_add_13 : decode cX10_add 13 = .ok (.arraylength, 1) := by decide +kernel
theorem dX10_add_14 : decode cX10_add 14 = .ok (.if_icmp .ge 23, 3) := by decide +kernel
theorem dX10_add_17 : decode cX10_add 17 = .ok (.aload_n 0, 1) := by decide +kernel
theorem dX10_add_18 : decode cX10_add 18 = .ok (.getfield 11, 3) := by decide +kernel
theorem dX10_add_21 : decode cX10_add 21 = .ok (.aload_n 0, 1) := by decide +kernel
theorem dX10_add_22 : decode cX10_add 22 = .ok (.getfield 18, 3) := by decide +kernel
theorem dX10_add_25 : decode cX10_add 25 = .ok (.iload_n 1, 1) := by decide +kernel
theorem dX10_add_26 : decode cX10_add 26 = .ok (.iastore, 1) := by decide +kernel
theorem dX10_add_27 : decode cX10_add 27 = .ok (.aload_n 0, 1) := by decide +kernel
theorem dX10_add_28 : decode cX10_add 28 = .ok (.dup, 1) := by decide +kernel
theorem dX10_add_29 : decode cX10_add 29 = .ok (.getfield 18, 3) := by decide +kernel
theorem dX10_add_32 : decode cX10_add 32 = .ok (.iconst 1, 1) := by decide +kernel
theorem dX10_add_33 : decode cX10_add 33 = .ok (.iadd, 1) := by decide +kernel
theorem dX10_add_34 : decode cX10_add 34 = .ok (.putfield 18, 3) := by decide +kernel
theorem dX10_add_37 : decode cX10_add 37 = .ok (.return_, 1) := by decide +kernel
theorem dX10_addJump_0 : decode cX10_addJump 0 = .ok (.aload_n 0, 1) := by decide +kernel
theorem dX10_addJump_1 : decode cX10_addJump 1 = .ok (.iload_n 1, 1) := by decide +kernel
theorem dX10_addJump_2 : decode cX10_addJump 2 = .ok (.invokevirtual 31, 3) := by decide +kernel
theorem dX10_addJump_5 : decode cX10_addJump 5 = .ok (.aload_n 0, 1) := by decide +kernel
theorem dX10_addJump_6 : decode cX10_addJump 6 = .ok (.iconst 0, 1) := by decide +kernel
theorem dX10_addJump_7 : decode cX10_addJump 7 = .ok (.invokevirtual 31, 3) := by decide +kernel
theorem dX10_addJump_10 : decode cX10_addJump 10 = .ok (.aload_n 0, 1) := by decide +kernel
theorem dX10_addJump_11 : decode cX10_addJump 11 = .ok (.getfield 18, 3) := by decide +kernel
theorem dX10_addJump_14 : decode cX10_addJump 14 = .ok (.iconst 1, 1) := by decide +kernel
theorem dX10_addJump_15 : decode cX10_addJump 15 = .ok (.isub, 1) := by decide +kernel
theorem dX10_addJump_16 : decode cX10_addJump 16 = .ok (.ireturn, 1) := by decide +kernel
theorem dX10_setCode_0 : decode cX10_setCode 0 = .ok (.iload_n 1, 1) := by decide +kernel
theorem dX10_setCode_1 : decode cX10_setCode 1 = .ok (.ifCond .lt 18, 3) := by decide +kernel
theorem dX10_setCode_4 : decode cX10_setCode 4 = .ok (.iload_n 1, 1) := by decide +kernel
theorem dX10_setCode_5 : decode cX10_setCode 5 = .ok (.aload_n 0, 1) := by decide +kernel
theorem dX10_setCode_6 : decode cX10_setCode 6 = .ok (.getfield 18, 3) := by decide +kernel
theorem dX10_setCode_9 : decode cX10_setCode 9 = .ok (.if_icmp .ge 10, 3) := by decide +kernel
theorem dX10_setCode_12 : decode cX10_setCode 12 = .ok (.aload_n 0, 1) := by decide +kernel
theorem dX10_setCode_13 : decode cX10_setCode 13 = .ok (.getfield 11, 3) := by decide +kernel
theorem dX10_setCode_16 : decode cX10_setCode 16 = .ok (.iload_n 1, 1) := by decide +kernel
theorem dX10_setCode_17 : decode cX10_setCode 17 = .ok (.iload_n 2, 1) := by decide +kernel
theorem dX10_setCode_18 : decode cX10_setCode 18 = .ok (.iastore, 1) := by decide +kernel
theorem dX10_setCode_19 : decode cX10_setCode 19 = .ok (.return_, 1) := by decide +kernel
theorem dX10_openClause_0 : decode cX10_openClause 0 = .ok (.aload_n 0, 1) := by decide +kernel
theorem dX10_openClause_1 : decode cX10_openClause 1 = .ok (.getfield 22, 3) := by decide +kernel
theorem dX10_openClause_4 : decode cX10_openClause 4 = .ok (.bipush 12, 2) := by decide +kernel
theorem dX10_openClause_6 : decode cX10_openClause 6 = .ok (.if_icmp .lt 4, 3) := by decide +kernel
theorem dX10_openClause_9 : decode cX10_openClause 9 = .ok (.return_, 1) := by decide +kernel
theorem dX10_openClause_10 : decode cX10_openClause 10 = .ok (.aload_n 0, 1) := by decide +kernel
theorem dX10_openClause_11 : decode cX10_openClause 11 = .ok (.dup, 1) := by decide +kernel
theorem dX10_openClause_12 : decode cX10_openClause 12 = .ok (.getfield 22, 3) := by decide +kernel
theorem dX10_openClause_15 : decode cX10_openClause 15 = .ok (.iconst 1, 1) := by decide +kernel
theorem dX10_openClause_16 : decode cX10_openClause 16 = .ok (.iadd, 1) := by decide +kernel
theorem dX10_openClause_17 : decode cX10_openClause 17 = .ok (.putfield 22, 3) := by decide +kernel
theorem dX10_openClause_20 : decode cX10_openClause 20 = .ok (.aload_n 0, 1) := by decide +kernel
theorem dX10_openClause_21 : decode cX10_openClause 21 = .ok (.iconst 0, 1) := by decide +kernel
theorem dX10_openClause_22 : decode cX10_openClause 22 = .ok (.iload_n 1, 1) := by decide +kernel
theorem dX10_openClause_23 : decode cX10_openClause 23 = .ok (.invokevirtual 35, 3) := by decide +kernel
theorem dX10_openClause_26 : decode cX10_openClause 26 = .ok (.aload_n 0, 1) := by decide +kernel
theorem dX10_openClause_27 : decode cX10_openClause 27 = .ok (.iconst 1, 1) := by decide +kernel
theorem dX10_openClause_28 : decode cX10_openClause 28 = .ok (.iconst 1, 1) := by decide +kernel
theorem dX10_openClause_29 : decode cX10_openClause 29 = .ok (.invokevirtual 35, 3) := by decide +kernel
theorem dX10_openClause_32 : decode cX10_openClause 32 = .ok (.return_, 1) := by decide +kernel
theorem dX10_setMark_0 : decode cX10_setMark 0 = .ok (.aload_n 0, 1) := by decide +kernel
theorem dX10_setMark_1 : decode cX10_setMark 1 = .ok (.getfield 22, 3) := by decide +kernel
theorem dX10_setMark_4 : decode cX10_setMark 4 = .ok (.iconst 1, 1) := by decide +kernel
theorem dX10_setMark_5 : decode cX10_setMark 5 = .ok (.isub, 1) := by decide +kernel
theorem dX10_setMark_6 : decode cX10_setMark 6 = .ok (.bipush 8, 2) := by decide +kernel
theorem dX10_setMark_8 : decode cX10_setMark 8 = .ok (.imul, 1) := by decide +kernel
theorem dX10_setMark_9 : decode cX10_setMark 9 = .ok (.iload_n 1, 1) := by decide +kernel
theorem dX10_setMark_10 : decode cX10_setMark 10 = .ok (.iadd, 1) := by decide +kernel
theorem dX10_setMark_11 : decode cX10_setMark 11 = .ok (.istore_n 3, 1) := by decide +kernel
theorem dX10_setMark_12 : decode cX10_setMark 12 = .ok (.iload_n 3, 1) := by decide +kernel
theorem dX10_setMark_13 : decode cX10_setMark 13 = .ok (.ifCond .lt 19, 3) := by decide +kernel
theorem dX10_setMark_16 : decode cX10_setMark 16 = .ok (.iload_n 3, 1) := by decide +kernel
theorem dX10_setMark_17 : decode cX10_setMark 17 = .ok (.aload_n 0, 1) := by decide +kernel
theorem dX10_setMark_18 : decode cX10_setMark 18 = .ok (.getfield 15, 3) := by decide +kernel
theorem dX10_setMark_21 : decode cX10_setMark 21 = .ok (.arraylength, 1) := by decide +kernel
theorem dX10_setMark_22 : decode cX10_setMark 22 = .ok (.if_icmp .ge 10, 3) := by decide +kernel
theorem dX10_setMark_25 : decode cX10_setMark 25 = .ok (.aload_n 0, 1) := by decide +kernel
theorem dX10_setMark_26 : decode cX10_setMark 26 = .ok (.getfield 15, 3) := by decide +kernel
theorem dX10_setMark_29 : decode cX10_setMark 29 = .ok (.iload_n 3, 1) := by decide +kernel
theorem dX10_setMark_30 : decode cX10_setMark 30 = .ok (.iload_n 2, 1) := by decide +kernel
theorem dX10_setMark_31 : decode cX10_setMark 31 = .ok (.iastore, 1) := by decide +kernel
theorem dX10_setMark_32 : decode cX10_setMark 32 = .ok (.return_, 1) := by decide +kernel
theorem dX10_mark_0 : decode cX10_mark 0 = .ok (.iload_n 1, 1) := by decide +kernel
theorem dX10_mark_1 : decode cX10_mark 1 = .ok (.bipush 8, 2) := by decide +kernel
theorem dX10_mark_3 : decode cX10_mark 3 = .ok (.imul, 1) := by decide +kernel
theorem dX10_mark_4 : decode cX10_mark 4 = .ok (.iload_n 2, 1) := by decide +kernel
theorem dX10_mark_5 : decode cX10_mark 5 = .ok (.iadd, 1) := by decide +kernel
theorem dX10_mark_6 : decode cX10_mark 6 = .ok (.istore_n 3, 1) := by decide +kernel
theorem dX10_mark_7 : decode cX10_mark 7 = .ok (.iload_n 3, 1) := by decide +kernel
theorem dX10_mark_8 : decode cX10_mark 8 = .ok (.ifCond .lt 21, 3) := by decide +kernel
theorem dX10_mark_11 : decode cX10_mark 11 = .ok (.iload_n 3, 1) := by decide +kernel
theorem dX10_mark_12 : decode cX10_mark 12 = .ok (.aload_n 0, 1) := by decide +kernel
theorem dX10_mark_13 : decode cX10_mark 13 = .ok (.getfield 15, 3) := by decide +kernel
theorem dX10_mark_16 : decode cX10_mark 16 = .ok (.arraylength, 1) := by decide +kernel
theorem dX10_mark_17 : decode cX10_mark 17 = .ok (.if_icmp .ge 12, 3) := by decide +kernel
theorem dX10_mark_20 : decode cX10_mark 20 = .ok (.aload_n 0, 1) := by decide +kernel
theorem dX10_mark_21 : decode cX10_mark 21 = .ok (.getfield 15, 3) := by decide +kernel
theorem dX10_mark_24 : decode cX10_mark 24 = .ok (.iload_n 3, 1) := by decide +kernel
theorem dX10_mark_25 : decode cX10_mark 25 = .ok (.iaload, 1) := by decide +kernel
theorem dX10_mark_26 : decode cX10_mark 26 = .ok (.goto 4, 3) := by decide +kernel
theorem dX10_mark_29 : decode cX10_mark 29 = .ok (.iconst 0, 1) := by decide +kernel
theorem dX10_mark_30 : decode cX10_mark 30 = .ok (.ireturn, 1) := by decide +kernel
theorem dX11_init_0 : decode cX11_init 0 = .ok (.aload_n 0, 1) := by decide +kernel
theorem dX11_init_1 : decode cX11_init 1 = .ok (.invokespecial 3, 3) := by decide +kernel
theorem dX11_init_4 : decode cX11_init 4 = .ok (.aload_n 0, 1) := by decide +kernel
theorem dX11_init_5 : decode cX11_init 5 = .ok (.new 9, 3) := by decide +kernel
theorem dX11_init_8 : decode cX11_init 8 = .ok (.dup, 1) := by decide +kernel
theorem dX11_init_9 : decode cX11_init 9 = .ok (.invokespecial 11, 3) := by decide +kernel
theorem dX11_init_12 : decode cX11_init 12 = .ok (.putfield 12, 3) := by decide +kernel
theorem dX11_init_15 : decode cX11_init 15 = .ok (.aload_n 0, 1) := by decide +kernel
theorem dX11_init_16 : decode cX11_init 16 = .ok (.iconst 2, 1) := by decide +kernel
theorem dX11_init_17 : decode cX11_init 17 = .ok (.anewarray 9, 3) := by decide +kernel
theorem dX11_init_20 : decode cX11_init 20 = .ok (.putfield 16, 3) := by decide +kernel
theorem dX11_init_23 : decode cX11_init 23 = .ok (.aload_n 0, 1) := by decide +kernel
theorem dX11_init_24 : decode cX11_init 24 = .ok (.iconst 2, 1) := by decide +kernel
theorem dX11_init_25 : decode cX11_init 25 = .ok (.newarray .boolean, 2) := by decide +kernel
theorem dX11_init_27 : decode cX11_init 27 = .ok (.putfield 20, 3) := by decide +kernel
theorem dX11_init_30 : decode cX11_init 30 = .ok (.aload_n 0, 1) := by decide +kernel
theorem dX11_init_31 : decode cX11_init 31 = .ok (.new 24, 3) := by decide +kernel
theorem dX11_init_34 : decode cX11_init 34 = .ok (.dup, 1) := by decide +kernel
theorem dX11_init_35 : decode cX11_init 35 = .ok (.invokespecial 26, 3) := by decide +kernel
theorem dX11_init_38 : decode cX11_init 38 = .ok (.putfield 27, 3) := by decide +kernel
theorem dX11_init_41 : decode cX11_init 41 = .ok (.aload_n 0, 1) := by decide +kernel
theorem dX11_init_42 : decode cX11_init 42 = .ok (.new 24, 3) := by decide +kernel
theorem dX11_init_45 : decode cX11_init 45 = .ok (.dup, 1) := by decide +kernel
theorem dX11_init_46 : decode cX11_init 46 = .ok (.invokespecial 26, 3) := by decide +kernel
theorem dX11_init_49 : decode cX11_init 49 = .ok (.putfield 31, 3) := by decide +kernel
theorem dX11_init_52 : decode cX11_init 52 = .ok (.aload_n 0, 1) := by decide +kernel
theorem dX11_init_53 : decode cX11_init 53 = .ok (.new 34, 3) := by decide +kernel
theorem dX11_init_56 : decode cX11_init 56 = .ok (.dup, 1) := by decide +kernel
theorem dX11_init_57 : decode cX11_init 57 = .ok (.invokespecial 36, 3) := by decide +kernel
theorem dX11_init_60 : decode cX11_init 60 = .ok (.putfield 37, 3) := by decide +kernel
theorem dX11_init_63 : decode cX11_init 63 = .ok (.aload_n 0, 1) := by decide +kernel
theorem dX11_init_64 : decode cX11_init 64 = .ok (.new 41, 3) := by decide +kernel
theorem dX11_init_67 : decode cX11_init 67 = .ok (.dup, 1) := by decide +kernel
theorem dX11_init_68 : decode cX11_init 68 = .ok (.invokespecial 43, 3) := by decide +kernel
theorem dX11_init_71 : decode cX11_init 71 = .ok (.putfield 44, 3) := by decide +kernel
theorem dX11_init_74 : decode cX11_init 74 = .ok (.aload_n 0, 1) := by decide +kernel
theorem dX11_init_75 : decode cX11_init 75 = .ok (.new 48, 3) := by decide +kernel
theorem dX11_init_78 : decode cX11_init 78 = .ok (.dup, 1) := by decide +kernel
theorem dX11_init_79 : decode cX11_init 79 = .ok (.invokespecial 50, 3) := by decide +kernel
theorem dX11_init_82 : decode cX11_init 82 = .ok (.putfield 51, 3) := by decide +kernel
theorem dX11_init_85 : decode cX11_init 85 = .ok (.aload_n 0, 1) := by decide +kernel
theorem dX11_init_86 : decode cX11_init 86 = .ok (.new 55, 3) := by decide +kernel
theorem dX11_init_89 : decode cX11_init 89 = .ok (.dup, 1) := by decide +kernel
theorem dX11_init_90 : decode cX11_init 90 = .ok (.invokespecial 57, 3) := by decide +kernel
theorem dX11_init_93 : decode cX11_init 93 = .ok (.putfield 58, 3) := by decide +kernel
theorem dX11_init_96 : decode cX11_init 96 = .ok (.aload_n 0, 1) := by decide +kernel
theorem dX11_init_97 : decode cX11_init 97 = .ok (.new 62, 3) := by decide +kernel
theorem dX11_init_100 : decode cX11_init 100 = .ok (.dup, 1) := by decide +kernel
theorem dX11_init_101 : decode cX11_init 101 = .ok (.invokespecial 64, 3) := by decide +kernel
theorem dX11_init_104 : decode cX11_init 104 = .ok (.putfield 65, 3) := by decide +kernel
theorem dX11_init_107 : decode cX11_init 107 = .ok (.aload_n 0, 1) := by decide +kernel
theorem dX11_init_108 : decode cX11_init 108 = .ok (.new 69, 3) := by decide +kernel
theorem dX11_init_111 : decode cX11_init 111 = .ok (.dup, 1) := by decide +kernel
theorem dX11_init_112 : decode cX11_init 112 = .ok (.invokespecial 71, 3) := by decide +kernel
theorem dX11_init_115 : decode cX11_init 115 = .ok (.putfield 72, 3) := by decide +kernel
theorem dX11_init_118 : decode cX11_init 118 = .ok (.aload_n 0, 1) := by decide +kernel
theorem dX11_init_119 : decode cX11_init 119 = .ok (.new 76, 3) := by decide +kernel
theorem dX11_init_122 : decode cX11_init 122 = .ok (.dup, 1) := by decide +kernel
theorem dX11_init_123 : decode cX11_init 123 = .ok (.invokespecial 78, 3) := by decide +kernel
theorem dX11_init_126 : decode cX11_init 126 = .ok (.putfield 79, 3) := by decide +kernel
theorem dX11_init_129 : decode cX11_init 129 = .ok (.aload_n 0, 1) := by decide +kernel
theorem dX11_init_130 : decode cX11_init 130 = .ok (.new 83, 3) := by decide +kernel
theorem dX11_init_133 : decode cX11_init 133 = .ok (.dup, 1) := by decide +kernel
theorem dX11_init_134 : decode cX11_init 134 = .ok (.invokespecial 85, 3) := by decide +kernel
theorem dX11_init_137 : decode cX11_init 137 = .ok (.putfield 86, 3) := by decide +kernel
theorem dX11_init_140 : decode cX11_init 140 = .ok (.aload_n 0, 1) := by decide +kernel
theorem dX11_init_141 : decode cX11_init 141 = .ok (.iconst 5, 1) := by decide +kernel
theorem dX11_init_142 : decode cX11_init 142 = .ok (.newarray .int, 2) := by decide +kernel
theorem dX11_init_144 : decode cX11_init 144 = .ok (.putfield 90, 3) := by decide +kernel
theorem dX11_init_147 : decode cX11_init 147 = .ok (.aload_n 0, 1) := by decide +kernel
theorem dX11_init_148 : decode cX11_init 148 = .ok (.iconst 0, 1) := by decide +kernel
theorem dX11_init_149 : decode cX11_init 149 = .ok (.putfield 94, 3) := by decide +kernel
theorem dX11_init_152 : decode cX11_init 152 = .ok (.aload_n 0, 1) := by decide +kernel
theorem dX11_init_153 : decode cX11_init 153 = .ok (.iconst (-1), 1) := by decide +kernel
theorem dX11_init_154 : decode cX11_init 154 = .ok (.putfield 98, 3) := by decide +kernel
theorem dX11_init_157 : decode cX11_init 157 = .ok (.aload_n 0, 1) := by decide +kernel
theorem dX11_init_158 : decode cX11_init 158 = .ok (.iconst 0, 1) := by decide +kernel
theorem dX11_init_159 : decode cX11_init 159 = .ok (.putfield 101, 3) := by decide +kernel
theorem dX11_init_162 : decode cX11_init 162 = .ok (.aload_n 0, 1) := by decide +kernel
theorem dX11_init_163 : decode cX11_init 163 = .ok (.iconst (-1), 1) := by decide +kernel
theorem dX11_init_164 : decode cX11_init 164 = .ok (.putfield 104, 3) := by decide +kernel
theorem dX11_init_167 : decode cX11_init 167 = .ok (.iconst 0, 1) := by decide +kernel
theorem dX11_init_168 : decode cX11_init 168 = .ok (.istore_n 1, 1) := by decide +kernel
theorem dX11_init_169 : decode cX11_init 169 = .ok (.iload_n 1, 1) := by decide +kernel
theorem dX11_init_170 : decode cX11_init 170 = .ok (.iconst 2, 1) := by decide +kernel
theorem dX11_init_171 : decode cX11_init 171 = .ok (.if_icmp .ge 22, 3) := by decide +kernel
theorem dX11_init_174 : decode cX11_init 174 = .ok (.aload_n 0, 1) := by decide +kernel
theorem dX11_init_175 : decode cX11_init 175 = .ok (.getfield 16, 3) := by decide +kernel
theorem dX11_init_178 : decode cX11_init 178 = .ok (.iload_n 1, 1) := by decide +kernel
theorem dX11_init_179 : decode cX11_init 179 = .ok (.new 9, 3) := by decide +kernel
theorem dX11_init_182 : decode cX11_init 182 = .ok (.dup, 1) := by decide +kernel
theorem dX11_init_183 : decode cX11_init 183 = .ok (.invokespecial 11, 3) := by decide +kernel
theorem dX11_init_186 : decode cX11_init 186 = .ok (.aastore, 1) := by decide +kernel
theorem dX11_init_187 : decode cX11_init 187 = .ok (.iinc 1 1, 3) := by decide +kernel
theorem dX11_init_190 : decode cX11_init 190 = .ok (.goto (-21), 3) := by decide +kernel
theorem dX11_init_193 : decode cX11_init 193 = .ok (.return_, 1) := by decide +kernel
theorem dX11_carpet_0 : decode cX11_carpet 0 = .ok (.aload_n 0, 1) := by decide +kernel
theorem dX11_carpet_1 : decode cX11_carpet 1 = .ok (.getfield 12, 3) := by decide +kernel
theorem dX11_carpet_4 : decode cX11_carpet 4 = .ok (.getfield 107, 3) := by decide +kernel
theorem dX11_carpet_7 : decode cX11_carpet 7 = .ok (.iload_n 1, 1) := by decide +kernel
theorem dX11_carpet_8 : decode cX11_carpet 8 = .ok (.iload_n 2, 1) := by decide +kernel
theorem dX11_carpet_9 : decode cX11_carpet 9 = .ok (.iload_n 3, 1) := by decide +kernel
theorem dX11_carpet_10 : decode cX11_carpet 10 = .ok (.invokevirtual 110, 3) := by decide +kernel
theorem dX11_carpet_13 : decode cX11_carpet 13 = .ok (.istore 4, 2) := by decide +kernel
theorem dX11_carpet_15 : decode cX11_carpet 15 = .ok (.iload 4, 2) := by decide +kernel
theorem dX11_carpet_17 : decode cX11_carpet 17 = .ok (.ifCond .lt 10, 3) := by decide +kernel
theorem dX11_carpet_20 : decode cX11_carpet 20 = .ok (.aload_n 0, 1) := by decide +kernel
theorem dX11_carpet_21 : decode cX11_carpet 21 = .ok (.getfield 72, 3) := by decide +kernel
theorem dX11_carpet_24 : decode cX11_carpet 24 = .ok (.invokevirtual 114, 3) := by decide +kernel
theorem dX11_carpet_27 : decode cX11_carpet 27 = .ok (.aload_n 0, 1) := by decide +kernel
theorem dX11_carpet_28 : decode cX11_carpet 28 = .ok (.iload 4, 2) := by decide +kernel
theorem dX11_carpet_30 : decode cX11_carpet 30 = .ok (.invokevirtual 117, 3) := by decide +kernel
theorem dX11_carpet_33 : decode cX11_carpet 33 = .ok (.ireturn, 1) := by decide +kernel
theorem dX11_of_0 : decode cX11_of 0 = .ok (.aload_n 0, 1) := by decide +kernel
theorem dX11_of_1 : decode cX11_of 1 = .ok (.getfield 12, 3) := by decide +kernel
theorem dX11_of_4 : decode cX11_of 4 = .ok (.getfield 107, 3) := by decide +kernel
theorem dX11_of_7 : decode cX11_of 7 = .ok (.astore_n 3, 1) := by decide +kernel
theorem dX11_of_8 : decode cX11_of 8 = .ok (.aload_n 3, 1) := by decide +kernel
theorem dX11_of_9 : decode cX11_of 9 = .ok (.iload_n 1, 1) := by decide +kernel
theorem dX11_of_10 : decode cX11_of 10 = .ok (.invokevirtual 121, 3) := by decide +kernel
theorem dX11_of_13 : decode cX11_of 13 = .ok (.ifCond .ne 5, 3) := by decide +kernel
theorem dX11_of_16 : decode cX11_of 16 = .ok (.iconst (-1), 1) := by decide +kernel
theorem dX11_of_17 : decode cX11_of 17 = .ok (.ireturn, 1) := by decide +kernel
theorem dX11_of_18 : decode cX11_of 18 = .ok (.iload_n 2, 1) := by decide +kernel
theorem dX11_of_19 : decode cX11_of 19 = .ok (.tableswitch 101 0 5 #[37, 44, 51, 58, 65, 72], 37) := by decide +kernel
theorem dX11_of_56 : decode cX11_of 56 = .ok (.aload_n 3, 1) := by decide +kernel
theorem dX11_of_57 : decode cX11_of 57 = .ok (.getfield 125, 3) := by decide +kernel
theorem dX11_of_60 : decode cX11_of 60 = .ok (.iload_n 1, 1) := by decide +kernel
theorem dX11_of_61 : decode cX11_of 61 = .ok (.iaload, 1) := by decide +kernel
theorem dX11_of_62 : decode cX11_of 62 = .ok (.ireturn, 1) := by decide +kernel
theorem dX11_of_63 : decode cX11_of 63 = .ok (.aload_n 3, 1) := by decide +kernel
theorem dX11_of_64 : decode cX11_of 64 = .ok (.getfield 128, 3) := by decide +kernel
theorem dX11_of_67 : decode cX11_of 67 = .ok (.iload_n 1, 1) := by decide +kernel
theorem dX11_of_68 : decode cX11_of 68 = .ok (.iaload, 1) := by decide +kernel
theorem dX11_of_69 : decode cX11_of 69 = .ok (.ireturn, 1) := by decide +kernel
theorem dX11_of_70 : decode cX11_of 70 = .ok (.aload_n 3, 1) := by decide +kernel
theorem dX11_of_71 : decode cX11_of 71 = .ok (.getfield 131, 3) := by decide +kernel
theorem dX11_of_74 : decode cX11_of 74 = .ok (.iload_n 1, 1) := by decide +kernel
theorem dX11_of_75 : decode cX11_of 75 = .ok (.iaload, 1) := by decide +kernel
theorem dX11_of_76 : decode cX11_of 76 = .ok (.ireturn, 1) := by decide +kernel
theorem dX11_of_77 : decode cX11_of 77 = .ok (.aload_n 3, 1) := by decide +kernel
theorem dX11_of_78 : decode cX11_of 78 = .ok (.getfield 134, 3) := by decide +kernel
theorem dX11_of_81 : decode cX11_of 81 = .ok (.iload_n 1, 1) := by decide +kernel
theorem dX11_of_82 : decode cX11_of 82 = .ok (.iaload, 1) := by decide +kernel
theorem dX11_of_83 : decode cX11_of 83 = .ok (.ireturn, 1) := by decide +kernel
theorem dX11_of_84 : decode cX11_of 84 = .ok (.aload_n 3, 1) := by decide +kernel
theorem dX11_of_85 : decode cX11_of 85 = .ok (.getfield 137, 3) := by decide +kernel
theorem dX11_of_88 : decode cX11_of 88 = .ok (.iload_n 1, 1) := by decide +kernel
theorem dX11_of_89 : decode cX11_of 89 = .ok (.iaload, 1) := by decide +kernel
theorem dX11_of_90 : decode cX11_of 90 = .ok (.ireturn, 1) := by decide +kernel
theorem dX11_of_91 : decode cX11_of 91 = .ok (.aload_n 3, 1) := by decide +kernel
theorem dX11_of_92 : decode cX11_of 92 = .ok (.iload_n 1, 1) := by decide +kernel
theorem dX11_of_93 : decode cX11_of 93 = .ok (.invokevirtual 140, 3) := by decide +kernel
theorem dX11_of_96 : decode cX11_of 96 = .ok (.ifCond .eq 22, 3) := by decide +kernel
theorem dX11_of_99 : decode cX11_of 99 = .ok (.aload_n 0, 1) := by decide +kernel
theorem dX11_of_100 : decode cX11_of 100 = .ok (.getfield 65, 3) := by decide +kernel
theorem dX11_of_103 : decode cX11_of 103 = .ok (.aload_n 0, 1) := by decide +kernel
theorem dX11_of_104 : decode cX11_of 104 = .ok (.getfield 12, 3) := by decide +kernel
theorem dX11_of_107 : decode cX11_of 107 = .ok (.invokevirtual 143, 3) := by decide +kernel
theorem dX11_of_110 : decode cX11_of 110 = .ok (.aload_n 3, 1) := by decide +kernel
theorem dX11_of_111 : decode cX11_of 111 = .ok (.iload_n 1, 1) := by decide +kernel
theorem dX11_of_112 : decode cX11_of 112 = .ok (.invokevirtual 147, 3) := by decide +kernel
theorem dX11_of_115 : decode cX11_of 115 = .ok (.goto 4, 3) := by decide +kernel
theorem dX11_of_118 : decode cX11_of 118 = .ok (.iconst (-1), 1) := by decide +kernel
theorem dX11_of_119 : decode cX11_of 119 = .ok (.ireturn, 1) := by decide +kernel
theorem dX11_of_120 : decode cX11_of 120 = .ok (.iconst (-1), 1) := by decide +kernel
theorem dX11_of_121 : decode cX11_of 121 = .ok (.ireturn, 1) := by decide +kernel
theorem dX11_hall_0 : decode cX11_hall 0 = .ok (.iload_n 1, 1) := by decide +kernel
theorem dX11_hall_1 : decode cX11_hall 1 = .ok (.iconst 1, 1) := by decide +kernel
theorem dX11_hall_2 : decode cX11_hall 2 = .ok (.if_icmp .lt 20, 3) := by decide +kernel
theorem dX11_hall_5 : decode cX11_hall 5 = .ok (.iload_n 1, 1) := by decide +kernel
theorem dX11_hall_6 : decode cX11_hall 6 = .ok (.bipush 12, 2) := by decide +kernel
theorem dX11_hall_8 : decode cX11_hall 8 = .ok (.if_icmp .gt 14, 3) := by decide +kernel
theorem dX11_hall_11 : decode cX11_hall 11 = .ok (.iload_n 2, 1) := by decide +kernel
theorem dX11_hall_12 : decode cX11_hall 12 = .ok (.iconst 1, 1) := by decide +kernel
theorem dX11_hall_13 : decode cX11_hall 13 = .ok (.if_icmp .lt 9, 3) := by decide +kernel
theorem dX11_hall_16 : decode cX11_hall 16 = .ok (.iload_n 2, 1) := by decide +kernel
theorem dX11_hall_17 : decode cX11_hall 17 = .ok (.bipush 12, 2) := by decide +kernel
theorem dX11_hall_19 : decode cX11_hall 19 = .ok (.if_icmp .le 9, 3) := by decide +kernel
theorem dX11_hall_22 : decode cX11_hall 22 = .ok (.aload_n 0, 1) := by decide +kernel
theorem dX11_hall_23 : decode cX11_hall 23 = .ok (.iconst (-1), 1) := by decide +kernel
theorem dX11_hall_24 : decode cX11_hall 24 = .ok (.invokevirtual 117, 3) := by decide +kernel
theorem dX11_hall_27 : decode cX11_hall 27 = .ok (.ireturn, 1) := by decide +kernel
theorem dX11_hall_28 : decode cX11_hall 28 = .ok (.aload_n 0, 1) := by decide +kernel
theorem dX11_hall_29 : decode cX11_hall 29 = .ok (.getfield 12, 3) := by decide +kernel
theorem dX11_hall_32 : decode cX11_hall 32 = .ok (.getfield 107, 3) := by decide +kernel
theorem dX11_hall_35 : decode cX11_hall 35 = .ok (.invokevirtual 151, 3) := by decide +kernel
theorem dX11_hall_38 : decode cX11_hall 38 = .ok (.ifCond .le 10, 3) := by decide +kernel
theorem dX11_hall_41 : decode cX11_hall 41 = .ok (.aload_n 0, 1) := by decide +kernel
theorem dX11_hall_42 : decode cX11_hall 42 = .ok (.bipush (-3), 2) := by decide +kernel
theorem dX11_hall_44 : decode cX11_hall 44 = .ok (.invokevirtual 117, 3) := by decide +kernel
theorem dX11_hall_47 : decode cX11_hall 47 = .ok (.ireturn, 1) := by decide +kernel
theorem dX11_hall_48 : decode cX11_hall 48 = .ok (.aload_n 0, 1) := by decide +kernel
theorem dX11_hall_49 : decode cX11_hall 49 = .ok (.getfield 12, 3) := by decide +kernel
theorem dX11_hall_52 : decode cX11_hall 52 = .ok (.getfield 107, 3) := by decide +kernel
theorem dX11_hall_55 : decode cX11_hall 55 = .ok (.iload_n 1, 1) := by decide +kernel
theorem dX11_hall_56 : decode cX11_hall 56 = .ok (.putfield 155, 3) := by decide +kernel
theorem dX11_hall_59 : decode cX11_hall 59 = .ok (.aload_n 0, 1) := by decide +kernel
theorem dX11_hall_60 : decode cX11_hall 60 = .ok (.getfield 12, 3) := by decide +kernel
theorem dX11_hall_63 : decode cX11_hall 63 = .ok (.getfield 107, 3) := by decide +kernel
theorem dX11_hall_66 : decode cX11_hall 66 = .ok (.iload_n 2, 1) := by decide +kernel
theorem dX11_hall_67 : decode cX11_hall 67 = .ok (.putfield 158, 3) := by decide +kernel
theorem dX11_hall_70 : decode cX11_hall 70 = .ok (.aload_n 0, 1) := by decide +kernel
theorem dX11_hall_71 : decode cX11_hall 71 = .ok (.getfield 72, 3) := by decide +kernel
theorem dX11_hall_74 : decode cX11_hall 74 = .ok (.invokevirtual 114, 3) := by decide +kernel
theorem dX11_hall_77 : decode cX11_hall 77 = .ok (.aload_n 0, 1) := by decide +kernel
theorem dX11_hall_78 : decode cX11_hall 78 = .ok (.iload_n 1, 1) := by decide +kernel
theorem dX11_hall_79 : decode cX11_hall 79 = .ok (.iload_n 2, 1) := by decide +kernel
theorem dX11_hall_80 : decode cX11_hall 80 = .ok (.imul, 1) := by decide +kernel
theorem dX11_hall_81 : decode cX11_hall 81 = .ok (.invokevirtual 117, 3) := by decide +kernel
theorem dX11_hall_84 : decode cX11_hall 84 = .ok (.ireturn, 1) := by decide +kernel
theorem dX11_at_0 : decode cX11_at 0 = .ok (.aload_n 0, 1) := by decide +kernel
theorem dX11_at_1 : decode cX11_at 1 = .ok (.getfield 12, 3) := by decide +kernel
theorem dX11_at_4 : decode cX11_at 4 = .ok (.getfield 107, 3) := by decide +kernel
theorem dX11_at_7 : decode cX11_at 7 = .ok (.iload_n 1, 1) := by decide +kernel
theorem dX11_at_8 : decode cX11_at 8 = .ok (.iload_n 2, 1) := by decide +kernel
theorem dX11_at_9 : decode cX11_at 9 = .ok (.invokevirtual 161, 3) := by decide +kernel
theorem dX11_at_12 : decode cX11_at 12 = .ok (.ireturn, 1) := by decide +kernel
theorem dX11_asks_0 : decode cX11_asks 0 = .ok (.aload_n 0, 1) := by decide +kernel
theorem dX11_asks_1 : decode cX11_asks 1 = .ok (.getfield 12, 3) := by decide +kernel
theorem dX11_asks_4 : decode cX11_asks 4 = .ok (.getfield 107, 3) := by decide +kernel
theorem dX11_asks_7 : decode cX11_asks 7 = .ok (.astore 5, 2) := by decide +kernel
theorem dX11_asks_9 : decode cX11_asks 9 = .ok (.aload 5, 2) := by decide +kernel
theorem dX11_asks_11 : decode cX11_asks 11 = .ok (.iload_n 1, 1) := by decide +kernel
theorem dX11_asks_12 : decode cX11_asks 12 = .ok (.invokevirtual 121, 3) := by decide +kernel
theorem dX11_asks_15 : decode cX11_asks 15 = .ok (.ifCond .eq 17, 3) := by decide +kernel
theorem dX11_asks_18 : decode cX11_asks 18 = .ok (.iload_n 2, 1) := by decide +kernel
theorem dX11_asks_19 : decode cX11_asks 19 = .ok (.invokestatic 165, 3) := by decide +kernel
theorem dX11_asks_22 : decode cX11_asks 22 = .ok (.ifCond .eq 10, 3) := by decide +kernel
theorem dX11_asks_25 : decode cX11_asks 25 = .ok (.iload_n 3, 1) := by decide +kernel
theorem dX11_asks_26 : decode cX11_asks 26 = .ok (.invokestatic 165, 3) := by decide +kernel
theorem dX11_asks_29 : decode cX11_asks 29 = .ok (.ifCond .ne 5, 3) := by decide +kernel
theorem dX11_asks_32 : decode cX11_asks 32 = .ok (.iconst (-1), 1) := by decide +kernel
theorem dX11_asks_33 : decode cX11_asks 33 = .ok (.ireturn, 1) := by decide +kernel
theorem dX11_asks_34 : decode cX11_asks 34 = .ok (.iload 4, 2) := by decide +kernel
theorem dX11_asks_36 : decode cX11_asks 36 = .ok (.tableswitch 94 0 2 #[28, 48, 76], 28) := by decide +kernel
theorem dX11_asks_64 : decode cX11_asks 64 = .ok (.aload_n 0, 1) := by decide +kernel
theorem dX11_asks_65 : decode cX11_asks 65 = .ok (.getfield 65, 3) := by decide +kernel
theorem dX11_asks_68 : decode cX11_asks 68 = .ok (.aload_n 0, 1) := by decide +kernel
theorem dX11_asks_69 : decode cX11_asks 69 = .ok (.getfield 12, 3) := by decide +kernel
theorem dX11_asks_72 : decode cX11_asks 72 = .ok (.invokevirtual 143, 3) := by decide +kernel
theorem dX11_asks_75 : decode cX11_asks 75 = .ok (.aload 5, 2) := by decide +kernel
theorem dX11_asks_77 : decode cX11_asks 77 = .ok (.iload_n 1, 1) := by decide +kernel
theorem dX11_asks_78 : decode cX11_asks 78 = .ok (.iload_n 2, 1) := by decide +kernel
theorem dX11_asks_79 : decode cX11_asks 79 = .ok (.iload_n 3, 1) := by decide +kernel
theorem dX11_asks_80 : decode cX11_asks 80 = .ok (.invokevirtual 168, 3) := by decide +kernel
theorem dX11_asks_83 : decode cX11_asks 83 = .ok (.ireturn, 1) := by decide +kernel
theorem dX11_asks_84 : decode cX11_asks 84 = .ok (.aload_n 0, 1) := by decide +kernel
theorem dX11_asks_85 : decode cX11_asks 85 = .ok (.getfield 65, 3) := by decide +kernel
theorem dX11_asks_88 : decode cX11_asks 88 = .ok (.aload_n 0, 1) := by decide +kernel
theorem dX11_asks_89 : decode cX11_asks 89 = .ok (.getfield 12, 3) := by decide +kernel
theorem dX11_asks_92 : decode cX11_asks 92 = .ok (.invokevirtual 143, 3) := by decide +kernel
theorem dX11_asks_95 : decode cX11_asks 95 = .ok (.aload 5, 2) := by decide +kernel
theorem dX11_asks_97 : decode cX11_asks 97 = .ok (.iload_n 1, 1) := by decide +kernel
theorem dX11_asks_98 : decode cX11_asks 98 = .ok (.iload_n 2, 1) := by decide +kernel
theorem dX11_asks_99 : decode cX11_asks 99 = .ok (.iload_n 3, 1) := by decide +kernel
theorem dX11_asks_100 : decode cX11_asks 100 = .ok (.invokevirtual 172, 3) := by decide +kernel
theorem dX11_asks_103 : decode cX11_asks 103 = .ok (.ifCond .eq 7, 3) := by decide +kernel
theorem dX11_asks_106 : decode cX11_asks 106 = .ok (.iconst 1, 1) := by decide +kernel
theorem dX11_asks_107 : decode cX11_asks 107 = .ok (.goto 4, 3) := by decide +kernel
theorem dX11_asks_110 : decode cX11_asks 110 = .ok (.iconst 0, 1) := by decide +kernel
theorem dX11_asks_111 : decode cX11_asks 111 = .ok (.ireturn, 1) := by decide +kernel
theorem dX11_asks_112 : decode cX11_asks 112 = .ok (.aload_n 0, 1) := by decide +kernel
theorem dX11_asks_113 : decode cX11_asks 113 = .ok (.aload 5, 2) := by decide +kernel
theorem dX11_asks_115 : decode cX11_asks 115 = .ok (.iload_n 1, 1) := by decide +kernel
theorem dX11_asks_116 : decode cX11_asks 116 = .ok (.iload_n 2, 1) := by decide +kernel
theorem dX11_asks_117 : decode cX11_asks 117 = .ok (.iload_n 3, 1) := by decide +kernel
theorem dX11_asks_118 : decode cX11_asks 118 = .ok (.invokevirtual 176, 3) := by decide +kernel
theorem dX11_asks_121 : decode cX11_asks 121 = .ok (.ifCond .eq 7, 3) := by decide +kernel
theorem dX11_asks_124 : decode cX11_asks 124 = .ok (.iconst 1, 1) := by decide +kernel
theorem dX11_asks_125 : decode cX11_asks 125 = .ok (.goto 4, 3) := by decide +kernel
theorem dX11_asks_128 : decode cX11_asks 128 = .ok (.iconst 0, 1) := by decide +kernel
theorem dX11_asks_129 : decode cX11_asks 129 = .ok (.ireturn, 1) := by decide +kernel
theorem dX11_asks_130 : decode cX11_asks 130 = .ok (.iconst (-1), 1) := by decide +kernel
theorem dX11_asks_131 : decode cX11_asks 131 = .ok (.ireturn, 1) := by decide +kernel
theorem dX11_terms_0 : decode cX11_terms 0 = .ok (.iload_n 1, 1) := by decide +kernel
theorem dX11_terms_1 : decode cX11_terms 1 = .ok (.ifCond .lt 20, 3) := by decide +kernel
theorem dX11_terms_4 : decode cX11_terms 4 = .ok (.iload_n 1, 1) := by decide +kernel
theorem dX11_terms_5 : decode cX11_terms 5 = .ok (.iconst 3, 1) := by decide +kernel
theorem dX11_terms_6 : decode cX11_terms 6 = .ok (.if_icmp .ge 15, 3) := by decide +kernel
theorem dX11_terms_9 : decode cX11_terms 9 = .ok (.iload_n 2, 1) := by decide +kernel
theorem dX11_terms_10 : decode cX11_terms 10 = .ok (.ifCond .lt 11, 3) := by decide +kernel
theorem dX11_terms_13 : decode cX11_terms 13 = .ok (.iload_n 2, 1) := by decide +kernel
theorem dX11_terms_14 : decode cX11_terms 14 = .ok (.iload_n 1, 1) := by decide +kernel
theorem dX11_terms_15 : decode cX11_terms 15 = .ok (.invokestatic 180, 3) := by decide +kernel
theorem dX11_terms_18 : decode cX11_terms 18 = .ok (.if_icmp .le 9, 3) := by decide +kernel
theorem dX11_terms_21 : decode cX11_terms 21 = .ok (.aload_n 0, 1) := by decide +kernel
theorem dX11_terms_22 : decode cX11_terms 22 = .ok (.iconst (-1), 1) := by decide +kernel
theorem dX11_terms_23 : decode cX11_terms 23 = .ok (.invokevirtual 117, 3) := by decide +kernel
theorem dX11_terms_26 : decode cX11_terms 26 = .ok (.ireturn, 1) := by decide +kernel
theorem dX11_terms_27 : decode cX11_terms 27 = .ok (.aload_n 0, 1) := by decide +kernel
theorem dX11_terms_28 : decode cX11_terms 28 = .ok (.getfield 12, 3) := by decide +kernel
theorem dX11_terms_31 : decode cX11_terms 31 = .ok (.getfield 107, 3) := by decide +kernel
theorem dX11_terms_34 : decode cX11_terms 34 = .ok (.getfield 183, 3) := by decide +kernel
theorem dX11_terms_37 : decode cX11_terms 37 = .ok (.iload_n 1, 1) := by decide +kernel
theorem dX11_terms_38 : decode cX11_terms 38 = .ok (.iaload, 1) := by decide +kernel
theorem dX11_terms_39 : decode cX11_terms 39 = .ok (.istore_n 3, 1) := by decide +kernel
theorem dX11_terms_40 : decode cX11_terms 40 = .ok (.aload_n 0, 1) := by decide +kernel
theorem dX11_terms_41 : decode cX11_terms 41 = .ok (.getfield 12, 3) := by decide +kernel
theorem dX11_terms_44 : decode cX11_terms 44 = .ok (.getfield 107, 3) := by decide +kernel
theorem dX11_terms_47 : decode cX11_terms 47 = .ok (.getfield 183, 3) := by decide +kernel
theorem dX11_terms_50 : decode cX11_terms 50 = .ok (.iload_n 1, 1) := by decide +kernel
theorem dX11_terms_51 : decode cX11_terms 51 = .ok (.iload_n 2, 1) := by decide +kernel
theorem dX11_terms_52 : decode cX11_terms 52 = .ok (.iastore, 1) := by decide +kernel
theorem dX11_terms_53 : decode cX11_terms 53 = .ok (.aload_n 0, 1) := by decide +kernel
theorem dX11_terms_54 : decode cX11_terms 54 = .ok (.getfield 72, 3) := by decide +kernel
theorem dX11_terms_57 : decode cX11_terms 57 = .ok (.invokevirtual 114, 3) := by decide +kernel
theorem dX11_terms_60 : decode cX11_terms 60 = .ok (.aload_n 0, 1) := by decide +kernel
theorem dX11_terms_61 : decode cX11_terms 61 = .ok (.iload_n 3, 1) := by decide +kernel
theorem dX11_terms_62 : decode cX11_terms 62 = .ok (.invokevirtual 117, 3) := by decide +kernel
theorem dX11_terms_65 : decode cX11_terms 65 = .ok (.ireturn, 1) := by decide +kernel
theorem dX11_feed_0 : decode cX11_feed 0 = .ok (.aload_n 0, 1) := by decide +kernel
theorem dX11_feed_1 : decode cX11_feed 1 = .ok (.getfield 37, 3) := by decide +kernel
theorem dX11_feed_4 : decode cX11_feed 4 = .ok (.getfield 186, 3) := by decide +kernel
theorem dX11_feed_7 : decode cX11_feed 7 = .ok (.bipush 20, 2) := by decide +kernel
theorem dX11_feed_9 : decode cX11_feed 9 = .ok (.iadd, 1) := by decide +kernel
theorem dX11_feed_10 : decode cX11_feed 10 = .ok (.sipush 400, 3) := by decide +kernel
theorem dX11_feed_13 : decode cX11_feed 13 = .ok (.if_icmp .le 5, 3) := by decide +kernel
theorem dX11_feed_16 : decode cX11_feed 16 = .ok (.iconst (-1), 1) := by decide +kernel
theorem dX11_feed_17 : decode cX11_feed 17 = .ok (.ireturn, 1) := by decide +kernel
theorem dX11_feed_18 : decode cX11_feed 18 = .ok (.aload_n 0, 1) := by decide +kernel
theorem dX11_feed_19 : decode cX11_feed 19 = .ok (.getfield 37, 3) := by decide +kernel
theorem dX11_feed_22 : decode cX11_feed 22 = .ok (.iload_n 1, 1) := by decide +kernel
theorem dX11_feed_23 : decode cX11_feed 23 = .ok (.invokevirtual 189, 3) := by decide +kernel
theorem dX11_feed_26 : decode cX11_feed 26 = .ok (.aload_n 0, 1) := by decide +kernel
theorem dX11_feed_27 : decode cX11_feed 27 = .ok (.getfield 37, 3) := by decide +kernel
theorem dX11_feed_30 : decode cX11_feed 30 = .ok (.iload_n 2, 1) := by decide +kernel
theorem dX11_feed_31 : decode cX11_feed 31 = .ok (.invokevirtual 189, 3) := by decide +kernel
theorem dX11_feed_34 : decode cX11_feed 34 = .ok (.aload_n 0, 1) := by decide +kernel
theorem dX11_feed_35 : decode cX11_feed 35 = .ok (.getfield 37, 3) := by decide +kernel
theorem dX11_feed_38 : decode cX11_feed 38 = .ok (.iload_n 3, 1) := by decide +kernel
theorem dX11_feed_39 : decode cX11_feed 39 = .ok (.invokevirtual 189, 3) := by decide +kernel
theorem dX11_feed_42 : decode cX11_feed 42 = .ok (.aload_n 0, 1) := by decide +kernel
theorem dX11_feed_43 : decode cX11_feed 43 = .ok (.getfield 37, 3) := by decide +kernel
theorem dX11_feed_46 : decode cX11_feed 46 = .ok (.iload 4, 2) := by decide +kernel
theorem dX11_feed_48 : decode cX11_feed 48 = .ok (.invokevirtual 189, 3) := by decide +kernel
theorem dX11_feed_51 : decode cX11_feed 51 = .ok (.aload_n 0, 1) := by decide +kernel
theorem dX11_feed_52 : decode cX11_feed 52 = .ok (.getfield 37, 3) := by decide +kernel
theorem dX11_feed_55 : decode cX11_feed 55 = .ok (.iload 5, 2) := by decide +kernel
theorem dX11_feed_57 : decode cX11_feed 57 = .ok (.invokevirtual 189, 3) := by decide +kernel
theorem dX11_feed_60 : decode cX11_feed 60 = .ok (.aload_n 0, 1) := by decide +kernel
theorem dX11_feed_61 : decode cX11_feed 61 = .ok (.getfield 37, 3) := by decide +kernel
theorem dX11_feed_64 : decode cX11_feed 64 = .ok (.getfield 186, 3) := by decide +kernel
theorem dX11_feed_67 : decode cX11_feed 67 = .ok (.ireturn, 1) := by decide +kernel
theorem dX11_end_0 : decode cX11_end 0 = .ok (.iload_n 1, 1) := by decide +kernel
theorem dX11_end_1 : decode cX11_end 1 = .ok (.ifCond .lt 14, 3) := by decide +kernel
theorem dX11_end_4 : decode cX11_end 4 = .ok (.iload_n 1, 1) := by decide +kernel
theorem dX11_end_5 : decode cX11_end 5 = .ok (.aload_n 0, 1) := by decide +kernel
theorem dX11_end_6 : decode cX11_end 6 = .ok (.getfield 37, 3) := by decide +kernel
theorem dX11_end_9 : decode cX11_end 9 = .ok (.getfield 186, 3) := by decide +kernel
theorem dX11_end_12 : decode cX11_end 12 = .ok (.if_icmp .le 5, 3) := by decide +kernel
theorem dX11_end_15 : decode cX11_end 15 = .ok (.iconst (-1), 1) := by decide +kernel
theorem dX11_end_16 : decode cX11_end 16 = .ok (.ireturn, 1) := by decide +kernel
theorem dX11_end_17 : decode cX11_end 17 = .ok (.aload_n 0, 1) := by decide +kernel
theorem dX11_end_18 : decode cX11_end 18 = .ok (.getfield 37, 3) := by decide +kernel
theorem dX11_end_21 : decode cX11_end 21 = .ok (.iload_n 1, 1) := by decide +kernel
theorem dX11_end_22 : decode cX11_end 22 = .ok (.putfield 186, 3) := by decide +kernel
theorem dX11_end_25 : decode cX11_end 25 = .ok (.iload_n 1, 1) := by decide +kernel
theorem dX11_end_26 : decode cX11_end 26 = .ok (.ireturn, 1) := by decide +kernel
theorem dX11_row_0 : decode cX11_row 0 = .ok (.aload_n 0, 1) := by decide +kernel
theorem dX11_row_1 : decode cX11_row 1 = .ok (.getfield 37, 3) := by decide +kernel
theorem dX11_row_4 : decode cX11_row 4 = .ok (.getfield 186, 3) := by decide +kernel
theorem dX11_row_7 : decode cX11_row 7 = .ok (.ifCond .ne 10, 3) := by decide +kernel
theorem dX11_row_10 : decode cX11_row 10 = .ok (.aload_n 0, 1) := by decide +kernel
theorem dX11_row_11 : decode cX11_row 11 = .ok (.bipush (-6), 2) := by decide +kernel
theorem dX11_row_13 : decode cX11_row 13 = .ok (.invokevirtual 117, 3) := by decide +kernel
theorem dX11_row_16 : decode cX11_row 16 = .ok (.ireturn, 1) := by decide +kernel
theorem dX11_row_17 : decode cX11_row 17 = .ok (.iconst 0, 1) := by decide +kernel
theorem dX11_row_18 : decode cX11_row 18 = .ok (.istore_n 1, 1) := by decide +kernel
theorem dX11_row_19 : decode cX11_row 19 = .ok (.iconst 0, 1) := by decide +kernel
theorem dX11_row_20 : decode cX11_row 20 = .ok (.istore_n 2, 1) := by decide +kernel
theorem dX11_row_21 : decode cX11_row 21 = .ok (.iconst 0, 1) := by decide +kernel
theorem dX11_row_22 : decode cX11_row 22 = .ok (.istore_n 3, 1) := by decide +kernel
theorem dX11_row_23 : decode cX11_row 23 = .ok (.iload_n 3, 1) := by decide +kernel
theorem dX11_row_24 : decode cX11_row 24 = .ok (.aload_n 0, 1) := by decide +kernel
theorem dX11_row_25 : decode cX11_row 25 = .ok (.getfield 37, 3) := by decide +kernel
theorem dX11_row_28 : decode cX11_row 28 = .ok (.getfield 186, 3) := by decide +kernel
theorem dX11_row_31 : decode cX11_row 31 = .ok (.if_icmp .ge 75, 3) := by decide +kernel
theorem dX11_row_34 : decode cX11_row 34 = .ok (.iload_n 3, 1) := by decide +kernel
theorem dX11_row_35 : decode cX11_row 35 = .ok (.iconst 2, 1) := by decide +kernel
theorem dX11_row_36 : decode cX11_row 36 = .ok (.iadd, 1) := by decide +kernel
theorem dX11_row_37 : decode cX11_row 37 = .ok (.aload_n 0, 1) := by decide +kernel
theorem dX11_row_38 : decode cX11_row 38 = .ok (.getfield 37, 3) := by decide +kernel
theorem dX11_row_41 : decode cX11_row 41 = .ok (.getfield 186, 3) := by decide +kernel
theorem dX11_row_44 : decode cX11_row 44 = .ok (.if_icmp .ge 53, 3) := by decide +kernel
theorem dX11_row_47 : decode cX11_row 47 = .ok (.aload_n 0, 1) := by decide +kernel
theorem dX11_row_48 : decode cX11_row 48 = .ok (.getfield 12, 3) := by decide +kernel
theorem dX11_row_51 : decode cX11_row 51 = .ok (.getfield 107, 3) := by decide +kernel
theorem dX11_row_54 : decode cX11_row 54 = .ok (.aload_n 0, 1) := by decide +kernel
theorem dX11_row_55 : decode cX11_row 55 = .ok (.getfield 37, 3) := by decide +kernel
theorem dX11_row_58 : decode cX11_row 58 = .ok (.getfield 193, 3) := by decide +kernel
theorem dX11_row_61 : decode cX11_row 61 = .ok (.iload_n 3, 1) := by decide +kernel
theorem dX11_row_62 : decode cX11_row 62 = .ok (.iaload, 1) := by decide +kernel
theorem dX11_row_63 : decode cX11_row 63 = .ok (.aload_n 0, 1) := by decide +kernel
theorem dX11_row_64 : decode cX11_row 64 = .ok (.getfield 37, 3) := by decide +kernel
theorem dX11_row_67 : decode cX11_row 67 = .ok (.getfield 193, 3) := by decide +kernel
theorem dX11_row_70 : decode cX11_row 70 = .ok (.iload_n 3, 1) := by decide +kernel
theorem dX11_row_71 : decode cX11_row 71 = .ok (.iconst 1, 1) := by decide +kernel
theorem dX11_row_72 : decode cX11_row 72 = .ok (.iadd, 1) := by decide +kernel
theorem dX11_row_73 : decode cX11_row 73 = .ok (.iaload, 1) := by decide +kernel
theorem dX11_row_74 : decode cX11_row 74 = .ok (.aload_n 0, 1) := by decide +kernel
theorem dX11_row_75 : decode cX11_row 75 = .ok (.getfield 37, 3) := by decide +kernel
theorem dX11_row_78 : decode cX11_row 78 = .ok (.getfield 193, 3) := by decide +kernel
theorem dX11_row_81 : decode cX11_row 81 = .ok (.iload_n 3, 1) := by decide +kernel
theorem dX11_row_82 : decode cX11_row 82 = .ok (.iconst 2, 1) := by decide +kernel
theorem dX11_row_83 : decode cX11_row 83 = .ok (.iadd, 1) := by decide +kernel
theorem dX11_row_84 : decode cX11_row 84 = .ok (.iaload, 1) := by decide +kernel
theorem dX11_row_85 : decode cX11_row 85 = .ok (.invokevirtual 110, 3) := by decide +kernel
theorem dX11_row_88 : decode cX11_row 88 = .ok (.ifCond .lt 9, 3) := by decide +kernel
theorem dX11_row_91 : decode cX11_row 91 = .ok (.iinc 1 1, 3) := by decide +kernel
theorem dX11_row_94 : decode cX11_row 94 = .ok (.goto 6, 3) := by decide +kernel
theorem dX11_row_97 : decode cX11_row 97 = .ok (.iinc 2 1, 3) := by decide +kernel
theorem dX11_row_100 : decode cX11_row 100 = .ok (.iinc 3 3, 3) := by decide +kernel
theorem dX11_row_103 : decode cX11_row 103 = .ok (.goto (-80), 3) := by decide +kernel
theorem dX11_row_106 : decode cX11_row 106 = .ok (.aload_n 0, 1) := by decide +kernel
theorem dX11_row_107 : decode cX11_row 107 = .ok (.iload_n 2, 1) := by decide +kernel
theorem dX11_row_108 : decode cX11_row 108 = .ok (.putfield 101, 3) := by decide +kernel
theorem dX11_row_111 : decode cX11_row 111 = .ok (.aload_n 0, 1) := by decide +kernel
theorem dX11_row_112 : decode cX11_row 112 = .ok (.getfield 37, 3) := by decide +kernel
theorem dX11_row_115 : decode cX11_row 115 = .ok (.iconst 0, 1) := by decide +kernel
theorem dX11_row_116 : decode cX11_row 116 = .ok (.putfield 186, 3) := by decide +kernel
theorem dX11_row_119 : decode cX11_row 119 = .ok (.aload_n 0, 1) := by decide +kernel
theorem dX11_row_120 : decode cX11_row 120 = .ok (.getfield 72, 3) := by decide +kernel
theorem dX11_row_123 : decode cX11_row 123 = .ok (.invokevirtual 114, 3) := by decide +kernel
theorem dX11_row_126 : decode cX11_row 126 = .ok (.aload_n 0, 1) := by decide +kernel
theorem dX11_row_127 : decode cX11_row 127 = .ok (.iload_n 1, 1) := by decide +kernel
theorem dX11_row_128 : decode cX11_row 128 = .ok (.invokevirtual 117, 3) := by decide +kernel
theorem dX11_row_131 : decode cX11_row 131 = .ok (.ireturn, 1) := by decide +kernel
theorem dX11_fluff_0 : decode cX11_fluff 0 = .ok (.aload_n 0, 1) := by decide +kernel
theorem dX11_fluff_1 : decode cX11_fluff 1 = .ok (.getfield 101, 3) := by decide +kernel
theorem dX11_fluff_4 : decode cX11_fluff 4 = .ok (.ireturn, 1) := by decide +kernel
theorem dX11_law_0 : decode cX11_law 0 = .ok (.aload_n 0, 1) := by decide +kernel
theorem dX11_law_1 : decode cX11_law 1 = .ok (.getfield 12, 3) := by decide +kernel
theorem dX11_law_4 : decode cX11_law 4 = .ok (.getfield 196, 3) := by decide +kernel
theorem dX11_law_7 : decode cX11_law 7 = .ok (.bipush 6, 2) := by decide +kernel
theorem dX11_law_9 : decode cX11_law 9 = .ok (.if_icmp .lt 18, 3) := by decide +kernel
theorem dX11_law_12 : decode cX11_law 12 = .ok (.aload_n 0, 1) := by decide +kernel
theorem dX11_law_13 : decode cX11_law 13 = .ok (.getfield 37, 3) := by decide +kernel
theorem dX11_law_16 : decode cX11_law 16 = .ok (.iconst 0, 1) := by decide +kernel
theorem dX11_law_17 : decode cX11_law 17 = .ok (.putfield 186, 3) := by decide +kernel
theorem dX11_law_20 : decode cX11_law 20 = .ok (.aload_n 0, 1) := by decide +kernel
theorem dX11_law_21 : decode cX11_law 21 = .ok (.bipush (-5), 2) := by decide +kernel
theorem dX11_law_23 : decode cX11_law 23 = .ok (.invokevirtual 117, 3) := by decide +kernel
theorem dX11_law_26 : decode cX11_law 26 = .ok (.ireturn, 1) := by decide +kernel
theorem dX11_law_27 : decode cX11_law 27 = .ok (.aload_n 0, 1) := by decide +kernel
theorem dX11_law_28 : decode cX11_law 28 = .ok (.aload_n 0, 1) := by decide +kernel
theorem dX11_law_29 : decode cX11_law 29 = .ok (.getfield 44, 3) := by decide +kernel
theorem dX11_law_32 : decode cX11_law 32 = .ok (.aload_n 0, 1) := by decide +kernel
theorem dX11_law_33 : decode cX11_law 33 = .ok (.getfield 37, 3) := by decide +kernel
theorem dX11_law_36 : decode cX11_law 36 = .ok (.aload_n 0, 1) := by decide +kernel
theorem dX11_law_37 : decode cX11_law 37 = .ok (.getfield 12, 3) := by decide +kernel
theorem dX11_law_40 : decode cX11_law 40 = .ok (.getfield 199, 3) := by decide +kernel
theorem dX11_law_43 : decode cX11_law 43 = .ok (.aload_n 0, 1) := by decide +kernel
theorem dX11_law_44 : decode cX11_law 44 = .ok (.getfield 12, 3) := by decide +kernel
theorem dX11_law_47 : decode cX11_law 47 = .ok (.getfield 196, 3) := by decide +kernel
theorem dX11_law_50 : decode cX11_law 50 = .ok (.aaload, 1) := by decide +kernel
theorem dX11_law_51 : decode cX11_law 51 = .ok (.iconst 0, 1) := by decide +kernel
theorem dX11_law_52 : decode cX11_law 52 = .ok (.invokevirtual 203, 3) := by decide +kernel
theorem dX11_law_55 : decode cX11_law 55 = .ok (.putfield 98, 3) := by decide +kernel
theorem dX11_law_58 : decode cX11_law 58 = .ok (.aload_n 0, 1) := by decide +kernel
theorem dX11_law_59 : decode cX11_law 59 = .ok (.getfield 37, 3) := by decide +kernel
theorem dX11_law_62 : decode cX11_law 62 = .ok (.iconst 0, 1) := by decide +kernel
theorem dX11_law_63 : decode cX11_law 63 = .ok (.putfield 186, 3) := by decide +kernel
theorem dX11_law_66 : decode cX11_law 66 = .ok (.aload_n 0, 1) := by decide +kernel
theorem dX11_law_67 : decode cX11_law 67 = .ok (.getfield 98, 3) := by decide +kernel
theorem dX11_law_70 : decode cX11_law 70 = .ok (.iconst (-1), 1) := by decide +kernel
theorem dX11_law_71 : decode cX11_law 71 = .ok (.if_icmp .eq 10, 3) := by decide +kernel
theorem dX11_law_74 : decode cX11_law 74 = .ok (.aload_n 0, 1) := by decide +kernel
theorem dX11_law_75 : decode cX11_law 75 = .ok (.bipush (-6), 2) := by decide +kernel
theorem dX11_law_77 : decode cX11_law 77 = .ok (.invokevirtual 117, 3) := by decide +kernel
theorem dX11_law_80 : decode cX11_law 80 = .ok (.ireturn, 1) := by decide +kernel
theorem dX11_law_81 : decode cX11_law 81 = .ok (.aload_n 0, 1) := by decide +kernel
theorem dX11_law_82 : decode cX11_law 82 = .ok (.getfield 12, 3) := by decide +kernel
theorem dX11_law_85 : decode cX11_law 85 = .ok (.dup, 1) := by decide +kernel
theorem dX11_law_86 : decode cX11_law 86 = .ok (.getfield 196, 3) := by decide +kernel
theorem dX11_law_89 : decode cX11_law 89 = .ok (.iconst 1, 1) := by decide +kernel
theorem dX11_law_90 : decode cX11_law 90 = .ok (.iadd, 1) := by decide +kernel
theorem dX11_law_91 : decode cX11_law 91 = .ok (.putfield 196, 3) := by decide +kernel
theorem dX11_law_94 : decode cX11_law 94 = .ok (.aload_n 0, 1) := by decide +kernel
theorem dX11_law_95 : decode cX11_law 95 = .ok (.aload_n 0, 1) := by decide +kernel
theorem dX11_law_96 : decode cX11_law 96 = .ok (.getfield 12, 3) := by decide +kernel
theorem dX11_law_99 : decode cX11_law 99 = .ok (.getfield 196, 3) := by decide +kernel
theorem dX11_law_102 : decode cX11_law 102 = .ok (.iconst 1, 1) := by decide +kernel
theorem dX11_law_103 : decode cX11_law 103 = .ok (.isub, 1) := by decide +kernel
theorem dX11_law_104 : decode cX11_law 104 = .ok (.invokevirtual 117, 3) := by decide +kernel
theorem dX11_law_107 : decode cX11_law 107 = .ok (.ireturn, 1) := by decide +kernel
theorem dX11_orders_0 : decode cX11_orders 0 = .ok (.aload_n 0, 1) := by decide +kernel
theorem dX11_orders_1 : decode cX11_orders 1 = .ok (.iconst (-1), 1) := by decide +kernel
theorem dX11_orders_2 : decode cX11_orders 2 = .ok (.putfield 104, 3) := by decide +kernel
theorem dX11_orders_5 : decode cX11_orders 5 = .ok (.aload_n 0, 1) := by decide +kernel
theorem dX11_orders_6 : decode cX11_orders 6 = .ok (.aload_n 0, 1) := by decide +kernel
theorem dX11_orders_7 : decode cX11_orders 7 = .ok (.getfield 44, 3) := by decide +kernel
theorem dX11_orders_10 : decode cX11_orders 10 = .ok (.aload_n 0, 1) := by decide +kernel
theorem dX11_orders_11 : decode cX11_orders 11 = .ok (.getfield 37, 3) := by decide +kernel
theorem dX11_orders_14 : decode cX11_orders 14 = .ok (.aload_n 0, 1) := by decide +kernel
theorem dX11_orders_15 : decode cX11_orders 15 = .ok (.getfield 51, 3) := by decide +kernel
theorem dX11_orders_18 : decode cX11_orders 18 = .ok (.iconst 1, 1) := by decide +kernel
theorem dX11_orders_19 : decode cX11_orders 19 = .ok (.invokevirtual 203, 3) := by decide +kernel
theorem dX11_orders_22 : decode cX11_orders 22 = .ok (.putfield 98, 3) := by decide +kernel
theorem dX11_orders_25 : decode cX11_orders 25 = .ok (.aload_n 0, 1) := by decide +kernel
theorem dX11_orders_26 : decode cX11_orders 26 = .ok (.getfield 37, 3) := by decide +kernel
theorem dX11_orders_29 : decode cX11_orders 29 = .ok (.iconst 0, 1) := by decide +kernel
theorem dX11_orders_30 : decode cX11_orders 30 = .ok (.putfield 186, 3) := by decide +kernel
theorem dX11_orders_33 : decode cX11_orders 33 = .ok (.aload_n 0, 1) := by decide +kernel
theorem dX11_orders_34 : decode cX11_orders 34 = .ok (.getfield 98, 3) := by decide +kernel
theorem dX11_orders_37 : decode cX11_orders 37 = .ok (.iconst (-1), 1) := by decide +kernel
theorem dX11_orders_38 : decode cX11_orders 38 = .ok (.if_icmp .eq 10, 3) := by decide +kernel
theorem dX11_orders_41 : decode cX11_orders 41 = .ok (.aload_n 0, 1) := by decide +kernel
theorem dX11_orders_42 : decode cX11_orders 42 = .ok (.bipush (-6), 2) := by decide +kernel
theorem dX11_orders_44 : decode cX11_orders 44 = .ok (.invokevirtual 117, 3) := by decide +kernel
theorem dX11_orders_47 : decode cX11_orders 47 = .ok (.ireturn, 1) := by decide +kernel
theorem dX11_orders_48 : decode cX11_orders 48 = .ok (.aload_n 0, 1) := by decide +kernel
theorem dX11_orders_49 : decode cX11_orders 49 = .ok (.getfield 72, 3) := by decide +kernel
theorem dX11_orders_52 : decode cX11_orders 52 = .ok (.aload_n 0, 1) := by decide +kernel
theorem dX11_orders_53 : decode cX11_orders 53 = .ok (.getfield 12, 3) := by decide +kernel
theorem dX11_orders_56 : decode cX11_orders 56 = .ok (.getfield 107, 3) := by decide +kernel
theorem dX11_orders_59 : decode cX11_orders 59 = .ok (.invokevirtual 207, 3) := by decide +kernel
theorem dX11_orders_62 : decode cX11_orders 62 = .ok (.aload_n 0, 1) := by decide +kernel
theorem dX11_orders_63 : decode cX11_orders 63 = .ok (.getfield 58, 3) := by decide +kernel
theorem dX11_orders_66 : decode cX11_orders 66 = .ok (.getfield 211, 3) := by decide +kernel
theorem dX11_orders_69 : decode cX11_orders 69 = .ok (.iconst 1, 1) := by decide +kernel
theorem dX11_orders_70 : decode cX11_orders 70 = .ok (.iconst 0, 1) := by decide +kernel
theorem dX11_orders_71 : decode cX11_orders 71 = .ok (.iastore, 1) := by decide +kernel
theorem dX11_orders_72 : decode cX11_orders 72 = .ok (.aload_n 0, 1) := by decide +kernel
theorem dX11_orders_73 : decode cX11_orders 73 = .ok (.getfield 58, 3) := by decide +kernel
theorem dX11_orders_76 : decode cX11_orders 76 = .ok (.getfield 211, 3) := by decide +kernel
theorem dX11_orders_79 : decode cX11_orders 79 = .ok (.iconst 2, 1) := by decide +kernel
theorem dX11_orders_80 : decode cX11_orders 80 = .ok (.iconst (-1), 1) := by decide +kernel
theorem dX11_orders_81 : decode cX11_orders 81 = .ok (.iastore, 1) := by decide +kernel
theorem dX11_orders_82 : decode cX11_orders 82 = .ok (.iconst 0, 1) := by decide +kernel
theorem dX11_orders_83 : decode cX11_orders 83 = .ok (.istore_n 1, 1) := by decide +kernel
theorem dX11_orders_84 : decode cX11_orders 84 = .ok (.iload_n 1, 1) := by decide +kernel
theorem dX11_orders_85 : decode cX11_orders 85 = .ok (.aload_n 0, 1) := by decide +kernel
theorem dX11_orders_86 : decode cX11_orders 86 = .ok (.getfield 51, 3) := by decide +kernel
theorem dX11_orders_89 : decode cX11_orders 89 = .ok (.getfield 214, 3) := by decide +kernel
theorem dX11_orders_92 : decode cX11_orders 92 = .ok (.if_icmp .ge 66, 3) := by decide +kernel
theorem dX11_orders_95 : decode cX11_orders 95 = .ok (.aload_n 0, 1) := by decide +kernel
theorem dX11_orders_96 : decode cX11_orders 96 = .ok (.getfield 51, 3) := by decide +kernel
theorem dX11_orders_99 : decode cX11_orders 99 = .ok (.iload_n 1, 1) := by decide +kernel
theorem dX11_orders_100 : decode cX11_orders 100 = .ok (.iconst 1, 1) := by decide +kernel
theorem dX11_orders_101 : decode cX11_orders 101 = .ok (.invokevirtual 217, 3) := by decide +kernel
theorem dX11_orders_104 : decode cX11_orders 104 = .ok (.istore_n 2, 1) := by decide +kernel
theorem dX11_orders_105 : decode cX11_orders 105 = .ok (.iconst 0, 1) := by decide +kernel
theorem dX11_orders_106 : decode cX11_orders 106 = .ok (.istore_n 3, 1) := by decide +kernel
theorem dX11_orders_107 : decode cX11_orders 107 = .ok (.iload_n 3, 1) := by decide +kernel
theorem dX11_orders_108 : decode cX11_orders 108 = .ok (.iload_n 2, 1) := by decide +kernel
theorem dX11_orders_109 : decode cX11_orders 109 = .ok (.if_icmp .ge 43, 3) := by decide +kernel
theorem dX11_orders_112 : decode cX11_orders 112 = .ok (.aload_n 0, 1) := by decide +kernel
theorem dX11_orders_113 : decode cX11_orders 113 = .ok (.iload_n 1, 1) := by decide +kernel
theorem dX11_orders_114 : decode cX11_orders 114 = .ok (.invokevirtual 220, 3) := by decide +kernel
theorem dX11_orders_117 : decode cX11_orders 117 = .ok (.ifCond .ne 29, 3) := by decide +kernel
theorem dX11_orders_120 : decode cX11_orders 120 = .ok (.aload_n 0, 1) := by decide +kernel
theorem dX11_orders_121 : decode cX11_orders 121 = .ok (.getfield 72, 3) := by decide +kernel
theorem dX11_orders_124 : decode cX11_orders 124 = .ok (.aload_n 0, 1) := by decide +kernel
theorem dX11_orders_125 : decode cX11_orders 125 = .ok (.getfield 12, 3) := by decide +kernel
theorem dX11_orders_128 : decode cX11_orders 128 = .ok (.getfield 107, 3) := by decide +kernel
theorem dX11_orders_131 : decode cX11_orders 131 = .ok (.invokevirtual 223, 3) := by decide +kernel
theorem dX11_orders_134 : decode cX11_orders 134 = .ok (.aload_n 0, 1) := by decide +kernel
theorem dX11_orders_135 : decode cX11_orders 135 = .ok (.iload_n 1, 1) := by decide +kernel
theorem dX11_orders_136 : decode cX11_orders 136 = .ok (.putfield 104, 3) := by decide +kernel
theorem dX11_orders_139 : decode cX11_orders 139 = .ok (.aload_n 0, 1) := by decide +kernel
theorem dX11_orders_140 : decode cX11_orders 140 = .ok (.bipush (-3), 2) := by decide +kernel
theorem dX11_orders_142 : decode cX11_orders 142 = .ok (.invokevirtual 117, 3) := by decide +kernel
theorem dX11_orders_145 : decode cX11_orders 145 = .ok (.ireturn, 1) := by decide +kernel
theorem dX11_orders_146 : decode cX11_orders 146 = .ok (.iinc 3 1, 3) := by decide +kernel
theorem dX11_orders_149 : decode cX11_orders 149 = .ok (.goto (-42), 3) := by decide +kernel
theorem dX11_orders_152 : decode cX11_orders 152 = .ok (.iinc 1 1, 3) := by decide +kernel
theorem dX11_orders_155 : decode cX11_orders 155 = .ok (.goto (-71), 3) := by decide +kernel
theorem dX11_orders_158 : decode cX11_orders 158 = .ok (.aload_n 0, 1) := by decide +kernel
theorem dX11_orders_159 : decode cX11_orders 159 = .ok (.aload_n 0, 1) := by decide +kernel
theorem dX11_orders_160 : decode cX11_orders 160 = .ok (.getfield 58, 3) := by decide +kernel
theorem dX11_orders_163 : decode cX11_orders 163 = .ok (.getfield 211, 3) := by decide +kernel
theorem dX11_orders_166 : decode cX11_orders 166 = .ok (.iconst 1, 1) := by decide +kernel
theorem dX11_orders_167 : decode cX11_orders 167 = .ok (.iaload, 1) := by decide +kernel
theorem dX11_orders_168 : decode cX11_orders 168 = .ok (.invokevirtual 117, 3) := by decide +kernel
theorem dX11_orders_171 : decode cX11_orders 171 = .ok (.ireturn, 1) := by decide +kernel
theorem dX11_fault_0 : decode cX11_fault 0 = .ok (.aload_n 0, 1) := by decide +kernel
theorem dX11_fault_1 : decode cX11_fault 1 = .ok (.getfield 98, 3) := by decide +kernel
theorem dX11_fault_4 : decode cX11_fault 4 = .ok (.ireturn, 1) := by decide +kernel
theorem dX11_stopped_0 : decode cX11_stopped 0 = .ok (.aload_n 0, 1) := by decide +kernel
theorem dX11_stopped_1 : decode cX11_stopped 1 = .ok (.getfield 104, 3) := by decide +kernel
theorem dX11_stopped_4 : decode cX11_stopped 4 = .ok (.ireturn, 1) := by decide +kernel
theorem dX11_force_0 : decode cX11_force 0 = .ok (.iload_n 1, 1) := by decide +kernel
theorem dX11_force_1 : decode cX11_force 1 = .ok (.iconst (-1), 1) := by decide +kernel
theorem dX11_force_2 : decode cX11_force 2 = .ok (.if_icmp .eq 21, 3) := by decide +kernel
theorem dX11_force_5 : decode cX11_force 5 = .ok (.aload_n 0, 1) := by decide +kernel
theorem dX11_force_6 : decode cX11_force 6 = .ok (.getfield 12, 3) := by decide +kernel
theorem dX11_force_9 : decode cX11_force 9 = .ok (.iload_n 1, 1) := by decide +kernel
theorem dX11_force_10 : decode cX11_force 10 = .ok (.invokevirtual 226, 3) := by decide +kernel
theorem dX11_force_13 : decode cX11_force 13 = .ok (.ifnonnull 10, 3) := by decide +kernel
theorem dX11_force_16 : decode cX11_force 16 = .ok (.aload_n 0, 1) := by decide +kernel
theorem dX11_force_17 : decode cX11_force 17 = .ok (.bipush (-2), 2) := by decide +kernel
theorem dX11_force_19 : decode cX11_force 19 = .ok (.invokevirtual 117, 3) := by decide +kernel
theorem dX11_force_22 : decode cX11_force 22 = .ok (.ireturn, 1) := by decide +kernel
theorem dX11_force_23 : decode cX11_force 23 = .ok (.aload_n 0, 1) := by decide +kernel
theorem dX11_force_24 : decode cX11_force 24 = .ok (.getfield 12, 3) := by decide +kernel
theorem dX11_force_27 : decode cX11_force 27 = .ok (.getfield 230, 3) := by decide +kernel
theorem dX11_force_30 : decode cX11_force 30 = .ok (.istore_n 2, 1) := by decide +kernel
theorem dX11_force_31 : decode cX11_force 31 = .ok (.aload_n 0, 1) := by decide +kernel
theorem dX11_force_32 : decode cX11_force 32 = .ok (.getfield 12, 3) := by decide +kernel
theorem dX11_force_35 : decode cX11_force 35 = .ok (.iload_n 1, 1) := by decide +kernel
theorem dX11_force_36 : decode cX11_force 36 = .ok (.putfield 230, 3) := by decide +kernel
theorem dX11_force_39 : decode cX11_force 39 = .ok (.aload_n 0, 1) := by decide +kernel
theorem dX11_force_40 : decode cX11_force 40 = .ok (.iconst 0, 1) := by decide +kernel
theorem dX11_force_41 : decode cX11_force 41 = .ok (.putfield 94, 3) := by decide +kernel
theorem dX11_force_44 : decode cX11_force 44 = .ok (.iload_n 2, 1) := by decide +kernel
theorem dX11_force_45 : decode cX11_force 45 = .ok (.ireturn, 1) := by decide +kernel
theorem dX11_lay_0 : decode cX11_lay 0 = .ok (.aload_n 0, 1) := by decide +kernel
theorem dX11_lay_1 : decode cX11_lay 1 = .ok (.aload_n 0, 1) := by decide +kernel
theorem dX11_lay_2 : decode cX11_lay 2 = .ok (.iload_n 1, 1) := by decide +kernel
theorem dX11_lay_3 : decode cX11_lay 3 = .ok (.iload_n 2, 1) := by decide +kernel
theorem dX11_lay_4 : decode cX11_lay 4 = .ok (.iload_n 3, 1) := by decide +kernel
theorem dX11_lay_5 : decode cX11_lay 5 = .ok (.invokevirtual 233, 3) := by decide +kernel
theorem dX11_lay_8 : decode cX11_lay 8 = .ok (.invokevirtual 117, 3) := by decide +kernel
theorem dX11_lay_11 : decode cX11_lay 11 = .ok (.ireturn, 1) := by decide +kernel
theorem dX11_roll_0 : decode cX11_roll 0 = .ok (.aload_n 0, 1) := by decide +kernel
theorem dX11_roll_1 : decode cX11_roll 1 = .ok (.aload_n 0, 1) := by decide +kernel
theorem dX11_roll_2 : decode cX11_roll 2 = .ok (.iload_n 1, 1) := by decide +kernel
theorem dX11_roll_3 : decode cX11_roll 3 = .ok (.invokevirtual 236, 3) := by decide +kernel
theorem dX11_roll_6 : decode cX11_roll 6 = .ok (.invokevirtual 117, 3) := by decide +kernel
theorem dX11_roll_9 : decode cX11_roll 9 = .ok (.ireturn, 1) := by decide +kernel
theorem dX11_mirror_0 : decode cX11_mirror 0 = .ok (.aload_n 0, 1) := by decide +kernel
theorem dX11_mirror_1 : decode cX11_mirror 1 = .ok (.aload_n 0, 1) := by decide +kernel
theorem dX11_mirror_2 : decode cX11_mirror 2 = .ok (.invokevirtual 239, 3) := by decide +kernel
theorem dX11_mirror_5 : decode cX11_mirror 5 = .ok (.invokevirtual 117, 3) := by decide +kernel
theorem dX11_mirror_8 : decode cX11_mirror 8 = .ok (.ireturn, 1) := by decide +kernel
theorem dX11_pass_0 : decode cX11_pass 0 = .ok (.aload_n 0, 1) := by decide +kernel
theorem dX11_pass_1 : decode cX11_pass 1 = .ok (.aload_n 0, 1) := by decide +kernel
theorem dX11_pass_2 : decode cX11_pass 2 = .ok (.invokevirtual 242, 3) := by decide +kernel
theorem dX11_pass_5 : decode cX11_pass 5 = .ok (.invokevirtual 117, 3) := by decide +kernel
theorem dX11_pass_8 : decode cX11_pass 8 = .ok (.ireturn, 1) := by decide +kernel
theorem dX11_undo_0 : decode cX11_undo 0 = .ok (.aload_n 0, 1) := by decide +kernel
theorem dX11_undo_1 : decode cX11_undo 1 = .ok (.aload_n 0, 1) := by decide +kernel
theorem dX11_undo_2 : decode cX11_undo 2 = .ok (.getfield 72, 3) := by decide +kernel
theorem dX11_undo_5 : decode cX11_undo 5 = .ok (.aload_n 0, 1) := by decide +kernel
theorem dX11_undo_6 : decode cX11_undo 6 = .ok (.getfield 12, 3) := by decide +kernel
theorem dX11_undo_9 : decode cX11_undo 9 = .ok (.getfield 107, 3) := by decide +kernel
theorem dX11_undo_12 : decode cX11_undo 12 = .ok (.invokevirtual 245, 3) := by decide +kernel
theorem dX11_undo_15 : decode cX11_undo 15 = .ok (.invokevirtual 117, 3) := by decide +kernel
theorem dX11_undo_18 : decode cX11_undo 18 = .ok (.ireturn, 1) := by decide +kernel
theorem dX11_bare_0 : decode cX11_bare 0 = .ok (.aload_n 0, 1) := by decide +kernel
theorem dX11_bare_1 : decode cX11_bare 1 = .ok (.getfield 12, 3) := by decide +kernel
theorem dX11_bare_4 : decode cX11_bare 4 = .ok (.getfield 107, 3) := by decide +kernel
theorem dX11_bare_7 : decode cX11_bare 7 = .ok (.astore_n 2, 1) := by decide +kernel
theorem dX11_bare_8 : decode cX11_bare 8 = .ok (.iload_n 1, 1) := by decide +kernel
theorem dX11_bare_9 : decode cX11_bare 9 = .ok (.ifCond .ne 8, 3) := by decide +kernel
theorem dX11_bare_12 : decode cX11_bare 12 = .ok (.aload_n 2, 1) := by decide +kernel
theorem dX11_bare_13 : decode cX11_bare 13 = .ok (.invokevirtual 249, 3) := by decide +kernel
theorem dX11_bare_16 : decode cX11_bare 16 = .ok (.ireturn, 1) := by decide +kernel
theorem dX11_bare_17 : decode cX11_bare 17 = .ok (.aload_n 2, 1) := by decide +kernel
theorem dX11_bare_18 : decode cX11_bare 18 = .ok (.invokevirtual 252, 3) := by decide +kernel
theorem dX11_bare_21 : decode cX11_bare 21 = .ok (.istore_n 3, 1) := by decide +kernel
theorem dX11_bare_22 : decode cX11_bare 22 = .ok (.iload_n 3, 1) := by decide +kernel
theorem dX11_bare_23 : decode cX11_bare 23 = .ok (.iconst (-1), 1) := by decide +kernel
theorem dX11_bare_24 : decode cX11_bare 24 = .ok (.if_icmp .ne 5, 3) := by decide +kernel
theorem dX11_bare_27 : decode cX11_bare 27 = .ok (.iconst (-1), 1) := by decide +kernel
theorem dX11_bare_28 : decode cX11_bare 28 = .ok (.ireturn, 1) := by decide +kernel
theorem dX11_bare_29 : decode cX11_bare 29 = .ok (.iload_n 1, 1) := by decide +kernel
theorem dX11_bare_30 : decode cX11_bare 30 = .ok (.iconst 1, 1) := by decide +kernel
theorem dX11_bare_31 : decode cX11_bare 31 = .ok (.if_icmp .ne 10, 3) := by decide +kernel
theorem dX11_bare_34 : decode cX11_bare 34 = .ok (.iload_n 3, 1) := by decide +kernel
theorem dX11_bare_35 : decode cX11_bare 35 = .ok (.bipush 12, 2) := by decide +kernel
theorem dX11_bare_37 : decode cX11_bare 37 = .ok (.irem, 1) := by decide +kernel
theorem dX11_bare_38 : decode cX11_bare 38 = .ok (.goto 16, 3) := by decide +kernel
theorem dX11_bare_41 : decode cX11_bare 41 = .ok (.iload_n 1, 1) := by decide +kernel
theorem dX11_bare_42 : decode cX11_bare 42 = .ok (.iconst 2, 1) := by decide +kernel
theorem dX11_bare_43 : decode cX11_bare 43 = .ok (.if_icmp .ne 10, 3) := by decide +kernel
theorem dX11_bare_46 : decode cX11_bare 46 = .ok (.iload_n 3, 1) := by decide +kernel
theorem dX11_bare_47 : decode cX11_bare 47 = .ok (.bipush 12, 2) := by decide +kernel
theorem dX11_bare_49 : decode cX11_bare 49 = .ok (.idiv, 1) := by decide +kernel
theorem dX11_bare_50 : decode cX11_bare 50 = .ok (.goto 4, 3) := by decide +kernel
theorem dX11_bare_53 : decode cX11_bare 53 = .ok (.iconst (-1), 1) := by decide +kernel
theorem dX11_bare_54 : decode cX11_bare 54 = .ok (.ireturn, 1) := by decide +kernel
theorem dX11_fill_0 : decode cX11_fill 0 = .ok (.aload_n 0, 1) := by decide +kernel
theorem dX11_fill_1 : decode cX11_fill 1 = .ok (.getfield 79, 3) := by decide +kernel
theorem dX11_fill_4 : decode cX11_fill 4 = .ok (.aload_n 0, 1) := by decide +kernel
theorem dX11_fill_5 : decode cX11_fill 5 = .ok (.getfield 12, 3) := by decide +kernel
theorem dX11_fill_8 : decode cX11_fill 8 = .ok (.getfield 107, 3) := by decide +kernel
theorem dX11_fill_11 : decode cX11_fill 11 = .ok (.aload_n 0, 1) := by decide +kernel
theorem dX11_fill_12 : decode cX11_fill 12 = .ok (.getfield 12, 3) := by decide +kernel
theorem dX11_fill_15 : decode cX11_fill 15 = .ok (.invokevirtual 143, 3) := by decide +kernel
theorem dX11_fill_18 : decode cX11_fill 18 = .ok (.aload_n 0, 1) := by decide +kernel
theorem dX11_fill_19 : decode cX11_fill 19 = .ok (.getfield 65, 3) := by decide +kernel
theorem dX11_fill_22 : decode cX11_fill 22 = .ok (.invokevirtual 255, 3) := by decide +kernel
theorem dX11_fill_25 : decode cX11_fill 25 = .ok (.aload_n 0, 1) := by decide +kernel
theorem dX11_fill_26 : decode cX11_fill 26 = .ok (.getfield 79, 3) := by decide +kernel
theorem dX11_fill_29 : decode cX11_fill 29 = .ok (.iconst 1, 1) := by decide +kernel
theorem dX11_fill_30 : decode cX11_fill 30 = .ok (.invokevirtual 259, 3) := by decide +kernel
theorem dX11_fill_33 : decode cX11_fill 33 = .ok (.ifCond .ne 5, 3) := by decide +kernel
theorem dX11_fill_36 : decode cX11_fill 36 = .ok (.iconst (-1), 1) := by decide +kernel
theorem dX11_fill_37 : decode cX11_fill 37 = .ok (.ireturn, 1) := by decide +kernel
theorem dX11_fill_38 : decode cX11_fill 38 = .ok (.iload_n 1, 1) := by decide +kernel
theorem dX11_fill_39 : decode cX11_fill 39 = .ok (.iconst (-1), 1) := by decide +kernel
theorem dX11_fill_40 : decode cX11_fill 40 = .ok (.if_icmp .ne 13, 3) := by decide +kernel
theorem dX11_fill_43 : decode cX11_fill 43 = .ok (.aload_n 0, 1) := by decide +kernel
theorem dX11_fill_44 : decode cX11_fill 44 = .ok (.getfield 79, 3) := by decide +kernel
theorem dX11_fill_47 : decode cX11_fill 47 = .ok (.invokevirtual 262, 3) := by decide +kernel
theorem dX11_fill_50 : decode cX11_fill 50 = .ok (.goto 11, 3) := by decide +kernel
theorem dX11_fill_53 : decode cX11_fill 53 = .ok (.aload_n 0, 1) := by decide +kernel
theorem dX11_fill_54 : decode cX11_fill 54 = .ok (.getfield 79, 3) := by decide +kernel
theorem dX11_fill_57 : decode cX11_fill 57 = .ok (.iload_n 1, 1) := by decide +kernel
theorem dX11_fill_58 : decode cX11_fill 58 = .ok (.invokevirtual 265, 3) := by decide +kernel
theorem dX11_fill_61 : decode cX11_fill 61 = .ok (.ireturn, 1) := by decide +kernel
theorem dX11_ways_0 : decode cX11_ways 0 = .ok (.aload_n 0, 1) := by decide +kernel
theorem dX11_ways_1 : decode cX11_ways 1 = .ok (.getfield 79, 3) := by decide +kernel
theorem dX11_ways_4 : decode cX11_ways 4 = .ok (.aload_n 0, 1) := by decide +kernel
theorem dX11_ways_5 : decode cX11_ways 5 = .ok (.getfield 12, 3) := by decide +kernel
theorem dX11_ways_8 : decode cX11_ways 8 = .ok (.getfield 107, 3) := by decide +kernel
theorem dX11_ways_11 : decode cX11_ways 11 = .ok (.aload_n 0, 1) := by decide +kernel
theorem dX11_ways_12 : decode cX11_ways 12 = .ok (.getfield 12, 3) := by decide +kernel
theorem dX11_ways_15 : decode cX11_ways 15 = .ok (.invokevirtual 143, 3) := by decide +kernel
theorem dX11_ways_18 : decode cX11_ways 18 = .ok (.aload_n 0, 1) := by decide +kernel
theorem dX11_ways_19 : decode cX11_ways 19 = .ok (.getfield 65, 3) := by decide +kernel
theorem dX11_ways_22 : decode cX11_ways 22 = .ok (.invokevirtual 255, 3) := by decide +kernel
theorem dX11_ways_25 : decode cX11_ways 25 = .ok (.aload_n 0, 1) := by decide +kernel
theorem dX11_ways_26 : decode cX11_ways 26 = .ok (.getfield 79, 3) := by decide +kernel
theorem dX11_ways_29 : decode cX11_ways 29 = .ok (.ldc_w 268, 3) := by decide +kernel
theorem dX11_ways_32 : decode cX11_ways 32 = .ok (.invokevirtual 259, 3) := by decide +kernel
theorem dX11_ways_35 : decode cX11_ways 35 = .ok (.ireturn, 1) := by decide +kernel
theorem dX11_cheapest_0 : decode cX11_cheapest 0 = .ok (.aload_n 0, 1) := by decide +kernel
theorem dX11_cheapest_1 : decode cX11_cheapest 1 = .ok (.getfield 79, 3) := by decide +kernel
theorem dX11_cheapest_4 : decode cX11_cheapest 4 = .ok (.aload_n 0, 1) := by decide +kernel
theorem dX11_cheapest_5 : decode cX11_cheapest 5 = .ok (.getfield 12, 3) := by decide +kernel
theorem dX11_cheapest_8 : decode cX11_cheapest 8 = .ok (.getfield 107, 3) := by decide +kernel
theorem dX11_cheapest_11 : decode cX11_cheapest 11 = .ok (.aload_n 0, 1) := by decide +kernel
theorem dX11_cheapest_12 : decode cX11_cheapest 12 = .ok (.getfield 12, 3) := by decide +kernel
theorem dX11_cheapest_15 : decode cX11_cheapest 15 = .ok (.invokevirtual 143, 3) := by decide +kernel
theorem dX11_cheapest_18 : decode cX11_cheapest 18 = .ok (.aload_n 0, 1) := by decide +kernel
theorem dX11_cheapest_19 : decode cX11_cheapest 19 = .ok (.getfield 65, 3) := by decide +kernel
theorem dX11_cheapest_22 : decode cX11_cheapest 22 = .ok (.invokevirtual 255, 3) := by decide +kernel
theorem dX11_cheapest_25 : decode cX11_cheapest 25 = .ok (.aload_n 0, 1) := by decide +kernel
theorem dX11_cheapest_26 : decode cX11_cheapest 26 = .ok (.getfield 79, 3) := by decide +kernel
theorem dX11_cheapest_29 : decode cX11_cheapest 29 = .ok (.invokevirtual 269, 3) := by decide +kernel
theorem dX11_cheapest_32 : decode cX11_cheapest 32 = .ok (.ireturn, 1) := by decide +kernel
theorem dX11_halls_0 : decode cX11_halls 0 = .ok (.iload_n 1, 1) := by decide +kernel
theorem dX11_halls_1 : decode cX11_halls 1 = .ok (.iconst (-1), 1) := by decide +kernel
theorem dX11_halls_2 : decode cX11_halls 2 = .ok (.if_icmp .ge 5, 3) := by decide +kernel
theorem dX11_halls_5 : decode cX11_halls 5 = .ok (.iconst (-1), 1) := by decide +kernel
theorem dX11_halls_6 : decode cX11_halls 6 = .ok (.ireturn, 1) := by decide +kernel
theorem dX11_halls_7 : decode cX11_halls 7 = .ok (.aload_n 0, 1) := by decide +kernel
theorem dX11_halls_8 : decode cX11_halls 8 = .ok (.getfield 12, 3) := by decide +kernel
theorem dX11_halls_11 : decode cX11_halls 11 = .ok (.getfield 107, 3) := by decide +kernel
theorem dX11_halls_14 : decode cX11_halls 14 = .ok (.invokevirtual 272, 3) := by decide +kernel
theorem dX11_halls_17 : decode cX11_halls 17 = .ok (.istore_n 2, 1) := by decide +kernel
theorem dX11_halls_18 : decode cX11_halls 18 = .ok (.iconst 0, 1) := by decide +kernel
theorem dX11_halls_19 : decode cX11_halls 19 = .ok (.istore_n 3, 1) := by decide +kernel
theorem dX11_halls_20 : decode cX11_halls 20 = .ok (.iconst 1, 1) := by decide +kernel
theorem dX11_halls_21 : decode cX11_halls 21 = .ok (.istore 4, 2) := by decide +kernel
theorem dX11_halls_23 : decode cX11_halls 23 = .ok (.iload 4, 2) := by decide +kernel
theorem dX11_halls_25 : decode cX11_halls 25 = .ok (.bipush 12, 2) := by decide +kernel
theorem dX11_halls_27 : decode cX11_halls 27 = .ok (.if_icmp .gt 116, 3) := by decide +kernel
theorem dX11_halls_30 : decode cX11_halls 30 = .ok (.iload_n 2, 1) := by decide +kernel
theorem dX11_halls_31 : decode cX11_halls 31 = .ok (.ifCond .le 112, 3) := by decide +kernel
theorem dX11_halls_34 : decode cX11_halls 34 = .ok (.iload_n 2, 1) := by decide +kernel
theorem dX11_halls_35 : decode cX11_halls 35 = .ok (.iload 4, 2) := by decide +kernel
theorem dX11_halls_37 : decode cX11_halls 37 = .ok (.idiv, 1) := by decide +kernel
theorem dX11_halls_38 : decode cX11_halls 38 = .ok (.istore 5, 2) := by decide +kernel
theorem dX11_halls_40 : decode cX11_halls 40 = .ok (.iload 5, 2) := by decide +kernel
theorem dX11_halls_42 : decode cX11_halls 42 = .ok (.bipush 12, 2) := by decide +kernel
theorem dX11_halls_44 : decode cX11_halls 44 = .ok (.if_icmp .gt 93, 3) := by decide +kernel
theorem dX11_halls_47 : decode cX11_halls 47 = .ok (.iload 5, 2) := by decide +kernel
theorem dX11_halls_49 : decode cX11_halls 49 = .ok (.iload 4, 2) := by decide +kernel
theorem dX11_halls_51 : decode cX11_halls 51 = .ok (.imul, 1) := by decide +kernel
theorem dX11_halls_52 : decode cX11_halls 52 = .ok (.iload_n 2, 1) := by decide +kernel
theorem dX11_halls_53 : decode cX11_halls 53 = .ok (.if_icmp .eq 6, 3) := by decide +kernel
theorem dX11_halls_56 : decode cX11_halls 56 = .ok (.goto 81, 3) := by decide +kernel
theorem dX11_halls_59 : decode cX11_halls 59 = .ok (.aload_n 0, 1) := by decide +kernel
theorem dX11_halls_60 : decode cX11_halls 60 = .ok (.getfield 31, 3) := by decide +kernel
theorem dX11_halls_63 : decode cX11_halls 63 = .ok (.aload_n 0, 1) := by decide +kernel
theorem dX11_halls_64 : decode cX11_halls 64 = .ok (.getfield 12, 3) := by decide +kernel
theorem dX11_halls_67 : decode cX11_halls 67 = .ok (.getfield 107, 3) := by decide +kernel
theorem dX11_halls_70 : decode cX11_halls 70 = .ok (.invokevirtual 275, 3) := by decide +kernel
theorem dX11_halls_73 : decode cX11_halls 73 = .ok (.aload_n 0, 1) := by decide +kernel
theorem dX11_halls_74 : decode cX11_halls 74 = .ok (.getfield 31, 3) := by decide +kernel
theorem dX11_halls_77 : decode cX11_halls 77 = .ok (.iload 4, 2) := by decide +kernel
theorem dX11_halls_79 : decode cX11_halls 79 = .ok (.iload 5, 2) := by decide +kernel
theorem dX11_halls_81 : decode cX11_halls 81 = .ok (.invokevirtual 278, 3) := by decide +kernel
theorem dX11_halls_84 : decode cX11_halls 84 = .ok (.aload_n 0, 1) := by decide +kernel
theorem dX11_halls_85 : decode cX11_halls 85 = .ok (.getfield 79, 3) := by decide +kernel
theorem dX11_halls_88 : decode cX11_halls 88 = .ok (.aload_n 0, 1) := by decide +kernel
theorem dX11_halls_89 : decode cX11_halls 89 = .ok (.getfield 31, 3) := by decide +kernel
theorem dX11_halls_92 : decode cX11_halls 92 = .ok (.aload_n 0, 1) := by decide +kernel
theorem dX11_halls_93 : decode cX11_halls 93 = .ok (.getfield 12, 3) := by decide +kernel
theorem dX11_halls_96 : decode cX11_halls 96 = .ok (.invokevirtual 143, 3) := by decide +kernel
theorem dX11_halls_99 : decode cX11_halls 99 = .ok (.aload_n 0, 1) := by decide +kernel
theorem dX11_halls_100 : decode cX11_halls 100 = .ok (.getfield 65, 3) := by decide +kernel
theorem dX11_halls_103 : decode cX11_halls 103 = .ok (.invokevirtual 255, 3) := by decide +kernel
theorem dX11_halls_106 : decode cX11_halls 106 = .ok (.aload_n 0, 1) := by decide +kernel
theorem dX11_halls_107 : decode cX11_halls 107 = .ok (.getfield 79, 3) := by decide +kernel
theorem dX11_halls_110 : decode cX11_halls 110 = .ok (.iconst 1, 1) := by decide +kernel
theorem dX11_halls_111 : decode cX11_halls 111 = .ok (.invokevirtual 259, 3) := by decide +kernel
theorem dX11_halls_114 : decode cX11_halls 114 = .ok (.ifCond .ne 6, 3) := by decide +kernel
theorem dX11_halls_117 : decode cX11_halls 117 = .ok (.goto 20, 3) := by decide +kernel
theorem dX11_halls_120 : decode cX11_halls 120 = .ok (.iload_n 3, 1) := by decide +kernel
theorem dX11_halls_121 : decode cX11_halls 121 = .ok (.iload_n 1, 1) := by decide +kernel
theorem dX11_halls_122 : decode cX11_halls 122 = .ok (.if_icmp .ne 12, 3) := by decide +kernel
theorem dX11_halls_125 : decode cX11_halls 125 = .ok (.bipush 100, 2) := by decide +kernel
theorem dX11_halls_127 : decode cX11_halls 127 = .ok (.iload 4, 2) := by decide +kernel
theorem dX11_halls_129 : decode cX11_halls 129 = .ok (.imul, 1) := by decide +kernel
theorem dX11_halls_130 : decode cX11_halls 130 = .ok (.iload 5, 2) := by decide +kernel
theorem dX11_halls_132 : decode cX11_halls 132 = .ok (.iadd, 1) := by decide +kernel
theorem dX11_halls_133 : decode cX11_halls 133 = .ok (.ireturn, 1) := by decide +kernel
theorem dX11_halls_134 : decode cX11_halls 134 = .ok (.iinc 3 1, 3) := by decide +kernel
theorem dX11_halls_137 : decode cX11_halls 137 = .ok (.iinc 4 1, 3) := by decide +kernel
theorem dX11_halls_140 : decode cX11_halls 140 = .ok (.goto (-117), 3) := by decide +kernel
theorem dX11_halls_143 : decode cX11_halls 143 = .ok (.iload_n 1, 1) := by decide +kernel
theorem dX11_halls_144 : decode cX11_halls 144 = .ok (.iconst (-1), 1) := by decide +kernel
theorem dX11_halls_145 : decode cX11_halls 145 = .ok (.if_icmp .ne 7, 3) := by decide +kernel
theorem dX11_halls_148 : decode cX11_halls 148 = .ok (.iload_n 3, 1) := by decide +kernel
theorem dX11_halls_149 : decode cX11_halls 149 = .ok (.goto 4, 3) := by decide +kernel
theorem dX11_halls_152 : decode cX11_halls 152 = .ok (.iconst (-1), 1) := by decide +kernel
theorem dX11_halls_153 : decode cX11_halls 153 = .ok (.ireturn, 1) := by decide +kernel
theorem dX11_inner_0 : decode cX11_inner 0 = .ok (.aload_n 0, 1) := by decide +kernel
theorem dX11_inner_1 : decode cX11_inner 1 = .ok (.getfield 12, 3) := by decide +kernel
theorem dX11_inner_4 : decode cX11_inner 4 = .ok (.getfield 107, 3) := by decide +kernel
theorem dX11_inner_7 : decode cX11_inner 7 = .ok (.invokevirtual 282, 3) := by decide +kernel
theorem dX11_inner_10 : decode cX11_inner 10 = .ok (.ireturn, 1) := by decide +kernel
theorem dX11_crosses_0 : decode cX11_crosses 0 = .ok (.aload_n 0, 1) := by decide +kernel
theorem dX11_crosses_1 : decode cX11_crosses 1 = .ok (.getfield 12, 3) := by decide +kernel
theorem dX11_crosses_4 : decode cX11_crosses 4 = .ok (.getfield 107, 3) := by decide +kernel
theorem dX11_crosses_7 : decode cX11_crosses 7 = .ok (.invokevirtual 285, 3) := by decide +kernel
theorem dX11_crosses_10 : decode cX11_crosses 10 = .ok (.ireturn, 1) := by decide +kernel
theorem dX11_currents_0 : decode cX11_currents 0 = .ok (.iload_n 1, 1) := by decide +kernel
theorem dX11_currents_1 : decode cX11_currents 1 = .ok (.ifCond .lt 26, 3) := by decide +kernel
theorem dX11_currents_4 : decode cX11_currents 4 = .ok (.iload_n 1, 1) := by decide +kernel
theorem dX11_currents_5 : decode cX11_currents 5 = .ok (.aload_n 0, 1) := by decide +kernel
theorem dX11_currents_6 : decode cX11_currents 6 = .ok (.getfield 12, 3) := by decide +kernel
theorem dX11_currents_9 : decode cX11_currents 9 = .ok (.getfield 107, 3) := by decide +kernel
theorem dX11_currents_12 : decode cX11_currents 12 = .ok (.getfield 158, 3) := by decide +kernel
theorem dX11_currents_15 : decode cX11_currents 15 = .ok (.if_icmp .gt 12, 3) := by decide +kernel
theorem dX11_currents_18 : decode cX11_currents 18 = .ok (.iload_n 2, 1) := by decide +kernel
theorem dX11_currents_19 : decode cX11_currents 19 = .ok (.ifCond .lt 8, 3) := by decide +kernel
theorem dX11_currents_22 : decode cX11_currents 22 = .ok (.iload_n 2, 1) := by decide +kernel
theorem dX11_currents_23 : decode cX11_currents 23 = .ok (.iconst 1, 1) := by decide +kernel
theorem dX11_currents_24 : decode cX11_currents 24 = .ok (.if_icmp .le 5, 3) := by decide +kernel
theorem dX11_currents_27 : decode cX11_currents 27 = .ok (.iconst (-1), 1) := by decide +kernel
theorem dX11_currents_28 : decode cX11_currents 28 = .ok (.ireturn, 1) := by decide +kernel
theorem dX11_currents_29 : decode cX11_currents 29 = .ok (.aload_n 0, 1) := by decide +kernel
theorem dX11_currents_30 : decode cX11_currents 30 = .ok (.getfield 12, 3) := by decide +kernel
theorem dX11_currents_33 : decode cX11_currents 33 = .ok (.getfield 107, 3) := by decide +kernel
theorem dX11_currents_36 : decode cX11_currents 36 = .ok (.iload_n 1, 1) := by decide +kernel
theorem dX11_currents_37 : decode cX11_currents 37 = .ok (.iload_n 2, 1) := by decide +kernel
theorem dX11_currents_38 : decode cX11_currents 38 = .ok (.iconst 1, 1) := by decide +kernel
theorem dX11_currents_39 : decode cX11_currents 39 = .ok (.if_icmp .ne 7, 3) := by decide +kernel
theorem dX11_currents_42 : decode cX11_currents 42 = .ok (.iconst 1, 1) := by decide +kernel
theorem dX11_currents_43 : decode cX11_currents 43 = .ok (.goto 4, 3) := by decide +kernel
theorem dX11_currents_46 : decode cX11_currents 46 = .ok (.iconst 0, 1) := by decide +kernel
theorem dX11_currents_47 : decode cX11_currents 47 = .ok (.invokevirtual 288, 3) := by decide +kernel
theorem dX11_currents_50 : decode cX11_currents 50 = .ok (.ireturn, 1) := by decide +kernel
theorem dX11_fitting_0 : decode cX11_fitting 0 = .ok (.iload_n 1, 1) := by decide +kernel
theorem dX11_fitting_1 : decode cX11_fitting 1 = .ok (.iconst 1, 1) := by decide +kernel
theorem dX11_fitting_2 : decode cX11_fitting 2 = .ok (.if_icmp .lt 9, 3) := by decide +kernel
theorem dX11_fitting_5 : decode cX11_fitting 5 = .ok (.iload_n 1, 1) := by decide +kernel
theorem dX11_fitting_6 : decode cX11_fitting 6 = .ok (.bipush 12, 2) := by decide +kernel
theorem dX11_fitting_8 : decode cX11_fitting 8 = .ok (.if_icmp .le 7, 3) := by decide +kernel
theorem dX11_fitting_11 : decode cX11_fitting 11 = .ok (.iconst (-1), 1) := by decide +kernel
theorem dX11_fitting_12 : decode cX11_fitting 12 = .ok (.goto 14, 3) := by decide +kernel
theorem dX11_fitting_15 : decode cX11_fitting 15 = .ok (.aload_n 0, 1) := by decide +kernel
theorem dX11_fitting_16 : decode cX11_fitting 16 = .ok (.getfield 12, 3) := by decide +kernel
theorem dX11_fitting_19 : decode cX11_fitting 19 = .ok (.getfield 107, 3) := by decide +kernel
theorem dX11_fitting_22 : decode cX11_fitting 22 = .ok (.iload_n 1, 1) := by decide +kernel
theorem dX11_fitting_23 : decode cX11_fitting 23 = .ok (.invokevirtual 292, 3) := by decide +kernel
theorem dX11_fitting_26 : decode cX11_fitting 26 = .ok (.ireturn, 1) := by decide +kernel
theorem dX11_alike_0 : decode cX11_alike 0 = .ok (.aload_n 0, 1) := by decide +kernel
theorem dX11_alike_1 : decode cX11_alike 1 = .ok (.getfield 12, 3) := by decide +kernel
theorem dX11_alike_4 : decode cX11_alike 4 = .ok (.getfield 107, 3) := by decide +kernel
theorem dX11_alike_7 : decode cX11_alike 7 = .ok (.invokevirtual 295, 3) := by decide +kernel
theorem dX11_alike_10 : decode cX11_alike 10 = .ok (.ireturn, 1) := by decide +kernel
theorem dX11_free_0 : decode cX11_free 0 = .ok (.iconst 0, 1) := by decide +kernel
theorem dX11_free_1 : decode cX11_free 1 = .ok (.istore_n 1, 1) := by decide +kernel
theorem dX11_free_2 : decode cX11_free 2 = .ok (.iconst 0, 1) := by decide +kernel
theorem dX11_free_3 : decode cX11_free 3 = .ok (.istore_n 2, 1) := by decide +kernel
theorem dX11_free_4 : decode cX11_free 4 = .ok (.iload_n 2, 1) := by decide +kernel
theorem dX11_free_5 : decode cX11_free 5 = .ok (.aload_n 0, 1) := by decide +kernel
theorem dX11_free_6 : decode cX11_free 6 = .ok (.getfield 12, 3) := by decide +kernel
theorem dX11_free_9 : decode cX11_free 9 = .ok (.getfield 107, 3) := by decide +kernel
theorem dX11_free_12 : decode cX11_free 12 = .ok (.getfield 298, 3) := by decide +kernel
theorem dX11_free_15 : decode cX11_free 15 = .ok (.if_icmp .ge 99, 3) := by decide +kernel
theorem dX11_free_18 : decode cX11_free 18 = .ok (.aload_n 0, 1) := by decide +kernel
theorem dX11_free_19 : decode cX11_free 19 = .ok (.getfield 12, 3) := by decide +kernel
theorem dX11_free_22 : decode cX11_free 22 = .ok (.getfield 107, 3) := by decide +kernel
theorem dX11_free_25 : decode cX11_free 25 = .ok (.iload_n 2, 1) := by decide +kernel
theorem dX11_free_26 : decode cX11_free 26 = .ok (.invokevirtual 140, 3) := by decide +kernel
theorem dX11_free_29 : decode cX11_free 29 = .ok (.ifCond .ne 6, 3) := by decide +kernel
theorem dX11_free_32 : decode cX11_free 32 = .ok (.goto 76, 3) := by decide +kernel
theorem dX11_free_35 : decode cX11_free 35 = .ok (.aload_n 0, 1) := by decide +kernel
theorem dX11_free_36 : decode cX11_free 36 = .ok (.getfield 31, 3) := by decide +kernel
theorem dX11_free_39 : decode cX11_free 39 = .ok (.aload_n 0, 1) := by decide +kernel
theorem dX11_free_40 : decode cX11_free 40 = .ok (.getfield 12, 3) := by decide +kernel
theorem dX11_free_43 : decode cX11_free 43 = .ok (.getfield 107, 3) := by decide +kernel
theorem dX11_free_46 : decode cX11_free 46 = .ok (.invokevirtual 275, 3) := by decide +kernel
theorem dX11_free_49 : decode cX11_free 49 = .ok (.aload_n 0, 1) := by decide +kernel
theorem dX11_free_50 : decode cX11_free 50 = .ok (.getfield 31, 3) := by decide +kernel
theorem dX11_free_53 : decode cX11_free 53 = .ok (.iload_n 2, 1) := by decide +kernel
theorem dX11_free_54 : decode cX11_free 54 = .ok (.invokevirtual 301, 3) := by decide +kernel
theorem dX11_free_57 : decode cX11_free 57 = .ok (.aload_n 0, 1) := by decide +kernel
theorem dX11_free_58 : decode cX11_free 58 = .ok (.getfield 79, 3) := by decide +kernel
theorem dX11_free_61 : decode cX11_free 61 = .ok (.aload_n 0, 1) := by decide +kernel
theorem dX11_free_62 : decode cX11_free 62 = .ok (.getfield 31, 3) := by decide +kernel
theorem dX11_free_65 : decode cX11_free 65 = .ok (.aload_n 0, 1) := by decide +kernel
theorem dX11_free_66 : decode cX11_free 66 = .ok (.getfield 12, 3) := by decide +kernel
theorem dX11_free_69 : decode cX11_free 69 = .ok (.invokevirtual 143, 3) := by decide +kernel
theorem dX11_free_72 : decode cX11_free 72 = .ok (.aload_n 0, 1) := by decide +kernel
theorem dX11_free_73 : decode cX11_free 73 = .ok (.getfield 65, 3) := by decide +kernel
theorem dX11_free_76 : decode cX11_free 76 = .ok (.invokevirtual 255, 3) := by decide +kernel
theorem dX11_free_79 : decode cX11_free 79 = .ok (.aload_n 0, 1) := by decide +kernel
theorem dX11_free_80 : decode cX11_free 80 = .ok (.getfield 79, 3) := by decide +kernel
theorem dX11_free_83 : decode cX11_free 83 = .ok (.iconst 2, 1) := by decide +kernel
theorem dX11_free_84 : decode cX11_free 84 = .ok (.invokevirtual 259, 3) := by decide +kernel
theorem dX11_free_87 : decode cX11_free 87 = .ok (.iconst 1, 1) := by decide +kernel
theorem dX11_free_88 : decode cX11_free 88 = .ok (.if_icmp .ne 20, 3) := by decide +kernel
theorem dX11_free_91 : decode cX11_free 91 = .ok (.aload_n 0, 1) := by decide +kernel
theorem dX11_free_92 : decode cX11_free 92 = .ok (.getfield 79, 3) := by decide +kernel
theorem dX11_free_95 : decode cX11_free 95 = .ok (.iload_n 2, 1) := by decide +kernel
theorem dX11_free_96 : decode cX11_free 96 = .ok (.invokevirtual 304, 3) := by decide +kernel
theorem dX11_free_99 : decode cX11_free 99 = .ok (.ifCond .ne 9, 3) := by decide +kernel
theorem dX11_free_102 : decode cX11_free 102 = .ok (.iload_n 1, 1) := by decide +kernel
theorem dX11_free_103 : decode cX11_free 103 = .ok (.iconst 1, 1) := by decide +kernel
theorem dX11_free_104 : decode cX11_free 104 = .ok (.iload_n 2, 1) := by decide +kernel
theorem dX11_free_105 : decode cX11_free 105 = .ok (.ishl, 1) := by decide +kernel
theorem dX11_free_106 : decode cX11_free 106 = .ok (.ior, 1) := by decide +kernel
theorem dX11_free_107 : decode cX11_free 107 = .ok (.istore_n 1, 1) := by decide +kernel
theorem dX11_free_108 : decode cX11_free 108 = .ok (.iinc 2 1, 3) := by decide +kernel
theorem dX11_free_111 : decode cX11_free 111 = .ok (.goto (-107), 3) := by decide +kernel
theorem dX11_free_114 : decode cX11_free 114 = .ok (.iload_n 1, 1) := by decide +kernel
theorem dX11_free_115 : decode cX11_free 115 = .ok (.ireturn, 1) := by decide +kernel
theorem dX11_seen_0 : decode cX11_seen 0 = .ok (.iload_n 1, 1) := by decide +kernel
theorem dX11_seen_1 : decode cX11_seen 1 = .ok (.invokestatic 165, 3) := by decide +kernel
theorem dX11_seen_4 : decode cX11_seen 4 = .ok (.ifCond .eq 21, 3) := by decide +kernel
theorem dX11_seen_7 : decode cX11_seen 7 = .ok (.iload_n 2, 1) := by decide +kernel
theorem dX11_seen_8 : decode cX11_seen 8 = .ok (.invokestatic 165, 3) := by decide +kernel
theorem dX11_seen_11 : decode cX11_seen 11 = .ok (.ifCond .eq 14, 3) := by decide +kernel
theorem dX11_seen_14 : decode cX11_seen 14 = .ok (.iload_n 3, 1) := by decide +kernel
theorem dX11_seen_15 : decode cX11_seen 15 = .ok (.iconst 1, 1) := by decide +kernel
theorem dX11_seen_16 : decode cX11_seen 16 = .ok (.if_icmp .lt 9, 3) := by decide +kernel
theorem dX11_seen_19 : decode cX11_seen 19 = .ok (.iload_n 3, 1) := by decide +kernel
theorem dX11_seen_20 : decode cX11_seen 20 = .ok (.bipush 12, 2) := by decide +kernel
theorem dX11_seen_22 : decode cX11_seen 22 = .ok (.if_icmp .le 9, 3) := by decide +kernel
theorem dX11_seen_25 : decode cX11_seen 25 = .ok (.aload_n 0, 1) := by decide +kernel
theorem dX11_seen_26 : decode cX11_seen 26 = .ok (.iconst (-1), 1) := by decide +kernel
theorem dX11_seen_27 : decode cX11_seen 27 = .ok (.invokevirtual 117, 3) := by decide +kernel
theorem dX11_seen_30 : decode cX11_seen 30 = .ok (.ireturn, 1) := by decide +kernel
theorem dX11_seen_31 : decode cX11_seen 31 = .ok (.aload_n 0, 1) := by decide +kernel
theorem dX11_seen_32 : decode cX11_seen 32 = .ok (.getfield 12, 3) := by decide +kernel
theorem dX11_seen_35 : decode cX11_seen 35 = .ok (.getfield 307, 3) := by decide +kernel
theorem dX11_seen_38 : decode cX11_seen 38 = .ok (.bipush 6, 2) := by decide +kernel
theorem dX11_seen_40 : decode cX11_seen 40 = .ok (.if_icmp .lt 10, 3) := by decide +kernel
theorem dX11_seen_43 : decode cX11_seen 43 = .ok (.aload_n 0, 1) := by decide +kernel
theorem dX11_seen_44 : decode cX11_seen 44 = .ok (.bipush (-5), 2) := by decide +kernel
theorem dX11_seen_46 : decode cX11_seen 46 = .ok (.invokevirtual 117, 3) := by decide +kernel
theorem dX11_seen_49 : decode cX11_seen 49 = .ok (.ireturn, 1) := by decide +kernel
theorem dX11_seen_50 : decode cX11_seen 50 = .ok (.aload_n 0, 1) := by decide +kernel
theorem dX11_seen_51 : decode cX11_seen 51 = .ok (.getfield 12, 3) := by decide +kernel
theorem dX11_seen_54 : decode cX11_seen 54 = .ok (.getfield 310, 3) := by decide +kernel
theorem dX11_seen_57 : decode cX11_seen 57 = .ok (.aload_n 0, 1) := by decide +kernel
theorem dX11_seen_58 : decode cX11_seen 58 = .ok (.getfield 12, 3) := by decide +kernel
theorem dX11_seen_61 : decode cX11_seen 61 = .ok (.getfield 307, 3) := by decide +kernel
theorem dX11_seen_64 : decode cX11_seen 64 = .ok (.iload_n 1, 1) := by decide +kernel
theorem dX11_seen_65 : decode cX11_seen 65 = .ok (.iastore, 1) := by decide +kernel
theorem dX11_seen_66 : decode cX11_seen 66 = .ok (.aload_n 0, 1) := by decide +kernel
theorem dX11_seen_67 : decode cX11_seen 67 = .ok (.getfield 12, 3) := by decide +kernel
theorem dX11_seen_70 : decode cX11_seen 70 = .ok (.getfield 313, 3) := by decide +kernel
theorem dX11_seen_73 : decode cX11_seen 73 = .ok (.aload_n 0, 1) := by decide +kernel
theorem dX11_seen_74 : decode cX11_seen 74 = .ok (.getfield 12, 3) := by decide +kernel
theorem dX11_seen_77 : decode cX11_seen 77 = .ok (.getfield 307, 3) := by decide +kernel
theorem dX11_seen_80 : decode cX11_seen 80 = .ok (.iload_n 2, 1) := by decide +kernel
theorem dX11_seen_81 : decode cX11_seen 81 = .ok (.iastore, 1) := by decide +kernel
theorem dX11_seen_82 : decode cX11_seen 82 = .ok (.aload_n 0, 1) := by decide +kernel
theorem dX11_seen_83 : decode cX11_seen 83 = .ok (.getfield 12, 3) := by decide +kernel
theorem dX11_seen_86 : decode cX11_seen 86 = .ok (.getfield 316, 3) := by decide +kernel
theorem dX11_seen_89 : decode cX11_seen 89 = .ok (.aload_n 0, 1) := by decide +kernel
theorem dX11_seen_90 : decode cX11_seen 90 = .ok (.getfield 12, 3) := by decide +kernel
theorem dX11_seen_93 : decode cX11_seen 93 = .ok (.getfield 307, 3) := by decide +kernel
theorem dX11_seen_96 : decode cX11_seen 96 = .ok (.iload_n 3, 1) := by decide +kernel
theorem dX11_seen_97 : decode cX11_seen 97 = .ok (.iastore, 1) := by decide +kernel
theorem dX11_seen_98 : decode cX11_seen 98 = .ok (.aload_n 0, 1) := by decide +kernel
theorem dX11_seen_99 : decode cX11_seen 99 = .ok (.getfield 12, 3) := by decide +kernel
theorem dX11_seen_102 : decode cX11_seen 102 = .ok (.dup, 1) := by decide +kernel
theorem dX11_seen_103 : decode cX11_seen 103 = .ok (.getfield 307, 3) := by decide +kernel
theorem dX11_seen_106 : decode cX11_seen 106 = .ok (.iconst 1, 1) := by decide +kernel
theorem dX11_seen_107 : decode cX11_seen 107 = .ok (.iadd, 1) := by decide +kernel
theorem dX11_seen_108 : decode cX11_seen 108 = .ok (.putfield 307, 3) := by decide +kernel
theorem dX11_seen_111 : decode cX11_seen 111 = .ok (.aload_n 0, 1) := by decide +kernel
theorem dX11_seen_112 : decode cX11_seen 112 = .ok (.aload_n 0, 1) := by decide +kernel
theorem dX11_seen_113 : decode cX11_seen 113 = .ok (.getfield 12, 3) := by decide +kernel
theorem dX11_seen_116 : decode cX11_seen 116 = .ok (.getfield 307, 3) := by decide +kernel
theorem dX11_seen_119 : decode cX11_seen 119 = .ok (.invokevirtual 117, 3) := by decide +kernel
theorem dX11_seen_122 : decode cX11_seen 122 = .ok (.ireturn, 1) := by decide +kernel
theorem dX11_forget_0 : decode cX11_forget 0 = .ok (.aload_n 0, 1) := by decide +kernel
theorem dX11_forget_1 : decode cX11_forget 1 = .ok (.getfield 12, 3) := by decide +kernel
theorem dX11_forget_4 : decode cX11_forget 4 = .ok (.getfield 307, 3) := by decide +kernel
theorem dX11_forget_7 : decode cX11_forget 7 = .ok (.istore_n 1, 1) := by decide +kernel
theorem dX11_forget_8 : decode cX11_forget 8 = .ok (.aload_n 0, 1) := by decide +kernel
theorem dX11_forget_9 : decode cX11_forget 9 = .ok (.getfield 12, 3) := by decide +kernel
theorem dX11_forget_12 : decode cX11_forget 12 = .ok (.iconst 0, 1) := by decide +kernel
theorem dX11_forget_13 : decode cX11_forget 13 = .ok (.putfield 307, 3) := by decide +kernel
theorem dX11_forget_16 : decode cX11_forget 16 = .ok (.iload_n 1, 1) := by decide +kernel
theorem dX11_forget_17 : decode cX11_forget 17 = .ok (.ireturn, 1) := by decide +kernel
theorem dX11_floors_0 : decode cX11_floors 0 = .ok (.aload_n 0, 1) := by decide +kernel
theorem dX11_floors_1 : decode cX11_floors 1 = .ok (.getfield 79, 3) := by decide +kernel
theorem dX11_floors_4 : decode cX11_floors 4 = .ok (.aload_n 0, 1) := by decide +kernel
theorem dX11_floors_5 : decode cX11_floors 5 = .ok (.getfield 12, 3) := by decide +kernel
theorem dX11_floors_8 : decode cX11_floors 8 = .ok (.getfield 107, 3) := by decide +kernel
theorem dX11_floors_11 : decode cX11_floors 11 = .ok (.aload_n 0, 1) := by decide +kernel
theorem dX11_floors_12 : decode cX11_floors 12 = .ok (.getfield 12, 3) := by decide +kernel
theorem dX11_floors_15 : decode cX11_floors 15 = .ok (.invokevirtual 143, 3) := by decide +kernel
theorem dX11_floors_18 : decode cX11_floors 18 = .ok (.aload_n 0, 1) := by decide +kernel
theorem dX11_floors_19 : decode cX11_floors 19 = .ok (.getfield 65, 3) := by decide +kernel
theorem dX11_floors_22 : decode cX11_floors 22 = .ok (.invokevirtual 255, 3) := by decide +kernel
theorem dX11_floors_25 : decode cX11_floors 25 = .ok (.aload_n 0, 1) := by decide +kernel
theorem dX11_floors_26 : decode cX11_floors 26 = .ok (.getfield 79, 3) := by decide +kernel
theorem dX11_floors_29 : decode cX11_floors 29 = .ok (.aload_n 0, 1) := by decide +kernel
theorem dX11_floors_30 : decode cX11_floors 30 = .ok (.getfield 12, 3) := by decide +kernel
theorem dX11_floors_33 : decode cX11_floors 33 = .ok (.invokevirtual 319, 3) := by decide +kernel
theorem dX11_floors_36 : decode cX11_floors 36 = .ok (.ifCond .eq 16, 3) := by decide +kernel
theorem dX11_floors_39 : decode cX11_floors 39 = .ok (.aload_n 0, 1) := by decide +kernel
theorem dX11_floors_40 : decode cX11_floors 40 = .ok (.getfield 79, 3) := by decide +kernel
theorem dX11_floors_43 : decode cX11_floors 43 = .ok (.ldc_w 268, 3) := by decide +kernel
theorem dX11_floors_46 : decode cX11_floors 46 = .ok (.invokevirtual 259, 3) := by decide +kernel
theorem dX11_floors_49 : decode cX11_floors 49 = .ok (.goto 4, 3) := by decide +kernel
theorem dX11_floors_52 : decode cX11_floors 52 = .ok (.iconst 0, 1) := by decide +kernel
theorem dX11_floors_53 : decode cX11_floors 53 = .ok (.ireturn, 1) := by decide +kernel
theorem dX11_look_0 : decode cX11_look 0 = .ok (.iload_n 1, 1) := by decide +kernel
theorem dX11_look_1 : decode cX11_look 1 = .ok (.ifCond .lt 21, 3) := by decide +kernel
theorem dX11_look_4 : decode cX11_look 4 = .ok (.iload_n 1, 1) := by decide +kernel
theorem dX11_look_5 : decode cX11_look 5 = .ok (.iconst 2, 1) := by decide +kernel
theorem dX11_look_6 : decode cX11_look 6 = .ok (.if_icmp .gt 16, 3) := by decide +kernel
theorem dX11_look_9 : decode cX11_look 9 = .ok (.aload_n 0, 1) := by decide +kernel
theorem dX11_look_10 : decode cX11_look 10 = .ok (.getfield 12, 3) := by decide +kernel
theorem dX11_look_13 : decode cX11_look 13 = .ok (.getfield 107, 3) := by decide +kernel
theorem dX11_look_16 : decode cX11_look 16 = .ok (.invokevirtual 249, 3) := by decide +kernel
theorem dX11_look_19 : decode cX11_look 19 = .ok (.ifCond .ne 5, 3) := by decide +kernel
theorem dX11_look_22 : decode cX11_look 22 = .ok (.iconst (-1), 1) := by decide +kernel
theorem dX11_look_23 : decode cX11_look 23 = .ok (.ireturn, 1) := by decide +kernel
theorem dX11_look_24 : decode cX11_look 24 = .ok (.aload_n 0, 1) := by decide +kernel
theorem dX11_look_25 : decode cX11_look 25 = .ok (.getfield 79, 3) := by decide +kernel
theorem dX11_look_28 : decode cX11_look 28 = .ok (.aload_n 0, 1) := by decide +kernel
theorem dX11_look_29 : decode cX11_look 29 = .ok (.getfield 12, 3) := by decide +kernel
theorem dX11_look_32 : decode cX11_look 32 = .ok (.getfield 107, 3) := by decide +kernel
theorem dX11_look_35 : decode cX11_look 35 = .ok (.aload_n 0, 1) := by decide +kernel
theorem dX11_look_36 : decode cX11_look 36 = .ok (.getfield 12, 3) := by decide +kernel
theorem dX11_look_39 : decode cX11_look 39 = .ok (.invokevirtual 143, 3) := by decide +kernel
theorem dX11_look_42 : decode cX11_look 42 = .ok (.aload_n 0, 1) := by decide +kernel
theorem dX11_look_43 : decode cX11_look 43 = .ok (.getfield 65, 3) := by decide +kernel
theorem dX11_look_46 : decode cX11_look 46 = .ok (.invokevirtual 255, 3) := by decide +kernel
theorem dX11_look_49 : decode cX11_look 49 = .ok (.aload_n 0, 1) := by decide +kernel
theorem dX11_look_50 : decode cX11_look 50 = .ok (.getfield 79, 3) := by decide +kernel
theorem dX11_look_53 : decode cX11_look 53 = .ok (.aload_n 0, 1) := by decide +kernel
theorem dX11_look_54 : decode cX11_look 54 = .ok (.getfield 12, 3) := by decide +kernel
theorem dX11_look_57 : decode cX11_look 57 = .ok (.invokevirtual 319, 3) := by decide +kernel
theorem dX11_look_60 : decode cX11_look 60 = .ok (.ifCond .eq 16, 3) := by decide +kernel
theorem dX11_look_63 : decode cX11_look 63 = .ok (.aload_n 0, 1) := by decide +kernel
theorem dX11_look_64 : decode cX11_look 64 = .ok (.getfield 79, 3) := by decide +kernel
theorem dX11_look_67 : decode cX11_look 67 = .ok (.ldc_w 268, 3) := by decide +kernel
theorem dX11_look_70 : decode cX11_look 70 = .ok (.invokevirtual 259, 3) := by decide +kernel
theorem dX11_look_73 : decode cX11_look 73 = .ok (.ifCond .ne 5, 3) := by decide +kernel
theorem dX11_look_76 : decode cX11_look 76 = .ok (.iconst (-1), 1) := by decide +kernel
theorem dX11_look_77 : decode cX11_look 77 = .ok (.ireturn, 1) := by decide +kernel
theorem dX11_look_78 : decode cX11_look 78 = .ok (.aload_n 0, 1) := by decide +kernel
theorem dX11_look_79 : decode cX11_look 79 = .ok (.getfield 79, 3) := by decide +kernel
theorem dX11_look_82 : decode cX11_look 82 = .ok (.invokevirtual 323, 3) := by decide +kernel
theorem dX11_look_85 : decode cX11_look 85 = .ok (.aload_n 0, 1) := by decide +kernel
theorem dX11_look_86 : decode cX11_look 86 = .ok (.getfield 79, 3) := by decide +kernel
theorem dX11_look_89 : decode cX11_look 89 = .ok (.invokevirtual 326, 3) := by decide +kernel
theorem dX11_look_92 : decode cX11_look 92 = .ok (.istore_n 2, 1) := by decide +kernel
theorem dX11_look_93 : decode cX11_look 93 = .ok (.iload_n 1, 1) := by decide +kernel
theorem dX11_look_94 : decode cX11_look 94 = .ok (.ifCond .ne 10, 3) := by decide +kernel
theorem dX11_look_97 : decode cX11_look 97 = .ok (.iload_n 2, 1) := by decide +kernel
theorem dX11_look_98 : decode cX11_look 98 = .ok (.bipush 12, 2) := by decide +kernel
theorem dX11_look_100 : decode cX11_look 100 = .ok (.irem, 1) := by decide +kernel
theorem dX11_look_101 : decode cX11_look 101 = .ok (.goto 23, 3) := by decide +kernel
theorem dX11_look_104 : decode cX11_look 104 = .ok (.iload_n 1, 1) := by decide +kernel
theorem dX11_look_105 : decode cX11_look 105 = .ok (.iconst 1, 1) := by decide +kernel
theorem dX11_look_106 : decode cX11_look 106 = .ok (.if_icmp .ne 10, 3) := by decide +kernel
theorem dX11_look_109 : decode cX11_look 109 = .ok (.iload_n 2, 1) := by decide +kernel
theorem dX11_look_110 : decode cX11_look 110 = .ok (.bipush 12, 2) := by decide +kernel
theorem dX11_look_112 : decode cX11_look 112 = .ok (.idiv, 1) := by decide +kernel
theorem dX11_look_113 : decode cX11_look 113 = .ok (.goto 11, 3) := by decide +kernel
theorem dX11_look_116 : decode cX11_look 116 = .ok (.aload_n 0, 1) := by decide +kernel
theorem dX11_look_117 : decode cX11_look 117 = .ok (.getfield 79, 3) := by decide +kernel
theorem dX11_look_120 : decode cX11_look 120 = .ok (.iload_n 2, 1) := by decide +kernel
theorem dX11_look_121 : decode cX11_look 121 = .ok (.invokevirtual 329, 3) := by decide +kernel
theorem dX11_look_124 : decode cX11_look 124 = .ok (.ireturn, 1) := by decide +kernel
theorem dX11_few_0 : decode cX11_few 0 = .ok (.iload_n 1, 1) := by decide +kernel
theorem dX11_few_1 : decode cX11_few 1 = .ok (.iconst 1, 1) := by decide +kernel
theorem dX11_few_2 : decode cX11_few 2 = .ok (.if_icmp .lt 19, 3) := by decide +kernel
theorem dX11_few_5 : decode cX11_few 5 = .ok (.iload_n 1, 1) := by decide +kernel
theorem dX11_few_6 : decode cX11_few 6 = .ok (.bipush 20, 2) := by decide +kernel
theorem dX11_few_8 : decode cX11_few 8 = .ok (.if_icmp .gt 13, 3) := by decide +kernel
theorem dX11_few_11 : decode cX11_few 11 = .ok (.iload_n 2, 1) := by decide +kernel
theorem dX11_few_12 : decode cX11_few 12 = .ok (.ifCond .lt 9, 3) := by decide +kernel
theorem dX11_few_15 : decode cX11_few 15 = .ok (.iload_n 2, 1) := by decide +kernel
theorem dX11_few_16 : decode cX11_few 16 = .ok (.bipush 99, 2) := by decide +kernel
theorem dX11_few_18 : decode cX11_few 18 = .ok (.if_icmp .le 7, 3) := by decide +kernel
theorem dX11_few_21 : decode cX11_few 21 = .ok (.ldc2_w 332, 3) := by decide +kernel
theorem dX11_few_24 : decode cX11_few 24 = .ok (.lreturn, 1) := by decide +kernel
theorem dX11_few_25 : decode cX11_few 25 = .ok (.aload_n 0, 1) := by decide +kernel
theorem dX11_few_26 : decode cX11_few 26 = .ok (.getfield 86, 3) := by decide +kernel
theorem dX11_few_29 : decode cX11_few 29 = .ok (.iload_n 1, 1) := by decide +kernel
theorem dX11_few_30 : decode cX11_few 30 = .ok (.iload_n 2, 1) := by decide +kernel
theorem dX11_few_31 : decode cX11_few 31 = .ok (.aload_n 0, 1) := by decide +kernel
theorem dX11_few_32 : decode cX11_few 32 = .ok (.getfield 12, 3) := by decide +kernel
theorem dX11_few_35 : decode cX11_few 35 = .ok (.getfield 107, 3) := by decide +kernel
theorem dX11_few_38 : decode cX11_few 38 = .ok (.getfield 183, 3) := by decide +kernel
theorem dX11_few_41 : decode cX11_few 41 = .ok (.iconst 1, 1) := by decide +kernel
theorem dX11_few_42 : decode cX11_few 42 = .ok (.iaload, 1) := by decide +kernel
theorem dX11_few_43 : decode cX11_few 43 = .ok (.invokevirtual 334, 3) := by decide +kernel
theorem dX11_few_46 : decode cX11_few 46 = .ok (.lreturn, 1) := by decide +kernel
theorem dX11_compare_0 : decode cX11_compare 0 = .ok (.aload_n 0, 1) := by decide +kernel
theorem dX11_compare_1 : decode cX11_compare 1 = .ok (.getfield 12, 3) := by decide +kernel
theorem dX11_compare_4 : decode cX11_compare 4 = .ok (.iload_n 1, 1) := by decide +kernel
theorem dX11_compare_5 : decode cX11_compare 5 = .ok (.invokevirtual 226, 3) := by decide +kernel
theorem dX11_compare_8 : decode cX11_compare 8 = .ok (.astore_n 2, 1) := by decide +kernel
theorem dX11_compare_9 : decode cX11_compare 9 = .ok (.iload_n 1, 1) := by decide +kernel
theorem dX11_compare_10 : decode cX11_compare 10 = .ok (.iconst (-1), 1) := by decide +kernel
theorem dX11_compare_11 : decode cX11_compare 11 = .ok (.if_icmp .eq 9, 3) := by decide +kernel
theorem dX11_compare_14 : decode cX11_compare 14 = .ok (.aload_n 2, 1) := by decide +kernel
theorem dX11_compare_15 : decode cX11_compare 15 = .ok (.ifnonnull 5, 3) := by decide +kernel
theorem dX11_compare_18 : decode cX11_compare 18 = .ok (.iconst (-1), 1) := by decide +kernel
theorem dX11_compare_19 : decode cX11_compare 19 = .ok (.ireturn, 1) := by decide +kernel
theorem dX11_compare_20 : decode cX11_compare 20 = .ok (.aload_n 0, 1) := by decide +kernel
theorem dX11_compare_21 : decode cX11_compare 21 = .ok (.getfield 79, 3) := by decide +kernel
theorem dX11_compare_24 : decode cX11_compare 24 = .ok (.aload_n 0, 1) := by decide +kernel
theorem dX11_compare_25 : decode cX11_compare 25 = .ok (.getfield 12, 3) := by decide +kernel
theorem dX11_compare_28 : decode cX11_compare 28 = .ok (.getfield 107, 3) := by decide +kernel
theorem dX11_compare_31 : decode cX11_compare 31 = .ok (.aload_n 2, 1) := by decide +kernel
theorem dX11_compare_32 : decode cX11_compare 32 = .ok (.aload_n 0, 1) := by decide +kernel
theorem dX11_compare_33 : decode cX11_compare 33 = .ok (.getfield 65, 3) := by decide +kernel
theorem dX11_compare_36 : decode cX11_compare 36 = .ok (.invokevirtual 255, 3) := by decide +kernel
theorem dX11_compare_39 : decode cX11_compare 39 = .ok (.aload_n 0, 1) := by decide +kernel
theorem dX11_compare_40 : decode cX11_compare 40 = .ok (.getfield 79, 3) := by decide +kernel
theorem dX11_compare_43 : decode cX11_compare 43 = .ok (.invokevirtual 269, 3) := by decide +kernel
theorem dX11_compare_46 : decode cX11_compare 46 = .ok (.ireturn, 1) := by decide +kernel
theorem dX11_years_0 : decode cX11_years 0 = .ok (.iload_n 1, 1) := by decide +kernel
theorem dX11_years_1 : decode cX11_years 1 = .ok (.ifCond .lt 21, 3) := by decide +kernel
theorem dX11_years_4 : decode cX11_years 4 = .ok (.iload_n 1, 1) := by decide +kernel
theorem dX11_years_5 : decode cX11_years 5 = .ok (.ldc_w 338, 3) := by decide +kernel
theorem dX11_years_8 : decode cX11_years 8 = .ok (.if_icmp .gt 14, 3) := by decide +kernel
theorem dX11_years_11 : decode cX11_years 11 = .ok (.iload_n 2, 1) := by decide +kernel
theorem dX11_years_12 : decode cX11_years 12 = .ok (.iconst 1, 1) := by decide +kernel
theorem dX11_years_13 : decode cX11_years 13 = .ok (.if_icmp .lt 9, 3) := by decide +kernel
theorem dX11_years_16 : decode cX11_years 16 = .ok (.iload_n 2, 1) := by decide +kernel
theorem dX11_years_17 : decode cX11_years 17 = .ok (.bipush 60, 2) := by decide +kernel
theorem dX11_years_19 : decode cX11_years 19 = .ok (.if_icmp .le 9, 3) := by decide +kernel
theorem dX11_years_22 : decode cX11_years 22 = .ok (.aload_n 0, 1) := by decide +kernel
theorem dX11_years_23 : decode cX11_years 23 = .ok (.iconst (-1), 1) := by decide +kernel
theorem dX11_years_24 : decode cX11_years 24 = .ok (.invokevirtual 117, 3) := by decide +kernel
theorem dX11_years_27 : decode cX11_years 27 = .ok (.ireturn, 1) := by decide +kernel
theorem dX11_years_28 : decode cX11_years 28 = .ok (.aload_n 0, 1) := by decide +kernel
theorem dX11_years_29 : decode cX11_years 29 = .ok (.getfield 12, 3) := by decide +kernel
theorem dX11_years_32 : decode cX11_years 32 = .ok (.getfield 107, 3) := by decide +kernel
theorem dX11_years_35 : decode cX11_years 35 = .ok (.getfield 298, 3) := by decide +kernel
theorem dX11_years_38 : decode cX11_years 38 = .ok (.ifCond .ne 10, 3) := by decide +kernel
theorem dX11_years_41 : decode cX11_years 41 = .ok (.aload_n 0, 1) := by decide +kernel
theorem dX11_years_42 : decode cX11_years 42 = .ok (.bipush (-3), 2) := by decide +kernel
theorem dX11_years_44 : decode cX11_years 44 = .ok (.invokevirtual 117, 3) := by decide +kernel
theorem dX11_years_47 : decode cX11_years 47 = .ok (.ireturn, 1) := by decide +kernel
theorem dX11_years_48 : decode cX11_years 48 = .ok (.aload_n 0, 1) := by decide +kernel
theorem dX11_years_49 : decode cX11_years 49 = .ok (.getfield 27, 3) := by decide +kernel
theorem dX11_years_52 : decode cX11_years 52 = .ok (.aload_n 0, 1) := by decide +kernel
theorem dX11_years_53 : decode cX11_years 53 = .ok (.getfield 12, 3) := by decide +kernel
theorem dX11_years_56 : decode cX11_years 56 = .ok (.getfield 107, 3) := by decide +kernel
theorem dX11_years_59 : decode cX11_years 59 = .ok (.invokevirtual 275, 3) := by decide +kernel
theorem dX11_years_62 : decode cX11_years 62 = .ok (.iload_n 1, 1) := by decide +kernel
theorem dX11_years_63 : decode cX11_years 63 = .ok (.istore_n 3, 1) := by decide +kernel
theorem dX11_years_64 : decode cX11_years 64 = .ok (.iconst 0, 1) := by decide +kernel
theorem dX11_years_65 : decode cX11_years 65 = .ok (.istore 4, 2) := by decide +kernel
theorem dX11_years_67 : decode cX11_years 67 = .ok (.iload 4, 2) := by decide +kernel
theorem dX11_years_69 : decode cX11_years 69 = .ok (.iload_n 2, 1) := by decide +kernel
theorem dX11_years_70 : decode cX11_years 70 = .ok (.if_icmp .ge 30, 3) := by decide +kernel
theorem dX11_years_73 : decode cX11_years 73 = .ok (.aload_n 0, 1) := by decide +kernel
theorem dX11_years_74 : decode cX11_years 74 = .ok (.getfield 27, 3) := by decide +kernel
theorem dX11_years_77 : decode cX11_years 77 = .ok (.getfield 183, 3) := by decide +kernel
theorem dX11_years_80 : decode cX11_years 80 = .ok (.iconst 0, 1) := by decide +kernel
theorem dX11_years_81 : decode cX11_years 81 = .ok (.iaload, 1) := by decide +kernel
theorem dX11_years_82 : decode cX11_years 82 = .ok (.sipush 999, 3) := by decide +kernel
theorem dX11_years_85 : decode cX11_years 85 = .ok (.if_icmp .ge 15, 3) := by decide +kernel
theorem dX11_years_88 : decode cX11_years 88 = .ok (.aload_n 0, 1) := by decide +kernel
theorem dX11_years_89 : decode cX11_years 89 = .ok (.iload_n 3, 1) := by decide +kernel
theorem dX11_years_90 : decode cX11_years 90 = .ok (.invokevirtual 339, 3) := by decide +kernel
theorem dX11_years_93 : decode cX11_years 93 = .ok (.istore_n 3, 1) := by decide +kernel
theorem dX11_years_94 : decode cX11_years 94 = .ok (.iinc 4 1, 3) := by decide +kernel
theorem dX11_years_97 : decode cX11_years 97 = .ok (.goto (-30), 3) := by decide +kernel
theorem dX11_years_100 : decode cX11_years 100 = .ok (.aload_n 0, 1) := by decide +kernel
theorem dX11_years_101 : decode cX11_years 101 = .ok (.aload_n 0, 1) := by decide +kernel
theorem dX11_years_102 : decode cX11_years 102 = .ok (.getfield 27, 3) := by decide +kernel
theorem dX11_years_105 : decode cX11_years 105 = .ok (.invokevirtual 249, 3) := by decide +kernel
theorem dX11_years_108 : decode cX11_years 108 = .ok (.invokevirtual 117, 3) := by decide +kernel
theorem dX11_years_111 : decode cX11_years 111 = .ok (.ireturn, 1) := by decide +kernel
theorem dX11_drawn_0 : decode cX11_drawn 0 = .ok (.aload_n 0, 1) := by decide +kernel
theorem dX11_drawn_1 : decode cX11_drawn 1 = .ok (.getfield 27, 3) := by decide +kernel
theorem dX11_drawn_4 : decode cX11_drawn 4 = .ok (.iload_n 1, 1) := by decide +kernel
theorem dX11_drawn_5 : decode cX11_drawn 5 = .ok (.invokevirtual 121, 3) := by decide +kernel
theorem dX11_drawn_8 : decode cX11_drawn 8 = .ok (.ifCond .ne 5, 3) := by decide +kernel
theorem dX11_drawn_11 : decode cX11_drawn 11 = .ok (.iconst (-1), 1) := by decide +kernel
theorem dX11_drawn_12 : decode cX11_drawn 12 = .ok (.ireturn, 1) := by decide +kernel
theorem dX11_drawn_13 : decode cX11_drawn 13 = .ok (.iload_n 2, 1) := by decide +kernel
theorem dX11_drawn_14 : decode cX11_drawn 14 = .ok (.tableswitch 56 0 2 #[26, 36, 46], 26) := by decide +kernel
theorem dX11_drawn_40 : decode cX11_drawn 40 = .ok (.aload_n 0, 1) := by decide +kernel
theorem dX11_drawn_41 : decode cX11_drawn 41 = .ok (.getfield 27, 3) := by decide +kernel
theorem dX11_drawn_44 : decode cX11_drawn 44 = .ok (.getfield 131, 3) := by decide +kernel
theorem dX11_drawn_47 : decode cX11_drawn 47 = .ok (.iload_n 1, 1) := by decide +kernel
theorem dX11_drawn_48 : decode cX11_drawn 48 = .ok (.iaload, 1) := by decide +kernel
theorem dX11_drawn_49 : decode cX11_drawn 49 = .ok (.ireturn, 1) := by decide +kernel
theorem dX11_drawn_50 : decode cX11_drawn 50 = .ok (.aload_n 0, 1) := by decide +kernel
theorem dX11_drawn_51 : decode cX11_drawn 51 = .ok (.getfield 27, 3) := by decide +kernel
theorem dX11_drawn_54 : decode cX11_drawn 54 = .ok (.getfield 134, 3) := by decide +kernel
theorem dX11_drawn_57 : decode cX11_drawn 57 = .ok (.iload_n 1, 1) := by decide +kernel
theorem dX11_drawn_58 : decode cX11_drawn 58 = .ok (.iaload, 1) := by decide +kernel
theorem dX11_drawn_59 : decode cX11_drawn 59 = .ok (.ireturn, 1) := by decide +kernel
theorem dX11_drawn_60 : decode cX11_drawn 60 = .ok (.aload_n 0, 1) := by decide +kernel
theorem dX11_drawn_61 : decode cX11_drawn 61 = .ok (.getfield 27, 3) := by decide +kernel
theorem dX11_drawn_64 : decode cX11_drawn 64 = .ok (.getfield 137, 3) := by decide +kernel
theorem dX11_drawn_67 : decode cX11_drawn 67 = .ok (.iload_n 1, 1) := by decide +kernel
theorem dX11_drawn_68 : decode cX11_drawn 68 = .ok (.iaload, 1) := by decide +kernel
theorem dX11_drawn_69 : decode cX11_drawn 69 = .ok (.ireturn, 1) := by decide +kernel
theorem dX11_drawn_70 : decode cX11_drawn 70 = .ok (.iconst (-1), 1) := by decide +kernel
theorem dX11_drawn_71 : decode cX11_drawn 71 = .ok (.ireturn, 1) := by decide +kernel
theorem dX11_image_0 : decode cX11_image 0 = .ok (.iload_n 1, 1) := by decide +kernel
theorem dX11_image_1 : decode cX11_image 1 = .ok (.ifCond .lt 8, 3) := by decide +kernel
theorem dX11_image_4 : decode cX11_image 4 = .ok (.iload_n 1, 1) := by decide +kernel
theorem dX11_image_5 : decode cX11_image 5 = .ok (.iconst 2, 1) := by decide +kernel
theorem dX11_image_6 : decode cX11_image 6 = .ok (.if_icmp .lt 9, 3) := by decide +kernel
theorem dX11_image_9 : decode cX11_image 9 = .ok (.aload_n 0, 1) := by decide +kernel
theorem dX11_image_10 : decode cX11_image 10 = .ok (.iconst (-1), 1) := by decide +kernel
theorem dX11_image_11 : decode cX11_image 11 = .ok (.invokevirtual 117, 3) := by decide +kernel
theorem dX11_image_14 : decode cX11_image 14 = .ok (.ireturn, 1) := by decide +kernel
theorem dX11_image_15 : decode cX11_image 15 = .ok (.aload_n 0, 1) := by decide +kernel
theorem dX11_image_16 : decode cX11_image 16 = .ok (.getfield 16, 3) := by decide +kernel
theorem dX11_image_19 : decode cX11_image 19 = .ok (.iload_n 1, 1) := by decide +kernel
theorem dX11_image_20 : decode cX11_image 20 = .ok (.aaload, 1) := by decide +kernel
theorem dX11_image_21 : decode cX11_image 21 = .ok (.aload_n 0, 1) := by decide +kernel
theorem dX11_image_22 : decode cX11_image 22 = .ok (.getfield 12, 3) := by decide +kernel
theorem dX11_image_25 : decode cX11_image 25 = .ok (.invokevirtual 342, 3) := by decide +kernel
theorem dX11_image_28 : decode cX11_image 28 = .ok (.aload_n 0, 1) := by decide +kernel
theorem dX11_image_29 : decode cX11_image 29 = .ok (.getfield 20, 3) := by decide +kernel
theorem dX11_image_32 : decode cX11_image 32 = .ok (.iload_n 1, 1) := by decide +kernel
theorem dX11_image_33 : decode cX11_image 33 = .ok (.iconst 1, 1) := by decide +kernel
theorem dX11_image_34 : decode cX11_image 34 = .ok (.bastore, 1) := by decide +kernel
theorem dX11_image_35 : decode cX11_image 35 = .ok (.aload_n 0, 1) := by decide +kernel
theorem dX11_image_36 : decode cX11_image 36 = .ok (.iconst 0, 1) := by decide +kernel
theorem dX11_image_37 : decode cX11_image 37 = .ok (.invokevirtual 117, 3) := by decide +kernel
theorem dX11_image_40 : decode cX11_image 40 = .ok (.ireturn, 1) := by decide +kernel
theorem dX11_back_0 : decode cX11_back 0 = .ok (.iload_n 1, 1) := by decide +kernel
theorem dX11_back_1 : decode cX11_back 1 = .ok (.ifCond .lt 8, 3) := by decide +kernel
theorem dX11_back_4 : decode cX11_back 4 = .ok (.iload_n 1, 1) := by decide +kernel
theorem dX11_back_5 : decode cX11_back 5 = .ok (.iconst 2, 1) := by decide +kernel
theorem dX11_back_6 : decode cX11_back 6 = .ok (.if_icmp .lt 9, 3) := by decide +kernel
theorem dX11_back_9 : decode cX11_back 9 = .ok (.aload_n 0, 1) := by decide +kernel
theorem dX11_back_10 : decode cX11_back 10 = .ok (.iconst (-1), 1) := by decide +kernel
theorem dX11_back_11 : decode cX11_back 11 = .ok (.invokevirtual 117, 3) := by decide +kernel
theorem dX11_back_14 : decode cX11_back 14 = .ok (.ireturn, 1) := by decide +kernel
theorem dX11_back_15 : decode cX11_back 15 = .ok (.aload_n 0, 1) := by decide +kernel
theorem dX11_back_16 : decode cX11_back 16 = .ok (.getfield 20, 3) := by decide +kernel
theorem dX11_back_19 : decode cX11_back 19 = .ok (.iload_n 1, 1) := by decide +kernel
theorem dX11_back_20 : decode cX11_back 20 = .ok (.baload, 1) := by decide +kernel
theorem dX11_back_21 : decode cX11_back 21 = .ok (.ifCond .ne 10, 3) := by decide +kernel
theorem dX11_back_24 : decode cX11_back 24 = .ok (.aload_n 0, 1) := by decide +kernel
theorem dX11_back_25 : decode cX11_back 25 = .ok (.bipush (-2), 2) := by decide +kernel
theorem dX11_back_27 : decode cX11_back 27 = .ok (.invokevirtual 117, 3) := by decide +kernel
theorem dX11_back_30 : decode cX11_back 30 = .ok (.ireturn, 1) := by decide +kernel
theorem dX11_back_31 : decode cX11_back 31 = .ok (.aload_n 0, 1) := by decide +kernel
theorem dX11_back_32 : decode cX11_back 32 = .ok (.getfield 12, 3) := by decide +kernel
theorem dX11_back_35 : decode cX11_back 35 = .ok (.aload_n 0, 1) := by decide +kernel
theorem dX11_back_36 : decode cX11_back 36 = .ok (.getfield 16, 3) := by decide +kernel
theorem dX11_back_39 : decode cX11_back 39 = .ok (.iload_n 1, 1) := by decide +kernel
theorem dX11_back_40 : decode cX11_back 40 = .ok (.aaload, 1) := by decide +kernel
theorem dX11_back_41 : decode cX11_back 41 = .ok (.invokevirtual 342, 3) := by decide +kernel
theorem dX11_back_44 : decode cX11_back 44 = .ok (.aload_n 0, 1) := by decide +kernel
theorem dX11_back_45 : decode cX11_back 45 = .ok (.getfield 72, 3) := by decide +kernel
theorem dX11_back_48 : decode cX11_back 48 = .ok (.invokevirtual 114, 3) := by decide +kernel
theorem dX11_back_51 : decode cX11_back 51 = .ok (.aload_n 0, 1) := by decide +kernel
theorem dX11_back_52 : decode cX11_back 52 = .ok (.iconst 0, 1) := by decide +kernel
theorem dX11_back_53 : decode cX11_back 53 = .ok (.invokevirtual 117, 3) := by decide +kernel
theorem dX11_back_56 : decode cX11_back 56 = .ok (.ireturn, 1) := by decide +kernel
theorem dX11_count_0 : decode cX11_count 0 = .ok (.aload_n 0, 1) := by decide +kernel
theorem dX11_count_1 : decode cX11_count 1 = .ok (.getfield 12, 3) := by decide +kernel
theorem dX11_count_4 : decode cX11_count 4 = .ok (.getfield 107, 3) := by decide +kernel
theorem dX11_count_7 : decode cX11_count 7 = .ok (.astore_n 2, 1) := by decide +kernel
theorem dX11_count_8 : decode cX11_count 8 = .ok (.iload_n 1, 1) := by decide +kernel
theorem dX11_count_9 : decode cX11_count 9 = .ok (.tableswitch 181 0 18 #[91, 96, 101, 106, 111, 119, 127, 135, 143, 143, 143, 143, 143, 153, 161, 161, 161, 171, 176], 91) := by decide +kernel
theorem dX11_count_100 : decode cX11_count 100 = .ok (.aload_n 2, 1) := by decide +kernel
theorem dX11_count_101 : decode cX11_count 101 = .ok (.getfield 298, 3) := by decide +kernel
theorem dX11_count_104 : decode cX11_count 104 = .ok (.ireturn, 1) := by decide +kernel
theorem dX11_count_105 : decode cX11_count 105 = .ok (.aload_n 2, 1) := by decide +kernel
theorem dX11_count_106 : decode cX11_count 106 = .ok (.invokevirtual 151, 3) := by decide +kernel
theorem dX11_count_109 : decode cX11_count 109 = .ok (.ireturn, 1) := by decide +kernel
theorem dX11_count_110 : decode cX11_count 110 = .ok (.aload_n 2, 1) := by decide +kernel
theorem dX11_count_111 : decode cX11_count 111 = .ok (.invokevirtual 345, 3) := by decide +kernel
theorem dX11_count_114 : decode cX11_count 114 = .ok (.ireturn, 1) := by decide +kernel
theorem dX11_count_115 : decode cX11_count 115 = .ok (.aload_n 2, 1) := by decide +kernel
theorem dX11_count_116 : decode cX11_count 116 = .ok (.getfield 348, 3) := by decide +kernel
theorem dX11_count_119 : decode cX11_count 119 = .ok (.ireturn, 1) := by decide +kernel
theorem dX11_count_120 : decode cX11_count 120 = .ok (.aload_n 0, 1) := by decide +kernel
theorem dX11_count_121 : decode cX11_count 121 = .ok (.getfield 12, 3) := by decide +kernel
theorem dX11_count_124 : decode cX11_count 124 = .ok (.getfield 307, 3) := by decide +kernel
theorem dX11_count_127 : decode cX11_count 127 = .ok (.ireturn, 1) := by decide +kernel
theorem dX11_count_128 : decode cX11_count 128 = .ok (.aload_n 0, 1) := by decide +kernel
theorem dX11_count_129 : decode cX11_count 129 = .ok (.getfield 12, 3) := by decide +kernel
theorem dX11_count_132 : decode cX11_count 132 = .ok (.getfield 196, 3) := by decide +kernel
theorem dX11_count_135 : decode cX11_count 135 = .ok (.ireturn, 1) := by decide +kernel
theorem dX11_count_136 : decode cX11_count 136 = .ok (.aload_n 0, 1) := by decide +kernel
theorem dX11_count_137 : decode cX11_count 137 = .ok (.getfield 72, 3) := by decide +kernel
theorem dX11_count_140 : decode cX11_count 140 = .ok (.getfield 351, 3) := by decide +kernel
theorem dX11_count_143 : decode cX11_count 143 = .ok (.ireturn, 1) := by decide +kernel
theorem dX11_count_144 : decode cX11_count 144 = .ok (.aload_n 0, 1) := by decide +kernel
theorem dX11_count_145 : decode cX11_count 145 = .ok (.getfield 37, 3) := by decide +kernel
theorem dX11_count_148 : decode cX11_count 148 = .ok (.getfield 186, 3) := by decide +kernel
theorem dX11_count_151 : decode cX11_count 151 = .ok (.ireturn, 1) := by decide +kernel
theorem dX11_count_152 : decode cX11_count 152 = .ok (.aload_n 0, 1) := by decide +kernel
theorem dX11_count_153 : decode cX11_count 153 = .ok (.getfield 90, 3) := by decide +kernel
theorem dX11_count_156 : decode cX11_count 156 = .ok (.iload_n 1, 1) := by decide +kernel
theorem dX11_count_157 : decode cX11_count 157 = .ok (.bipush 8, 2) := by decide +kernel
theorem dX11_count_159 : decode cX11_count 159 = .ok (.isub, 1) := by decide +kernel
theorem dX11_count_160 : decode cX11_count 160 = .ok (.iaload, 1) := by decide +kernel
theorem dX11_count_161 : decode cX11_count 161 = .ok (.ireturn, 1) := by decide +kernel
theorem dX11_count_162 : decode cX11_count 162 = .ok (.aload_n 0, 1) := by decide +kernel
theorem dX11_count_163 : decode cX11_count 163 = .ok (.getfield 12, 3) := by decide +kernel
theorem dX11_count_166 : decode cX11_count 166 = .ok (.getfield 230, 3) := by decide +kernel
theorem dX11_count_169 : decode cX11_count 169 = .ok (.ireturn, 1) := by decide +kernel
theorem dX11_count_170 : decode cX11_count 170 = .ok (.aload_n 2, 1) := by decide +kernel
theorem dX11_count_171 : decode cX11_count 171 = .ok (.getfield 183, 3) := by decide +kernel
theorem dX11_count_174 : decode cX11_count 174 = .ok (.iload_n 1, 1) := by decide +kernel
theorem dX11_count_175 : decode cX11_count 175 = .ok (.bipush 14, 2) := by decide +kernel
theorem dX11_count_177 : decode cX11_count 177 = .ok (.isub, 1) := by decide +kernel
theorem dX11_count_178 : decode cX11_count 178 = .ok (.iaload, 1) := by decide +kernel
theorem dX11_count_179 : decode cX11_count 179 = .ok (.ireturn, 1) := by decide +kernel
theorem dX11_count_180 : decode cX11_count 180 = .ok (.aload_n 2, 1) := by decide +kernel
theorem dX11_count_181 : decode cX11_count 181 = .ok (.getfield 155, 3) := by decide +kernel
theorem dX11_count_184 : decode cX11_count 184 = .ok (.ireturn, 1) := by decide +kernel
theorem dX11_count_185 : decode cX11_count 185 = .ok (.aload_n 2, 1) := by decide +kernel
theorem dX11_count_186 : decode cX11_count 186 = .ok (.getfield 158, 3) := by decide +kernel
theorem dX11_count_189 : decode cX11_count 189 = .ok (.ireturn, 1) := by decide +kernel
theorem dX11_count_190 : decode cX11_count 190 = .ok (.iconst (-1), 1) := by decide +kernel
theorem dX11_count_191 : decode cX11_count 191 = .ok (.ireturn, 1) := by decide +kernel
theorem dX11_status_0 : decode cX11_status 0 = .ok (.aload_n 0, 1) := by decide +kernel
theorem dX11_status_1 : decode cX11_status 1 = .ok (.getfield 94, 3) := by decide +kernel
theorem dX11_status_4 : decode cX11_status 4 = .ok (.ireturn, 1) := by decide +kernel
theorem dX11_onGrid_0 : decode cX11_onGrid 0 = .ok (.iload_n 0, 1) := by decide +kernel
theorem dX11_onGrid_1 : decode cX11_onGrid 1 = .ok (.ifCond .lt 13, 3) := by decide +kernel
theorem dX11_onGrid_4 : decode cX11_onGrid 4 = .ok (.iload_n 0, 1) := by decide +kernel
theorem dX11_onGrid_5 : decode cX11_onGrid 5 = .ok (.bipush 12, 2) := by decide +kernel
theorem dX11_onGrid_7 : decode cX11_onGrid 7 = .ok (.if_icmp .ge 7, 3) := by decide +kernel
theorem dX11_onGrid_10 : decode cX11_onGrid 10 = .ok (.iconst 1, 1) := by decide +kernel
theorem dX11_onGrid_11 : decode cX11_onGrid 11 = .ok (.goto 4, 3) := by decide +kernel
theorem dX11_onGrid_14 : decode cX11_onGrid 14 = .ok (.iconst 0, 1) := by decide +kernel
theorem dX11_onGrid_15 : decode cX11_onGrid 15 = .ok (.ireturn, 1) := by decide +kernel
theorem dX11_mostOfTerm_0 : decode cX11_mostOfTerm 0 = .ok (.iload_n 0, 1) := by decide +kernel
theorem dX11_mostOfTerm_1 : decode cX11_mostOfTerm 1 = .ok (.ifCond .ne 9, 3) := by decide +kernel
theorem dX11_mostOfTerm_4 : decode cX11_mostOfTerm 4 = .ok (.sipush 999, 3) := by decide +kernel
theorem dX11_mostOfTerm_7 : decode cX11_mostOfTerm 7 = .ok (.goto 15, 3) := by decide +kernel
theorem dX11_mostOfTerm_10 : decode cX11_mostOfTerm 10 = .ok (.iload_n 0, 1) := by decide +kernel
theorem dX11_mostOfTerm_11 : decode cX11_mostOfTerm 11 = .ok (.iconst 1, 1) := by decide +kernel
theorem dX11_mostOfTerm_12 : decode cX11_mostOfTerm 12 = .ok (.if_icmp .ne 8, 3) := by decide +kernel
theorem dX11_mostOfTerm_15 : decode cX11_mostOfTerm 15 = .ok (.bipush 10, 2) := by decide +kernel
theorem dX11_mostOfTerm_17 : decode cX11_mostOfTerm 17 = .ok (.goto 5, 3) := by decide +kernel
theorem dX11_mostOfTerm_20 : decode cX11_mostOfTerm 20 = .ok (.bipush 9, 2) := by decide +kernel
theorem dX11_mostOfTerm_22 : decode cX11_mostOfTerm 22 = .ok (.ireturn, 1) := by decide +kernel
theorem dX11_answer_0 : decode cX11_answer 0 = .ok (.aload_n 0, 1) := by decide +kernel
theorem dX11_answer_1 : decode cX11_answer 1 = .ok (.iload_n 1, 1) := by decide +kernel
theorem dX11_answer_2 : decode cX11_answer 2 = .ok (.ifCond .ge 7, 3) := by decide +kernel
theorem dX11_answer_5 : decode cX11_answer 5 = .ok (.iload_n 1, 1) := by decide +kernel
theorem dX11_answer_6 : decode cX11_answer 6 = .ok (.goto 4, 3) := by decide +kernel
theorem dX11_answer_9 : decode cX11_answer 9 = .ok (.iconst 0, 1) := by decide +kernel
theorem dX11_answer_10 : decode cX11_answer 10 = .ok (.putfield 94, 3) := by decide +kernel
theorem dX11_answer_13 : decode cX11_answer 13 = .ok (.iload_n 1, 1) := by decide +kernel
theorem dX11_answer_14 : decode cX11_answer 14 = .ok (.tableswitch 103 (-6) (-1) #[90, 77, 103, 64, 51, 38], 38) := by decide +kernel
theorem dX11_answer_52 : decode cX11_answer 52 = .ok (.aload_n 0, 1) := by decide +kernel
theorem dX11_answer_53 : decode cX11_answer 53 = .ok (.getfield 90, 3) := by decide +kernel
theorem dX11_answer_56 : decode cX11_answer 56 = .ok (.iconst 0, 1) := by decide +kernel
theorem dX11_answer_57 : decode cX11_answer 57 = .ok (.dup2, 1) := by decide +kernel
theorem dX11_answer_58 : decode cX11_answer 58 = .ok (.iaload, 1) := by decide +kernel
theorem dX11_answer_59 : decode cX11_answer 59 = .ok (.iconst 1, 1) := by decide +kernel
theorem dX11_answer_60 : decode cX11_answer 60 = .ok (.iadd, 1) := by decide +kernel
theorem dX11_answer_61 : decode cX11_answer 61 = .ok (.iastore, 1) := by decide +kernel
theorem dX11_answer_62 : decode cX11_answer 62 = .ok (.goto 55, 3) := by decide +kernel
theorem dX11_answer_65 : decode cX11_answer 65 = .ok (.aload_n 0, 1) := by decide +kernel
theorem dX11_answer_66 : decode cX11_answer 66 = .ok (.getfield 90, 3) := by decide +kernel
theorem dX11_answer_69 : decode cX11_answer 69 = .ok (.iconst 1, 1) := by decide +kernel
theorem dX11_answer_70 : decode cX11_answer 70 = .ok (.dup2, 1) := by decide +kernel
theorem dX11_answer_71 : decode cX11_answer 71 = .ok (.iaload, 1) := by decide +kernel
theorem dX11_answer_72 : decode cX11_answer 72 = .ok (.iconst 1, 1) := by decide +kernel
theorem dX11_answer_73 : decode cX11_answer 73 = .ok (.iadd, 1) := by decide +kernel
theorem dX11_answer_74 : decode cX11_answer 74 = .ok (.iastore, 1) := by decide +kernel
theorem dX11_answer_75 : decode cX11_answer 75 = .ok (.goto 42, 3) := by decide +kernel
theorem dX11_answer_78 : decode cX11_answer 78 = .ok (.aload_n 0, 1) := by decide +kernel
theorem dX11_answer_79 : decode cX11_answer 79 = .ok (.getfield 90, 3) := by decide +kernel
theorem dX11_answer_82 : decode cX11_answer 82 = .ok (.iconst 2, 1) := by decide +kernel
theorem dX11_answer_83 : decode cX11_answer 83 = .ok (.dup2, 1) := by decide +kernel
theorem dX11_answer_84 : decode cX11_answer 84 = .ok (.iaload, 1) := by decide +kernel
theorem dX11_answer_85 : decode cX11_answer 85 = .ok (.iconst 1, 1) := by decide +kernel
theorem dX11_answer_86 : decode cX11_answer 86 = .ok (.iadd, 1) := by decide +kernel
theorem dX11_answer_87 : decode cX11_answer 87 = .ok (.iastore, 1) := by decide +kernel
theorem dX11_answer_88 : decode cX11_answer 88 = .ok (.goto 29, 3) := by decide +kernel
theorem dX11_answer_91 : decode cX11_answer 91 = .ok (.aload_n 0, 1) := by decide +kernel
theorem dX11_answer_92 : decode cX11_answer 92 = .ok (.getfield 90, 3) := by decide +kernel
theorem dX11_answer_95 : decode cX11_answer 95 = .ok (.iconst 3, 1) := by decide +kernel
theorem dX11_answer_96 : decode cX11_answer 96 = .ok (.dup2, 1) := by decide +kernel
theorem dX11_answer_97 : decode cX11_answer 97 = .ok (.iaload, 1) := by decide +kernel
theorem dX11_answer_98 : decode cX11_answer 98 = .ok (.iconst 1, 1) := by decide +kernel
theorem dX11_answer_99 : decode cX11_answer 99 = .ok (.iadd, 1) := by decide +kernel
theorem dX11_answer_100 : decode cX11_answer 100 = .ok (.iastore, 1) := by decide +kernel
theorem dX11_answer_101 : decode cX11_answer 101 = .ok (.goto 16, 3) := by decide +kernel
theorem dX11_answer_104 : decode cX11_answer 104 = .ok (.aload_n 0, 1) := by decide +kernel
theorem dX11_answer_105 : decode cX11_answer 105 = .ok (.getfield 90, 3) := by decide +kernel
theorem dX11_answer_108 : decode cX11_answer 108 = .ok (.iconst 4, 1) := by decide +kernel
theorem dX11_answer_109 : decode cX11_answer 109 = .ok (.dup2, 1) := by decide +kernel
theorem dX11_answer_110 : decode cX11_answer 110 = .ok (.iaload, 1) := by decide +kernel
theorem dX11_answer_111 : decode cX11_answer 111 = .ok (.iconst 1, 1) := by decide +kernel
theorem dX11_answer_112 : decode cX11_answer 112 = .ok (.iadd, 1) := by decide +kernel
theorem dX11_answer_113 : decode cX11_answer 113 = .ok (.iastore, 1) := by decide +kernel
theorem dX11_answer_114 : decode cX11_answer 114 = .ok (.goto 3, 3) := by decide +kernel
theorem dX11_answer_117 : decode cX11_answer 117 = .ok (.iload_n 1, 1) := by decide +kernel
theorem dX11_answer_118 : decode cX11_answer 118 = .ok (.ireturn, 1) := by decide +kernel
theorem dX11_canLie_0 : decode cX11_canLie 0 = .ok (.aload_n 1, 1) := by decide +kernel
theorem dX11_canLie_1 : decode cX11_canLie 1 = .ok (.iload_n 2, 1) := by decide +kernel
theorem dX11_canLie_2 : decode cX11_canLie 2 = .ok (.iload_n 3, 1) := by decide +kernel
theorem dX11_canLie_3 : decode cX11_canLie 3 = .ok (.iload 4, 2) := by decide +kernel
theorem dX11_canLie_5 : decode cX11_canLie 5 = .ok (.invokevirtual 354, 3) := by decide +kernel
theorem dX11_canLie_8 : decode cX11_canLie 8 = .ok (.ifCond .eq 29, 3) := by decide +kernel
theorem dX11_canLie_11 : decode cX11_canLie 11 = .ok (.aload_n 0, 1) := by decide +kernel
theorem dX11_canLie_12 : decode cX11_canLie 12 = .ok (.getfield 65, 3) := by decide +kernel
theorem dX11_canLie_15 : decode cX11_canLie 15 = .ok (.aload_n 0, 1) := by decide +kernel
theorem dX11_canLie_16 : decode cX11_canLie 16 = .ok (.getfield 12, 3) := by decide +kernel
theorem dX11_canLie_19 : decode cX11_canLie 19 = .ok (.invokevirtual 143, 3) := by decide +kernel
theorem dX11_canLie_22 : decode cX11_canLie 22 = .ok (.aload_n 1, 1) := by decide +kernel
theorem dX11_canLie_23 : decode cX11_canLie 23 = .ok (.iload_n 2, 1) := by decide +kernel
theorem dX11_canLie_24 : decode cX11_canLie 24 = .ok (.iload_n 3, 1) := by decide +kernel
theorem dX11_canLie_25 : decode cX11_canLie 25 = .ok (.iload 4, 2) := by decide +kernel
theorem dX11_canLie_27 : decode cX11_canLie 27 = .ok (.invokevirtual 172, 3) := by decide +kernel
theorem dX11_canLie_30 : decode cX11_canLie 30 = .ok (.ifCond .ne 7, 3) := by decide +kernel
theorem dX11_canLie_33 : decode cX11_canLie 33 = .ok (.iconst 1, 1) := by decide +kernel
theorem dX11_canLie_34 : decode cX11_canLie 34 = .ok (.goto 4, 3) := by decide +kernel
theorem dX11_canLie_37 : decode cX11_canLie 37 = .ok (.iconst 0, 1) := by decide +kernel
theorem dX11_canLie_38 : decode cX11_canLie 38 = .ok (.ireturn, 1) := by decide +kernel
theorem dX11_doLay_0 : decode cX11_doLay 0 = .ok (.aload_n 0, 1) := by decide +kernel
theorem dX11_doLay_1 : decode cX11_doLay 1 = .ok (.getfield 12, 3) := by decide +kernel
theorem dX11_doLay_4 : decode cX11_doLay 4 = .ok (.getfield 107, 3) := by decide +kernel
theorem dX11_doLay_7 : decode cX11_doLay 7 = .ok (.astore 4, 2) := by decide +kernel
theorem dX11_doLay_9 : decode cX11_doLay 9 = .ok (.iload_n 2, 1) := by decide +kernel
theorem dX11_doLay_10 : decode cX11_doLay 10 = .ok (.invokestatic 165, 3) := by decide +kernel
theorem dX11_doLay_13 : decode cX11_doLay 13 = .ok (.ifCond .eq 10, 3) := by decide +kernel
theorem dX11_doLay_16 : decode cX11_doLay 16 = .ok (.iload_n 3, 1) := by decide +kernel
theorem dX11_doLay_17 : decode cX11_doLay 17 = .ok (.invokestatic 165, 3) := by decide +kernel
theorem dX11_doLay_20 : decode cX11_doLay 20 = .ok (.ifCond .ne 5, 3) := by decide +kernel
theorem dX11_doLay_23 : decode cX11_doLay 23 = .ok (.iconst (-1), 1) := by decide +kernel
theorem dX11_doLay_24 : decode cX11_doLay 24 = .ok (.ireturn, 1) := by decide +kernel
theorem dX11_doLay_25 : decode cX11_doLay 25 = .ok (.aload 4, 2) := by decide +kernel
theorem dX11_doLay_27 : decode cX11_doLay 27 = .ok (.iload_n 1, 1) := by decide +kernel
theorem dX11_doLay_28 : decode cX11_doLay 28 = .ok (.invokevirtual 121, 3) := by decide +kernel
theorem dX11_doLay_31 : decode cX11_doLay 31 = .ok (.ifCond .ne 6, 3) := by decide +kernel
theorem dX11_doLay_34 : decode cX11_doLay 34 = .ok (.bipush (-2), 2) := by decide +kernel
theorem dX11_doLay_36 : decode cX11_doLay 36 = .ok (.ireturn, 1) := by decide +kernel
theorem dX11_doLay_37 : decode cX11_doLay 37 = .ok (.aload_n 0, 1) := by decide +kernel
theorem dX11_doLay_38 : decode cX11_doLay 38 = .ok (.aload 4, 2) := by decide +kernel
theorem dX11_doLay_40 : decode cX11_doLay 40 = .ok (.iload_n 1, 1) := by decide +kernel
theorem dX11_doLay_41 : decode cX11_doLay 41 = .ok (.iload_n 2, 1) := by decide +kernel
theorem dX11_doLay_42 : decode cX11_doLay 42 = .ok (.iload_n 3, 1) := by decide +kernel
theorem dX11_doLay_43 : decode cX11_doLay 43 = .ok (.invokevirtual 176, 3) := by decide +kernel
theorem dX11_doLay_46 : decode cX11_doLay 46 = .ok (.ifCond .ne 6, 3) := by decide +kernel
theorem dX11_doLay_49 : decode cX11_doLay 49 = .ok (.bipush (-3), 2) := by decide +kernel
theorem dX11_doLay_51 : decode cX11_doLay 51 = .ok (.ireturn, 1) := by decide +kernel
theorem dX11_doLay_52 : decode cX11_doLay 52 = .ok (.aload_n 0, 1) := by decide +kernel
theorem dX11_doLay_53 : decode cX11_doLay 53 = .ok (.getfield 65, 3) := by decide +kernel
theorem dX11_doLay_56 : decode cX11_doLay 56 = .ok (.aload_n 0, 1) := by decide +kernel
theorem dX11_doLay_57 : decode cX11_doLay 57 = .ok (.getfield 12, 3) := by decide +kernel
theorem dX11_doLay_60 : decode cX11_doLay 60 = .ok (.invokevirtual 143, 3) := by decide +kernel
theorem dX11_doLay_63 : decode cX11_doLay 63 = .ok (.aload 4, 2) := by decide +kernel
theorem dX11_doLay_65 : decode cX11_doLay 65 = .ok (.iload_n 1, 1) := by decide +kernel
theorem dX11_doLay_66 : decode cX11_doLay 66 = .ok (.iload_n 2, 1) := by decide +kernel
theorem dX11_doLay_67 : decode cX11_doLay 67 = .ok (.iload_n 3, 1) := by decide +kernel
theorem dX11_doLay_68 : decode cX11_doLay 68 = .ok (.invokevirtual 168, 3) := by decide +kernel
theorem dX11_doLay_71 : decode cX11_doLay 71 = .ok (.istore 5, 2) := by decide +kernel
theorem dX11_doLay_73 : decode cX11_doLay 73 = .ok (.aload_n 0, 1) := by decide +kernel
theorem dX11_doLay_74 : decode cX11_doLay 74 = .ok (.getfield 72, 3) := by decide +kernel
theorem dX11_doLay_77 : decode cX11_doLay 77 = .ok (.iconst 0, 1) := by decide +kernel
theorem dX11_doLay_78 : decode cX11_doLay 78 = .ok (.aload 4, 2) := by decide +kernel
theorem dX11_doLay_80 : decode cX11_doLay 80 = .ok (.invokevirtual 358, 3) := by decide +kernel
theorem dX11_doLay_83 : decode cX11_doLay 83 = .ok (.aload 4, 2) := by decide +kernel
theorem dX11_doLay_85 : decode cX11_doLay 85 = .ok (.getfield 134, 3) := by decide +kernel
theorem dX11_doLay_88 : decode cX11_doLay 88 = .ok (.iload_n 1, 1) := by decide +kernel
theorem dX11_doLay_89 : decode cX11_doLay 89 = .ok (.iload_n 2, 1) := by decide +kernel
theorem dX11_doLay_90 : decode cX11_doLay 90 = .ok (.iastore, 1) := by decide +kernel
theorem dX11_doLay_91 : decode cX11_doLay 91 = .ok (.aload 4, 2) := by decide +kernel
theorem dX11_doLay_93 : decode cX11_doLay 93 = .ok (.getfield 137, 3) := by decide +kernel
theorem dX11_doLay_96 : decode cX11_doLay 96 = .ok (.iload_n 1, 1) := by decide +kernel
theorem dX11_doLay_97 : decode cX11_doLay 97 = .ok (.iload_n 3, 1) := by decide +kernel
theorem dX11_doLay_98 : decode cX11_doLay 98 = .ok (.iastore, 1) := by decide +kernel
theorem dX11_doLay_99 : decode cX11_doLay 99 = .ok (.aload 4, 2) := by decide +kernel
theorem dX11_doLay_101 : decode cX11_doLay 101 = .ok (.sipush 9999, 3) := by decide +kernel
theorem dX11_doLay_104 : decode cX11_doLay 104 = .ok (.aload 4, 2) := by decide +kernel
theorem dX11_doLay_106 : decode cX11_doLay 106 = .ok (.getfield 348, 3) := by decide +kernel
theorem dX11_doLay_109 : decode cX11_doLay 109 = .ok (.iload 5, 2) := by decide +kernel
theorem dX11_doLay_111 : decode cX11_doLay 111 = .ok (.iadd, 1) := by decide +kernel
theorem dX11_doLay_112 : decode cX11_doLay 112 = .ok (.invokestatic 362, 3) := by decide +kernel
theorem dX11_doLay_115 : decode cX11_doLay 115 = .ok (.putfield 348, 3) := by decide +kernel
theorem dX11_doLay_118 : decode cX11_doLay 118 = .ok (.iload 5, 2) := by decide +kernel
theorem dX11_doLay_120 : decode cX11_doLay 120 = .ok (.ireturn, 1) := by decide +kernel
theorem dX11_doRoll_0 : decode cX11_doRoll 0 = .ok (.aload_n 0, 1) := by decide +kernel
theorem dX11_doRoll_1 : decode cX11_doRoll 1 = .ok (.getfield 12, 3) := by decide +kernel
theorem dX11_doRoll_4 : decode cX11_doRoll 4 = .ok (.getfield 107, 3) := by decide +kernel
theorem dX11_doRoll_7 : decode cX11_doRoll 7 = .ok (.astore_n 2, 1) := by decide +kernel
theorem dX11_doRoll_8 : decode cX11_doRoll 8 = .ok (.aload_n 2, 1) := by decide +kernel
theorem dX11_doRoll_9 : decode cX11_doRoll 9 = .ok (.iload_n 1, 1) := by decide +kernel
theorem dX11_doRoll_10 : decode cX11_doRoll 10 = .ok (.invokevirtual 121, 3) := by decide +kernel
theorem dX11_doRoll_13 : decode cX11_doRoll 13 = .ok (.ifCond .ne 6, 3) := by decide +kernel
theorem dX11_doRoll_16 : decode cX11_doRoll 16 = .ok (.bipush (-2), 2) := by decide +kernel
theorem dX11_doRoll_18 : decode cX11_doRoll 18 = .ok (.ireturn, 1) := by decide +kernel
theorem dX11_doRoll_19 : decode cX11_doRoll 19 = .ok (.aload_n 2, 1) := by decide +kernel
theorem dX11_doRoll_20 : decode cX11_doRoll 20 = .ok (.iload_n 1, 1) := by decide +kernel
theorem dX11_doRoll_21 : decode cX11_doRoll 21 = .ok (.invokevirtual 140, 3) := by decide +kernel
theorem dX11_doRoll_24 : decode cX11_doRoll 24 = .ok (.ifCond .ne 6, 3) := by decide +kernel
theorem dX11_doRoll_27 : decode cX11_doRoll 27 = .ok (.bipush (-3), 2) := by decide +kernel
theorem dX11_doRoll_29 : decode cX11_doRoll 29 = .ok (.ireturn, 1) := by decide +kernel
theorem dX11_doRoll_30 : decode cX11_doRoll 30 = .ok (.aload_n 0, 1) := by decide +kernel
theorem dX11_doRoll_31 : decode cX11_doRoll 31 = .ok (.getfield 72, 3) := by decide +kernel
theorem dX11_doRoll_34 : decode cX11_doRoll 34 = .ok (.iconst 1, 1) := by decide +kernel
theorem dX11_doRoll_35 : decode cX11_doRoll 35 = .ok (.aload_n 2, 1) := by decide +kernel
theorem dX11_doRoll_36 : decode cX11_doRoll 36 = .ok (.invokevirtual 358, 3) := by decide +kernel
theorem dX11_doRoll_39 : decode cX11_doRoll 39 = .ok (.aload_n 2, 1) := by decide +kernel
theorem dX11_doRoll_40 : decode cX11_doRoll 40 = .ok (.iload_n 1, 1) := by decide +kernel
theorem dX11_doRoll_41 : decode cX11_doRoll 41 = .ok (.invokevirtual 301, 3) := by decide +kernel
theorem dX11_doRoll_44 : decode cX11_doRoll 44 = .ok (.aload_n 2, 1) := by decide +kernel
theorem dX11_doRoll_45 : decode cX11_doRoll 45 = .ok (.invokevirtual 249, 3) := by decide +kernel
theorem dX11_doRoll_48 : decode cX11_doRoll 48 = .ok (.ireturn, 1) := by decide +kernel
theorem dX11_doMirror_0 : decode cX11_doMirror 0 = .ok (.aload_n 0, 1) := by decide +kernel
theorem dX11_doMirror_1 : decode cX11_doMirror 1 = .ok (.getfield 72, 3) := by decide +kernel
theorem dX11_doMirror_4 : decode cX11_doMirror 4 = .ok (.iconst 2, 1) := by decide +kernel
theorem dX11_doMirror_5 : decode cX11_doMirror 5 = .ok (.aload_n 0, 1) := by decide +kernel
theorem dX11_doMirror_6 : decode cX11_doMirror 6 = .ok (.getfield 12, 3) := by decide +kernel
theorem dX11_doMirror_9 : decode cX11_doMirror 9 = .ok (.getfield 107, 3) := by decide +kernel
theorem dX11_doMirror_12 : decode cX11_doMirror 12 = .ok (.invokevirtual 358, 3) := by decide +kernel
theorem dX11_doMirror_15 : decode cX11_doMirror 15 = .ok (.aload_n 0, 1) := by decide +kernel
theorem dX11_doMirror_16 : decode cX11_doMirror 16 = .ok (.getfield 12, 3) := by decide +kernel
theorem dX11_doMirror_19 : decode cX11_doMirror 19 = .ok (.getfield 107, 3) := by decide +kernel
theorem dX11_doMirror_22 : decode cX11_doMirror 22 = .ok (.invokevirtual 367, 3) := by decide +kernel
theorem dX11_doMirror_25 : decode cX11_doMirror 25 = .ok (.ireturn, 1) := by decide +kernel
theorem dX11_doPass_0 : decode cX11_doPass 0 = .ok (.aload_n 0, 1) := by decide +kernel
theorem dX11_doPass_1 : decode cX11_doPass 1 = .ok (.getfield 12, 3) := by decide +kernel
theorem dX11_doPass_4 : decode cX11_doPass 4 = .ok (.getfield 107, 3) := by decide +kernel
theorem dX11_doPass_7 : decode cX11_doPass 7 = .ok (.getfield 183, 3) := by decide +kernel
theorem dX11_doPass_10 : decode cX11_doPass 10 = .ok (.iconst 0, 1) := by decide +kernel
theorem dX11_doPass_11 : decode cX11_doPass 11 = .ok (.iaload, 1) := by decide +kernel
theorem dX11_doPass_12 : decode cX11_doPass 12 = .ok (.sipush 999, 3) := by decide +kernel
theorem dX11_doPass_15 : decode cX11_doPass 15 = .ok (.if_icmp .lt 6, 3) := by decide +kernel
theorem dX11_doPass_18 : decode cX11_doPass 18 = .ok (.bipush (-3), 2) := by decide +kernel
theorem dX11_doPass_20 : decode cX11_doPass 20 = .ok (.ireturn, 1) := by decide +kernel
theorem dX11_doPass_21 : decode cX11_doPass 21 = .ok (.aload_n 0, 1) := by decide +kernel
theorem dX11_doPass_22 : decode cX11_doPass 22 = .ok (.getfield 72, 3) := by decide +kernel
theorem dX11_doPass_25 : decode cX11_doPass 25 = .ok (.iconst 3, 1) := by decide +kernel
theorem dX11_doPass_26 : decode cX11_doPass 26 = .ok (.aload_n 0, 1) := by decide +kernel
theorem dX11_doPass_27 : decode cX11_doPass 27 = .ok (.getfield 12, 3) := by decide +kernel
theorem dX11_doPass_30 : decode cX11_doPass 30 = .ok (.getfield 107, 3) := by decide +kernel
theorem dX11_doPass_33 : decode cX11_doPass 33 = .ok (.invokevirtual 358, 3) := by decide +kernel
theorem dX11_doPass_36 : decode cX11_doPass 36 = .ok (.aload_n 0, 1) := by decide +kernel
theorem dX11_doPass_37 : decode cX11_doPass 37 = .ok (.getfield 12, 3) := by decide +kernel
theorem dX11_doPass_40 : decode cX11_doPass 40 = .ok (.getfield 107, 3) := by decide +kernel
theorem dX11_doPass_43 : decode cX11_doPass 43 = .ok (.aload_n 0, 1) := by decide +kernel
theorem dX11_doPass_44 : decode cX11_doPass 44 = .ok (.getfield 65, 3) := by decide +kernel
theorem dX11_doPass_47 : decode cX11_doPass 47 = .ok (.aload_n 0, 1) := by decide +kernel
theorem dX11_doPass_48 : decode cX11_doPass 48 = .ok (.getfield 12, 3) := by decide +kernel
theorem dX11_doPass_51 : decode cX11_doPass 51 = .ok (.invokevirtual 143, 3) := by decide +kernel
theorem dX11_doPass_54 : decode cX11_doPass 54 = .ok (.invokevirtual 370, 3) := by decide +kernel
theorem dX11_doPass_57 : decode cX11_doPass 57 = .ok (.ireturn, 1) := by decide +kernel
theorem dX11_runOnce_0 : decode cX11_runOnce 0 = .ok (.aload_n 0, 1) := by decide +kernel
theorem dX11_runOnce_1 : decode cX11_runOnce 1 = .ok (.getfield 58, 3) := by decide +kernel
theorem dX11_runOnce_4 : decode cX11_runOnce 4 = .ok (.aload_n 0, 1) := by decide +kernel
theorem dX11_runOnce_5 : decode cX11_runOnce 5 = .ok (.getfield 12, 3) := by decide +kernel
theorem dX11_runOnce_8 : decode cX11_runOnce 8 = .ok (.getfield 107, 3) := by decide +kernel
theorem dX11_runOnce_11 : decode cX11_runOnce 11 = .ok (.invokevirtual 374, 3) := by decide +kernel
theorem dX11_runOnce_14 : decode cX11_runOnce 14 = .ok (.aload_n 0, 1) := by decide +kernel
theorem dX11_runOnce_15 : decode cX11_runOnce 15 = .ok (.getfield 58, 3) := by decide +kernel
theorem dX11_runOnce_18 : decode cX11_runOnce 18 = .ok (.aload_n 0, 1) := by decide +kernel
theorem dX11_runOnce_19 : decode cX11_runOnce 19 = .ok (.getfield 51, 3) := by decide +kernel
theorem dX11_runOnce_22 : decode cX11_runOnce 22 = .ok (.iload_n 1, 1) := by decide +kernel
theorem dX11_runOnce_23 : decode cX11_runOnce 23 = .ok (.invokevirtual 377, 3) := by decide +kernel
theorem dX11_runOnce_26 : decode cX11_runOnce 26 = .ok (.ifCond .ne 5, 3) := by decide +kernel
theorem dX11_runOnce_29 : decode cX11_runOnce 29 = .ok (.iconst 1, 1) := by decide +kernel
theorem dX11_runOnce_30 : decode cX11_runOnce 30 = .ok (.ireturn, 1) := by decide +kernel
theorem dX11_runOnce_31 : decode cX11_runOnce 31 = .ok (.aload_n 0, 1) := by decide +kernel
theorem dX11_runOnce_32 : decode cX11_runOnce 32 = .ok (.getfield 58, 3) := by decide +kernel
theorem dX11_runOnce_35 : decode cX11_runOnce 35 = .ok (.aload_n 0, 1) := by decide +kernel
theorem dX11_runOnce_36 : decode cX11_runOnce 36 = .ok (.getfield 51, 3) := by decide +kernel
theorem dX11_runOnce_39 : decode cX11_runOnce 39 = .ok (.iload_n 1, 1) := by decide +kernel
theorem dX11_runOnce_40 : decode cX11_runOnce 40 = .ok (.invokevirtual 381, 3) := by decide +kernel
theorem dX11_runOnce_43 : decode cX11_runOnce 43 = .ok (.ifCond .ne 5, 3) := by decide +kernel
theorem dX11_runOnce_46 : decode cX11_runOnce 46 = .ok (.iconst 0, 1) := by decide +kernel
theorem dX11_runOnce_47 : decode cX11_runOnce 47 = .ok (.ireturn, 1) := by decide +kernel
theorem dX11_runOnce_48 : decode cX11_runOnce 48 = .ok (.aload_n 0, 1) := by decide +kernel
theorem dX11_runOnce_49 : decode cX11_runOnce 49 = .ok (.getfield 51, 3) := by decide +kernel
theorem dX11_runOnce_52 : decode cX11_runOnce 52 = .ok (.iload_n 1, 1) := by decide +kernel
theorem dX11_runOnce_53 : decode cX11_runOnce 53 = .ok (.iconst 0, 1) := by decide +kernel
theorem dX11_runOnce_54 : decode cX11_runOnce 54 = .ok (.invokevirtual 217, 3) := by decide +kernel
theorem dX11_runOnce_57 : decode cX11_runOnce 57 = .ok (.tableswitch 97 0 2 #[27, 72, 89], 27) := by decide +kernel
theorem dX11_runOnce_84 : decode cX11_runOnce 84 = .ok (.aload_n 0, 1) := by decide +kernel
theorem dX11_runOnce_85 : decode cX11_runOnce 85 = .ok (.aload_n 0, 1) := by decide +kernel
theorem dX11_runOnce_86 : decode cX11_runOnce 86 = .ok (.getfield 58, 3) := by decide +kernel
theorem dX11_runOnce_89 : decode cX11_runOnce 89 = .ok (.getfield 384, 3) := by decide +kernel
theorem dX11_runOnce_92 : decode cX11_runOnce 92 = .ok (.iconst 0, 1) := by decide +kernel
theorem dX11_runOnce_93 : decode cX11_runOnce 93 = .ok (.iaload, 1) := by decide +kernel
theorem dX11_runOnce_94 : decode cX11_runOnce 94 = .ok (.aload_n 0, 1) := by decide +kernel
theorem dX11_runOnce_95 : decode cX11_runOnce 95 = .ok (.getfield 58, 3) := by decide +kernel
theorem dX11_runOnce_98 : decode cX11_runOnce 98 = .ok (.getfield 384, 3) := by decide +kernel
theorem dX11_runOnce_101 : decode cX11_runOnce 101 = .ok (.iconst 1, 1) := by decide +kernel
theorem dX11_runOnce_102 : decode cX11_runOnce 102 = .ok (.iaload, 1) := by decide +kernel
theorem dX11_runOnce_103 : decode cX11_runOnce 103 = .ok (.aload_n 0, 1) := by decide +kernel
theorem dX11_runOnce_104 : decode cX11_runOnce 104 = .ok (.getfield 58, 3) := by decide +kernel
theorem dX11_runOnce_107 : decode cX11_runOnce 107 = .ok (.getfield 384, 3) := by decide +kernel
theorem dX11_runOnce_110 : decode cX11_runOnce 110 = .ok (.iconst 2, 1) := by decide +kernel
theorem dX11_runOnce_111 : decode cX11_runOnce 111 = .ok (.iaload, 1) := by decide +kernel
theorem dX11_runOnce_112 : decode cX11_runOnce 112 = .ok (.invokevirtual 233, 3) := by decide +kernel
theorem dX11_runOnce_115 : decode cX11_runOnce 115 = .ok (.istore_n 2, 1) := by decide +kernel
theorem dX11_runOnce_116 : decode cX11_runOnce 116 = .ok (.aload_n 0, 1) := by decide +kernel
theorem dX11_runOnce_117 : decode cX11_runOnce 117 = .ok (.getfield 58, 3) := by decide +kernel
theorem dX11_runOnce_120 : decode cX11_runOnce 120 = .ok (.getfield 211, 3) := by decide +kernel
theorem dX11_runOnce_123 : decode cX11_runOnce 123 = .ok (.iconst 2, 1) := by decide +kernel
theorem dX11_runOnce_124 : decode cX11_runOnce 124 = .ok (.iload_n 2, 1) := by decide +kernel
theorem dX11_runOnce_125 : decode cX11_runOnce 125 = .ok (.iastore, 1) := by decide +kernel
theorem dX11_runOnce_126 : decode cX11_runOnce 126 = .ok (.goto 33, 3) := by decide +kernel
theorem dX11_runOnce_129 : decode cX11_runOnce 129 = .ok (.aload_n 0, 1) := by decide +kernel
theorem dX11_runOnce_130 : decode cX11_runOnce 130 = .ok (.aload_n 0, 1) := by decide +kernel
theorem dX11_runOnce_131 : decode cX11_runOnce 131 = .ok (.getfield 58, 3) := by decide +kernel
theorem dX11_runOnce_134 : decode cX11_runOnce 134 = .ok (.getfield 384, 3) := by decide +kernel
theorem dX11_runOnce_137 : decode cX11_runOnce 137 = .ok (.iconst 0, 1) := by decide +kernel
theorem dX11_runOnce_138 : decode cX11_runOnce 138 = .ok (.iaload, 1) := by decide +kernel
theorem dX11_runOnce_139 : decode cX11_runOnce 139 = .ok (.invokevirtual 236, 3) := by decide +kernel
theorem dX11_runOnce_142 : decode cX11_runOnce 142 = .ok (.istore_n 2, 1) := by decide +kernel
theorem dX11_runOnce_143 : decode cX11_runOnce 143 = .ok (.goto 16, 3) := by decide +kernel
theorem dX11_runOnce_146 : decode cX11_runOnce 146 = .ok (.aload_n 0, 1) := by decide +kernel
theorem dX11_runOnce_147 : decode cX11_runOnce 147 = .ok (.invokevirtual 239, 3) := by decide +kernel
theorem dX11_runOnce_150 : decode cX11_runOnce 150 = .ok (.istore_n 2, 1) := by decide +kernel
theorem dX11_runOnce_151 : decode cX11_runOnce 151 = .ok (.goto 8, 3) := by decide +kernel
theorem dX11_runOnce_154 : decode cX11_runOnce 154 = .ok (.aload_n 0, 1) := by decide +kernel
theorem dX11_runOnce_155 : decode cX11_runOnce 155 = .ok (.invokevirtual 242, 3) := by decide +kernel
theorem dX11_runOnce_158 : decode cX11_runOnce 158 = .ok (.istore_n 2, 1) := by decide +kernel
theorem dX11_runOnce_159 : decode cX11_runOnce 159 = .ok (.aload_n 0, 1) := by decide +kernel
theorem dX11_runOnce_160 : decode cX11_runOnce 160 = .ok (.getfield 58, 3) := by decide +kernel
theorem dX11_runOnce_163 : decode cX11_runOnce 163 = .ok (.getfield 211, 3) := by decide +kernel
theorem dX11_runOnce_166 : decode cX11_runOnce 166 = .ok (.iconst 1, 1) := by decide +kernel
theorem dX11_runOnce_167 : decode cX11_runOnce 167 = .ok (.dup2, 1) := by decide +kernel
theorem dX11_runOnce_168 : decode cX11_runOnce 168 = .ok (.iaload, 1) := by decide +kernel
theorem dX11_runOnce_169 : decode cX11_runOnce 169 = .ok (.iconst 1, 1) := by decide +kernel
theorem dX11_runOnce_170 : decode cX11_runOnce 170 = .ok (.iadd, 1) := by decide +kernel
theorem dX11_runOnce_171 : decode cX11_runOnce 171 = .ok (.iastore, 1) := by decide +kernel
theorem dX11_runOnce_172 : decode cX11_runOnce 172 = .ok (.iload_n 2, 1) := by decide +kernel
theorem dX11_runOnce_173 : decode cX11_runOnce 173 = .ok (.ifCond .lt 7, 3) := by decide +kernel
theorem dX11_runOnce_176 : decode cX11_runOnce 176 = .ok (.iconst 1, 1) := by decide +kernel
theorem dX11_runOnce_177 : decode cX11_runOnce 177 = .ok (.goto 4, 3) := by decide +kernel
theorem dX11_runOnce_180 : decode cX11_runOnce 180 = .ok (.iconst 0, 1) := by decide +kernel
theorem dX11_runOnce_181 : decode cX11_runOnce 181 = .ok (.ireturn, 1) := by decide +kernel
theorem dX11_nextDraw_0 : decode cX11_nextDraw 0 = .ok (.iload_n 0, 1) := by decide +kernel
theorem dX11_nextDraw_1 : decode cX11_nextDraw 1 = .ok (.sipush 1103, 3) := by decide +kernel
theorem dX11_nextDraw_4 : decode cX11_nextDraw 4 = .ok (.imul, 1) := by decide +kernel
theorem dX11_nextDraw_5 : decode cX11_nextDraw 5 = .ok (.sipush 12345, 3) := by decide +kernel
theorem dX11_nextDraw_8 : decode cX11_nextDraw 8 = .ok (.iadd, 1) := by decide +kernel
theorem dX11_nextDraw_9 : decode cX11_nextDraw 9 = .ok (.ldc_w 387, 3) := by decide +kernel
theorem dX11_nextDraw_12 : decode cX11_nextDraw 12 = .ok (.irem, 1) := by decide +kernel
theorem dX11_nextDraw_13 : decode cX11_nextDraw 13 = .ok (.ireturn, 1) := by decide +kernel
