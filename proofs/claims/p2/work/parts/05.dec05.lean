theorem dX12_halls_0 : decode cX12_halls 0 = .ok (.iload_n 1, 1) := by decide +kernel
theorem dX12_halls_1 : decode cX12_halls 1 = .ok (.iconst (-1), 1) := by decide +kernel
theorem dX12_halls_2 : decode cX12_halls 2 = .ok (.if_icmp .ge 5, 3) := by decide +kernel
theorem dX12_halls_5 : decode cX12_halls 5 = .ok (.iconst (-1), 1) := by decide +kernel
theorem dX12_halls_6 : decode cX12_halls 6 = .ok (.ireturn, 1) := by decide +kernel
theorem dX12_halls_7 : decode cX12_halls 7 = .ok (.iconst 0, 1) := by decide +kernel
theorem dX12_halls_8 : decode cX12_halls 8 = .ok (.istore_n 2, 1) := by decide +kernel
theorem dX12_halls_9 : decode cX12_halls 9 = .ok (.iconst 0, 1) := by decide +kernel
theorem dX12_halls_10 : decode cX12_halls 10 = .ok (.istore_n 3, 1) := by decide +kernel
theorem dX12_halls_11 : decode cX12_halls 11 = .ok (.iconst 0, 1) := by decide +kernel
theorem dX12_halls_12 : decode cX12_halls 12 = .ok (.istore 4, 2) := by decide +kernel
theorem dX12_halls_14 : decode cX12_halls 14 = .ok (.iload 4, 2) := by decide +kernel
theorem dX12_halls_16 : decode cX12_halls 16 = .ok (.aload_n 0, 1) := by decide +kernel
theorem dX12_halls_17 : decode cX12_halls 17 = .ok (.invokevirtual 115, 3) := by decide +kernel
theorem dX12_halls_20 : decode cX12_halls 20 = .ok (.if_icmp .ge 52, 3) := by decide +kernel
theorem dX12_halls_23 : decode cX12_halls 23 = .ok (.aload_n 0, 1) := by decide +kernel
theorem dX12_halls_24 : decode cX12_halls 24 = .ok (.iload 4, 2) := by decide +kernel
theorem dX12_halls_26 : decode cX12_halls 26 = .ok (.invokevirtual 357, 3) := by decide +kernel
theorem dX12_halls_29 : decode cX12_halls 29 = .ok (.ifCond .ne 6, 3) := by decide +kernel
theorem dX12_halls_32 : decode cX12_halls 32 = .ok (.goto 34, 3) := by decide +kernel
theorem dX12_halls_35 : decode cX12_halls 35 = .ok (.iload_n 2, 1) := by decide +kernel
theorem dX12_halls_36 : decode cX12_halls 36 = .ok (.iconst 1, 1) := by decide +kernel
theorem dX12_halls_37 : decode cX12_halls 37 = .ok (.iload 4, 2) := by decide +kernel
theorem dX12_halls_39 : decode cX12_halls 39 = .ok (.ishl, 1) := by decide +kernel
theorem dX12_halls_40 : decode cX12_halls 40 = .ok (.ior, 1) := by decide +kernel
theorem dX12_halls_41 : decode cX12_halls 41 = .ok (.istore_n 2, 1) := by decide +kernel
theorem dX12_halls_42 : decode cX12_halls 42 = .ok (.iload_n 3, 1) := by decide +kernel
theorem dX12_halls_43 : decode cX12_halls 43 = .ok (.aload_n 0, 1) := by decide +kernel
theorem dX12_halls_44 : decode cX12_halls 44 = .ok (.getfield 28, 3) := by decide +kernel
theorem dX12_halls_47 : decode cX12_halls 47 = .ok (.bipush 29, 2) := by decide +kernel
theorem dX12_halls_49 : decode cX12_halls 49 = .ok (.iload 4, 2) := by decide +kernel
theorem dX12_halls_51 : decode cX12_halls 51 = .ok (.iadd, 1) := by decide +kernel
theorem dX12_halls_52 : decode cX12_halls 52 = .ok (.iaload, 1) := by decide +kernel
theorem dX12_halls_53 : decode cX12_halls 53 = .ok (.aload_n 0, 1) := by decide +kernel
theorem dX12_halls_54 : decode cX12_halls 54 = .ok (.getfield 28, 3) := by decide +kernel
theorem dX12_halls_57 : decode cX12_halls 57 = .ok (.bipush 29, 2) := by decide +kernel
theorem dX12_halls_59 : decode cX12_halls 59 = .ok (.iload 4, 2) := by decide +kernel
theorem dX12_halls_61 : decode cX12_halls 61 = .ok (.iadd, 1) := by decide +kernel
theorem dX12_halls_62 : decode cX12_halls 62 = .ok (.iaload, 1) := by decide +kernel
theorem dX12_halls_63 : decode cX12_halls 63 = .ok (.imul, 1) := by decide +kernel
theorem dX12_halls_64 : decode cX12_halls 64 = .ok (.iadd, 1) := by decide +kernel
theorem dX12_halls_65 : decode cX12_halls 65 = .ok (.istore_n 3, 1) := by decide +kernel
theorem dX12_halls_66 : decode cX12_halls 66 = .ok (.iinc 4 1, 3) := by decide +kernel
theorem dX12_halls_69 : decode cX12_halls 69 = .ok (.goto (-55), 3) := by decide +kernel
theorem dX12_halls_72 : decode cX12_halls 72 = .ok (.aload_n 0, 1) := by decide +kernel
theorem dX12_halls_73 : decode cX12_halls 73 = .ok (.iload_n 2, 1) := by decide +kernel
theorem dX12_halls_74 : decode cX12_halls 74 = .ok (.invokevirtual 439, 3) := by decide +kernel
theorem dX12_halls_77 : decode cX12_halls 77 = .ok (.aload_n 0, 1) := by decide +kernel
theorem dX12_halls_78 : decode cX12_halls 78 = .ok (.iconst 0, 1) := by decide +kernel
theorem dX12_halls_79 : decode cX12_halls 79 = .ok (.putfield 400, 3) := by decide +kernel
theorem dX12_halls_82 : decode cX12_halls 82 = .ok (.aload_n 0, 1) := by decide +kernel
theorem dX12_halls_83 : decode cX12_halls 83 = .ok (.iconst 1, 1) := by decide +kernel
theorem dX12_halls_84 : decode cX12_halls 84 = .ok (.putfield 418, 3) := by decide +kernel
theorem dX12_halls_87 : decode cX12_halls 87 = .ok (.iconst 0, 1) := by decide +kernel
theorem dX12_halls_88 : decode cX12_halls 88 = .ok (.istore 4, 2) := by decide +kernel
theorem dX12_halls_90 : decode cX12_halls 90 = .ok (.iconst 1, 1) := by decide +kernel
theorem dX12_halls_91 : decode cX12_halls 91 = .ok (.istore 5, 2) := by decide +kernel
theorem dX12_halls_93 : decode cX12_halls 93 = .ok (.iload 5, 2) := by decide +kernel
theorem dX12_halls_95 : decode cX12_halls 95 = .ok (.bipush 12, 2) := by decide +kernel
theorem dX12_halls_97 : decode cX12_halls 97 = .ok (.if_icmp .gt 65, 3) := by decide +kernel
theorem dX12_halls_100 : decode cX12_halls 100 = .ok (.iload_n 3, 1) := by decide +kernel
theorem dX12_halls_101 : decode cX12_halls 101 = .ok (.iload 5, 2) := by decide +kernel
theorem dX12_halls_103 : decode cX12_halls 103 = .ok (.idiv, 1) := by decide +kernel
theorem dX12_halls_104 : decode cX12_halls 104 = .ok (.istore 6, 2) := by decide +kernel
theorem dX12_halls_106 : decode cX12_halls 106 = .ok (.iload_n 3, 1) := by decide +kernel
theorem dX12_halls_107 : decode cX12_halls 107 = .ok (.iload 5, 2) := by decide +kernel
theorem dX12_halls_109 : decode cX12_halls 109 = .ok (.iload 6, 2) := by decide +kernel
theorem dX12_halls_111 : decode cX12_halls 111 = .ok (.imul, 1) := by decide +kernel
theorem dX12_halls_112 : decode cX12_halls 112 = .ok (.if_icmp .ne 44, 3) := by decide +kernel
theorem dX12_halls_115 : decode cX12_halls 115 = .ok (.iload 6, 2) := by decide +kernel
theorem dX12_halls_117 : decode cX12_halls 117 = .ok (.invokestatic 119, 3) := by decide +kernel
theorem dX12_halls_120 : decode cX12_halls 120 = .ok (.ifCond .eq 36, 3) := by decide +kernel
theorem dX12_halls_123 : decode cX12_halls 123 = .ok (.aload_n 0, 1) := by decide +kernel
theorem dX12_halls_124 : decode cX12_halls 124 = .ok (.iload_n 2, 1) := by decide +kernel
theorem dX12_halls_125 : decode cX12_halls 125 = .ok (.iload 5, 2) := by decide +kernel
theorem dX12_halls_127 : decode cX12_halls 127 = .ok (.iload 6, 2) := by decide +kernel
theorem dX12_halls_129 : decode cX12_halls 129 = .ok (.invokevirtual 455, 3) := by decide +kernel
theorem dX12_halls_132 : decode cX12_halls 132 = .ok (.ifCond .ne 6, 3) := by decide +kernel
theorem dX12_halls_135 : decode cX12_halls 135 = .ok (.goto 21, 3) := by decide +kernel
theorem dX12_halls_138 : decode cX12_halls 138 = .ok (.iload 4, 2) := by decide +kernel
theorem dX12_halls_140 : decode cX12_halls 140 = .ok (.iload_n 1, 1) := by decide +kernel
theorem dX12_halls_141 : decode cX12_halls 141 = .ok (.if_icmp .ne 12, 3) := by decide +kernel
theorem dX12_halls_144 : decode cX12_halls 144 = .ok (.bipush 100, 2) := by decide +kernel
theorem dX12_halls_146 : decode cX12_halls 146 = .ok (.iload 5, 2) := by decide +kernel
theorem dX12_halls_148 : decode cX12_halls 148 = .ok (.imul, 1) := by decide +kernel
theorem dX12_halls_149 : decode cX12_halls 149 = .ok (.iload 6, 2) := by decide +kernel
theorem dX12_halls_151 : decode cX12_halls 151 = .ok (.iadd, 1) := by decide +kernel
theorem dX12_halls_152 : decode cX12_halls 152 = .ok (.ireturn, 1) := by decide +kernel
theorem dX12_halls_153 : decode cX12_halls 153 = .ok (.iinc 4 1, 3) := by decide +kernel
theorem dX12_halls_156 : decode cX12_halls 156 = .ok (.iinc 5 1, 3) := by decide +kernel
theorem dX12_halls_159 : decode cX12_halls 159 = .ok (.goto (-66), 3) := by decide +kernel
theorem dX12_halls_162 : decode cX12_halls 162 = .ok (.iload_n 1, 1) := by decide +kernel
theorem dX12_halls_163 : decode cX12_halls 163 = .ok (.iconst (-1), 1) := by decide +kernel
theorem dX12_halls_164 : decode cX12_halls 164 = .ok (.if_icmp .ne 8, 3) := by decide +kernel
theorem dX12_halls_167 : decode cX12_halls 167 = .ok (.iload 4, 2) := by decide +kernel
theorem dX12_halls_169 : decode cX12_halls 169 = .ok (.goto 4, 3) := by decide +kernel
theorem dX12_halls_172 : decode cX12_halls 172 = .ok (.iconst (-1), 1) := by decide +kernel
theorem dX12_halls_173 : decode cX12_halls 173 = .ok (.ireturn, 1) := by decide +kernel
theorem dX12_within_0 : decode cX12_within 0 = .ok (.iconst 0, 1) := by decide +kernel
theorem dX12_within_1 : decode cX12_within 1 = .ok (.istore 5, 2) := by decide +kernel
theorem dX12_within_3 : decode cX12_within 3 = .ok (.iconst 0, 1) := by decide +kernel
theorem dX12_within_4 : decode cX12_within 4 = .ok (.istore 6, 2) := by decide +kernel
theorem dX12_within_6 : decode cX12_within 6 = .ok (.iconst 0, 1) := by decide +kernel
theorem dX12_within_7 : decode cX12_within 7 = .ok (.istore 7, 2) := by decide +kernel
theorem dX12_within_9 : decode cX12_within 9 = .ok (.iload 7, 2) := by decide +kernel
theorem dX12_within_11 : decode cX12_within 11 = .ok (.aload_n 0, 1) := by decide +kernel
theorem dX12_within_12 : decode cX12_within 12 = .ok (.invokevirtual 115, 3) := by decide +kernel
theorem dX12_within_15 : decode cX12_within 15 = .ok (.if_icmp .ge 109, 3) := by decide +kernel
theorem dX12_within_18 : decode cX12_within 18 = .ok (.aload_n 0, 1) := by decide +kernel
theorem dX12_within_19 : decode cX12_within 19 = .ok (.getfield 28, 3) := by decide +kernel
theorem dX12_within_22 : decode cX12_within 22 = .ok (.bipush 29, 2) := by decide +kernel
theorem dX12_within_24 : decode cX12_within 24 = .ok (.iload 7, 2) := by decide +kernel
theorem dX12_within_26 : decode cX12_within 26 = .ok (.iadd, 1) := by decide +kernel
theorem dX12_within_27 : decode cX12_within 27 = .ok (.iaload, 1) := by decide +kernel
theorem dX12_within_28 : decode cX12_within 28 = .ok (.istore 8, 2) := by decide +kernel
theorem dX12_within_30 : decode cX12_within 30 = .ok (.aload_n 0, 1) := by decide +kernel
theorem dX12_within_31 : decode cX12_within 31 = .ok (.iload 7, 2) := by decide +kernel
theorem dX12_within_33 : decode cX12_within 33 = .ok (.invokevirtual 137, 3) := by decide +kernel
theorem dX12_within_36 : decode cX12_within 36 = .ok (.ifCond .eq 82, 3) := by decide +kernel
theorem dX12_within_39 : decode cX12_within 39 = .ok (.aload_n 0, 1) := by decide +kernel
theorem dX12_within_40 : decode cX12_within 40 = .ok (.getfield 28, 3) := by decide +kernel
theorem dX12_within_43 : decode cX12_within 43 = .ok (.bipush 9, 2) := by decide +kernel
theorem dX12_within_45 : decode cX12_within 45 = .ok (.iload 7, 2) := by decide +kernel
theorem dX12_within_47 : decode cX12_within 47 = .ok (.iadd, 1) := by decide +kernel
theorem dX12_within_48 : decode cX12_within 48 = .ok (.iaload, 1) := by decide +kernel
theorem dX12_within_49 : decode cX12_within 49 = .ok (.iload_n 1, 1) := by decide +kernel
theorem dX12_within_50 : decode cX12_within 50 = .ok (.if_icmp .lt 68, 3) := by decide +kernel
theorem dX12_within_53 : decode cX12_within 53 = .ok (.aload_n 0, 1) := by decide +kernel
theorem dX12_within_54 : decode cX12_within 54 = .ok (.getfield 28, 3) := by decide +kernel
theorem dX12_within_57 : decode cX12_within 57 = .ok (.bipush 18, 2) := by decide +kernel
theorem dX12_within_59 : decode cX12_within 59 = .ok (.iload 7, 2) := by decide +kernel
theorem dX12_within_61 : decode cX12_within 61 = .ok (.iadd, 1) := by decide +kernel
theorem dX12_within_62 : decode cX12_within 62 = .ok (.iaload, 1) := by decide +kernel
theorem dX12_within_63 : decode cX12_within 63 = .ok (.iload_n 2, 1) := by decide +kernel
theorem dX12_within_64 : decode cX12_within 64 = .ok (.if_icmp .lt 54, 3) := by decide +kernel
theorem dX12_within_67 : decode cX12_within 67 = .ok (.aload_n 0, 1) := by decide +kernel
theorem dX12_within_68 : decode cX12_within 68 = .ok (.getfield 28, 3) := by decide +kernel
theorem dX12_within_71 : decode cX12_within 71 = .ok (.bipush 9, 2) := by decide +kernel
theorem dX12_within_73 : decode cX12_within 73 = .ok (.iload 7, 2) := by decide +kernel
theorem dX12_within_75 : decode cX12_within 75 = .ok (.iadd, 1) := by decide +kernel
theorem dX12_within_76 : decode cX12_within 76 = .ok (.iaload, 1) := by decide +kernel
theorem dX12_within_77 : decode cX12_within 77 = .ok (.iload 8, 2) := by decide +kernel
theorem dX12_within_79 : decode cX12_within 79 = .ok (.iadd, 1) := by decide +kernel
theorem dX12_within_80 : decode cX12_within 80 = .ok (.iload_n 3, 1) := by decide +kernel
theorem dX12_within_81 : decode cX12_within 81 = .ok (.if_icmp .gt 37, 3) := by decide +kernel
theorem dX12_within_84 : decode cX12_within 84 = .ok (.aload_n 0, 1) := by decide +kernel
theorem dX12_within_85 : decode cX12_within 85 = .ok (.getfield 28, 3) := by decide +kernel
theorem dX12_within_88 : decode cX12_within 88 = .ok (.bipush 18, 2) := by decide +kernel
theorem dX12_within_90 : decode cX12_within 90 = .ok (.iload 7, 2) := by decide +kernel
theorem dX12_within_92 : decode cX12_within 92 = .ok (.iadd, 1) := by decide +kernel
theorem dX12_within_93 : decode cX12_within 93 = .ok (.iaload, 1) := by decide +kernel
theorem dX12_within_94 : decode cX12_within 94 = .ok (.iload 8, 2) := by decide +kernel
theorem dX12_within_96 : decode cX12_within 96 = .ok (.iadd, 1) := by decide +kernel
theorem dX12_within_97 : decode cX12_within 97 = .ok (.iload 4, 2) := by decide +kernel
theorem dX12_within_99 : decode cX12_within 99 = .ok (.if_icmp .le 6, 3) := by decide +kernel
theorem dX12_within_102 : decode cX12_within 102 = .ok (.goto 16, 3) := by decide +kernel
theorem dX12_within_105 : decode cX12_within 105 = .ok (.iload 6, 2) := by decide +kernel
theorem dX12_within_107 : decode cX12_within 107 = .ok (.iload 8, 2) := by decide +kernel
theorem dX12_within_109 : decode cX12_within 109 = .ok (.iload 8, 2) := by decide +kernel
theorem dX12_within_111 : decode cX12_within 111 = .ok (.imul, 1) := by decide +kernel
theorem dX12_within_112 : decode cX12_within 112 = .ok (.iadd, 1) := by decide +kernel
theorem dX12_within_113 : decode cX12_within 113 = .ok (.istore 6, 2) := by decide +kernel
theorem dX12_within_115 : decode cX12_within 115 = .ok (.iinc 5 1, 3) := by decide +kernel
theorem dX12_within_118 : decode cX12_within 118 = .ok (.iinc 7 1, 3) := by decide +kernel
theorem dX12_within_121 : decode cX12_within 121 = .ok (.goto (-112), 3) := by decide +kernel
theorem dX12_within_124 : decode cX12_within 124 = .ok (.iload 5, 2) := by decide +kernel
theorem dX12_within_126 : decode cX12_within 126 = .ok (.iconst 2, 1) := by decide +kernel
theorem dX12_within_127 : decode cX12_within 127 = .ok (.if_icmp .ge 7, 3) := by decide +kernel
theorem dX12_within_130 : decode cX12_within 130 = .ok (.iconst (-1), 1) := by decide +kernel
theorem dX12_within_131 : decode cX12_within 131 = .ok (.goto 5, 3) := by decide +kernel
theorem dX12_within_134 : decode cX12_within 134 = .ok (.iload 6, 2) := by decide +kernel
theorem dX12_within_136 : decode cX12_within 136 = .ok (.ireturn, 1) := by decide +kernel
theorem dX12_inner_0 : decode cX12_inner 0 = .ok (.aload_n 0, 1) := by decide +kernel
theorem dX12_inner_1 : decode cX12_inner 1 = .ok (.getfield 28, 3) := by decide +kernel
theorem dX12_inner_4 : decode cX12_inner 4 = .ok (.bipush 67, 2) := by decide +kernel
theorem dX12_inner_6 : decode cX12_inner 6 = .ok (.iaload, 1) := by decide +kernel
theorem dX12_inner_7 : decode cX12_inner 7 = .ok (.istore_n 1, 1) := by decide +kernel
theorem dX12_inner_8 : decode cX12_inner 8 = .ok (.aload_n 0, 1) := by decide +kernel
theorem dX12_inner_9 : decode cX12_inner 9 = .ok (.getfield 28, 3) := by decide +kernel
theorem dX12_inner_12 : decode cX12_inner 12 = .ok (.bipush 68, 2) := by decide +kernel
theorem dX12_inner_14 : decode cX12_inner 14 = .ok (.iaload, 1) := by decide +kernel
theorem dX12_inner_15 : decode cX12_inner 15 = .ok (.istore_n 2, 1) := by decide +kernel
theorem dX12_inner_16 : decode cX12_inner 16 = .ok (.iconst 0, 1) := by decide +kernel
theorem dX12_inner_17 : decode cX12_inner 17 = .ok (.istore_n 3, 1) := by decide +kernel
theorem dX12_inner_18 : decode cX12_inner 18 = .ok (.iconst 0, 1) := by decide +kernel
theorem dX12_inner_19 : decode cX12_inner 19 = .ok (.istore 4, 2) := by decide +kernel
theorem dX12_inner_21 : decode cX12_inner 21 = .ok (.iload 4, 2) := by decide +kernel
theorem dX12_inner_23 : decode cX12_inner 23 = .ok (.iload_n 1, 1) := by decide +kernel
theorem dX12_inner_24 : decode cX12_inner 24 = .ok (.if_icmp .ge 94, 3) := by decide +kernel
theorem dX12_inner_27 : decode cX12_inner 27 = .ok (.iload 4, 2) := by decide +kernel
theorem dX12_inner_29 : decode cX12_inner 29 = .ok (.iconst 1, 1) := by decide +kernel
theorem dX12_inner_30 : decode cX12_inner 30 = .ok (.iadd, 1) := by decide +kernel
theorem dX12_inner_31 : decode cX12_inner 31 = .ok (.istore 5, 2) := by decide +kernel
theorem dX12_inner_33 : decode cX12_inner 33 = .ok (.iload 5, 2) := by decide +kernel
theorem dX12_inner_35 : decode cX12_inner 35 = .ok (.iload_n 1, 1) := by decide +kernel
theorem dX12_inner_36 : decode cX12_inner 36 = .ok (.if_icmp .gt 76, 3) := by decide +kernel
theorem dX12_inner_39 : decode cX12_inner 39 = .ok (.iconst 0, 1) := by decide +kernel
theorem dX12_inner_40 : decode cX12_inner 40 = .ok (.istore 6, 2) := by decide +kernel
theorem dX12_inner_42 : decode cX12_inner 42 = .ok (.iload 6, 2) := by decide +kernel
theorem dX12_inner_44 : decode cX12_inner 44 = .ok (.iload_n 2, 1) := by decide +kernel
theorem dX12_inner_45 : decode cX12_inner 45 = .ok (.if_icmp .ge 61, 3) := by decide +kernel
theorem dX12_inner_48 : decode cX12_inner 48 = .ok (.iload 6, 2) := by decide +kernel
theorem dX12_inner_50 : decode cX12_inner 50 = .ok (.iconst 1, 1) := by decide +kernel
theorem dX12_inner_51 : decode cX12_inner 51 = .ok (.iadd, 1) := by decide +kernel
theorem dX12_inner_52 : decode cX12_inner 52 = .ok (.istore 7, 2) := by decide +kernel
theorem dX12_inner_54 : decode cX12_inner 54 = .ok (.iload 7, 2) := by decide +kernel
theorem dX12_inner_56 : decode cX12_inner 56 = .ok (.iload_n 2, 1) := by decide +kernel
theorem dX12_inner_57 : decode cX12_inner 57 = .ok (.if_icmp .gt 43, 3) := by decide +kernel
theorem dX12_inner_60 : decode cX12_inner 60 = .ok (.iload_n 3, 1) := by decide +kernel
theorem dX12_inner_61 : decode cX12_inner 61 = .ok (.aload_n 0, 1) := by decide +kernel
theorem dX12_inner_62 : decode cX12_inner 62 = .ok (.iload 4, 2) := by decide +kernel
theorem dX12_inner_64 : decode cX12_inner 64 = .ok (.iload 6, 2) := by decide +kernel
theorem dX12_inner_66 : decode cX12_inner 66 = .ok (.iload 5, 2) := by decide +kernel
theorem dX12_inner_68 : decode cX12_inner 68 = .ok (.iload 7, 2) := by decide +kernel
theorem dX12_inner_70 : decode cX12_inner 70 = .ok (.invokevirtual 458, 3) := by decide +kernel
theorem dX12_inner_73 : decode cX12_inner 73 = .ok (.iload 5, 2) := by decide +kernel
theorem dX12_inner_75 : decode cX12_inner 75 = .ok (.iload 4, 2) := by decide +kernel
theorem dX12_inner_77 : decode cX12_inner 77 = .ok (.isub, 1) := by decide +kernel
theorem dX12_inner_78 : decode cX12_inner 78 = .ok (.iload 7, 2) := by decide +kernel
theorem dX12_inner_80 : decode cX12_inner 80 = .ok (.iload 6, 2) := by decide +kernel
theorem dX12_inner_82 : decode cX12_inner 82 = .ok (.isub, 1) := by decide +kernel
theorem dX12_inner_83 : decode cX12_inner 83 = .ok (.imul, 1) := by decide +kernel
theorem dX12_inner_84 : decode cX12_inner 84 = .ok (.if_icmp .ne 7, 3) := by decide +kernel
theorem dX12_inner_87 : decode cX12_inner 87 = .ok (.iconst 1, 1) := by decide +kernel
theorem dX12_inner_88 : decode cX12_inner 88 = .ok (.goto 4, 3) := by decide +kernel
theorem dX12_inner_91 : decode cX12_inner 91 = .ok (.iconst 0, 1) := by decide +kernel
theorem dX12_inner_92 : decode cX12_inner 92 = .ok (.iadd, 1) := by decide +kernel
theorem dX12_inner_93 : decode cX12_inner 93 = .ok (.istore_n 3, 1) := by decide +kernel
theorem dX12_inner_94 : decode cX12_inner 94 = .ok (.iinc 7 1, 3) := by decide +kernel
theorem dX12_inner_97 : decode cX12_inner 97 = .ok (.goto (-43), 3) := by decide +kernel
theorem dX12_inner_100 : decode cX12_inner 100 = .ok (.iinc 6 1, 3) := by decide +kernel
theorem dX12_inner_103 : decode cX12_inner 103 = .ok (.goto (-61), 3) := by decide +kernel
theorem dX12_inner_106 : decode cX12_inner 106 = .ok (.iinc 5 1, 3) := by decide +kernel
theorem dX12_inner_109 : decode cX12_inner 109 = .ok (.goto (-76), 3) := by decide +kernel
theorem dX12_inner_112 : decode cX12_inner 112 = .ok (.iinc 4 1, 3) := by decide +kernel
theorem dX12_inner_115 : decode cX12_inner 115 = .ok (.goto (-94), 3) := by decide +kernel
theorem dX12_inner_118 : decode cX12_inner 118 = .ok (.iload_n 3, 1) := by decide +kernel
theorem dX12_inner_119 : decode cX12_inner 119 = .ok (.aload_n 0, 1) := by decide +kernel
theorem dX12_inner_120 : decode cX12_inner 120 = .ok (.iconst 0, 1) := by decide +kernel
theorem dX12_inner_121 : decode cX12_inner 121 = .ok (.iconst 0, 1) := by decide +kernel
theorem dX12_inner_122 : decode cX12_inner 122 = .ok (.iload_n 1, 1) := by decide +kernel
theorem dX12_inner_123 : decode cX12_inner 123 = .ok (.iload_n 2, 1) := by decide +kernel
theorem dX12_inner_124 : decode cX12_inner 124 = .ok (.invokevirtual 458, 3) := by decide +kernel
theorem dX12_inner_127 : decode cX12_inner 127 = .ok (.iload_n 1, 1) := by decide +kernel
theorem dX12_inner_128 : decode cX12_inner 128 = .ok (.iload_n 2, 1) := by decide +kernel
theorem dX12_inner_129 : decode cX12_inner 129 = .ok (.imul, 1) := by decide +kernel
theorem dX12_inner_130 : decode cX12_inner 130 = .ok (.if_icmp .ne 7, 3) := by decide +kernel
theorem dX12_inner_133 : decode cX12_inner 133 = .ok (.iconst 1, 1) := by decide +kernel
theorem dX12_inner_134 : decode cX12_inner 134 = .ok (.goto 4, 3) := by decide +kernel
theorem dX12_inner_137 : decode cX12_inner 137 = .ok (.iconst 0, 1) := by decide +kernel
theorem dX12_inner_138 : decode cX12_inner 138 = .ok (.isub, 1) := by decide +kernel
theorem dX12_inner_139 : decode cX12_inner 139 = .ok (.ireturn, 1) := by decide +kernel
theorem dX12_isCross_0 : decode cX12_isCross 0 = .ok (.aload_n 0, 1) := by decide +kernel
theorem dX12_isCross_1 : decode cX12_isCross 1 = .ok (.iload_n 1, 1) := by decide +kernel
theorem dX12_isCross_2 : decode cX12_isCross 2 = .ok (.iconst 1, 1) := by decide +kernel
theorem dX12_isCross_3 : decode cX12_isCross 3 = .ok (.isub, 1) := by decide +kernel
theorem dX12_isCross_4 : decode cX12_isCross 4 = .ok (.iload_n 2, 1) := by decide +kernel
theorem dX12_isCross_5 : decode cX12_isCross 5 = .ok (.iconst 1, 1) := by decide +kernel
theorem dX12_isCross_6 : decode cX12_isCross 6 = .ok (.isub, 1) := by decide +kernel
theorem dX12_isCross_7 : decode cX12_isCross 7 = .ok (.invokevirtual 394, 3) := by decide +kernel
theorem dX12_isCross_10 : decode cX12_isCross 10 = .ok (.istore_n 3, 1) := by decide +kernel
theorem dX12_isCross_11 : decode cX12_isCross 11 = .ok (.aload_n 0, 1) := by decide +kernel
theorem dX12_isCross_12 : decode cX12_isCross 12 = .ok (.iload_n 1, 1) := by decide +kernel
theorem dX12_isCross_13 : decode cX12_isCross 13 = .ok (.iload_n 2, 1) := by decide +kernel
theorem dX12_isCross_14 : decode cX12_isCross 14 = .ok (.iconst 1, 1) := by decide +kernel
theorem dX12_isCross_15 : decode cX12_isCross 15 = .ok (.isub, 1) := by decide +kernel
theorem dX12_isCross_16 : decode cX12_isCross 16 = .ok (.invokevirtual 394, 3) := by decide +kernel
theorem dX12_isCross_19 : decode cX12_isCross 19 = .ok (.istore 4, 2) := by decide +kernel
theorem dX12_isCross_21 : decode cX12_isCross 21 = .ok (.aload_n 0, 1) := by decide +kernel
theorem dX12_isCross_22 : decode cX12_isCross 22 = .ok (.iload_n 1, 1) := by decide +kernel
theorem dX12_isCross_23 : decode cX12_isCross 23 = .ok (.iconst 1, 1) := by decide +kernel
theorem dX12_isCross_24 : decode cX12_isCross 24 = .ok (.isub, 1) := by decide +kernel
theorem dX12_isCross_25 : decode cX12_isCross 25 = .ok (.iload_n 2, 1) := by decide +kernel
theorem dX12_isCross_26 : decode cX12_isCross 26 = .ok (.invokevirtual 394, 3) := by decide +kernel
theorem dX12_isCross_29 : decode cX12_isCross 29 = .ok (.istore 5, 2) := by decide +kernel
theorem dX12_isCross_31 : decode cX12_isCross 31 = .ok (.aload_n 0, 1) := by decide +kernel
theorem dX12_isCross_32 : decode cX12_isCross 32 = .ok (.iload_n 1, 1) := by decide +kernel
theorem dX12_isCross_33 : decode cX12_isCross 33 = .ok (.iload_n 2, 1) := by decide +kernel
theorem dX12_isCross_34 : decode cX12_isCross 34 = .ok (.invokevirtual 394, 3) := by decide +kernel
theorem dX12_isCross_37 : decode cX12_isCross 37 = .ok (.istore 6, 2) := by decide +kernel
theorem dX12_isCross_39 : decode cX12_isCross 39 = .ok (.iload_n 3, 1) := by decide +kernel
theorem dX12_isCross_40 : decode cX12_isCross 40 = .ok (.iconst (-1), 1) := by decide +kernel
theorem dX12_isCross_41 : decode cX12_isCross 41 = .ok (.if_icmp .eq 25, 3) := by decide +kernel
theorem dX12_isCross_44 : decode cX12_isCross 44 = .ok (.iload 4, 2) := by decide +kernel
theorem dX12_isCross_46 : decode cX12_isCross 46 = .ok (.iconst (-1), 1) := by decide +kernel
theorem dX12_isCross_47 : decode cX12_isCross 47 = .ok (.if_icmp .eq 19, 3) := by decide +kernel
theorem dX12_isCross_50 : decode cX12_isCross 50 = .ok (.iload 5, 2) := by decide +kernel
theorem dX12_isCross_52 : decode cX12_isCross 52 = .ok (.iconst (-1), 1) := by decide +kernel
theorem dX12_isCross_53 : decode cX12_isCross 53 = .ok (.if_icmp .eq 13, 3) := by decide +kernel
theorem dX12_isCross_56 : decode cX12_isCross 56 = .ok (.iload 6, 2) := by decide +kernel
theorem dX12_isCross_58 : decode cX12_isCross 58 = .ok (.iconst (-1), 1) := by decide +kernel
theorem dX12_isCross_59 : decode cX12_isCross 59 = .ok (.if_icmp .eq 7, 3) := by decide +kernel
theorem dX12_isCross_62 : decode cX12_isCross 62 = .ok (.iconst 1, 1) := by decide +kernel
theorem dX12_isCross_63 : decode cX12_isCross 63 = .ok (.goto 4, 3) := by decide +kernel
theorem dX12_isCross_66 : decode cX12_isCross 66 = .ok (.iconst 0, 1) := by decide +kernel
theorem dX12_isCross_67 : decode cX12_isCross 67 = .ok (.istore 7, 2) := by decide +kernel
theorem dX12_isCross_69 : decode cX12_isCross 69 = .ok (.iload 7, 2) := by decide +kernel
theorem dX12_isCross_71 : decode cX12_isCross 71 = .ok (.ifCond .eq 46, 3) := by decide +kernel
theorem dX12_isCross_74 : decode cX12_isCross 74 = .ok (.iload_n 3, 1) := by decide +kernel
theorem dX12_isCross_75 : decode cX12_isCross 75 = .ok (.iload 4, 2) := by decide +kernel
theorem dX12_isCross_77 : decode cX12_isCross 77 = .ok (.if_icmp .eq 40, 3) := by decide +kernel
theorem dX12_isCross_80 : decode cX12_isCross 80 = .ok (.iload_n 3, 1) := by decide +kernel
theorem dX12_isCross_81 : decode cX12_isCross 81 = .ok (.iload 5, 2) := by decide +kernel
theorem dX12_isCross_83 : decode cX12_isCross 83 = .ok (.if_icmp .eq 34, 3) := by decide +kernel
theorem dX12_isCross_86 : decode cX12_isCross 86 = .ok (.iload_n 3, 1) := by decide +kernel
theorem dX12_isCross_87 : decode cX12_isCross 87 = .ok (.iload 6, 2) := by decide +kernel
theorem dX12_isCross_89 : decode cX12_isCross 89 = .ok (.if_icmp .eq 28, 3) := by decide +kernel
theorem dX12_isCross_92 : decode cX12_isCross 92 = .ok (.iload 4, 2) := by decide +kernel
theorem dX12_isCross_94 : decode cX12_isCross 94 = .ok (.iload 5, 2) := by decide +kernel
theorem dX12_isCross_96 : decode cX12_isCross 96 = .ok (.if_icmp .eq 21, 3) := by decide +kernel
theorem dX12_isCross_99 : decode cX12_isCross 99 = .ok (.iload 4, 2) := by decide +kernel
theorem dX12_isCross_101 : decode cX12_isCross 101 = .ok (.iload 6, 2) := by decide +kernel
theorem dX12_isCross_103 : decode cX12_isCross 103 = .ok (.if_icmp .eq 14, 3) := by decide +kernel
theorem dX12_isCross_106 : decode cX12_isCross 106 = .ok (.iload 5, 2) := by decide +kernel
theorem dX12_isCross_108 : decode cX12_isCross 108 = .ok (.iload 6, 2) := by decide +kernel
theorem dX12_isCross_110 : decode cX12_isCross 110 = .ok (.if_icmp .eq 7, 3) := by decide +kernel
theorem dX12_isCross_113 : decode cX12_isCross 113 = .ok (.iconst 1, 1) := by decide +kernel
theorem dX12_isCross_114 : decode cX12_isCross 114 = .ok (.goto 4, 3) := by decide +kernel
theorem dX12_isCross_117 : decode cX12_isCross 117 = .ok (.iconst 0, 1) := by decide +kernel
theorem dX12_isCross_118 : decode cX12_isCross 118 = .ok (.ireturn, 1) := by decide +kernel
theorem dX12_crosses_0 : decode cX12_crosses 0 = .ok (.iconst 0, 1) := by decide +kernel
theorem dX12_crosses_1 : decode cX12_crosses 1 = .ok (.istore_n 1, 1) := by decide +kernel
theorem dX12_crosses_2 : decode cX12_crosses 2 = .ok (.iconst 1, 1) := by decide +kernel
theorem dX12_crosses_3 : decode cX12_crosses 3 = .ok (.istore_n 2, 1) := by decide +kernel
theorem dX12_crosses_4 : decode cX12_crosses 4 = .ok (.iload_n 2, 1) := by decide +kernel
theorem dX12_crosses_5 : decode cX12_crosses 5 = .ok (.aload_n 0, 1) := by decide +kernel
theorem dX12_crosses_6 : decode cX12_crosses 6 = .ok (.getfield 28, 3) := by decide +kernel
theorem dX12_crosses_9 : decode cX12_crosses 9 = .ok (.bipush 67, 2) := by decide +kernel
theorem dX12_crosses_11 : decode cX12_crosses 11 = .ok (.iaload, 1) := by decide +kernel
theorem dX12_crosses_12 : decode cX12_crosses 12 = .ok (.if_icmp .ge 45, 3) := by decide +kernel
theorem dX12_crosses_15 : decode cX12_crosses 15 = .ok (.iconst 1, 1) := by decide +kernel
theorem dX12_crosses_16 : decode cX12_crosses 16 = .ok (.istore_n 3, 1) := by decide +kernel
theorem dX12_crosses_17 : decode cX12_crosses 17 = .ok (.iload_n 3, 1) := by decide +kernel
theorem dX12_crosses_18 : decode cX12_crosses 18 = .ok (.aload_n 0, 1) := by decide +kernel
theorem dX12_crosses_19 : decode cX12_crosses 19 = .ok (.getfield 28, 3) := by decide +kernel
theorem dX12_crosses_22 : decode cX12_crosses 22 = .ok (.bipush 68, 2) := by decide +kernel
theorem dX12_crosses_24 : decode cX12_crosses 24 = .ok (.iaload, 1) := by decide +kernel
theorem dX12_crosses_25 : decode cX12_crosses 25 = .ok (.if_icmp .ge 26, 3) := by decide +kernel
theorem dX12_crosses_28 : decode cX12_crosses 28 = .ok (.iload_n 1, 1) := by decide +kernel
theorem dX12_crosses_29 : decode cX12_crosses 29 = .ok (.aload_n 0, 1) := by decide +kernel
theorem dX12_crosses_30 : decode cX12_crosses 30 = .ok (.iload_n 2, 1) := by decide +kernel
theorem dX12_crosses_31 : decode cX12_crosses 31 = .ok (.iload_n 3, 1) := by decide +kernel
theorem dX12_crosses_32 : decode cX12_crosses 32 = .ok (.invokevirtual 462, 3) := by decide +kernel
theorem dX12_crosses_35 : decode cX12_crosses 35 = .ok (.ifCond .eq 7, 3) := by decide +kernel
theorem dX12_crosses_38 : decode cX12_crosses 38 = .ok (.iconst 1, 1) := by decide +kernel
theorem dX12_crosses_39 : decode cX12_crosses 39 = .ok (.goto 4, 3) := by decide +kernel
theorem dX12_crosses_42 : decode cX12_crosses 42 = .ok (.iconst 0, 1) := by decide +kernel
theorem dX12_crosses_43 : decode cX12_crosses 43 = .ok (.iadd, 1) := by decide +kernel
theorem dX12_crosses_44 : decode cX12_crosses 44 = .ok (.istore_n 1, 1) := by decide +kernel
theorem dX12_crosses_45 : decode cX12_crosses 45 = .ok (.iinc 3 1, 3) := by decide +kernel
theorem dX12_crosses_48 : decode cX12_crosses 48 = .ok (.goto (-31), 3) := by decide +kernel
theorem dX12_crosses_51 : decode cX12_crosses 51 = .ok (.iinc 2 1, 3) := by decide +kernel
theorem dX12_crosses_54 : decode cX12_crosses 54 = .ok (.goto (-50), 3) := by decide +kernel
theorem dX12_crosses_57 : decode cX12_crosses 57 = .ok (.iload_n 1, 1) := by decide +kernel
theorem dX12_crosses_58 : decode cX12_crosses 58 = .ok (.ireturn, 1) := by decide +kernel
theorem dX12_currents_0 : decode cX12_currents 0 = .ok (.iload_n 1, 1) := by decide +kernel
theorem dX12_currents_1 : decode cX12_currents 1 = .ok (.iconst 0, 1) := by decide +kernel
theorem dX12_currents_2 : decode cX12_currents 2 = .ok (.aload_n 0, 1) := by decide +kernel
theorem dX12_currents_3 : decode cX12_currents 3 = .ok (.getfield 28, 3) := by decide +kernel
theorem dX12_currents_6 : decode cX12_currents 6 = .ok (.bipush 68, 2) := by decide +kernel
theorem dX12_currents_8 : decode cX12_currents 8 = .ok (.iaload, 1) := by decide +kernel
theorem dX12_currents_9 : decode cX12_currents 9 = .ok (.invokestatic 18, 3) := by decide +kernel
theorem dX12_currents_12 : decode cX12_currents 12 = .ok (.ifCond .eq 12, 3) := by decide +kernel
theorem dX12_currents_15 : decode cX12_currents 15 = .ok (.iload_n 2, 1) := by decide +kernel
theorem dX12_currents_16 : decode cX12_currents 16 = .ok (.iconst 0, 1) := by decide +kernel
theorem dX12_currents_17 : decode cX12_currents 17 = .ok (.iconst 1, 1) := by decide +kernel
theorem dX12_currents_18 : decode cX12_currents 18 = .ok (.invokestatic 18, 3) := by decide +kernel
theorem dX12_currents_21 : decode cX12_currents 21 = .ok (.ifCond .ne 5, 3) := by decide +kernel
theorem dX12_currents_24 : decode cX12_currents 24 = .ok (.iconst (-1), 1) := by decide +kernel
theorem dX12_currents_25 : decode cX12_currents 25 = .ok (.ireturn, 1) := by decide +kernel
theorem dX12_currents_26 : decode cX12_currents 26 = .ok (.iconst 0, 1) := by decide +kernel
theorem dX12_currents_27 : decode cX12_currents 27 = .ok (.istore_n 3, 1) := by decide +kernel
theorem dX12_currents_28 : decode cX12_currents 28 = .ok (.iconst 0, 1) := by decide +kernel
theorem dX12_currents_29 : decode cX12_currents 29 = .ok (.istore 4, 2) := by decide +kernel
theorem dX12_currents_31 : decode cX12_currents 31 = .ok (.iload 4, 2) := by decide +kernel
theorem dX12_currents_33 : decode cX12_currents 33 = .ok (.aload_n 0, 1) := by decide +kernel
theorem dX12_currents_34 : decode cX12_currents 34 = .ok (.invokevirtual 115, 3) := by decide +kernel
theorem dX12_currents_37 : decode cX12_currents 37 = .ok (.if_icmp .ge 68, 3) := by decide +kernel
theorem dX12_currents_40 : decode cX12_currents 40 = .ok (.iload_n 3, 1) := by decide +kernel
theorem dX12_currents_41 : decode cX12_currents 41 = .ok (.aload_n 0, 1) := by decide +kernel
theorem dX12_currents_42 : decode cX12_currents 42 = .ok (.iload 4, 2) := by decide +kernel
theorem dX12_currents_44 : decode cX12_currents 44 = .ok (.invokevirtual 137, 3) := by decide +kernel
theorem dX12_currents_47 : decode cX12_currents 47 = .ok (.ifCond .eq 49, 3) := by decide +kernel
theorem dX12_currents_50 : decode cX12_currents 50 = .ok (.aload_n 0, 1) := by decide +kernel
theorem dX12_currents_51 : decode cX12_currents 51 = .ok (.getfield 28, 3) := by decide +kernel
theorem dX12_currents_54 : decode cX12_currents 54 = .ok (.bipush 18, 2) := by decide +kernel
theorem dX12_currents_56 : decode cX12_currents 56 = .ok (.iload 4, 2) := by decide +kernel
theorem dX12_currents_58 : decode cX12_currents 58 = .ok (.iadd, 1) := by decide +kernel
theorem dX12_currents_59 : decode cX12_currents 59 = .ok (.iaload, 1) := by decide +kernel
theorem dX12_currents_60 : decode cX12_currents 60 = .ok (.iload_n 2, 1) := by decide +kernel
theorem dX12_currents_61 : decode cX12_currents 61 = .ok (.ifCond .ne 7, 3) := by decide +kernel
theorem dX12_currents_64 : decode cX12_currents 64 = .ok (.iconst 0, 1) := by decide +kernel
theorem dX12_currents_65 : decode cX12_currents 65 = .ok (.goto 13, 3) := by decide +kernel
theorem dX12_currents_68 : decode cX12_currents 68 = .ok (.aload_n 0, 1) := by decide +kernel
theorem dX12_currents_69 : decode cX12_currents 69 = .ok (.getfield 28, 3) := by decide +kernel
theorem dX12_currents_72 : decode cX12_currents 72 = .ok (.bipush 29, 2) := by decide +kernel
theorem dX12_currents_74 : decode cX12_currents 74 = .ok (.iload 4, 2) := by decide +kernel
theorem dX12_currents_76 : decode cX12_currents 76 = .ok (.iadd, 1) := by decide +kernel
theorem dX12_currents_77 : decode cX12_currents 77 = .ok (.iaload, 1) := by decide +kernel
theorem dX12_currents_78 : decode cX12_currents 78 = .ok (.iadd, 1) := by decide +kernel
theorem dX12_currents_79 : decode cX12_currents 79 = .ok (.iload_n 1, 1) := by decide +kernel
theorem dX12_currents_80 : decode cX12_currents 80 = .ok (.if_icmp .ne 16, 3) := by decide +kernel
theorem dX12_currents_83 : decode cX12_currents 83 = .ok (.aload_n 0, 1) := by decide +kernel
theorem dX12_currents_84 : decode cX12_currents 84 = .ok (.getfield 28, 3) := by decide +kernel
theorem dX12_currents_87 : decode cX12_currents 87 = .ok (.bipush 29, 2) := by decide +kernel
theorem dX12_currents_89 : decode cX12_currents 89 = .ok (.iload 4, 2) := by decide +kernel
theorem dX12_currents_91 : decode cX12_currents 91 = .ok (.iadd, 1) := by decide +kernel
theorem dX12_currents_92 : decode cX12_currents 92 = .ok (.iaload, 1) := by decide +kernel
theorem dX12_currents_93 : decode cX12_currents 93 = .ok (.goto 4, 3) := by decide +kernel
theorem dX12_currents_96 : decode cX12_currents 96 = .ok (.iconst 0, 1) := by decide +kernel
theorem dX12_currents_97 : decode cX12_currents 97 = .ok (.iadd, 1) := by decide +kernel
theorem dX12_currents_98 : decode cX12_currents 98 = .ok (.istore_n 3, 1) := by decide +kernel
theorem dX12_currents_99 : decode cX12_currents 99 = .ok (.iinc 4 1, 3) := by decide +kernel
theorem dX12_currents_102 : decode cX12_currents 102 = .ok (.goto (-71), 3) := by decide +kernel
theorem dX12_currents_105 : decode cX12_currents 105 = .ok (.iload_n 3, 1) := by decide +kernel
theorem dX12_currents_106 : decode cX12_currents 106 = .ok (.ireturn, 1) := by decide +kernel
theorem dX12_fitting_0 : decode cX12_fitting 0 = .ok (.iload_n 1, 1) := by decide +kernel
theorem dX12_fitting_1 : decode cX12_fitting 1 = .ok (.invokestatic 119, 3) := by decide +kernel
theorem dX12_fitting_4 : decode cX12_fitting 4 = .ok (.ifCond .ne 5, 3) := by decide +kernel
theorem dX12_fitting_7 : decode cX12_fitting 7 = .ok (.iconst (-1), 1) := by decide +kernel
theorem dX12_fitting_8 : decode cX12_fitting 8 = .ok (.ireturn, 1) := by decide +kernel
theorem dX12_fitting_9 : decode cX12_fitting 9 = .ok (.aload_n 0, 1) := by decide +kernel
theorem dX12_fitting_10 : decode cX12_fitting 10 = .ok (.invokevirtual 351, 3) := by decide +kernel
theorem dX12_fitting_13 : decode cX12_fitting 13 = .ok (.iconst 0, 1) := by decide +kernel
theorem dX12_fitting_14 : decode cX12_fitting 14 = .ok (.istore_n 2, 1) := by decide +kernel
theorem dX12_fitting_15 : decode cX12_fitting 15 = .ok (.iconst 0, 1) := by decide +kernel
theorem dX12_fitting_16 : decode cX12_fitting 16 = .ok (.istore_n 3, 1) := by decide +kernel
theorem dX12_fitting_17 : decode cX12_fitting 17 = .ok (.iload_n 3, 1) := by decide +kernel
theorem dX12_fitting_18 : decode cX12_fitting 18 = .ok (.aload_n 0, 1) := by decide +kernel
theorem dX12_fitting_19 : decode cX12_fitting 19 = .ok (.getfield 28, 3) := by decide +kernel
theorem dX12_fitting_22 : decode cX12_fitting 22 = .ok (.bipush 67, 2) := by decide +kernel
theorem dX12_fitting_24 : decode cX12_fitting 24 = .ok (.iaload, 1) := by decide +kernel
theorem dX12_fitting_25 : decode cX12_fitting 25 = .ok (.if_icmp .ge 63, 3) := by decide +kernel
theorem dX12_fitting_28 : decode cX12_fitting 28 = .ok (.iconst 0, 1) := by decide +kernel
theorem dX12_fitting_29 : decode cX12_fitting 29 = .ok (.istore 4, 2) := by decide +kernel
theorem dX12_fitting_31 : decode cX12_fitting 31 = .ok (.iload 4, 2) := by decide +kernel
theorem dX12_fitting_33 : decode cX12_fitting 33 = .ok (.aload_n 0, 1) := by decide +kernel
theorem dX12_fitting_34 : decode cX12_fitting 34 = .ok (.getfield 28, 3) := by decide +kernel
theorem dX12_fitting_37 : decode cX12_fitting 37 = .ok (.bipush 68, 2) := by decide +kernel
theorem dX12_fitting_39 : decode cX12_fitting 39 = .ok (.iaload, 1) := by decide +kernel
theorem dX12_fitting_40 : decode cX12_fitting 40 = .ok (.if_icmp .ge 42, 3) := by decide +kernel
theorem dX12_fitting_43 : decode cX12_fitting 43 = .ok (.iload_n 2, 1) := by decide +kernel
theorem dX12_fitting_44 : decode cX12_fitting 44 = .ok (.aload_n 0, 1) := by decide +kernel
theorem dX12_fitting_45 : decode cX12_fitting 45 = .ok (.iload_n 1, 1) := by decide +kernel
theorem dX12_fitting_46 : decode cX12_fitting 46 = .ok (.iload_n 3, 1) := by decide +kernel
theorem dX12_fitting_47 : decode cX12_fitting 47 = .ok (.iload 4, 2) := by decide +kernel
theorem dX12_fitting_49 : decode cX12_fitting 49 = .ok (.aload_n 0, 1) := by decide +kernel
theorem dX12_fitting_50 : decode cX12_fitting 50 = .ok (.getfield 28, 3) := by decide +kernel
theorem dX12_fitting_53 : decode cX12_fitting 53 = .ok (.bipush 67, 2) := by decide +kernel
theorem dX12_fitting_55 : decode cX12_fitting 55 = .ok (.iaload, 1) := by decide +kernel
theorem dX12_fitting_56 : decode cX12_fitting 56 = .ok (.aload_n 0, 1) := by decide +kernel
theorem dX12_fitting_57 : decode cX12_fitting 57 = .ok (.getfield 28, 3) := by decide +kernel
theorem dX12_fitting_60 : decode cX12_fitting 60 = .ok (.bipush 68, 2) := by decide +kernel
theorem dX12_fitting_62 : decode cX12_fitting 62 = .ok (.iaload, 1) := by decide +kernel
theorem dX12_fitting_63 : decode cX12_fitting 63 = .ok (.invokevirtual 360, 3) := by decide +kernel
theorem dX12_fitting_66 : decode cX12_fitting 66 = .ok (.ifCond .eq 7, 3) := by decide +kernel
theorem dX12_fitting_69 : decode cX12_fitting 69 = .ok (.iconst 1, 1) := by decide +kernel
theorem dX12_fitting_70 : decode cX12_fitting 70 = .ok (.goto 4, 3) := by decide +kernel
theorem dX12_fitting_73 : decode cX12_fitting 73 = .ok (.iconst 0, 1) := by decide +kernel
theorem dX12_fitting_74 : decode cX12_fitting 74 = .ok (.iadd, 1) := by decide +kernel
theorem dX12_fitting_75 : decode cX12_fitting 75 = .ok (.istore_n 2, 1) := by decide +kernel
theorem dX12_fitting_76 : decode cX12_fitting 76 = .ok (.iinc 4 1, 3) := by decide +kernel
theorem dX12_fitting_79 : decode cX12_fitting 79 = .ok (.goto (-48), 3) := by decide +kernel
theorem dX12_fitting_82 : decode cX12_fitting 82 = .ok (.iinc 3 1, 3) := by decide +kernel
theorem dX12_fitting_85 : decode cX12_fitting 85 = .ok (.goto (-68), 3) := by decide +kernel
theorem dX12_fitting_88 : decode cX12_fitting 88 = .ok (.iload_n 2, 1) := by decide +kernel
theorem dX12_fitting_89 : decode cX12_fitting 89 = .ok (.ireturn, 1) := by decide +kernel
theorem dX12_alike_0 : decode cX12_alike 0 = .ok (.iconst 0, 1) := by decide +kernel
theorem dX12_alike_1 : decode cX12_alike 1 = .ok (.istore_n 1, 1) := by decide +kernel
theorem dX12_alike_2 : decode cX12_alike 2 = .ok (.iconst 0, 1) := by decide +kernel
theorem dX12_alike_3 : decode cX12_alike 3 = .ok (.istore_n 2, 1) := by decide +kernel
theorem dX12_alike_4 : decode cX12_alike 4 = .ok (.iload_n 2, 1) := by decide +kernel
theorem dX12_alike_5 : decode cX12_alike 5 = .ok (.aload_n 0, 1) := by decide +kernel
theorem dX12_alike_6 : decode cX12_alike 6 = .ok (.invokevirtual 115, 3) := by decide +kernel
theorem dX12_alike_9 : decode cX12_alike 9 = .ok (.if_icmp .ge 72, 3) := by decide +kernel
theorem dX12_alike_12 : decode cX12_alike 12 = .ok (.iload_n 2, 1) := by decide +kernel
theorem dX12_alike_13 : decode cX12_alike 13 = .ok (.iconst 1, 1) := by decide +kernel
theorem dX12_alike_14 : decode cX12_alike 14 = .ok (.iadd, 1) := by decide +kernel
theorem dX12_alike_15 : decode cX12_alike 15 = .ok (.istore_n 3, 1) := by decide +kernel
theorem dX12_alike_16 : decode cX12_alike 16 = .ok (.iload_n 3, 1) := by decide +kernel
theorem dX12_alike_17 : decode cX12_alike 17 = .ok (.aload_n 0, 1) := by decide +kernel
theorem dX12_alike_18 : decode cX12_alike 18 = .ok (.invokevirtual 115, 3) := by decide +kernel
theorem dX12_alike_21 : decode cX12_alike 21 = .ok (.if_icmp .ge 54, 3) := by decide +kernel
theorem dX12_alike_24 : decode cX12_alike 24 = .ok (.iload_n 1, 1) := by decide +kernel
theorem dX12_alike_25 : decode cX12_alike 25 = .ok (.aload_n 0, 1) := by decide +kernel
theorem dX12_alike_26 : decode cX12_alike 26 = .ok (.iload_n 2, 1) := by decide +kernel
theorem dX12_alike_27 : decode cX12_alike 27 = .ok (.invokevirtual 137, 3) := by decide +kernel
theorem dX12_alike_30 : decode cX12_alike 30 = .ok (.ifCond .eq 36, 3) := by decide +kernel
theorem dX12_alike_33 : decode cX12_alike 33 = .ok (.aload_n 0, 1) := by decide +kernel
theorem dX12_alike_34 : decode cX12_alike 34 = .ok (.iload_n 3, 1) := by decide +kernel
theorem dX12_alike_35 : decode cX12_alike 35 = .ok (.invokevirtual 137, 3) := by decide +kernel
theorem dX12_alike_38 : decode cX12_alike 38 = .ok (.ifCond .eq 28, 3) := by decide +kernel
theorem dX12_alike_41 : decode cX12_alike 41 = .ok (.aload_n 0, 1) := by decide +kernel
theorem dX12_alike_42 : decode cX12_alike 42 = .ok (.getfield 28, 3) := by decide +kernel
theorem dX12_alike_45 : decode cX12_alike 45 = .ok (.bipush 29, 2) := by decide +kernel
theorem dX12_alike_47 : decode cX12_alike 47 = .ok (.iload_n 2, 1) := by decide +kernel
theorem dX12_alike_48 : decode cX12_alike 48 = .ok (.iadd, 1) := by decide +kernel
theorem dX12_alike_49 : decode cX12_alike 49 = .ok (.iaload, 1) := by decide +kernel
theorem dX12_alike_50 : decode cX12_alike 50 = .ok (.aload_n 0, 1) := by decide +kernel
theorem dX12_alike_51 : decode cX12_alike 51 = .ok (.getfield 28, 3) := by decide +kernel
theorem dX12_alike_54 : decode cX12_alike 54 = .ok (.bipush 29, 2) := by decide +kernel
theorem dX12_alike_56 : decode cX12_alike 56 = .ok (.iload_n 3, 1) := by decide +kernel
theorem dX12_alike_57 : decode cX12_alike 57 = .ok (.iadd, 1) := by decide +kernel
theorem dX12_alike_58 : decode cX12_alike 58 = .ok (.iaload, 1) := by decide +kernel
theorem dX12_alike_59 : decode cX12_alike 59 = .ok (.if_icmp .ne 7, 3) := by decide +kernel
theorem dX12_alike_62 : decode cX12_alike 62 = .ok (.iconst 1, 1) := by decide +kernel
theorem dX12_alike_63 : decode cX12_alike 63 = .ok (.goto 4, 3) := by decide +kernel
theorem dX12_alike_66 : decode cX12_alike 66 = .ok (.iconst 0, 1) := by decide +kernel
theorem dX12_alike_67 : decode cX12_alike 67 = .ok (.iadd, 1) := by decide +kernel
theorem dX12_alike_68 : decode cX12_alike 68 = .ok (.istore_n 1, 1) := by decide +kernel
theorem dX12_alike_69 : decode cX12_alike 69 = .ok (.iinc 3 1, 3) := by decide +kernel
theorem dX12_alike_72 : decode cX12_alike 72 = .ok (.goto (-56), 3) := by decide +kernel
theorem dX12_alike_75 : decode cX12_alike 75 = .ok (.iinc 2 1, 3) := by decide +kernel
theorem dX12_alike_78 : decode cX12_alike 78 = .ok (.goto (-74), 3) := by decide +kernel
theorem dX12_alike_81 : decode cX12_alike 81 = .ok (.iload_n 1, 1) := by decide +kernel
theorem dX12_alike_82 : decode cX12_alike 82 = .ok (.ireturn, 1) := by decide +kernel
theorem dX12_seen_0 : decode cX12_seen 0 = .ok (.iload_n 1, 1) := by decide +kernel
theorem dX12_seen_1 : decode cX12_seen 1 = .ok (.invokestatic 149, 3) := by decide +kernel
theorem dX12_seen_4 : decode cX12_seen 4 = .ok (.ifCond .eq 17, 3) := by decide +kernel
theorem dX12_seen_7 : decode cX12_seen 7 = .ok (.iload_n 2, 1) := by decide +kernel
theorem dX12_seen_8 : decode cX12_seen 8 = .ok (.invokestatic 149, 3) := by decide +kernel
theorem dX12_seen_11 : decode cX12_seen 11 = .ok (.ifCond .eq 10, 3) := by decide +kernel
theorem dX12_seen_14 : decode cX12_seen 14 = .ok (.iload_n 3, 1) := by decide +kernel
theorem dX12_seen_15 : decode cX12_seen 15 = .ok (.invokestatic 119, 3) := by decide +kernel
theorem dX12_seen_18 : decode cX12_seen 18 = .ok (.ifCond .ne 9, 3) := by decide +kernel
theorem dX12_seen_21 : decode cX12_seen 21 = .ok (.aload_n 0, 1) := by decide +kernel
theorem dX12_seen_22 : decode cX12_seen 22 = .ok (.iconst (-1), 1) := by decide +kernel
theorem dX12_seen_23 : decode cX12_seen 23 = .ok (.invokevirtual 109, 3) := by decide +kernel
theorem dX12_seen_26 : decode cX12_seen 26 = .ok (.ireturn, 1) := by decide +kernel
theorem dX12_seen_27 : decode cX12_seen 27 = .ok (.bipush 47, 2) := by decide +kernel
theorem dX12_seen_29 : decode cX12_seen 29 = .ok (.iconst 3, 1) := by decide +kernel
theorem dX12_seen_30 : decode cX12_seen 30 = .ok (.aload_n 0, 1) := by decide +kernel
theorem dX12_seen_31 : decode cX12_seen 31 = .ok (.getfield 28, 3) := by decide +kernel
theorem dX12_seen_34 : decode cX12_seen 34 = .ok (.bipush 70, 2) := by decide +kernel
theorem dX12_seen_36 : decode cX12_seen 36 = .ok (.iaload, 1) := by decide +kernel
theorem dX12_seen_37 : decode cX12_seen 37 = .ok (.imul, 1) := by decide +kernel
theorem dX12_seen_38 : decode cX12_seen 38 = .ok (.iadd, 1) := by decide +kernel
theorem dX12_seen_39 : decode cX12_seen 39 = .ok (.istore 4, 2) := by decide +kernel
theorem dX12_seen_41 : decode cX12_seen 41 = .ok (.aload_n 0, 1) := by decide +kernel
theorem dX12_seen_42 : decode cX12_seen 42 = .ok (.getfield 28, 3) := by decide +kernel
theorem dX12_seen_45 : decode cX12_seen 45 = .ok (.bipush 70, 2) := by decide +kernel
theorem dX12_seen_47 : decode cX12_seen 47 = .ok (.iaload, 1) := by decide +kernel
theorem dX12_seen_48 : decode cX12_seen 48 = .ok (.bipush 6, 2) := by decide +kernel
theorem dX12_seen_50 : decode cX12_seen 50 = .ok (.if_icmp .ne 10, 3) := by decide +kernel
theorem dX12_seen_53 : decode cX12_seen 53 = .ok (.aload_n 0, 1) := by decide +kernel
theorem dX12_seen_54 : decode cX12_seen 54 = .ok (.bipush (-5), 2) := by decide +kernel
theorem dX12_seen_56 : decode cX12_seen 56 = .ok (.invokevirtual 109, 3) := by decide +kernel
theorem dX12_seen_59 : decode cX12_seen 59 = .ok (.ireturn, 1) := by decide +kernel
theorem dX12_seen_60 : decode cX12_seen 60 = .ok (.aload_n 0, 1) := by decide +kernel
theorem dX12_seen_61 : decode cX12_seen 61 = .ok (.getfield 28, 3) := by decide +kernel
theorem dX12_seen_64 : decode cX12_seen 64 = .ok (.iload 4, 2) := by decide +kernel
theorem dX12_seen_66 : decode cX12_seen 66 = .ok (.iload_n 1, 1) := by decide +kernel
theorem dX12_seen_67 : decode cX12_seen 67 = .ok (.iastore, 1) := by decide +kernel
theorem dX12_seen_68 : decode cX12_seen 68 = .ok (.aload_n 0, 1) := by decide +kernel
theorem dX12_seen_69 : decode cX12_seen 69 = .ok (.getfield 28, 3) := by decide +kernel
theorem dX12_seen_72 : decode cX12_seen 72 = .ok (.iload 4, 2) := by decide +kernel
theorem dX12_seen_74 : decode cX12_seen 74 = .ok (.iconst 1, 1) := by decide +kernel
theorem dX12_seen_75 : decode cX12_seen 75 = .ok (.iadd, 1) := by decide +kernel
theorem dX12_seen_76 : decode cX12_seen 76 = .ok (.iload_n 2, 1) := by decide +kernel
theorem dX12_seen_77 : decode cX12_seen 77 = .ok (.iastore, 1) := by decide +kernel
theorem dX12_seen_78 : decode cX12_seen 78 = .ok (.aload_n 0, 1) := by decide +kernel
theorem dX12_seen_79 : decode cX12_seen 79 = .ok (.getfield 28, 3) := by decide +kernel
theorem dX12_seen_82 : decode cX12_seen 82 = .ok (.iload 4, 2) := by decide +kernel
theorem dX12_seen_84 : decode cX12_seen 84 = .ok (.iconst 2, 1) := by decide +kernel
theorem dX12_seen_85 : decode cX12_seen 85 = .ok (.iadd, 1) := by decide +kernel
theorem dX12_seen_86 : decode cX12_seen 86 = .ok (.iload_n 3, 1) := by decide +kernel
theorem dX12_seen_87 : decode cX12_seen 87 = .ok (.iastore, 1) := by decide +kernel
theorem dX12_seen_88 : decode cX12_seen 88 = .ok (.aload_n 0, 1) := by decide +kernel
theorem dX12_seen_89 : decode cX12_seen 89 = .ok (.getfield 28, 3) := by decide +kernel
theorem dX12_seen_92 : decode cX12_seen 92 = .ok (.bipush 70, 2) := by decide +kernel
theorem dX12_seen_94 : decode cX12_seen 94 = .ok (.dup2, 1) := by decide +kernel
theorem dX12_seen_95 : decode cX12_seen 95 = .ok (.iaload, 1) := by decide +kernel
theorem dX12_seen_96 : decode cX12_seen 96 = .ok (.iconst 1, 1) := by decide +kernel
theorem dX12_seen_97 : decode cX12_seen 97 = .ok (.iadd, 1) := by decide +kernel
theorem dX12_seen_98 : decode cX12_seen 98 = .ok (.iastore, 1) := by decide +kernel
theorem dX12_seen_99 : decode cX12_seen 99 = .ok (.aload_n 0, 1) := by decide +kernel
theorem dX12_seen_100 : decode cX12_seen 100 = .ok (.aload_n 0, 1) := by decide +kernel
theorem dX12_seen_101 : decode cX12_seen 101 = .ok (.getfield 28, 3) := by decide +kernel
theorem dX12_seen_104 : decode cX12_seen 104 = .ok (.bipush 70, 2) := by decide +kernel
theorem dX12_seen_106 : decode cX12_seen 106 = .ok (.iaload, 1) := by decide +kernel
theorem dX12_seen_107 : decode cX12_seen 107 = .ok (.invokevirtual 14, 3) := by decide +kernel
theorem dX12_seen_110 : decode cX12_seen 110 = .ok (.ireturn, 1) := by decide +kernel
theorem dX12_forget_0 : decode cX12_forget 0 = .ok (.aload_n 0, 1) := by decide +kernel
theorem dX12_forget_1 : decode cX12_forget 1 = .ok (.getfield 28, 3) := by decide +kernel
theorem dX12_forget_4 : decode cX12_forget 4 = .ok (.bipush 70, 2) := by decide +kernel
theorem dX12_forget_6 : decode cX12_forget 6 = .ok (.iaload, 1) := by decide +kernel
theorem dX12_forget_7 : decode cX12_forget 7 = .ok (.istore_n 1, 1) := by decide +kernel
theorem dX12_forget_8 : decode cX12_forget 8 = .ok (.aload_n 0, 1) := by decide +kernel
theorem dX12_forget_9 : decode cX12_forget 9 = .ok (.getfield 28, 3) := by decide +kernel
theorem dX12_forget_12 : decode cX12_forget 12 = .ok (.bipush 70, 2) := by decide +kernel
theorem dX12_forget_14 : decode cX12_forget 14 = .ok (.iconst 0, 1) := by decide +kernel
theorem dX12_forget_15 : decode cX12_forget 15 = .ok (.iastore, 1) := by decide +kernel
theorem dX12_forget_16 : decode cX12_forget 16 = .ok (.iload_n 1, 1) := by decide +kernel
theorem dX12_forget_17 : decode cX12_forget 17 = .ok (.ireturn, 1) := by decide +kernel
theorem dX12_laysFloors_0 : decode cX12_laysFloors 0 = .ok (.iconst 0, 1) := by decide +kernel
theorem dX12_laysFloors_1 : decode cX12_laysFloors 1 = .ok (.istore_n 1, 1) := by decide +kernel
theorem dX12_laysFloors_2 : decode cX12_laysFloors 2 = .ok (.iload_n 1, 1) := by decide +kernel
theorem dX12_laysFloors_3 : decode cX12_laysFloors 3 = .ok (.sipush 1296, 3) := by decide +kernel
theorem dX12_laysFloors_6 : decode cX12_laysFloors 6 = .ok (.if_icmp .ge 16, 3) := by decide +kernel
theorem dX12_laysFloors_9 : decode cX12_laysFloors 9 = .ok (.aload_n 0, 1) := by decide +kernel
theorem dX12_laysFloors_10 : decode cX12_laysFloors 10 = .ok (.getfield 90, 3) := by decide +kernel
theorem dX12_laysFloors_13 : decode cX12_laysFloors 13 = .ok (.iload_n 1, 1) := by decide +kernel
theorem dX12_laysFloors_14 : decode cX12_laysFloors 14 = .ok (.iconst 0, 1) := by decide +kernel
theorem dX12_laysFloors_15 : decode cX12_laysFloors 15 = .ok (.iastore, 1) := by decide +kernel
theorem dX12_laysFloors_16 : decode cX12_laysFloors 16 = .ok (.iinc 1 1, 3) := by decide +kernel
theorem dX12_laysFloors_19 : decode cX12_laysFloors 19 = .ok (.goto (-17), 3) := by decide +kernel
theorem dX12_laysFloors_22 : decode cX12_laysFloors 22 = .ok (.aload_n 0, 1) := by decide +kernel
theorem dX12_laysFloors_23 : decode cX12_laysFloors 23 = .ok (.iconst 1, 1) := by decide +kernel
theorem dX12_laysFloors_24 : decode cX12_laysFloors 24 = .ok (.invokevirtual 445, 3) := by decide +kernel
theorem dX12_laysFloors_27 : decode cX12_laysFloors 27 = .ok (.return_, 1) := by decide +kernel
theorem dX12_floors_0 : decode cX12_floors 0 = .ok (.aload_n 0, 1) := by decide +kernel
theorem dX12_floors_1 : decode cX12_floors 1 = .ok (.invokevirtual 465, 3) := by decide +kernel
theorem dX12_floors_4 : decode cX12_floors 4 = .ok (.aload_n 0, 1) := by decide +kernel
theorem dX12_floors_5 : decode cX12_floors 5 = .ok (.getfield 406, 3) := by decide +kernel
theorem dX12_floors_8 : decode cX12_floors 8 = .ok (.ireturn, 1) := by decide +kernel
theorem dX12_mostAt_0 : decode cX12_mostAt 0 = .ok (.iconst 0, 1) := by decide +kernel
theorem dX12_mostAt_1 : decode cX12_mostAt 1 = .ok (.istore_n 2, 1) := by decide +kernel
theorem dX12_mostAt_2 : decode cX12_mostAt 2 = .ok (.iconst 0, 1) := by decide +kernel
theorem dX12_mostAt_3 : decode cX12_mostAt 3 = .ok (.istore_n 3, 1) := by decide +kernel
theorem dX12_mostAt_4 : decode cX12_mostAt 4 = .ok (.iload_n 3, 1) := by decide +kernel
theorem dX12_mostAt_5 : decode cX12_mostAt 5 = .ok (.aload_n 0, 1) := by decide +kernel
theorem dX12_mostAt_6 : decode cX12_mostAt 6 = .ok (.invokevirtual 115, 3) := by decide +kernel
theorem dX12_mostAt_9 : decode cX12_mostAt 9 = .ok (.if_icmp .ge 25, 3) := by decide +kernel
theorem dX12_mostAt_12 : decode cX12_mostAt 12 = .ok (.iload_n 2, 1) := by decide +kernel
theorem dX12_mostAt_13 : decode cX12_mostAt 13 = .ok (.aload_n 0, 1) := by decide +kernel
theorem dX12_mostAt_14 : decode cX12_mostAt 14 = .ok (.getfield 90, 3) := by decide +kernel
theorem dX12_mostAt_17 : decode cX12_mostAt 17 = .ok (.bipush 9, 2) := by decide +kernel
theorem dX12_mostAt_19 : decode cX12_mostAt 19 = .ok (.iload_n 1, 1) := by decide +kernel
theorem dX12_mostAt_20 : decode cX12_mostAt 20 = .ok (.imul, 1) := by decide +kernel
theorem dX12_mostAt_21 : decode cX12_mostAt 21 = .ok (.iload_n 3, 1) := by decide +kernel
theorem dX12_mostAt_22 : decode cX12_mostAt 22 = .ok (.iadd, 1) := by decide +kernel
theorem dX12_mostAt_23 : decode cX12_mostAt 23 = .ok (.iaload, 1) := by decide +kernel
theorem dX12_mostAt_24 : decode cX12_mostAt 24 = .ok (.invokestatic 367, 3) := by decide +kernel
theorem dX12_mostAt_27 : decode cX12_mostAt 27 = .ok (.istore_n 2, 1) := by decide +kernel
theorem dX12_mostAt_28 : decode cX12_mostAt 28 = .ok (.iinc 3 1, 3) := by decide +kernel
theorem dX12_mostAt_31 : decode cX12_mostAt 31 = .ok (.goto (-27), 3) := by decide +kernel
theorem dX12_mostAt_34 : decode cX12_mostAt 34 = .ok (.iload_n 2, 1) := by decide +kernel
theorem dX12_mostAt_35 : decode cX12_mostAt 35 = .ok (.ireturn, 1) := by decide +kernel
theorem dX12_look_0 : decode cX12_look 0 = .ok (.iload_n 1, 1) := by decide +kernel
theorem dX12_look_1 : decode cX12_look 1 = .ok (.iconst 0, 1) := by decide +kernel
theorem dX12_look_2 : decode cX12_look 2 = .ok (.iconst 2, 1) := by decide +kernel
theorem dX12_look_3 : decode cX12_look 3 = .ok (.invokestatic 18, 3) := by decide +kernel
theorem dX12_look_6 : decode cX12_look 6 = .ok (.ifCond .ne 5, 3) := by decide +kernel
theorem dX12_look_9 : decode cX12_look 9 = .ok (.iconst (-1), 1) := by decide +kernel
theorem dX12_look_10 : decode cX12_look 10 = .ok (.ireturn, 1) := by decide +kernel
theorem dX12_look_11 : decode cX12_look 11 = .ok (.aload_n 0, 1) := by decide +kernel
theorem dX12_look_12 : decode cX12_look 12 = .ok (.invokevirtual 465, 3) := by decide +kernel
theorem dX12_look_15 : decode cX12_look 15 = .ok (.iconst (-1), 1) := by decide +kernel
theorem dX12_look_16 : decode cX12_look 16 = .ok (.istore_n 2, 1) := by decide +kernel
theorem dX12_look_17 : decode cX12_look 17 = .ok (.ldc 188, 2) := by decide +kernel
theorem dX12_look_19 : decode cX12_look 19 = .ok (.istore_n 3, 1) := by decide +kernel
theorem dX12_look_20 : decode cX12_look 20 = .ok (.iconst 0, 1) := by decide +kernel
theorem dX12_look_21 : decode cX12_look 21 = .ok (.istore 4, 2) := by decide +kernel
theorem dX12_look_23 : decode cX12_look 23 = .ok (.iload 4, 2) := by decide +kernel
theorem dX12_look_25 : decode cX12_look 25 = .ok (.sipush 144, 3) := by decide +kernel
theorem dX12_look_28 : decode cX12_look 28 = .ok (.if_icmp .ge 44, 3) := by decide +kernel
theorem dX12_look_31 : decode cX12_look 31 = .ok (.aload_n 0, 1) := by decide +kernel
theorem dX12_look_32 : decode cX12_look 32 = .ok (.getfield 406, 3) := by decide +kernel
theorem dX12_look_35 : decode cX12_look 35 = .ok (.ifCond .le 37, 3) := by decide +kernel
theorem dX12_look_38 : decode cX12_look 38 = .ok (.aload_n 0, 1) := by decide +kernel
theorem dX12_look_39 : decode cX12_look 39 = .ok (.iload 4, 2) := by decide +kernel
theorem dX12_look_41 : decode cX12_look 41 = .ok (.invokevirtual 468, 3) := by decide +kernel
theorem dX12_look_44 : decode cX12_look 44 = .ok (.istore 5, 2) := by decide +kernel
theorem dX12_look_46 : decode cX12_look 46 = .ok (.iload 5, 2) := by decide +kernel
theorem dX12_look_48 : decode cX12_look 48 = .ok (.ifCond .eq 18, 3) := by decide +kernel
theorem dX12_look_51 : decode cX12_look 51 = .ok (.iload 5, 2) := by decide +kernel
theorem dX12_look_53 : decode cX12_look 53 = .ok (.iload_n 3, 1) := by decide +kernel
theorem dX12_look_54 : decode cX12_look 54 = .ok (.if_icmp .lt 6, 3) := by decide +kernel
theorem dX12_look_57 : decode cX12_look 57 = .ok (.goto 9, 3) := by decide +kernel
theorem dX12_look_60 : decode cX12_look 60 = .ok (.iload 5, 2) := by decide +kernel
theorem dX12_look_62 : decode cX12_look 62 = .ok (.istore_n 3, 1) := by decide +kernel
theorem dX12_look_63 : decode cX12_look 63 = .ok (.iload 4, 2) := by decide +kernel
theorem dX12_look_65 : decode cX12_look 65 = .ok (.istore_n 2, 1) := by decide +kernel
theorem dX12_look_66 : decode cX12_look 66 = .ok (.iinc 4 1, 3) := by decide +kernel
theorem dX12_look_69 : decode cX12_look 69 = .ok (.goto (-46), 3) := by decide +kernel
theorem dX12_look_72 : decode cX12_look 72 = .ok (.iload_n 2, 1) := by decide +kernel
theorem dX12_look_73 : decode cX12_look 73 = .ok (.iconst (-1), 1) := by decide +kernel
theorem dX12_look_74 : decode cX12_look 74 = .ok (.if_icmp .ne 5, 3) := by decide +kernel
theorem dX12_look_77 : decode cX12_look 77 = .ok (.iconst (-1), 1) := by decide +kernel
theorem dX12_look_78 : decode cX12_look 78 = .ok (.ireturn, 1) := by decide +kernel
theorem dX12_look_79 : decode cX12_look 79 = .ok (.iload_n 1, 1) := by decide +kernel
theorem dX12_look_80 : decode cX12_look 80 = .ok (.ifCond .ne 10, 3) := by decide +kernel
theorem dX12_look_83 : decode cX12_look 83 = .ok (.iload_n 2, 1) := by decide +kernel
theorem dX12_look_84 : decode cX12_look 84 = .ok (.bipush 12, 2) := by decide +kernel
theorem dX12_look_86 : decode cX12_look 86 = .ok (.irem, 1) := by decide +kernel
theorem dX12_look_87 : decode cX12_look 87 = .ok (.goto 16, 3) := by decide +kernel
theorem dX12_look_90 : decode cX12_look 90 = .ok (.iload_n 1, 1) := by decide +kernel
theorem dX12_look_91 : decode cX12_look 91 = .ok (.iconst 1, 1) := by decide +kernel
theorem dX12_look_92 : decode cX12_look 92 = .ok (.if_icmp .ne 10, 3) := by decide +kernel
theorem dX12_look_95 : decode cX12_look 95 = .ok (.iload_n 2, 1) := by decide +kernel
theorem dX12_look_96 : decode cX12_look 96 = .ok (.bipush 12, 2) := by decide +kernel
theorem dX12_look_98 : decode cX12_look 98 = .ok (.idiv, 1) := by decide +kernel
theorem dX12_look_99 : decode cX12_look 99 = .ok (.goto 4, 3) := by decide +kernel
theorem dX12_look_102 : decode cX12_look 102 = .ok (.iload_n 3, 1) := by decide +kernel
theorem dX12_look_103 : decode cX12_look 103 = .ok (.ireturn, 1) := by decide +kernel
theorem dX12_few_0 : decode cX12_few 0 = .ok (.iload_n 1, 1) := by decide +kernel
theorem dX12_few_1 : decode cX12_few 1 = .ok (.iconst 1, 1) := by decide +kernel
theorem dX12_few_2 : decode cX12_few 2 = .ok (.bipush 20, 2) := by decide +kernel
theorem dX12_few_4 : decode cX12_few 4 = .ok (.invokestatic 18, 3) := by decide +kernel
theorem dX12_few_7 : decode cX12_few 7 = .ok (.ifCond .eq 13, 3) := by decide +kernel
theorem dX12_few_10 : decode cX12_few 10 = .ok (.iload_n 2, 1) := by decide +kernel
theorem dX12_few_11 : decode cX12_few 11 = .ok (.iconst 0, 1) := by decide +kernel
theorem dX12_few_12 : decode cX12_few 12 = .ok (.bipush 99, 2) := by decide +kernel
theorem dX12_few_14 : decode cX12_few 14 = .ok (.invokestatic 18, 3) := by decide +kernel
theorem dX12_few_17 : decode cX12_few 17 = .ok (.ifCond .ne 7, 3) := by decide +kernel
theorem dX12_few_20 : decode cX12_few 20 = .ok (.ldc2_w 471, 3) := by decide +kernel
theorem dX12_few_23 : decode cX12_few 23 = .ok (.lreturn, 1) := by decide +kernel
theorem dX12_few_24 : decode cX12_few 24 = .ok (.iconst 0, 1) := by decide +kernel
theorem dX12_few_25 : decode cX12_few 25 = .ok (.istore_n 3, 1) := by decide +kernel
theorem dX12_few_26 : decode cX12_few 26 = .ok (.iload_n 3, 1) := by decide +kernel
theorem dX12_few_27 : decode cX12_few 27 = .ok (.bipush 20, 2) := by decide +kernel
theorem dX12_few_29 : decode cX12_few 29 = .ok (.if_icmp .gt 26, 3) := by decide +kernel
theorem dX12_few_32 : decode cX12_few 32 = .ok (.aload_n 0, 1) := by decide +kernel
theorem dX12_few_33 : decode cX12_few 33 = .ok (.getfield 93, 3) := by decide +kernel
theorem dX12_few_36 : decode cX12_few 36 = .ok (.iload_n 3, 1) := by decide +kernel
theorem dX12_few_37 : decode cX12_few 37 = .ok (.iload_n 3, 1) := by decide +kernel
theorem dX12_few_38 : decode cX12_few 38 = .ok (.ifCond .ne 9, 3) := by decide +kernel
theorem dX12_few_41 : decode cX12_few 41 = .ok (.ldc2_w 473, 3) := by decide +kernel
theorem dX12_few_44 : decode cX12_few 44 = .ok (.goto 4, 3) := by decide +kernel
theorem dX12_few_47 : decode cX12_few 47 = .ok (.lconst 0, 1) := by decide +kernel
theorem dX12_few_48 : decode cX12_few 48 = .ok (.lastore, 1) := by decide +kernel
theorem dX12_few_49 : decode cX12_few 49 = .ok (.iinc 3 1, 3) := by decide +kernel
theorem dX12_few_52 : decode cX12_few 52 = .ok (.goto (-26), 3) := by decide +kernel
theorem dX12_few_55 : decode cX12_few 55 = .ok (.iconst 0, 1) := by decide +kernel
theorem dX12_few_56 : decode cX12_few 56 = .ok (.istore_n 3, 1) := by decide +kernel
theorem dX12_few_57 : decode cX12_few 57 = .ok (.iload_n 3, 1) := by decide +kernel
theorem dX12_few_58 : decode cX12_few 58 = .ok (.iload_n 2, 1) := by decide +kernel
theorem dX12_few_59 : decode cX12_few 59 = .ok (.if_icmp .ge 87, 3) := by decide +kernel
theorem dX12_few_62 : decode cX12_few 62 = .ok (.iload_n 1, 1) := by decide +kernel
theorem dX12_few_63 : decode cX12_few 63 = .ok (.iconst 1, 1) := by decide +kernel
theorem dX12_few_64 : decode cX12_few 64 = .ok (.isub, 1) := by decide +kernel
theorem dX12_few_65 : decode cX12_few 65 = .ok (.istore 4, 2) := by decide +kernel
theorem dX12_few_67 : decode cX12_few 67 = .ok (.iload 4, 2) := by decide +kernel
theorem dX12_few_69 : decode cX12_few 69 = .ok (.ifCond .lt 71, 3) := by decide +kernel
theorem dX12_few_72 : decode cX12_few 72 = .ok (.aload_n 0, 1) := by decide +kernel
theorem dX12_few_73 : decode cX12_few 73 = .ok (.getfield 93, 3) := by decide +kernel
theorem dX12_few_76 : decode cX12_few 76 = .ok (.iload 4, 2) := by decide +kernel
theorem dX12_few_78 : decode cX12_few 78 = .ok (.iconst 1, 1) := by decide +kernel
theorem dX12_few_79 : decode cX12_few 79 = .ok (.iadd, 1) := by decide +kernel
theorem dX12_few_80 : decode cX12_few 80 = .ok (.dup2, 1) := by decide +kernel
theorem dX12_few_81 : decode cX12_few 81 = .ok (.laload, 1) := by decide +kernel
theorem dX12_few_82 : decode cX12_few 82 = .ok (.aload_n 0, 1) := by decide +kernel
theorem dX12_few_83 : decode cX12_few 83 = .ok (.getfield 93, 3) := by decide +kernel
theorem dX12_few_86 : decode cX12_few 86 = .ok (.iload 4, 2) := by decide +kernel
theorem dX12_few_88 : decode cX12_few 88 = .ok (.laload, 1) := by decide +kernel
theorem dX12_few_89 : decode cX12_few 89 = .ok (.aload_n 0, 1) := by decide +kernel
theorem dX12_few_90 : decode cX12_few 90 = .ok (.getfield 28, 3) := by decide +kernel
theorem dX12_few_93 : decode cX12_few 93 = .ok (.bipush 65, 2) := by decide +kernel
theorem dX12_few_95 : decode cX12_few 95 = .ok (.iaload, 1) := by decide +kernel
theorem dX12_few_96 : decode cX12_few 96 = .ok (.i2l, 1) := by decide +kernel
theorem dX12_few_97 : decode cX12_few 97 = .ok (.lmul, 1) := by decide +kernel
theorem dX12_few_98 : decode cX12_few 98 = .ok (.ldc2_w 475, 3) := by decide +kernel
theorem dX12_few_101 : decode cX12_few 101 = .ok (.ldiv, 1) := by decide +kernel
theorem dX12_few_102 : decode cX12_few 102 = .ok (.ladd, 1) := by decide +kernel
theorem dX12_few_103 : decode cX12_few 103 = .ok (.lastore, 1) := by decide +kernel
theorem dX12_few_104 : decode cX12_few 104 = .ok (.aload_n 0, 1) := by decide +kernel
theorem dX12_few_105 : decode cX12_few 105 = .ok (.getfield 93, 3) := by decide +kernel
theorem dX12_few_108 : decode cX12_few 108 = .ok (.iload 4, 2) := by decide +kernel
theorem dX12_few_110 : decode cX12_few 110 = .ok (.aload_n 0, 1) := by decide +kernel
theorem dX12_few_111 : decode cX12_few 111 = .ok (.getfield 93, 3) := by decide +kernel
theorem dX12_few_114 : decode cX12_few 114 = .ok (.iload 4, 2) := by decide +kernel
theorem dX12_few_116 : decode cX12_few 116 = .ok (.laload, 1) := by decide +kernel
theorem dX12_few_117 : decode cX12_few 117 = .ok (.bipush 10, 2) := by decide +kernel
theorem dX12_few_119 : decode cX12_few 119 = .ok (.aload_n 0, 1) := by decide +kernel
theorem dX12_few_120 : decode cX12_few 120 = .ok (.getfield 28, 3) := by decide +kernel
theorem dX12_few_123 : decode cX12_few 123 = .ok (.bipush 65, 2) := by decide +kernel
theorem dX12_few_125 : decode cX12_few 125 = .ok (.iaload, 1) := by decide +kernel
theorem dX12_few_126 : decode cX12_few 126 = .ok (.isub, 1) := by decide +kernel
theorem dX12_few_127 : decode cX12_few 127 = .ok (.i2l, 1) := by decide +kernel
theorem dX12_few_128 : decode cX12_few 128 = .ok (.lmul, 1) := by decide +kernel
theorem dX12_few_129 : decode cX12_few 129 = .ok (.ldc2_w 475, 3) := by decide +kernel
theorem dX12_few_132 : decode cX12_few 132 = .ok (.ldiv, 1) := by decide +kernel
theorem dX12_few_133 : decode cX12_few 133 = .ok (.lastore, 1) := by decide +kernel
theorem dX12_few_134 : decode cX12_few 134 = .ok (.iinc 4 (-1), 3) := by decide +kernel
theorem dX12_few_137 : decode cX12_few 137 = .ok (.goto (-70), 3) := by decide +kernel
theorem dX12_few_140 : decode cX12_few 140 = .ok (.iinc 3 1, 3) := by decide +kernel
theorem dX12_few_143 : decode cX12_few 143 = .ok (.goto (-86), 3) := by decide +kernel
theorem dX12_few_146 : decode cX12_few 146 = .ok (.lconst 0, 1) := by decide +kernel
theorem dX12_few_147 : decode cX12_few 147 = .ok (.lstore_n 3, 1) := by decide +kernel
theorem dX12_few_148 : decode cX12_few 148 = .ok (.iconst 0, 1) := by decide +kernel
theorem dX12_few_149 : decode cX12_few 149 = .ok (.istore 5, 2) := by decide +kernel
theorem dX12_few_151 : decode cX12_few 151 = .ok (.iload 5, 2) := by decide +kernel
theorem dX12_few_153 : decode cX12_few 153 = .ok (.iload_n 1, 1) := by decide +kernel
theorem dX12_few_154 : decode cX12_few 154 = .ok (.if_icmp .ge 19, 3) := by decide +kernel
theorem dX12_few_157 : decode cX12_few 157 = .ok (.lload_n 3, 1) := by decide +kernel
theorem dX12_few_158 : decode cX12_few 158 = .ok (.aload_n 0, 1) := by decide +kernel
theorem dX12_few_159 : decode cX12_few 159 = .ok (.getfield 93, 3) := by decide +kernel
theorem dX12_few_162 : decode cX12_few 162 = .ok (.iload 5, 2) := by decide +kernel
theorem dX12_few_164 : decode cX12_few 164 = .ok (.laload, 1) := by decide +kernel
theorem dX12_few_165 : decode cX12_few 165 = .ok (.ladd, 1) := by decide +kernel
theorem dX12_few_166 : decode cX12_few 166 = .ok (.lstore_n 3, 1) := by decide +kernel
theorem dX12_few_167 : decode cX12_few 167 = .ok (.iinc 5 1, 3) := by decide +kernel
theorem dX12_few_170 : decode cX12_few 170 = .ok (.goto (-19), 3) := by decide +kernel
theorem dX12_few_173 : decode cX12_few 173 = .ok (.lload_n 3, 1) := by decide +kernel
theorem dX12_few_174 : decode cX12_few 174 = .ok (.lreturn, 1) := by decide +kernel
theorem dX12_stopped_0 : decode cX12_stopped 0 = .ok (.aload_n 0, 1) := by decide +kernel
theorem dX12_stopped_1 : decode cX12_stopped 1 = .ok (.getfield 97, 3) := by decide +kernel
theorem dX12_stopped_4 : decode cX12_stopped 4 = .ok (.ireturn, 1) := by decide +kernel
theorem dX12_orders_0 : decode cX12_orders 0 = .ok (.aload_n 0, 1) := by decide +kernel
theorem dX12_orders_1 : decode cX12_orders 1 = .ok (.iconst (-1), 1) := by decide +kernel
theorem dX12_orders_2 : decode cX12_orders 2 = .ok (.putfield 97, 3) := by decide +kernel
theorem dX12_orders_5 : decode cX12_orders 5 = .ok (.aload_n 0, 1) := by decide +kernel
theorem dX12_orders_6 : decode cX12_orders 6 = .ok (.iconst 1, 1) := by decide +kernel
theorem dX12_orders_7 : decode cX12_orders 7 = .ok (.invokevirtual 268, 3) := by decide +kernel
theorem dX12_orders_10 : decode cX12_orders 10 = .ok (.ifCond .ne 10, 3) := by decide +kernel
theorem dX12_orders_13 : decode cX12_orders 13 = .ok (.aload_n 0, 1) := by decide +kernel
theorem dX12_orders_14 : decode cX12_orders 14 = .ok (.bipush (-6), 2) := by decide +kernel
theorem dX12_orders_16 : decode cX12_orders 16 = .ok (.invokevirtual 109, 3) := by decide +kernel
theorem dX12_orders_19 : decode cX12_orders 19 = .ok (.ireturn, 1) := by decide +kernel
theorem dX12_orders_20 : decode cX12_orders 20 = .ok (.aload_n 0, 1) := by decide +kernel
theorem dX12_orders_21 : decode cX12_orders 21 = .ok (.iconst 1, 1) := by decide +kernel
theorem dX12_orders_22 : decode cX12_orders 22 = .ok (.invokevirtual 477, 3) := by decide +kernel
theorem dX12_orders_25 : decode cX12_orders 25 = .ok (.iconst 0, 1) := by decide +kernel
theorem dX12_orders_26 : decode cX12_orders 26 = .ok (.istore_n 1, 1) := by decide +kernel
theorem dX12_orders_27 : decode cX12_orders 27 = .ok (.iload_n 1, 1) := by decide +kernel
theorem dX12_orders_28 : decode cX12_orders 28 = .ok (.sipush 480, 3) := by decide +kernel
theorem dX12_orders_31 : decode cX12_orders 31 = .ok (.if_icmp .ge 21, 3) := by decide +kernel
theorem dX12_orders_34 : decode cX12_orders 34 = .ok (.aload_n 0, 1) := by decide +kernel
theorem dX12_orders_35 : decode cX12_orders 35 = .ok (.getfield 75, 3) := by decide +kernel
theorem dX12_orders_38 : decode cX12_orders 38 = .ok (.iload_n 1, 1) := by decide +kernel
theorem dX12_orders_39 : decode cX12_orders 39 = .ok (.aload_n 0, 1) := by decide +kernel
theorem dX12_orders_40 : decode cX12_orders 40 = .ok (.getfield 72, 3) := by decide +kernel
theorem dX12_orders_43 : decode cX12_orders 43 = .ok (.iload_n 1, 1) := by decide +kernel
theorem dX12_orders_44 : decode cX12_orders 44 = .ok (.iaload, 1) := by decide +kernel
theorem dX12_orders_45 : decode cX12_orders 45 = .ok (.iastore, 1) := by decide +kernel
theorem dX12_orders_46 : decode cX12_orders 46 = .ok (.iinc 1 1, 3) := by decide +kernel
theorem dX12_orders_49 : decode cX12_orders 49 = .ok (.goto (-22), 3) := by decide +kernel
theorem dX12_orders_52 : decode cX12_orders 52 = .ok (.aload_n 0, 1) := by decide +kernel
theorem dX12_orders_53 : decode cX12_orders 53 = .ok (.getfield 11, 3) := by decide +kernel
theorem dX12_orders_56 : decode cX12_orders 56 = .ok (.istore_n 1, 1) := by decide +kernel
theorem dX12_orders_57 : decode cX12_orders 57 = .ok (.aload_n 0, 1) := by decide +kernel
theorem dX12_orders_58 : decode cX12_orders 58 = .ok (.bipush 6, 2) := by decide +kernel
theorem dX12_orders_60 : decode cX12_orders 60 = .ok (.invokevirtual 272, 3) := by decide +kernel
theorem dX12_orders_63 : decode cX12_orders 63 = .ok (.aload_n 0, 1) := by decide +kernel
theorem dX12_orders_64 : decode cX12_orders 64 = .ok (.iconst 0, 1) := by decide +kernel
theorem dX12_orders_65 : decode cX12_orders 65 = .ok (.putfield 317, 3) := by decide +kernel
theorem dX12_orders_68 : decode cX12_orders 68 = .ok (.aload_n 0, 1) := by decide +kernel
theorem dX12_orders_69 : decode cX12_orders 69 = .ok (.iconst (-1), 1) := by decide +kernel
theorem dX12_orders_70 : decode cX12_orders 70 = .ok (.putfield 320, 3) := by decide +kernel
theorem dX12_orders_73 : decode cX12_orders 73 = .ok (.aload_n 0, 1) := by decide +kernel
theorem dX12_orders_74 : decode cX12_orders 74 = .ok (.sipush 2400, 3) := by decide +kernel
theorem dX12_orders_77 : decode cX12_orders 77 = .ok (.putfield 480, 3) := by decide +kernel
theorem dX12_orders_80 : decode cX12_orders 80 = .ok (.aload_n 0, 1) := by decide +kernel
theorem dX12_orders_81 : decode cX12_orders 81 = .ok (.getfield 480, 3) := by decide +kernel
theorem dX12_orders_84 : decode cX12_orders 84 = .ok (.aload_n 0, 1) := by decide +kernel
theorem dX12_orders_85 : decode cX12_orders 85 = .ok (.getfield 28, 3) := by decide +kernel
theorem dX12_orders_88 : decode cX12_orders 88 = .ok (.bipush 79, 2) := by decide +kernel
theorem dX12_orders_90 : decode cX12_orders 90 = .ok (.iaload, 1) := by decide +kernel
theorem dX12_orders_91 : decode cX12_orders 91 = .ok (.iadd, 1) := by decide +kernel
theorem dX12_orders_92 : decode cX12_orders 92 = .ok (.istore_n 2, 1) := by decide +kernel
theorem dX12_orders_93 : decode cX12_orders 93 = .ok (.iconst 0, 1) := by decide +kernel
theorem dX12_orders_94 : decode cX12_orders 94 = .ok (.istore_n 3, 1) := by decide +kernel
theorem dX12_orders_95 : decode cX12_orders 95 = .ok (.aload_n 0, 1) := by decide +kernel
theorem dX12_orders_96 : decode cX12_orders 96 = .ok (.getfield 480, 3) := by decide +kernel
theorem dX12_orders_99 : decode cX12_orders 99 = .ok (.iload_n 2, 1) := by decide +kernel
theorem dX12_orders_100 : decode cX12_orders 100 = .ok (.if_icmp .ge 73, 3) := by decide +kernel
theorem dX12_orders_103 : decode cX12_orders 103 = .ok (.aload_n 0, 1) := by decide +kernel
theorem dX12_orders_104 : decode cX12_orders 104 = .ok (.iload_n 2, 1) := by decide +kernel
theorem dX12_orders_105 : decode cX12_orders 105 = .ok (.invokevirtual 483, 3) := by decide +kernel
theorem dX12_orders_108 : decode cX12_orders 108 = .ok (.ifCond .eq 6, 3) := by decide +kernel
theorem dX12_orders_111 : decode cX12_orders 111 = .ok (.goto 56, 3) := by decide +kernel
theorem dX12_orders_114 : decode cX12_orders 114 = .ok (.aload_n 0, 1) := by decide +kernel
theorem dX12_orders_115 : decode cX12_orders 115 = .ok (.iconst 1, 1) := by decide +kernel
theorem dX12_orders_116 : decode cX12_orders 116 = .ok (.invokevirtual 486, 3) := by decide +kernel
theorem dX12_orders_119 : decode cX12_orders 119 = .ok (.iconst 0, 1) := by decide +kernel
theorem dX12_orders_120 : decode cX12_orders 120 = .ok (.istore 4, 2) := by decide +kernel
theorem dX12_orders_122 : decode cX12_orders 122 = .ok (.iload 4, 2) := by decide +kernel
theorem dX12_orders_124 : decode cX12_orders 124 = .ok (.sipush 480, 3) := by decide +kernel
theorem dX12_orders_127 : decode cX12_orders 127 = .ok (.if_icmp .ge 23, 3) := by decide +kernel
theorem dX12_orders_130 : decode cX12_orders 130 = .ok (.aload_n 0, 1) := by decide +kernel
theorem dX12_orders_131 : decode cX12_orders 131 = .ok (.getfield 72, 3) := by decide +kernel
theorem dX12_orders_134 : decode cX12_orders 134 = .ok (.iload 4, 2) := by decide +kernel
theorem dX12_orders_136 : decode cX12_orders 136 = .ok (.aload_n 0, 1) := by decide +kernel
theorem dX12_orders_137 : decode cX12_orders 137 = .ok (.getfield 75, 3) := by decide +kernel
theorem dX12_orders_140 : decode cX12_orders 140 = .ok (.iload 4, 2) := by decide +kernel
theorem dX12_orders_142 : decode cX12_orders 142 = .ok (.iaload, 1) := by decide +kernel
theorem dX12_orders_143 : decode cX12_orders 143 = .ok (.iastore, 1) := by decide +kernel
theorem dX12_orders_144 : decode cX12_orders 144 = .ok (.iinc 4 1, 3) := by decide +kernel
theorem dX12_orders_147 : decode cX12_orders 147 = .ok (.goto (-25), 3) := by decide +kernel
theorem dX12_orders_150 : decode cX12_orders 150 = .ok (.aload_n 0, 1) := by decide +kernel
theorem dX12_orders_151 : decode cX12_orders 151 = .ok (.iload_n 1, 1) := by decide +kernel
theorem dX12_orders_152 : decode cX12_orders 152 = .ok (.putfield 11, 3) := by decide +kernel
theorem dX12_orders_155 : decode cX12_orders 155 = .ok (.aload_n 0, 1) := by decide +kernel
theorem dX12_orders_156 : decode cX12_orders 156 = .ok (.iload_n 3, 1) := by decide +kernel
theorem dX12_orders_157 : decode cX12_orders 157 = .ok (.putfield 97, 3) := by decide +kernel
theorem dX12_orders_160 : decode cX12_orders 160 = .ok (.aload_n 0, 1) := by decide +kernel
theorem dX12_orders_161 : decode cX12_orders 161 = .ok (.bipush (-3), 2) := by decide +kernel
theorem dX12_orders_163 : decode cX12_orders 163 = .ok (.invokevirtual 109, 3) := by decide +kernel
theorem dX12_orders_166 : decode cX12_orders 166 = .ok (.ireturn, 1) := by decide +kernel
theorem dX12_orders_167 : decode cX12_orders 167 = .ok (.iinc 3 1, 3) := by decide +kernel
theorem dX12_orders_170 : decode cX12_orders 170 = .ok (.goto (-75), 3) := by decide +kernel
theorem dX12_orders_173 : decode cX12_orders 173 = .ok (.aload_n 0, 1) := by decide +kernel
theorem dX12_orders_174 : decode cX12_orders 174 = .ok (.aload_n 0, 1) := by decide +kernel
theorem dX12_orders_175 : decode cX12_orders 175 = .ok (.getfield 317, 3) := by decide +kernel
theorem dX12_orders_178 : decode cX12_orders 178 = .ok (.invokevirtual 14, 3) := by decide +kernel
theorem dX12_orders_181 : decode cX12_orders 181 = .ok (.ireturn, 1) := by decide +kernel
theorem dX12_goesAlong_0 : decode cX12_goesAlong 0 = .ok (.aload_n 0, 1) := by decide +kernel
theorem dX12_goesAlong_1 : decode cX12_goesAlong 1 = .ok (.iconst 1, 1) := by decide +kernel
theorem dX12_goesAlong_2 : decode cX12_goesAlong 2 = .ok (.putfield 311, 3) := by decide +kernel
theorem dX12_goesAlong_5 : decode cX12_goesAlong 5 = .ok (.aload_n 0, 1) := by decide +kernel
theorem dX12_goesAlong_6 : decode cX12_goesAlong 6 = .ok (.iload_n 1, 1) := by decide +kernel
theorem dX12_goesAlong_7 : decode cX12_goesAlong 7 = .ok (.putfield 278, 3) := by decide +kernel
theorem dX12_goesAlong_10 : decode cX12_goesAlong 10 = .ok (.aload_n 0, 1) := by decide +kernel
theorem dX12_goesAlong_11 : decode cX12_goesAlong 11 = .ok (.aload_n 0, 1) := by decide +kernel
theorem dX12_goesAlong_12 : decode cX12_goesAlong 12 = .ok (.getfield 480, 3) := by decide +kernel
theorem dX12_goesAlong_15 : decode cX12_goesAlong 15 = .ok (.putfield 281, 3) := by decide +kernel
theorem dX12_goesAlong_18 : decode cX12_goesAlong 18 = .ok (.aload_n 0, 1) := by decide +kernel
theorem dX12_goesAlong_19 : decode cX12_goesAlong 19 = .ok (.aload_n 0, 1) := by decide +kernel
theorem dX12_goesAlong_20 : decode cX12_goesAlong 20 = .ok (.aload_n 0, 1) := by decide +kernel
theorem dX12_goesAlong_21 : decode cX12_goesAlong 21 = .ok (.getfield 281, 3) := by decide +kernel
theorem dX12_goesAlong_24 : decode cX12_goesAlong 24 = .ok (.invokevirtual 284, 3) := by decide +kernel
theorem dX12_goesAlong_27 : decode cX12_goesAlong 27 = .ok (.putfield 489, 3) := by decide +kernel
theorem dX12_goesAlong_30 : decode cX12_goesAlong 30 = .ok (.aload_n 0, 1) := by decide +kernel
theorem dX12_goesAlong_31 : decode cX12_goesAlong 31 = .ok (.dup, 1) := by decide +kernel
theorem dX12_goesAlong_32 : decode cX12_goesAlong 32 = .ok (.getfield 281, 3) := by decide +kernel
theorem dX12_goesAlong_35 : decode cX12_goesAlong 35 = .ok (.iconst 1, 1) := by decide +kernel
theorem dX12_goesAlong_36 : decode cX12_goesAlong 36 = .ok (.iadd, 1) := by decide +kernel
theorem dX12_goesAlong_37 : decode cX12_goesAlong 37 = .ok (.putfield 281, 3) := by decide +kernel
theorem dX12_goesAlong_40 : decode cX12_goesAlong 40 = .ok (.aload_n 0, 1) := by decide +kernel
theorem dX12_goesAlong_41 : decode cX12_goesAlong 41 = .ok (.iconst 1, 1) := by decide +kernel
theorem dX12_goesAlong_42 : decode cX12_goesAlong 42 = .ok (.putfield 492, 3) := by decide +kernel
theorem dX12_goesAlong_45 : decode cX12_goesAlong 45 = .ok (.aload_n 0, 1) := by decide +kernel
theorem dX12_goesAlong_46 : decode cX12_goesAlong 46 = .ok (.getfield 489, 3) := by decide +kernel
theorem dX12_goesAlong_49 : decode cX12_goesAlong 49 = .ok (.bipush 21, 2) := by decide +kernel
theorem dX12_goesAlong_51 : decode cX12_goesAlong 51 = .ok (.if_icmp .ne 7, 3) := by decide +kernel
theorem dX12_goesAlong_54 : decode cX12_goesAlong 54 = .ok (.iconst 3, 1) := by decide +kernel
theorem dX12_goesAlong_55 : decode cX12_goesAlong 55 = .ok (.goto 17, 3) := by decide +kernel
theorem dX12_goesAlong_58 : decode cX12_goesAlong 58 = .ok (.aload_n 0, 1) := by decide +kernel
theorem dX12_goesAlong_59 : decode cX12_goesAlong 59 = .ok (.getfield 489, 3) := by decide +kernel
theorem dX12_goesAlong_62 : decode cX12_goesAlong 62 = .ok (.bipush 24, 2) := by decide +kernel
theorem dX12_goesAlong_64 : decode cX12_goesAlong 64 = .ok (.if_icmp .ne 7, 3) := by decide +kernel
theorem dX12_goesAlong_67 : decode cX12_goesAlong 67 = .ok (.iconst 1, 1) := by decide +kernel
theorem dX12_goesAlong_68 : decode cX12_goesAlong 68 = .ok (.goto 4, 3) := by decide +kernel
theorem dX12_goesAlong_71 : decode cX12_goesAlong 71 = .ok (.iconst 0, 1) := by decide +kernel
theorem dX12_goesAlong_72 : decode cX12_goesAlong 72 = .ok (.istore_n 3, 1) := by decide +kernel
theorem dX12_goesAlong_73 : decode cX12_goesAlong 73 = .ok (.iconst 0, 1) := by decide +kernel
theorem dX12_goesAlong_74 : decode cX12_goesAlong 74 = .ok (.istore 4, 2) := by decide +kernel
theorem dX12_goesAlong_76 : decode cX12_goesAlong 76 = .ok (.iload 4, 2) := by decide +kernel
theorem dX12_goesAlong_78 : decode cX12_goesAlong 78 = .ok (.iload_n 3, 1) := by decide +kernel
theorem dX12_goesAlong_79 : decode cX12_goesAlong 79 = .ok (.if_icmp .ge 64, 3) := by decide +kernel
theorem dX12_goesAlong_82 : decode cX12_goesAlong 82 = .ok (.iload 4, 2) := by decide +kernel
theorem dX12_goesAlong_84 : decode cX12_goesAlong 84 = .ok (.ifCond .le 13, 3) := by decide +kernel
theorem dX12_goesAlong_87 : decode cX12_goesAlong 87 = .ok (.aload_n 0, 1) := by decide +kernel
theorem dX12_goesAlong_88 : decode cX12_goesAlong 88 = .ok (.dup, 1) := by decide +kernel
theorem dX12_goesAlong_89 : decode cX12_goesAlong 89 = .ok (.getfield 281, 3) := by decide +kernel
theorem dX12_goesAlong_92 : decode cX12_goesAlong 92 = .ok (.iconst 1, 1) := by decide +kernel
theorem dX12_goesAlong_93 : decode cX12_goesAlong 93 = .ok (.iadd, 1) := by decide +kernel
theorem dX12_goesAlong_94 : decode cX12_goesAlong 94 = .ok (.putfield 281, 3) := by decide +kernel
theorem dX12_goesAlong_97 : decode cX12_goesAlong 97 = .ok (.aload_n 0, 1) := by decide +kernel
theorem dX12_goesAlong_98 : decode cX12_goesAlong 98 = .ok (.iconst 0, 1) := by decide +kernel
theorem dX12_goesAlong_99 : decode cX12_goesAlong 99 = .ok (.putfield 291, 3) := by decide +kernel
theorem dX12_goesAlong_102 : decode cX12_goesAlong 102 = .ok (.aload_n 0, 1) := by decide +kernel
theorem dX12_goesAlong_103 : decode cX12_goesAlong 103 = .ok (.getfield 100, 3) := by decide +kernel
theorem dX12_goesAlong_106 : decode cX12_goesAlong 106 = .ok (.iload 4, 2) := by decide +kernel
theorem dX12_goesAlong_108 : decode cX12_goesAlong 108 = .ok (.aload_n 0, 1) := by decide +kernel
theorem dX12_goesAlong_109 : decode cX12_goesAlong 109 = .ok (.iload_n 2, 1) := by decide +kernel
theorem dX12_goesAlong_110 : decode cX12_goesAlong 110 = .ok (.invokevirtual 308, 3) := by decide +kernel
theorem dX12_goesAlong_113 : decode cX12_goesAlong 113 = .ok (.lastore, 1) := by decide +kernel
theorem dX12_goesAlong_114 : decode cX12_goesAlong 114 = .ok (.aload_n 0, 1) := by decide +kernel
theorem dX12_goesAlong_115 : decode cX12_goesAlong 115 = .ok (.aload_n 0, 1) := by decide +kernel
theorem dX12_goesAlong_116 : decode cX12_goesAlong 116 = .ok (.getfield 492, 3) := by decide +kernel
theorem dX12_goesAlong_119 : decode cX12_goesAlong 119 = .ok (.ifCond .eq 14, 3) := by decide +kernel
theorem dX12_goesAlong_122 : decode cX12_goesAlong 122 = .ok (.aload_n 0, 1) := by decide +kernel
theorem dX12_goesAlong_123 : decode cX12_goesAlong 123 = .ok (.getfield 291, 3) := by decide +kernel
theorem dX12_goesAlong_126 : decode cX12_goesAlong 126 = .ok (.ifCond .ne 7, 3) := by decide +kernel
theorem dX12_goesAlong_129 : decode cX12_goesAlong 129 = .ok (.iconst 1, 1) := by decide +kernel
theorem dX12_goesAlong_130 : decode cX12_goesAlong 130 = .ok (.goto 4, 3) := by decide +kernel
theorem dX12_goesAlong_133 : decode cX12_goesAlong 133 = .ok (.iconst 0, 1) := by decide +kernel
theorem dX12_goesAlong_134 : decode cX12_goesAlong 134 = .ok (.putfield 492, 3) := by decide +kernel
theorem dX12_goesAlong_137 : decode cX12_goesAlong 137 = .ok (.iinc 4 1, 3) := by decide +kernel
theorem dX12_goesAlong_140 : decode cX12_goesAlong 140 = .ok (.goto (-64), 3) := by decide +kernel
theorem dX12_goesAlong_143 : decode cX12_goesAlong 143 = .ok (.aload_n 0, 1) := by decide +kernel
theorem dX12_goesAlong_144 : decode cX12_goesAlong 144 = .ok (.iconst 1, 1) := by decide +kernel
theorem dX12_goesAlong_145 : decode cX12_goesAlong 145 = .ok (.putfield 495, 3) := by decide +kernel
theorem dX12_goesAlong_148 : decode cX12_goesAlong 148 = .ok (.aload_n 0, 1) := by decide +kernel
theorem dX12_goesAlong_149 : decode cX12_goesAlong 149 = .ok (.bipush 27, 2) := by decide +kernel
theorem dX12_goesAlong_151 : decode cX12_goesAlong 151 = .ok (.invokevirtual 305, 3) := by decide +kernel
theorem dX12_goesAlong_154 : decode cX12_goesAlong 154 = .ok (.ifCond .eq 30, 3) := by decide +kernel
theorem dX12_goesAlong_157 : decode cX12_goesAlong 157 = .ok (.aload_n 0, 1) := by decide +kernel
theorem dX12_goesAlong_158 : decode cX12_goesAlong 158 = .ok (.aload_n 0, 1) := by decide +kernel
theorem dX12_goesAlong_159 : decode cX12_goesAlong 159 = .ok (.getfield 28, 3) := by decide +kernel
theorem dX12_goesAlong_162 : decode cX12_goesAlong 162 = .ok (.sipush 2880, 3) := by decide +kernel
theorem dX12_goesAlong_165 : decode cX12_goesAlong 165 = .ok (.aload_n 0, 1) := by decide +kernel
theorem dX12_goesAlong_166 : decode cX12_goesAlong 166 = .ok (.getfield 281, 3) := by decide +kernel
theorem dX12_goesAlong_169 : decode cX12_goesAlong 169 = .ok (.iadd, 1) := by decide +kernel
theorem dX12_goesAlong_170 : decode cX12_goesAlong 170 = .ok (.iaload, 1) := by decide +kernel
theorem dX12_goesAlong_171 : decode cX12_goesAlong 171 = .ok (.putfield 495, 3) := by decide +kernel
theorem dX12_goesAlong_174 : decode cX12_goesAlong 174 = .ok (.aload_n 0, 1) := by decide +kernel
theorem dX12_goesAlong_175 : decode cX12_goesAlong 175 = .ok (.dup, 1) := by decide +kernel
theorem dX12_goesAlong_176 : decode cX12_goesAlong 176 = .ok (.getfield 281, 3) := by decide +kernel
theorem dX12_goesAlong_179 : decode cX12_goesAlong 179 = .ok (.iconst 1, 1) := by decide +kernel
theorem dX12_goesAlong_180 : decode cX12_goesAlong 180 = .ok (.iadd, 1) := by decide +kernel
theorem dX12_goesAlong_181 : decode cX12_goesAlong 181 = .ok (.putfield 281, 3) := by decide +kernel
theorem dX12_goesAlong_184 : decode cX12_goesAlong 184 = .ok (.aload_n 0, 1) := by decide +kernel
theorem dX12_goesAlong_185 : decode cX12_goesAlong 185 = .ok (.iconst 0, 1) := by decide +kernel
theorem dX12_goesAlong_186 : decode cX12_goesAlong 186 = .ok (.putfield 291, 3) := by decide +kernel
theorem dX12_goesAlong_189 : decode cX12_goesAlong 189 = .ok (.aload_n 0, 1) := by decide +kernel
theorem dX12_goesAlong_190 : decode cX12_goesAlong 190 = .ok (.aload_n 0, 1) := by decide +kernel
theorem dX12_goesAlong_191 : decode cX12_goesAlong 191 = .ok (.iconst 4, 1) := by decide +kernel
theorem dX12_goesAlong_192 : decode cX12_goesAlong 192 = .ok (.invokevirtual 305, 3) := by decide +kernel
theorem dX12_goesAlong_195 : decode cX12_goesAlong 195 = .ok (.ifCond .eq 11, 3) := by decide +kernel
theorem dX12_goesAlong_198 : decode cX12_goesAlong 198 = .ok (.aload_n 0, 1) := by decide +kernel
theorem dX12_goesAlong_199 : decode cX12_goesAlong 199 = .ok (.iload_n 2, 1) := by decide +kernel
theorem dX12_goesAlong_200 : decode cX12_goesAlong 200 = .ok (.invokevirtual 335, 3) := by decide +kernel
theorem dX12_goesAlong_203 : decode cX12_goesAlong 203 = .ok (.ifCond .eq 7, 3) := by decide +kernel
theorem dX12_goesAlong_206 : decode cX12_goesAlong 206 = .ok (.iconst 1, 1) := by decide +kernel
theorem dX12_goesAlong_207 : decode cX12_goesAlong 207 = .ok (.goto 4, 3) := by decide +kernel
theorem dX12_goesAlong_210 : decode cX12_goesAlong 210 = .ok (.iconst 0, 1) := by decide +kernel
theorem dX12_goesAlong_211 : decode cX12_goesAlong 211 = .ok (.putfield 498, 3) := by decide +kernel
theorem dX12_goesAlong_214 : decode cX12_goesAlong 214 = .ok (.aload_n 0, 1) := by decide +kernel
theorem dX12_goesAlong_215 : decode cX12_goesAlong 215 = .ok (.aload_n 0, 1) := by decide +kernel
theorem dX12_goesAlong_216 : decode cX12_goesAlong 216 = .ok (.getfield 498, 3) := by decide +kernel
theorem dX12_goesAlong_219 : decode cX12_goesAlong 219 = .ok (.ifCond .eq 14, 3) := by decide +kernel
theorem dX12_goesAlong_222 : decode cX12_goesAlong 222 = .ok (.aload_n 0, 1) := by decide +kernel
theorem dX12_goesAlong_223 : decode cX12_goesAlong 223 = .ok (.getfield 291, 3) := by decide +kernel
theorem dX12_goesAlong_226 : decode cX12_goesAlong 226 = .ok (.ifCond .ne 7, 3) := by decide +kernel
theorem dX12_goesAlong_229 : decode cX12_goesAlong 229 = .ok (.iconst 1, 1) := by decide +kernel
theorem dX12_goesAlong_230 : decode cX12_goesAlong 230 = .ok (.goto 4, 3) := by decide +kernel
theorem dX12_goesAlong_233 : decode cX12_goesAlong 233 = .ok (.iconst 0, 1) := by decide +kernel
theorem dX12_goesAlong_234 : decode cX12_goesAlong 234 = .ok (.putfield 498, 3) := by decide +kernel
theorem dX12_goesAlong_237 : decode cX12_goesAlong 237 = .ok (.aload_n 0, 1) := by decide +kernel
theorem dX12_goesAlong_238 : decode cX12_goesAlong 238 = .ok (.dup, 1) := by decide +kernel
theorem dX12_goesAlong_239 : decode cX12_goesAlong 239 = .ok (.getfield 281, 3) := by decide +kernel
theorem dX12_goesAlong_242 : decode cX12_goesAlong 242 = .ok (.iconst 1, 1) := by decide +kernel
theorem dX12_goesAlong_243 : decode cX12_goesAlong 243 = .ok (.iadd, 1) := by decide +kernel
theorem dX12_goesAlong_244 : decode cX12_goesAlong 244 = .ok (.putfield 281, 3) := by decide +kernel
theorem dX12_goesAlong_247 : decode cX12_goesAlong 247 = .ok (.return_, 1) := by decide +kernel
theorem dX12_small_0 : decode cX12_small 0 = .ok (.lload_n 0, 1) := by decide +kernel
theorem dX12_small_1 : decode cX12_small 1 = .ok (.lconst 0, 1) := by decide +kernel
theorem dX12_small_2 : decode cX12_small 2 = .ok (.lcmp, 1) := by decide +kernel
theorem dX12_small_3 : decode cX12_small 3 = .ok (.ifCond .lt 11, 3) := by decide +kernel
theorem dX12_small_6 : decode cX12_small 6 = .ok (.lload_n 0, 1) := by decide +kernel
theorem dX12_small_7 : decode cX12_small 7 = .ok (.ldc2_w 501, 3) := by decide +kernel
theorem dX12_small_10 : decode cX12_small 10 = .ok (.lcmp, 1) := by decide +kernel
theorem dX12_small_11 : decode cX12_small 11 = .ok (.ifCond .le 7, 3) := by decide +kernel
theorem dX12_small_14 : decode cX12_small 14 = .ok (.iconst (-1), 1) := by decide +kernel
theorem dX12_small_15 : decode cX12_small 15 = .ok (.goto 5, 3) := by decide +kernel
theorem dX12_small_18 : decode cX12_small 18 = .ok (.lload_n 0, 1) := by decide +kernel
theorem dX12_small_19 : decode cX12_small 19 = .ok (.l2i, 1) := by decide +kernel
theorem dX12_small_20 : decode cX12_small 20 = .ok (.ireturn, 1) := by decide +kernel
theorem dX12_obeys_0 : decode cX12_obeys 0 = .ok (.aload_n 0, 1) := by decide +kernel
theorem dX12_obeys_1 : decode cX12_obeys 1 = .ok (.getfield 489, 3) := by decide +kernel
theorem dX12_obeys_4 : decode cX12_obeys 4 = .ok (.tableswitch 52 24 26 #[28, 42, 47], 28) := by decide +kernel
theorem dX12_obeys_32 : decode cX12_obeys 32 = .ok (.aload_n 0, 1) := by decide +kernel
theorem dX12_obeys_33 : decode cX12_obeys 33 = .ok (.aload_n 0, 1) := by decide +kernel
theorem dX12_obeys_34 : decode cX12_obeys 34 = .ok (.getfield 100, 3) := by decide +kernel
theorem dX12_obeys_37 : decode cX12_obeys 37 = .ok (.iconst 0, 1) := by decide +kernel
theorem dX12_obeys_38 : decode cX12_obeys 38 = .ok (.laload, 1) := by decide +kernel
theorem dX12_obeys_39 : decode cX12_obeys 39 = .ok (.invokestatic 503, 3) := by decide +kernel
theorem dX12_obeys_42 : decode cX12_obeys 42 = .ok (.invokevirtual 385, 3) := by decide +kernel
theorem dX12_obeys_45 : decode cX12_obeys 45 = .ok (.ireturn, 1) := by decide +kernel
theorem dX12_obeys_46 : decode cX12_obeys 46 = .ok (.aload_n 0, 1) := by decide +kernel
theorem dX12_obeys_47 : decode cX12_obeys 47 = .ok (.invokevirtual 388, 3) := by decide +kernel
theorem dX12_obeys_50 : decode cX12_obeys 50 = .ok (.ireturn, 1) := by decide +kernel
theorem dX12_obeys_51 : decode cX12_obeys 51 = .ok (.aload_n 0, 1) := by decide +kernel
theorem dX12_obeys_52 : decode cX12_obeys 52 = .ok (.invokevirtual 391, 3) := by decide +kernel
theorem dX12_obeys_55 : decode cX12_obeys 55 = .ok (.ireturn, 1) := by decide +kernel
theorem dX12_obeys_56 : decode cX12_obeys 56 = .ok (.aload_n 0, 1) := by decide +kernel
theorem dX12_obeys_57 : decode cX12_obeys 57 = .ok (.aload_n 0, 1) := by decide +kernel
theorem dX12_obeys_58 : decode cX12_obeys 58 = .ok (.getfield 100, 3) := by decide +kernel
theorem dX12_obeys_61 : decode cX12_obeys 61 = .ok (.iconst 0, 1) := by decide +kernel
theorem dX12_obeys_62 : decode cX12_obeys 62 = .ok (.laload, 1) := by decide +kernel
theorem dX12_obeys_63 : decode cX12_obeys 63 = .ok (.invokestatic 503, 3) := by decide +kernel
theorem dX12_obeys_66 : decode cX12_obeys 66 = .ok (.aload_n 0, 1) := by decide +kernel
theorem dX12_obeys_67 : decode cX12_obeys 67 = .ok (.getfield 100, 3) := by decide +kernel
theorem dX12_obeys_70 : decode cX12_obeys 70 = .ok (.iconst 1, 1) := by decide +kernel
theorem dX12_obeys_71 : decode cX12_obeys 71 = .ok (.laload, 1) := by decide +kernel
theorem dX12_obeys_72 : decode cX12_obeys 72 = .ok (.invokestatic 503, 3) := by decide +kernel
theorem dX12_obeys_75 : decode cX12_obeys 75 = .ok (.aload_n 0, 1) := by decide +kernel
theorem dX12_obeys_76 : decode cX12_obeys 76 = .ok (.getfield 100, 3) := by decide +kernel
theorem dX12_obeys_79 : decode cX12_obeys 79 = .ok (.iconst 2, 1) := by decide +kernel
theorem dX12_obeys_80 : decode cX12_obeys 80 = .ok (.laload, 1) := by decide +kernel
theorem dX12_obeys_81 : decode cX12_obeys 81 = .ok (.invokestatic 503, 3) := by decide +kernel
theorem dX12_obeys_84 : decode cX12_obeys 84 = .ok (.invokevirtual 379, 3) := by decide +kernel
theorem dX12_obeys_87 : decode cX12_obeys 87 = .ok (.istore_n 1, 1) := by decide +kernel
theorem dX12_obeys_88 : decode cX12_obeys 88 = .ok (.aload_n 0, 1) := by decide +kernel
theorem dX12_obeys_89 : decode cX12_obeys 89 = .ok (.iload_n 1, 1) := by decide +kernel
theorem dX12_obeys_90 : decode cX12_obeys 90 = .ok (.ifCond .ge 10, 3) := by decide +kernel
theorem dX12_obeys_93 : decode cX12_obeys 93 = .ok (.aload_n 0, 1) := by decide +kernel
theorem dX12_obeys_94 : decode cX12_obeys 94 = .ok (.getfield 320, 3) := by decide +kernel
theorem dX12_obeys_97 : decode cX12_obeys 97 = .ok (.goto 4, 3) := by decide +kernel
theorem dX12_obeys_100 : decode cX12_obeys 100 = .ok (.iload_n 1, 1) := by decide +kernel
theorem dX12_obeys_101 : decode cX12_obeys 101 = .ok (.putfield 320, 3) := by decide +kernel
theorem dX12_obeys_104 : decode cX12_obeys 104 = .ok (.iload_n 1, 1) := by decide +kernel
theorem dX12_obeys_105 : decode cX12_obeys 105 = .ok (.ireturn, 1) := by decide +kernel
theorem dX12_runs_0 : decode cX12_runs 0 = .ok (.aload_n 0, 1) := by decide +kernel
theorem dX12_runs_1 : decode cX12_runs 1 = .ok (.iload_n 1, 1) := by decide +kernel
theorem dX12_runs_2 : decode cX12_runs 2 = .ok (.iconst 0, 1) := by decide +kernel
theorem dX12_runs_3 : decode cX12_runs 3 = .ok (.invokevirtual 507, 3) := by decide +kernel
theorem dX12_runs_6 : decode cX12_runs 6 = .ok (.aload_n 0, 1) := by decide +kernel
theorem dX12_runs_7 : decode cX12_runs 7 = .ok (.getfield 495, 3) := by decide +kernel
theorem dX12_runs_10 : decode cX12_runs 10 = .ok (.istore_n 2, 1) := by decide +kernel
theorem dX12_runs_11 : decode cX12_runs 11 = .ok (.aload_n 0, 1) := by decide +kernel
theorem dX12_runs_12 : decode cX12_runs 12 = .ok (.getfield 281, 3) := by decide +kernel
theorem dX12_runs_15 : decode cX12_runs 15 = .ok (.istore_n 3, 1) := by decide +kernel
theorem dX12_runs_16 : decode cX12_runs 16 = .ok (.iconst 0, 1) := by decide +kernel
theorem dX12_runs_17 : decode cX12_runs 17 = .ok (.istore 4, 2) := by decide +kernel
theorem dX12_runs_19 : decode cX12_runs 19 = .ok (.iload 4, 2) := by decide +kernel
theorem dX12_runs_21 : decode cX12_runs 21 = .ok (.iload_n 2, 1) := by decide +kernel
theorem dX12_runs_22 : decode cX12_runs 22 = .ok (.if_icmp .ge 51, 3) := by decide +kernel
theorem dX12_runs_25 : decode cX12_runs 25 = .ok (.aload_n 0, 1) := by decide +kernel
theorem dX12_runs_26 : decode cX12_runs 26 = .ok (.iload_n 1, 1) := by decide +kernel
theorem dX12_runs_27 : decode cX12_runs 27 = .ok (.iconst 1, 1) := by decide +kernel
theorem dX12_runs_28 : decode cX12_runs 28 = .ok (.invokevirtual 507, 3) := by decide +kernel
theorem dX12_runs_31 : decode cX12_runs 31 = .ok (.aload_n 0, 1) := by decide +kernel
theorem dX12_runs_32 : decode cX12_runs 32 = .ok (.getfield 498, 3) := by decide +kernel
theorem dX12_runs_35 : decode cX12_runs 35 = .ok (.ifCond .ne 6, 3) := by decide +kernel
theorem dX12_runs_38 : decode cX12_runs 38 = .ok (.goto 29, 3) := by decide +kernel
theorem dX12_runs_41 : decode cX12_runs 41 = .ok (.aload_n 0, 1) := by decide +kernel
theorem dX12_runs_42 : decode cX12_runs 42 = .ok (.getfield 492, 3) := by decide +kernel
theorem dX12_runs_45 : decode cX12_runs 45 = .ok (.ifCond .eq 10, 3) := by decide +kernel
theorem dX12_runs_48 : decode cX12_runs 48 = .ok (.aload_n 0, 1) := by decide +kernel
theorem dX12_runs_49 : decode cX12_runs 49 = .ok (.invokevirtual 511, 3) := by decide +kernel
theorem dX12_runs_52 : decode cX12_runs 52 = .ok (.ifCond .ge 5, 3) := by decide +kernel
theorem dX12_runs_55 : decode cX12_runs 55 = .ok (.iconst 0, 1) := by decide +kernel
theorem dX12_runs_56 : decode cX12_runs 56 = .ok (.ireturn, 1) := by decide +kernel
theorem dX12_runs_57 : decode cX12_runs 57 = .ok (.aload_n 0, 1) := by decide +kernel
theorem dX12_runs_58 : decode cX12_runs 58 = .ok (.dup, 1) := by decide +kernel
theorem dX12_runs_59 : decode cX12_runs 59 = .ok (.getfield 317, 3) := by decide +kernel
theorem dX12_runs_62 : decode cX12_runs 62 = .ok (.iconst 1, 1) := by decide +kernel
theorem dX12_runs_63 : decode cX12_runs 63 = .ok (.iadd, 1) := by decide +kernel
theorem dX12_runs_64 : decode cX12_runs 64 = .ok (.putfield 317, 3) := by decide +kernel
theorem dX12_runs_67 : decode cX12_runs 67 = .ok (.iinc 4 1, 3) := by decide +kernel
theorem dX12_runs_70 : decode cX12_runs 70 = .ok (.goto (-51), 3) := by decide +kernel
theorem dX12_runs_73 : decode cX12_runs 73 = .ok (.aload_n 0, 1) := by decide +kernel
theorem dX12_runs_74 : decode cX12_runs 74 = .ok (.iload_n 3, 1) := by decide +kernel
theorem dX12_runs_75 : decode cX12_runs 75 = .ok (.putfield 480, 3) := by decide +kernel
theorem dX12_runs_78 : decode cX12_runs 78 = .ok (.iconst 1, 1) := by decide +kernel
theorem dX12_runs_79 : decode cX12_runs 79 = .ok (.ireturn, 1) := by decide +kernel
theorem dX12_draws_0 : decode cX12_draws 0 = .ok (.aload_n 0, 1) := by decide +kernel
theorem dX12_draws_1 : decode cX12_draws 1 = .ok (.ldc2_w 514, 3) := by decide +kernel
theorem dX12_draws_4 : decode cX12_draws 4 = .ok (.aload_n 0, 1) := by decide +kernel
theorem dX12_draws_5 : decode cX12_draws 5 = .ok (.getfield 516, 3) := by decide +kernel
theorem dX12_draws_8 : decode cX12_draws 8 = .ok (.i2l, 1) := by decide +kernel
theorem dX12_draws_9 : decode cX12_draws 9 = .ok (.lmul, 1) := by decide +kernel
theorem dX12_draws_10 : decode cX12_draws 10 = .ok (.ldc2_w 519, 3) := by decide +kernel
theorem dX12_draws_13 : decode cX12_draws 13 = .ok (.ladd, 1) := by decide +kernel
theorem dX12_draws_14 : decode cX12_draws 14 = .ok (.ldc2_w 521, 3) := by decide +kernel
theorem dX12_draws_17 : decode cX12_draws 17 = .ok (.lrem, 1) := by decide +kernel
theorem dX12_draws_18 : decode cX12_draws 18 = .ok (.l2i, 1) := by decide +kernel
theorem dX12_draws_19 : decode cX12_draws 19 = .ok (.putfield 516, 3) := by decide +kernel
theorem dX12_draws_22 : decode cX12_draws 22 = .ok (.aload_n 0, 1) := by decide +kernel
theorem dX12_draws_23 : decode cX12_draws 23 = .ok (.getfield 516, 3) := by decide +kernel
theorem dX12_draws_26 : decode cX12_draws 26 = .ok (.iload_n 1, 1) := by decide +kernel
theorem dX12_draws_27 : decode cX12_draws 27 = .ok (.irem, 1) := by decide +kernel
theorem dX12_draws_28 : decode cX12_draws 28 = .ok (.ireturn, 1) := by decide +kernel
theorem dX12_years_0 : decode cX12_years 0 = .ok (.iload_n 1, 1) := by decide +kernel
theorem dX12_years_1 : decode cX12_years 1 = .ok (.iconst 0, 1) := by decide +kernel
theorem dX12_years_2 : decode cX12_years 2 = .ok (.ldc 188, 2) := by decide +kernel
theorem dX12_years_4 : decode cX12_years 4 = .ok (.invokestatic 18, 3) := by decide +kernel
theorem dX12_years_7 : decode cX12_years 7 = .ok (.ifCond .eq 13, 3) := by decide +kernel
theorem dX12_years_10 : decode cX12_years 10 = .ok (.iload_n 2, 1) := by decide +kernel
theorem dX12_years_11 : decode cX12_years 11 = .ok (.iconst 1, 1) := by decide +kernel
theorem dX12_years_12 : decode cX12_years 12 = .ok (.bipush 60, 2) := by decide +kernel
theorem dX12_years_14 : decode cX12_years 14 = .ok (.invokestatic 18, 3) := by decide +kernel
theorem dX12_years_17 : decode cX12_years 17 = .ok (.ifCond .ne 9, 3) := by decide +kernel
theorem dX12_years_20 : decode cX12_years 20 = .ok (.aload_n 0, 1) := by decide +kernel
theorem dX12_years_21 : decode cX12_years 21 = .ok (.iconst (-1), 1) := by decide +kernel
theorem dX12_years_22 : decode cX12_years 22 = .ok (.invokevirtual 109, 3) := by decide +kernel
theorem dX12_years_25 : decode cX12_years 25 = .ok (.ireturn, 1) := by decide +kernel
theorem dX12_years_26 : decode cX12_years 26 = .ok (.aload_n 0, 1) := by decide +kernel
theorem dX12_years_27 : decode cX12_years 27 = .ok (.invokevirtual 115, 3) := by decide +kernel
theorem dX12_years_30 : decode cX12_years 30 = .ok (.ifCond .ne 10, 3) := by decide +kernel
theorem dX12_years_33 : decode cX12_years 33 = .ok (.aload_n 0, 1) := by decide +kernel
theorem dX12_years_34 : decode cX12_years 34 = .ok (.bipush (-3), 2) := by decide +kernel
theorem dX12_years_36 : decode cX12_years 36 = .ok (.invokevirtual 109, 3) := by decide +kernel
theorem dX12_years_39 : decode cX12_years 39 = .ok (.ireturn, 1) := by decide +kernel
theorem dX12_years_40 : decode cX12_years 40 = .ok (.aload_n 0, 1) := by decide +kernel
theorem dX12_years_41 : decode cX12_years 41 = .ok (.iload_n 1, 1) := by decide +kernel
theorem dX12_years_42 : decode cX12_years 42 = .ok (.putfield 516, 3) := by decide +kernel
theorem dX12_years_45 : decode cX12_years 45 = .ok (.aload_n 0, 1) := by decide +kernel
theorem dX12_years_46 : decode cX12_years 46 = .ok (.aload_n 0, 1) := by decide +kernel
theorem dX12_years_47 : decode cX12_years 47 = .ok (.invokevirtual 115, 3) := by decide +kernel
theorem dX12_years_50 : decode cX12_years 50 = .ok (.putfield 106, 3) := by decide +kernel
theorem dX12_years_53 : decode cX12_years 53 = .ok (.aload_n 0, 1) := by decide +kernel
theorem dX12_years_54 : decode cX12_years 54 = .ok (.iconst 0, 1) := by decide +kernel
theorem dX12_years_55 : decode cX12_years 55 = .ok (.invokevirtual 477, 3) := by decide +kernel
theorem dX12_years_58 : decode cX12_years 58 = .ok (.iconst 0, 1) := by decide +kernel
theorem dX12_years_59 : decode cX12_years 59 = .ok (.istore_n 3, 1) := by decide +kernel
theorem dX12_years_60 : decode cX12_years 60 = .ok (.iload_n 3, 1) := by decide +kernel
theorem dX12_years_61 : decode cX12_years 61 = .ok (.iload_n 2, 1) := by decide +kernel
theorem dX12_years_62 : decode cX12_years 62 = .ok (.if_icmp .ge 112, 3) := by decide +kernel
theorem dX12_years_65 : decode cX12_years 65 = .ok (.aload_n 0, 1) := by decide +kernel
theorem dX12_years_66 : decode cX12_years 66 = .ok (.getfield 28, 3) := by decide +kernel
theorem dX12_years_69 : decode cX12_years 69 = .ok (.bipush 28, 2) := by decide +kernel
theorem dX12_years_71 : decode cX12_years 71 = .ok (.iaload, 1) := by decide +kernel
theorem dX12_years_72 : decode cX12_years 72 = .ok (.sipush 999, 3) := by decide +kernel
theorem dX12_years_75 : decode cX12_years 75 = .ok (.if_icmp .ge 99, 3) := by decide +kernel
theorem dX12_years_78 : decode cX12_years 78 = .ok (.aload_n 0, 1) := by decide +kernel
theorem dX12_years_79 : decode cX12_years 79 = .ok (.aload_n 0, 1) := by decide +kernel
theorem dX12_years_80 : decode cX12_years 80 = .ok (.invokevirtual 115, 3) := by decide +kernel
theorem dX12_years_83 : decode cX12_years 83 = .ok (.invokevirtual 523, 3) := by decide +kernel
theorem dX12_years_86 : decode cX12_years 86 = .ok (.istore 4, 2) := by decide +kernel
theorem dX12_years_88 : decode cX12_years 88 = .ok (.aload_n 0, 1) := by decide +kernel
theorem dX12_years_89 : decode cX12_years 89 = .ok (.aload_n 0, 1) := by decide +kernel
theorem dX12_years_90 : decode cX12_years 90 = .ok (.getfield 28, 3) := by decide +kernel
theorem dX12_years_93 : decode cX12_years 93 = .ok (.bipush 67, 2) := by decide +kernel
theorem dX12_years_95 : decode cX12_years 95 = .ok (.iaload, 1) := by decide +kernel
theorem dX12_years_96 : decode cX12_years 96 = .ok (.invokevirtual 523, 3) := by decide +kernel
theorem dX12_years_99 : decode cX12_years 99 = .ok (.istore 5, 2) := by decide +kernel
theorem dX12_years_101 : decode cX12_years 101 = .ok (.aload_n 0, 1) := by decide +kernel
theorem dX12_years_102 : decode cX12_years 102 = .ok (.aload_n 0, 1) := by decide +kernel
theorem dX12_years_103 : decode cX12_years 103 = .ok (.getfield 28, 3) := by decide +kernel
theorem dX12_years_106 : decode cX12_years 106 = .ok (.bipush 68, 2) := by decide +kernel
theorem dX12_years_108 : decode cX12_years 108 = .ok (.iaload, 1) := by decide +kernel
theorem dX12_years_109 : decode cX12_years 109 = .ok (.invokevirtual 523, 3) := by decide +kernel
theorem dX12_years_112 : decode cX12_years 112 = .ok (.istore 6, 2) := by decide +kernel
theorem dX12_years_114 : decode cX12_years 114 = .ok (.aload_n 0, 1) := by decide +kernel
theorem dX12_years_115 : decode cX12_years 115 = .ok (.iconst 3, 1) := by decide +kernel
theorem dX12_years_116 : decode cX12_years 116 = .ok (.invokevirtual 523, 3) := by decide +kernel
theorem dX12_years_119 : decode cX12_years 119 = .ok (.istore 7, 2) := by decide +kernel
theorem dX12_years_121 : decode cX12_years 121 = .ok (.iload 7, 2) := by decide +kernel
theorem dX12_years_123 : decode cX12_years 123 = .ok (.iconst 2, 1) := by decide +kernel
theorem dX12_years_124 : decode cX12_years 124 = .ok (.if_icmp .ge 27, 3) := by decide +kernel
theorem dX12_years_127 : decode cX12_years 127 = .ok (.aload_n 0, 1) := by decide +kernel
theorem dX12_years_128 : decode cX12_years 128 = .ok (.iload 4, 2) := by decide +kernel
theorem dX12_years_130 : decode cX12_years 130 = .ok (.iload 5, 2) := by decide +kernel
theorem dX12_years_132 : decode cX12_years 132 = .ok (.iload 6, 2) := by decide +kernel
theorem dX12_years_134 : decode cX12_years 134 = .ok (.invokevirtual 159, 3) := by decide +kernel
theorem dX12_years_137 : decode cX12_years 137 = .ok (.ifCond .eq 14, 3) := by decide +kernel
theorem dX12_years_140 : decode cX12_years 140 = .ok (.aload_n 0, 1) := by decide +kernel
theorem dX12_years_141 : decode cX12_years 141 = .ok (.iload 4, 2) := by decide +kernel
theorem dX12_years_143 : decode cX12_years 143 = .ok (.iload 5, 2) := by decide +kernel
theorem dX12_years_145 : decode cX12_years 145 = .ok (.iload 6, 2) := by decide +kernel
theorem dX12_years_147 : decode cX12_years 147 = .ok (.invokevirtual 373, 3) := by decide +kernel
theorem dX12_years_150 : decode cX12_years 150 = .ok (.pop, 1) := by decide +kernel
theorem dX12_years_151 : decode cX12_years 151 = .ok (.iload 7, 2) := by decide +kernel
theorem dX12_years_153 : decode cX12_years 153 = .ok (.iconst 2, 1) := by decide +kernel
theorem dX12_years_154 : decode cX12_years 154 = .ok (.if_icmp .ne 9, 3) := by decide +kernel
theorem dX12_years_157 : decode cX12_years 157 = .ok (.aload_n 0, 1) := by decide +kernel
theorem dX12_years_158 : decode cX12_years 158 = .ok (.iload 4, 2) := by decide +kernel
theorem dX12_years_160 : decode cX12_years 160 = .ok (.invokevirtual 123, 3) := by decide +kernel
theorem dX12_years_163 : decode cX12_years 163 = .ok (.aload_n 0, 1) := by decide +kernel
theorem dX12_years_164 : decode cX12_years 164 = .ok (.invokevirtual 376, 3) := by decide +kernel
theorem dX12_years_167 : decode cX12_years 167 = .ok (.pop, 1) := by decide +kernel
theorem dX12_years_168 : decode cX12_years 168 = .ok (.iinc 3 1, 3) := by decide +kernel
theorem dX12_years_171 : decode cX12_years 171 = .ok (.goto (-111), 3) := by decide +kernel
theorem dX12_years_174 : decode cX12_years 174 = .ok (.aload_n 0, 1) := by decide +kernel
theorem dX12_years_175 : decode cX12_years 175 = .ok (.invokevirtual 323, 3) := by decide +kernel
theorem dX12_years_178 : decode cX12_years 178 = .ok (.istore_n 3, 1) := by decide +kernel
theorem dX12_years_179 : decode cX12_years 179 = .ok (.iconst 0, 1) := by decide +kernel
theorem dX12_years_180 : decode cX12_years 180 = .ok (.istore 4, 2) := by decide +kernel
theorem dX12_years_182 : decode cX12_years 182 = .ok (.iload 4, 2) := by decide +kernel
theorem dX12_years_184 : decode cX12_years 184 = .ok (.bipush 29, 2) := by decide +kernel
theorem dX12_years_186 : decode cX12_years 186 = .ok (.if_icmp .ge 23, 3) := by decide +kernel
theorem dX12_years_189 : decode cX12_years 189 = .ok (.aload_n 0, 1) := by decide +kernel
theorem dX12_years_190 : decode cX12_years 190 = .ok (.getfield 103, 3) := by decide +kernel
theorem dX12_years_193 : decode cX12_years 193 = .ok (.iload 4, 2) := by decide +kernel
theorem dX12_years_195 : decode cX12_years 195 = .ok (.aload_n 0, 1) := by decide +kernel
theorem dX12_years_196 : decode cX12_years 196 = .ok (.getfield 28, 3) := by decide +kernel
theorem dX12_years_199 : decode cX12_years 199 = .ok (.iload 4, 2) := by decide +kernel
theorem dX12_years_201 : decode cX12_years 201 = .ok (.iaload, 1) := by decide +kernel
theorem dX12_years_202 : decode cX12_years 202 = .ok (.iastore, 1) := by decide +kernel
theorem dX12_years_203 : decode cX12_years 203 = .ok (.iinc 4 1, 3) := by decide +kernel
theorem dX12_years_206 : decode cX12_years 206 = .ok (.goto (-24), 3) := by decide +kernel
theorem dX12_years_209 : decode cX12_years 209 = .ok (.aload_n 0, 1) := by decide +kernel
theorem dX12_years_210 : decode cX12_years 210 = .ok (.iconst 0, 1) := by decide +kernel
theorem dX12_years_211 : decode cX12_years 211 = .ok (.invokevirtual 486, 3) := by decide +kernel
theorem dX12_years_214 : decode cX12_years 214 = .ok (.aload_n 0, 1) := by decide +kernel
theorem dX12_years_215 : decode cX12_years 215 = .ok (.iload_n 3, 1) := by decide +kernel
theorem dX12_years_216 : decode cX12_years 216 = .ok (.invokevirtual 14, 3) := by decide +kernel
theorem dX12_years_219 : decode cX12_years 219 = .ok (.ireturn, 1) := by decide +kernel
theorem dX12_drawn_0 : decode cX12_drawn 0 = .ok (.iload_n 1, 1) := by decide +kernel
theorem dX12_drawn_1 : decode cX12_drawn 1 = .ok (.iconst 0, 1) := by decide +kernel
theorem dX12_drawn_2 : decode cX12_drawn 2 = .ok (.aload_n 0, 1) := by decide +kernel
theorem dX12_drawn_3 : decode cX12_drawn 3 = .ok (.getfield 106, 3) := by decide +kernel
theorem dX12_drawn_6 : decode cX12_drawn 6 = .ok (.iconst 1, 1) := by decide +kernel
theorem dX12_drawn_7 : decode cX12_drawn 7 = .ok (.isub, 1) := by decide +kernel
theorem dX12_drawn_8 : decode cX12_drawn 8 = .ok (.invokestatic 18, 3) := by decide +kernel
theorem dX12_drawn_11 : decode cX12_drawn 11 = .ok (.ifCond .eq 12, 3) := by decide +kernel
theorem dX12_drawn_14 : decode cX12_drawn 14 = .ok (.iload_n 2, 1) := by decide +kernel
theorem dX12_drawn_15 : decode cX12_drawn 15 = .ok (.iconst 0, 1) := by decide +kernel
theorem dX12_drawn_16 : decode cX12_drawn 16 = .ok (.iconst 2, 1) := by decide +kernel
theorem dX12_drawn_17 : decode cX12_drawn 17 = .ok (.invokestatic 18, 3) := by decide +kernel
theorem dX12_drawn_20 : decode cX12_drawn 20 = .ok (.ifCond .ne 5, 3) := by decide +kernel
theorem dX12_drawn_23 : decode cX12_drawn 23 = .ok (.iconst (-1), 1) := by decide +kernel
theorem dX12_drawn_24 : decode cX12_drawn 24 = .ok (.ireturn, 1) := by decide +kernel
theorem dX12_drawn_25 : decode cX12_drawn 25 = .ok (.aload_n 0, 1) := by decide +kernel
theorem dX12_drawn_26 : decode cX12_drawn 26 = .ok (.getfield 103, 3) := by decide +kernel
theorem dX12_drawn_29 : decode cX12_drawn 29 = .ok (.iload_n 2, 1) := by decide +kernel
theorem dX12_drawn_30 : decode cX12_drawn 30 = .ok (.ifCond .ne 7, 3) := by decide +kernel
theorem dX12_drawn_33 : decode cX12_drawn 33 = .ok (.iconst 0, 1) := by decide +kernel
theorem dX12_drawn_34 : decode cX12_drawn 34 = .ok (.goto 15, 3) := by decide +kernel
theorem dX12_drawn_37 : decode cX12_drawn 37 = .ok (.iload_n 2, 1) := by decide +kernel
theorem dX12_drawn_38 : decode cX12_drawn 38 = .ok (.iconst 1, 1) := by decide +kernel
theorem dX12_drawn_39 : decode cX12_drawn 39 = .ok (.if_icmp .ne 8, 3) := by decide +kernel
theorem dX12_drawn_42 : decode cX12_drawn 42 = .ok (.bipush 9, 2) := by decide +kernel
theorem dX12_drawn_44 : decode cX12_drawn 44 = .ok (.goto 5, 3) := by decide +kernel
theorem dX12_drawn_47 : decode cX12_drawn 47 = .ok (.bipush 18, 2) := by decide +kernel
theorem dX12_drawn_49 : decode cX12_drawn 49 = .ok (.iload_n 1, 1) := by decide +kernel
theorem dX12_drawn_50 : decode cX12_drawn 50 = .ok (.iadd, 1) := by decide +kernel
theorem dX12_drawn_51 : decode cX12_drawn 51 = .ok (.iaload, 1) := by decide +kernel
theorem dX12_drawn_52 : decode cX12_drawn 52 = .ok (.ireturn, 1) := by decide +kernel
theorem dX12_ragMany_0 : decode cX12_ragMany 0 = .ok (.iconst 0, 1) := by decide +kernel
theorem dX12_ragMany_1 : decode cX12_ragMany 1 = .ok (.istore_n 1, 1) := by decide +kernel
theorem dX12_ragMany_2 : decode cX12_ragMany 2 = .ok (.iconst 0, 1) := by decide +kernel
theorem dX12_ragMany_3 : decode cX12_ragMany 3 = .ok (.istore_n 2, 1) := by decide +kernel
theorem dX12_ragMany_4 : decode cX12_ragMany 4 = .ok (.iload_n 2, 1) := by decide +kernel
theorem dX12_ragMany_5 : decode cX12_ragMany 5 = .ok (.aload_n 0, 1) := by decide +kernel
theorem dX12_ragMany_6 : decode cX12_ragMany 6 = .ok (.invokevirtual 115, 3) := by decide +kernel
theorem dX12_ragMany_9 : decode cX12_ragMany 9 = .ok (.if_icmp .ge 25, 3) := by decide +kernel
theorem dX12_ragMany_12 : decode cX12_ragMany 12 = .ok (.iload_n 1, 1) := by decide +kernel
theorem dX12_ragMany_13 : decode cX12_ragMany 13 = .ok (.aload_n 0, 1) := by decide +kernel
theorem dX12_ragMany_14 : decode cX12_ragMany 14 = .ok (.iload_n 2, 1) := by decide +kernel
theorem dX12_ragMany_15 : decode cX12_ragMany 15 = .ok (.invokevirtual 357, 3) := by decide +kernel
theorem dX12_ragMany_18 : decode cX12_ragMany 18 = .ok (.ifCond .eq 7, 3) := by decide +kernel
theorem dX12_ragMany_21 : decode cX12_ragMany 21 = .ok (.iconst 0, 1) := by decide +kernel
theorem dX12_ragMany_22 : decode cX12_ragMany 22 = .ok (.goto 4, 3) := by decide +kernel
theorem dX12_ragMany_25 : decode cX12_ragMany 25 = .ok (.iconst 1, 1) := by decide +kernel
theorem dX12_ragMany_26 : decode cX12_ragMany 26 = .ok (.iadd, 1) := by decide +kernel
theorem dX12_ragMany_27 : decode cX12_ragMany 27 = .ok (.istore_n 1, 1) := by decide +kernel
theorem dX12_ragMany_28 : decode cX12_ragMany 28 = .ok (.iinc 2 1, 3) := by decide +kernel
theorem dX12_ragMany_31 : decode cX12_ragMany 31 = .ok (.goto (-27), 3) := by decide +kernel
theorem dX12_ragMany_34 : decode cX12_ragMany 34 = .ok (.iload_n 1, 1) := by decide +kernel
theorem dX12_ragMany_35 : decode cX12_ragMany 35 = .ok (.ireturn, 1) := by decide +kernel
theorem dX12_count_0 : decode cX12_count 0 = .ok (.iload_n 1, 1) := by decide +kernel
theorem dX12_count_1 : decode cX12_count 1 = .ok (.tableswitch 202 0 18 #[91, 96, 101, 106, 114, 122, 130, 135, 140, 140, 140, 150, 157, 165, 173, 173, 173, 186, 194], 91) := by decide +kernel
theorem dX12_count_92 : decode cX12_count 92 = .ok (.aload_n 0, 1) := by decide +kernel
theorem dX12_count_93 : decode cX12_count 93 = .ok (.invokevirtual 115, 3) := by decide +kernel
theorem dX12_count_96 : decode cX12_count 96 = .ok (.ireturn, 1) := by decide +kernel
theorem dX12_count_97 : decode cX12_count 97 = .ok (.aload_n 0, 1) := by decide +kernel
theorem dX12_count_98 : decode cX12_count 98 = .ok (.invokevirtual 143, 3) := by decide +kernel
theorem dX12_count_101 : decode cX12_count 101 = .ok (.ireturn, 1) := by decide +kernel
theorem dX12_count_102 : decode cX12_count 102 = .ok (.aload_n 0, 1) := by decide +kernel
theorem dX12_count_103 : decode cX12_count 103 = .ok (.invokevirtual 526, 3) := by decide +kernel
theorem dX12_count_106 : decode cX12_count 106 = .ok (.ireturn, 1) := by decide +kernel
theorem dX12_count_107 : decode cX12_count 107 = .ok (.aload_n 0, 1) := by decide +kernel
theorem dX12_count_108 : decode cX12_count 108 = .ok (.getfield 28, 3) := by decide +kernel
theorem dX12_count_111 : decode cX12_count 111 = .ok (.bipush 27, 2) := by decide +kernel
theorem dX12_count_113 : decode cX12_count 113 = .ok (.iaload, 1) := by decide +kernel
theorem dX12_count_114 : decode cX12_count 114 = .ok (.ireturn, 1) := by decide +kernel
theorem dX12_count_115 : decode cX12_count 115 = .ok (.aload_n 0, 1) := by decide +kernel
theorem dX12_count_116 : decode cX12_count 116 = .ok (.getfield 28, 3) := by decide +kernel
theorem dX12_count_119 : decode cX12_count 119 = .ok (.bipush 70, 2) := by decide +kernel
theorem dX12_count_121 : decode cX12_count 121 = .ok (.iaload, 1) := by decide +kernel
theorem dX12_count_122 : decode cX12_count 122 = .ok (.ireturn, 1) := by decide +kernel
theorem dX12_count_123 : decode cX12_count 123 = .ok (.aload_n 0, 1) := by decide +kernel
theorem dX12_count_124 : decode cX12_count 124 = .ok (.getfield 28, 3) := by decide +kernel
theorem dX12_count_127 : decode cX12_count 127 = .ok (.bipush 71, 2) := by decide +kernel
theorem dX12_count_129 : decode cX12_count 129 = .ok (.iaload, 1) := by decide +kernel
theorem dX12_count_130 : decode cX12_count 130 = .ok (.ireturn, 1) := by decide +kernel
theorem dX12_count_131 : decode cX12_count 131 = .ok (.aload_n 0, 1) := by decide +kernel
theorem dX12_count_132 : decode cX12_count 132 = .ok (.getfield 11, 3) := by decide +kernel
theorem dX12_count_135 : decode cX12_count 135 = .ok (.ireturn, 1) := by decide +kernel
theorem dX12_count_136 : decode cX12_count 136 = .ok (.aload_n 0, 1) := by decide +kernel
theorem dX12_count_137 : decode cX12_count 137 = .ok (.getfield 169, 3) := by decide +kernel
theorem dX12_count_140 : decode cX12_count 140 = .ok (.ireturn, 1) := by decide +kernel
theorem dX12_count_141 : decode cX12_count 141 = .ok (.aload_n 0, 1) := by decide +kernel
theorem dX12_count_142 : decode cX12_count 142 = .ok (.getfield 7, 3) := by decide +kernel
theorem dX12_count_145 : decode cX12_count 145 = .ok (.iload_n 1, 1) := by decide +kernel
theorem dX12_count_146 : decode cX12_count 146 = .ok (.bipush 7, 2) := by decide +kernel
theorem dX12_count_148 : decode cX12_count 148 = .ok (.isub, 1) := by decide +kernel
theorem dX12_count_149 : decode cX12_count 149 = .ok (.iaload, 1) := by decide +kernel
theorem dX12_count_150 : decode cX12_count 150 = .ok (.ireturn, 1) := by decide +kernel
theorem dX12_count_151 : decode cX12_count 151 = .ok (.aload_n 0, 1) := by decide +kernel
theorem dX12_count_152 : decode cX12_count 152 = .ok (.getfield 7, 3) := by decide +kernel
theorem dX12_count_155 : decode cX12_count 155 = .ok (.iconst 5, 1) := by decide +kernel
theorem dX12_count_156 : decode cX12_count 156 = .ok (.iaload, 1) := by decide +kernel
theorem dX12_count_157 : decode cX12_count 157 = .ok (.ireturn, 1) := by decide +kernel
theorem dX12_count_158 : decode cX12_count 158 = .ok (.aload_n 0, 1) := by decide +kernel
theorem dX12_count_159 : decode cX12_count 159 = .ok (.getfield 7, 3) := by decide +kernel
theorem dX12_count_162 : decode cX12_count 162 = .ok (.bipush 6, 2) := by decide +kernel
theorem dX12_count_164 : decode cX12_count 164 = .ok (.iaload, 1) := by decide +kernel
theorem dX12_count_165 : decode cX12_count 165 = .ok (.ireturn, 1) := by decide +kernel
theorem dX12_count_166 : decode cX12_count 166 = .ok (.aload_n 0, 1) := by decide +kernel
theorem dX12_count_167 : decode cX12_count 167 = .ok (.getfield 28, 3) := by decide +kernel
theorem dX12_count_170 : decode cX12_count 170 = .ok (.bipush 72, 2) := by decide +kernel
theorem dX12_count_172 : decode cX12_count 172 = .ok (.iaload, 1) := by decide +kernel
theorem dX12_count_173 : decode cX12_count 173 = .ok (.ireturn, 1) := by decide +kernel
theorem dX12_count_174 : decode cX12_count 174 = .ok (.aload_n 0, 1) := by decide +kernel
theorem dX12_count_175 : decode cX12_count 175 = .ok (.getfield 28, 3) := by decide +kernel
theorem dX12_count_178 : decode cX12_count 178 = .ok (.iload_n 1, 1) := by decide +kernel
theorem dX12_count_179 : decode cX12_count 179 = .ok (.bipush 14, 2) := by decide +kernel
theorem dX12_count_181 : decode cX12_count 181 = .ok (.isub, 1) := by decide +kernel
theorem dX12_count_182 : decode cX12_count 182 = .ok (.invokestatic 166, 3) := by decide +kernel
theorem dX12_count_185 : decode cX12_count 185 = .ok (.iaload, 1) := by decide +kernel
theorem dX12_count_186 : decode cX12_count 186 = .ok (.ireturn, 1) := by decide +kernel
theorem dX12_count_187 : decode cX12_count 187 = .ok (.aload_n 0, 1) := by decide +kernel
theorem dX12_count_188 : decode cX12_count 188 = .ok (.getfield 28, 3) := by decide +kernel
theorem dX12_count_191 : decode cX12_count 191 = .ok (.bipush 67, 2) := by decide +kernel
theorem dX12_count_193 : decode cX12_count 193 = .ok (.iaload, 1) := by decide +kernel
theorem dX12_count_194 : decode cX12_count 194 = .ok (.ireturn, 1) := by decide +kernel
theorem dX12_count_195 : decode cX12_count 195 = .ok (.aload_n 0, 1) := by decide +kernel
theorem dX12_count_196 : decode cX12_count 196 = .ok (.getfield 28, 3) := by decide +kernel
theorem dX12_count_199 : decode cX12_count 199 = .ok (.bipush 68, 2) := by decide +kernel
theorem dX12_count_201 : decode cX12_count 201 = .ok (.iaload, 1) := by decide +kernel
theorem dX12_count_202 : decode cX12_count 202 = .ok (.ireturn, 1) := by decide +kernel
theorem dX12_count_203 : decode cX12_count 203 = .ok (.iconst (-1), 1) := by decide +kernel
theorem dX12_count_204 : decode cX12_count 204 = .ok (.ireturn, 1) := by decide +kernel
theorem dX12_status_0 : decode cX12_status 0 = .ok (.aload_n 0, 1) := by decide +kernel
theorem dX12_status_1 : decode cX12_status 1 = .ok (.getfield 3, 3) := by decide +kernel
theorem dX12_status_4 : decode cX12_status 4 = .ok (.ireturn, 1) := by decide +kernel
theorem dJ6_bitCount_0f7a4_0 : decode cJ6_bitCount_0f7a4 0 = .ok (.iload_n 0, 1) := by decide +kernel
theorem dJ6_bitCount_0f7a4_1 : decode cJ6_bitCount_0f7a4 1 = .ok (.iload_n 0, 1) := by decide +kernel
theorem dJ6_bitCount_0f7a4_2 : decode cJ6_bitCount_0f7a4 2 = .ok (.iconst 1, 1) := by decide +kernel
theorem dJ6_bitCount_0f7a4_3 : decode cJ6_bitCount_0f7a4 3 = .ok (.iushr, 1) := by decide +kernel
theorem dJ6_bitCount_0f7a4_4 : decode cJ6_bitCount_0f7a4 4 = .ok (.ldc_w 265, 3) := by decide +kernel
theorem dJ6_bitCount_0f7a4_7 : decode cJ6_bitCount_0f7a4 7 = .ok (.iand, 1) := by decide +kernel
theorem dJ6_bitCount_0f7a4_8 : decode cJ6_bitCount_0f7a4 8 = .ok (.isub, 1) := by decide +kernel
theorem dJ6_bitCount_0f7a4_9 : decode cJ6_bitCount_0f7a4 9 = .ok (.istore_n 0, 1) := by decide +kernel
theorem dJ6_bitCount_0f7a4_10 : decode cJ6_bitCount_0f7a4 10 = .ok (.iload_n 0, 1) := by decide +kernel
theorem dJ6_bitCount_0f7a4_11 : decode cJ6_bitCount_0f7a4 11 = .ok (.ldc_w 266, 3) := by decide +kernel
theorem dJ6_bitCount_0f7a4_14 : decode cJ6_bitCount_0f7a4 14 = .ok (.iand, 1) := by decide +kernel
theorem dJ6_bitCount_0f7a4_15 : decode cJ6_bitCount_0f7a4 15 = .ok (.iload_n 0, 1) := by decide +kernel
theorem dJ6_bitCount_0f7a4_16 : decode cJ6_bitCount_0f7a4 16 = .ok (.iconst 2, 1) := by decide +kernel
theorem dJ6_bitCount_0f7a4_17 : decode cJ6_bitCount_0f7a4 17 = .ok (.iushr, 1) := by decide +kernel
theorem dJ6_bitCount_0f7a4_18 : decode cJ6_bitCount_0f7a4 18 = .ok (.ldc_w 266, 3) := by decide +kernel
theorem dJ6_bitCount_0f7a4_21 : decode cJ6_bitCount_0f7a4 21 = .ok (.iand, 1) := by decide +kernel
theorem dJ6_bitCount_0f7a4_22 : decode cJ6_bitCount_0f7a4 22 = .ok (.iadd, 1) := by decide +kernel
theorem dJ6_bitCount_0f7a4_23 : decode cJ6_bitCount_0f7a4 23 = .ok (.istore_n 0, 1) := by decide +kernel
theorem dJ6_bitCount_0f7a4_24 : decode cJ6_bitCount_0f7a4 24 = .ok (.iload_n 0, 1) := by decide +kernel
theorem dJ6_bitCount_0f7a4_25 : decode cJ6_bitCount_0f7a4 25 = .ok (.iload_n 0, 1) := by decide +kernel
theorem dJ6_bitCount_0f7a4_26 : decode cJ6_bitCount_0f7a4 26 = .ok (.iconst 4, 1) := by decide +kernel
theorem dJ6_bitCount_0f7a4_27 : decode cJ6_bitCount_0f7a4 27 = .ok (.iushr, 1) := by decide +kernel
theorem dJ6_bitCount_0f7a4_28 : decode cJ6_bitCount_0f7a4 28 = .ok (.iadd, 1) := by decide +kernel
theorem dJ6_bitCount_0f7a4_29 : decode cJ6_bitCount_0f7a4 29 = .ok (.ldc_w 267, 3) := by decide +kernel
theorem dJ6_bitCount_0f7a4_32 : decode cJ6_bitCount_0f7a4 32 = .ok (.iand, 1) := by decide +kernel
theorem dJ6_bitCount_0f7a4_33 : decode cJ6_bitCount_0f7a4 33 = .ok (.istore_n 0, 1) := by decide +kernel
theorem dJ6_bitCount_0f7a4_34 : decode cJ6_bitCount_0f7a4 34 = .ok (.iload_n 0, 1) := by decide +kernel
theorem dJ6_bitCount_0f7a4_35 : decode cJ6_bitCount_0f7a4 35 = .ok (.iload_n 0, 1) := by decide +kernel
theorem dJ6_bitCount_0f7a4_36 : decode cJ6_bitCount_0f7a4 36 = .ok (.bipush 8, 2) := by decide +kernel
theorem dJ6_bitCount_0f7a4_38 : decode cJ6_bitCount_0f7a4 38 = .ok (.iushr, 1) := by decide +kernel
theorem dJ6_bitCount_0f7a4_39 : decode cJ6_bitCount_0f7a4 39 = .ok (.iadd, 1) := by decide +kernel
theorem dJ6_bitCount_0f7a4_40 : decode cJ6_bitCount_0f7a4 40 = .ok (.istore_n 0, 1) := by decide +kernel
theorem dJ6_bitCount_0f7a4_41 : decode cJ6_bitCount_0f7a4 41 = .ok (.iload_n 0, 1) := by decide +kernel
theorem dJ6_bitCount_0f7a4_42 : decode cJ6_bitCount_0f7a4 42 = .ok (.iload_n 0, 1) := by decide +kernel
theorem dJ6_bitCount_0f7a4_43 : decode cJ6_bitCount_0f7a4 43 = .ok (.bipush 16, 2) := by decide +kernel
theorem dJ6_bitCount_0f7a4_45 : decode cJ6_bitCount_0f7a4 45 = .ok (.iushr, 1) := by decide +kernel
theorem dJ6_bitCount_0f7a4_46 : decode cJ6_bitCount_0f7a4 46 = .ok (.iadd, 1) := by decide +kernel
theorem dJ6_bitCount_0f7a4_47 : decode cJ6_bitCount_0f7a4 47 = .ok (.istore_n 0, 1) := by decide +kernel
theorem dJ6_bitCount_0f7a4_48 : decode cJ6_bitCount_0f7a4 48 = .ok (.iload_n 0, 1) := by decide +kernel
theorem dJ6_bitCount_0f7a4_49 : decode cJ6_bitCount_0f7a4 49 = .ok (.bipush 63, 2) := by decide +kernel
theorem dJ6_bitCount_0f7a4_51 : decode cJ6_bitCount_0f7a4 51 = .ok (.iand, 1) := by decide +kernel
theorem dJ6_bitCount_0f7a4_52 : decode cJ6_bitCount_0f7a4 52 = .ok (.ireturn, 1) := by decide +kernel
theorem dJ9_max_7cf53_0 : decode cJ9_max_7cf53 0 = .ok (.iload_n 0, 1) := by decide +kernel
theorem dJ9_max_7cf53_1 : decode cJ9_max_7cf53 1 = .ok (.iload_n 1, 1) := by decide +kernel
theorem dJ9_max_7cf53_2 : decode cJ9_max_7cf53 2 = .ok (.if_icmp .lt 7, 3) := by decide +kernel
theorem dJ9_max_7cf53_5 : decode cJ9_max_7cf53 5 = .ok (.iload_n 0, 1) := by decide +kernel
theorem dJ9_max_7cf53_6 : decode cJ9_max_7cf53 6 = .ok (.goto 4, 3) := by decide +kernel
theorem dJ9_max_7cf53_9 : decode cJ9_max_7cf53 9 = .ok (.iload_n 1, 1) := by decide +kernel
theorem dJ9_max_7cf53_10 : decode cJ9_max_7cf53 10 = .ok (.ireturn, 1) := by decide +kernel
theorem dJ9_min_7cf53_0 : decode cJ9_min_7cf53 0 = .ok (.iload_n 0, 1) := by decide +kernel
theorem dJ9_min_7cf53_1 : decode cJ9_min_7cf53 1 = .ok (.iload_n 1, 1) := by decide +kernel
theorem dJ9_min_7cf53_2 : decode cJ9_min_7cf53 2 = .ok (.if_icmp .gt 7, 3) := by decide +kernel
theorem dJ9_min_7cf53_5 : decode cJ9_min_7cf53 5 = .ok (.iload_n 0, 1) := by decide +kernel
theorem dJ9_min_7cf53_6 : decode cJ9_min_7cf53 6 = .ok (.goto 4, 3) := by decide +kernel
theorem dJ9_min_7cf53_9 : decode cJ9_min_7cf53 9 = .ok (.iload_n 1, 1) := by decide +kernel
theorem dJ9_min_7cf53_10 : decode cJ9_min_7cf53 10 = .ok (.ireturn, 1) := by decide +kernel
theorem dJ0_length_8abf5_0 : decode cJ0_length_8abf5 0 = .ok (.aload_n 0, 1) := by decide +kernel
theorem dJ0_length_8abf5_1 : decode cJ0_length_8abf5 1 = .ok (.getfield 9, 3) := by decide +kernel
theorem dJ0_length_8abf5_4 : decode cJ0_length_8abf5 4 = .ok (.arraylength, 1) := by decide +kernel
theorem dJ0_length_8abf5_5 : decode cJ0_length_8abf5 5 = .ok (.aload_n 0, 1) := by decide +kernel
theorem dJ0_length_8abf5_6 : decode cJ0_length_8abf5 6 = .ok (.invokevirtual 335, 3) := by decide +kernel
theorem dJ0_length_8abf5_9 : decode cJ0_length_8abf5 9 = .ok (.ishr, 1) := by decide +kernel
theorem dJ0_length_8abf5_10 : decode cJ0_length_8abf5 10 = .ok (.ireturn, 1) := by decide +kernel
theorem dJ0_charAt_5068e_0 : decode cJ0_charAt_5068e 0 = .ok (.aload_n 0, 1) := by decide +kernel
theorem dJ0_charAt_5068e_1 : decode cJ0_charAt_5068e 1 = .ok (.invokevirtual 492, 3) := by decide +kernel
theorem dJ0_charAt_5068e_4 : decode cJ0_charAt_5068e 4 = .ok (.ifCond .eq 12, 3) := by decide +kernel
theorem dJ0_charAt_5068e_7 : decode cJ0_charAt_5068e 7 = .ok (.aload_n 0, 1) := by decide +kernel
theorem dJ0_charAt_5068e_8 : decode cJ0_charAt_5068e 8 = .ok (.getfield 9, 3) := by decide +kernel
theorem dJ0_charAt_5068e_11 : decode cJ0_charAt_5068e 11 = .ok (.iload_n 1, 1) := by decide +kernel
theorem dJ0_charAt_5068e_12 : decode cJ0_charAt_5068e 12 = .ok (.invokestatic 495, 3) := by decide +kernel
theorem dJ0_charAt_5068e_15 : decode cJ0_charAt_5068e 15 = .ok (.ireturn, 1) := by decide +kernel
theorem dJ0_charAt_5068e_16 : decode cJ0_charAt_5068e 16 = .ok (.aload_n 0, 1) := by decide +kernel
theorem dJ0_charAt_5068e_17 : decode cJ0_charAt_5068e 17 = .ok (.getfield 9, 3) := by decide +kernel
theorem dJ0_charAt_5068e_20 : decode cJ0_charAt_5068e 20 = .ok (.iload_n 1, 1) := by decide +kernel
theorem dJ0_charAt_5068e_21 : decode cJ0_charAt_5068e 21 = .ok (.invokestatic 498, 3) := by decide +kernel
theorem dJ0_charAt_5068e_24 : decode cJ0_charAt_5068e 24 = .ok (.ireturn, 1) := by decide +kernel
theorem dJ0_coder_7d493_0 : decode cJ0_coder_7d493 0 = .ok (.getstatic 38, 3) := by decide +kernel
theorem dJ0_coder_7d493_3 : decode cJ0_coder_7d493 3 = .ok (.ifCond .eq 10, 3) := by decide +kernel
theorem dJ0_coder_7d493_6 : decode cJ0_coder_7d493 6 = .ok (.aload_n 0, 1) := by decide +kernel
theorem dJ0_coder_7d493_7 : decode cJ0_coder_7d493 7 = .ok (.getfield 15, 3) := by decide +kernel
theorem dJ0_coder_7d493_10 : decode cJ0_coder_7d493 10 = .ok (.goto 4, 3) := by decide +kernel
theorem dJ0_coder_7d493_13 : decode cJ0_coder_7d493 13 = .ok (.iconst 1, 1) := by decide +kernel
theorem dJ0_coder_7d493_14 : decode cJ0_coder_7d493 14 = .ok (.ireturn, 1) := by decide +kernel
theorem dJ0_isLatin1_aae02_0 : decode cJ0_isLatin1_aae02 0 = .ok (.getstatic 38, 3) := by decide +kernel
theorem dJ0_isLatin1_aae02_3 : decode cJ0_isLatin1_aae02 3 = .ok (.ifCond .eq 14, 3) := by decide +kernel
theorem dJ0_isLatin1_aae02_6 : decode cJ0_isLatin1_aae02 6 = .ok (.aload_n 0, 1) := by decide +kernel
theorem dJ0_isLatin1_aae02_7 : decode cJ0_isLatin1_aae02 7 = .ok (.getfield 15, 3) := by decide +kernel
theorem dJ0_isLatin1_aae02_10 : decode cJ0_isLatin1_aae02 10 = .ok (.ifCond .ne 7, 3) := by decide +kernel
theorem dJ0_isLatin1_aae02_13 : decode cJ0_isLatin1_aae02 13 = .ok (.iconst 1, 1) := by decide +kernel
theorem dJ0_isLatin1_aae02_14 : decode cJ0_isLatin1_aae02 14 = .ok (.goto 4, 3) := by decide +kernel
theorem dJ0_isLatin1_aae02_17 : decode cJ0_isLatin1_aae02 17 = .ok (.iconst 0, 1) := by decide +kernel
theorem dJ0_isLatin1_aae02_18 : decode cJ0_isLatin1_aae02 18 = .ok (.ireturn, 1) := by decide +kernel
theorem dJ0_checkIndex_df160_0 : decode cJ0_checkIndex_df160 0 = .ok (.iload_n 0, 1) := by decide +kernel
theorem dJ0_checkIndex_df160_1 : decode cJ0_checkIndex_df160 1 = .ok (.iload_n 1, 1) := by decide +kernel
theorem dJ0_checkIndex_df160_2 : decode cJ0_checkIndex_df160 2 = .ok (.getstatic 1053, 3) := by decide +kernel
theorem dJ0_checkIndex_df160_5 : decode cJ0_checkIndex_df160 5 = .ok (.invokestatic 1059, 3) := by decide +kernel
theorem dJ0_checkIndex_df160_8 : decode cJ0_checkIndex_df160 8 = .ok (.pop, 1) := by decide +kernel
theorem dJ0_checkIndex_df160_9 : decode cJ0_checkIndex_df160 9 = .ok (.return_, 1) := by decide +kernel
theorem dJ1_charAt_3b067_0 : decode cJ1_charAt_3b067 0 = .ok (.iload_n 1, 1) := by decide +kernel
theorem dJ1_charAt_3b067_1 : decode cJ1_charAt_3b067 1 = .ok (.aload_n 0, 1) := by decide +kernel
theorem dJ1_charAt_3b067_2 : decode cJ1_charAt_3b067 2 = .ok (.arraylength, 1) := by decide +kernel
theorem dJ1_charAt_3b067_3 : decode cJ1_charAt_3b067 3 = .ok (.invokestatic 9, 3) := by decide +kernel
theorem dJ1_charAt_3b067_6 : decode cJ1_charAt_3b067 6 = .ok (.aload_n 0, 1) := by decide +kernel
theorem dJ1_charAt_3b067_7 : decode cJ1_charAt_3b067 7 = .ok (.iload_n 1, 1) := by decide +kernel
theorem dJ1_charAt_3b067_8 : decode cJ1_charAt_3b067 8 = .ok (.baload, 1) := by decide +kernel
theorem dJ1_charAt_3b067_9 : decode cJ1_charAt_3b067 9 = .ok (.sipush 255, 3) := by decide +kernel
theorem dJ1_charAt_3b067_12 : decode cJ1_charAt_3b067 12 = .ok (.iand, 1) := by decide +kernel
theorem dJ1_charAt_3b067_13 : decode cJ1_charAt_3b067 13 = .ok (.i2c, 1) := by decide +kernel
theorem dJ1_charAt_3b067_14 : decode cJ1_charAt_3b067 14 = .ok (.ireturn, 1) := by decide +kernel
theorem dJ2_getChar_3b067_0 : decode cJ2_getChar_3b067 0 = .ok (.getstatic 44, 3) := by decide +kernel
theorem dJ2_getChar_3b067_3 : decode cJ2_getChar_3b067 3 = .ok (.ifCond .ne 25, 3) := by decide +kernel
theorem dJ2_getChar_3b067_6 : decode cJ2_getChar_3b067 6 = .ok (.iload_n 1, 1) := by decide +kernel
theorem dJ2_getChar_3b067_7 : decode cJ2_getChar_3b067 7 = .ok (.ifCond .lt 11, 3) := by decide +kernel
theorem dJ2_getChar_3b067_10 : decode cJ2_getChar_3b067 10 = .ok (.iload_n 1, 1) := by decide +kernel
theorem dJ2_getChar_3b067_11 : decode cJ2_getChar_3b067 11 = .ok (.aload_n 0, 1) := by decide +kernel
theorem dJ2_getChar_3b067_12 : decode cJ2_getChar_3b067 12 = .ok (.invokestatic 48, 3) := by decide +kernel
theorem dJ2_getChar_3b067_15 : decode cJ2_getChar_3b067 15 = .ok (.if_icmp .lt 13, 3) := by decide +kernel
theorem dJ2_getChar_3b067_18 : decode cJ2_getChar_3b067 18 = .ok (.new 52, 3) := by decide +kernel
theorem dJ2_getChar_3b067_21 : decode cJ2_getChar_3b067 21 = .ok (.dup, 1) := by decide +kernel
theorem dJ2_getChar_3b067_22 : decode cJ2_getChar_3b067 22 = .ok (.ldc 54, 2) := by decide +kernel
theorem dJ2_getChar_3b067_24 : decode cJ2_getChar_3b067 24 = .ok (.invokespecial 56, 3) := by decide +kernel
theorem dJ2_getChar_3b067_27 : decode cJ2_getChar_3b067 27 = .ok (.athrow, 1) := by decide +kernel
theorem dJ2_getChar_3b067_28 : decode cJ2_getChar_3b067 28 = .ok (.iload_n 1, 1) := by decide +kernel
theorem dJ2_getChar_3b067_29 : decode cJ2_getChar_3b067 29 = .ok (.iconst 1, 1) := by decide +kernel
theorem dJ2_getChar_3b067_30 : decode cJ2_getChar_3b067 30 = .ok (.ishl, 1) := by decide +kernel
theorem dJ2_getChar_3b067_31 : decode cJ2_getChar_3b067 31 = .ok (.istore_n 1, 1) := by decide +kernel
theorem dJ2_getChar_3b067_32 : decode cJ2_getChar_3b067 32 = .ok (.aload_n 0, 1) := by decide +kernel
theorem dJ2_getChar_3b067_33 : decode cJ2_getChar_3b067 33 = .ok (.iload_n 1, 1) := by decide +kernel
theorem dJ2_getChar_3b067_34 : decode cJ2_getChar_3b067 34 = .ok (.iinc 1 1, 3) := by decide +kernel
theorem dJ2_getChar_3b067_37 : decode cJ2_getChar_3b067 37 = .ok (.baload, 1) := by decide +kernel
theorem dJ2_getChar_3b067_38 : decode cJ2_getChar_3b067 38 = .ok (.sipush 255, 3) := by decide +kernel
theorem dJ2_getChar_3b067_41 : decode cJ2_getChar_3b067 41 = .ok (.iand, 1) := by decide +kernel
theorem dJ2_getChar_3b067_42 : decode cJ2_getChar_3b067 42 = .ok (.getstatic 59, 3) := by decide +kernel
theorem dJ2_getChar_3b067_45 : decode cJ2_getChar_3b067 45 = .ok (.ishl, 1) := by decide +kernel
theorem dJ2_getChar_3b067_46 : decode cJ2_getChar_3b067 46 = .ok (.aload_n 0, 1) := by decide +kernel
theorem dJ2_getChar_3b067_47 : decode cJ2_getChar_3b067 47 = .ok (.iload_n 1, 1) := by decide +kernel
theorem dJ2_getChar_3b067_48 : decode cJ2_getChar_3b067 48 = .ok (.baload, 1) := by decide +kernel
theorem dJ2_getChar_3b067_49 : decode cJ2_getChar_3b067 49 = .ok (.sipush 255, 3) := by decide +kernel
theorem dJ2_getChar_3b067_52 : decode cJ2_getChar_3b067 52 = .ok (.iand, 1) := by decide +kernel
theorem dJ2_getChar_3b067_53 : decode cJ2_getChar_3b067 53 = .ok (.getstatic 63, 3) := by decide +kernel
theorem dJ2_getChar_3b067_56 : decode cJ2_getChar_3b067 56 = .ok (.ishl, 1) := by decide +kernel
theorem dJ2_getChar_3b067_57 : decode cJ2_getChar_3b067 57 = .ok (.ior, 1) := by decide +kernel
theorem dJ2_getChar_3b067_58 : decode cJ2_getChar_3b067 58 = .ok (.i2c, 1) := by decide +kernel
theorem dJ2_getChar_3b067_59 : decode cJ2_getChar_3b067 59 = .ok (.ireturn, 1) := by decide +kernel
theorem dJ2_length_9d52b_0 : decode cJ2_length_9d52b 0 = .ok (.aload_n 0, 1) := by decide +kernel
theorem dJ2_length_9d52b_1 : decode cJ2_length_9d52b 1 = .ok (.arraylength, 1) := by decide +kernel
theorem dJ2_length_9d52b_2 : decode cJ2_length_9d52b 2 = .ok (.iconst 1, 1) := by decide +kernel
theorem dJ2_length_9d52b_3 : decode cJ2_length_9d52b 3 = .ok (.ishr, 1) := by decide +kernel
theorem dJ2_length_9d52b_4 : decode cJ2_length_9d52b 4 = .ok (.ireturn, 1) := by decide +kernel
theorem dJ2_charAt_3b067_0 : decode cJ2_charAt_3b067 0 = .ok (.iload_n 1, 1) := by decide +kernel
theorem dJ2_charAt_3b067_1 : decode cJ2_charAt_3b067 1 = .ok (.aload_n 0, 1) := by decide +kernel
theorem dJ2_charAt_3b067_2 : decode cJ2_charAt_3b067 2 = .ok (.invokestatic 67, 3) := by decide +kernel
theorem dJ2_charAt_3b067_5 : decode cJ2_charAt_3b067 5 = .ok (.aload_n 0, 1) := by decide +kernel
theorem dJ2_charAt_3b067_6 : decode cJ2_charAt_3b067 6 = .ok (.iload_n 1, 1) := by decide +kernel
theorem dJ2_charAt_3b067_7 : decode cJ2_charAt_3b067 7 = .ok (.invokestatic 71, 3) := by decide +kernel
theorem dJ2_charAt_3b067_10 : decode cJ2_charAt_3b067 10 = .ok (.ireturn, 1) := by decide +kernel
theorem dJ2_checkIndex_2214a_0 : decode cJ2_checkIndex_2214a 0 = .ok (.iload_n 0, 1) := by decide +kernel
theorem dJ2_checkIndex_2214a_1 : decode cJ2_checkIndex_2214a 1 = .ok (.aload_n 1, 1) := by decide +kernel
theorem dJ2_checkIndex_2214a_2 : decode cJ2_checkIndex_2214a 2 = .ok (.invokestatic 48, 3) := by decide +kernel
theorem dJ2_checkIndex_2214a_5 : decode cJ2_checkIndex_2214a 5 = .ok (.invokestatic 414, 3) := by decide +kernel
theorem dJ2_checkIndex_2214a_8 : decode cJ2_checkIndex_2214a 8 = .ok (.return_, 1) := by decide +kernel
theorem dJ7_fill_d0a16_0 : decode cJ7_fill_d0a16 0 = .ok (.iconst 0, 1) := by decide +kernel
theorem dJ7_fill_d0a16_1 : decode cJ7_fill_d0a16 1 = .ok (.istore_n 3, 1) := by decide +kernel
theorem dJ7_fill_d0a16_2 : decode cJ7_fill_d0a16 2 = .ok (.aload_n 0, 1) := by decide +kernel
theorem dJ7_fill_d0a16_3 : decode cJ7_fill_d0a16 3 = .ok (.arraylength, 1) := by decide +kernel
theorem dJ7_fill_d0a16_4 : decode cJ7_fill_d0a16 4 = .ok (.istore 4, 2) := by decide +kernel
theorem dJ7_fill_d0a16_6 : decode cJ7_fill_d0a16 6 = .ok (.iload_n 3, 1) := by decide +kernel
theorem dJ7_fill_d0a16_7 : decode cJ7_fill_d0a16 7 = .ok (.iload 4, 2) := by decide +kernel
theorem dJ7_fill_d0a16_9 : decode cJ7_fill_d0a16 9 = .ok (.if_icmp .ge 13, 3) := by decide +kernel
theorem dJ7_fill_d0a16_12 : decode cJ7_fill_d0a16 12 = .ok (.aload_n 0, 1) := by decide +kernel
theorem dJ7_fill_d0a16_13 : decode cJ7_fill_d0a16 13 = .ok (.iload_n 3, 1) := by decide +kernel
theorem dJ7_fill_d0a16_14 : decode cJ7_fill_d0a16 14 = .ok (.lload_n 1, 1) := by decide +kernel
theorem dJ7_fill_d0a16_15 : decode cJ7_fill_d0a16 15 = .ok (.lastore, 1) := by decide +kernel
theorem dJ7_fill_d0a16_16 : decode cJ7_fill_d0a16 16 = .ok (.iinc 3 1, 3) := by decide +kernel
theorem dJ7_fill_d0a16_19 : decode cJ7_fill_d0a16 19 = .ok (.goto (-13), 3) := by decide +kernel
theorem dJ7_fill_d0a16_22 : decode cJ7_fill_d0a16 22 = .ok (.return_, 1) := by decide +kernel
theorem dJ7_fill_53178_0 : decode cJ7_fill_53178 0 = .ok (.iconst 0, 1) := by decide +kernel
theorem dJ7_fill_53178_1 : decode cJ7_fill_53178 1 = .ok (.istore_n 2, 1) := by decide +kernel
theorem dJ7_fill_53178_2 : decode cJ7_fill_53178 2 = .ok (.aload_n 0, 1) := by decide +kernel
theorem dJ7_fill_53178_3 : decode cJ7_fill_53178 3 = .ok (.arraylength, 1) := by decide +kernel
theorem dJ7_fill_53178_4 : decode cJ7_fill_53178 4 = .ok (.istore_n 3, 1) := by decide +kernel
theorem dJ7_fill_53178_5 : decode cJ7_fill_53178 5 = .ok (.iload_n 2, 1) := by decide +kernel
theorem dJ7_fill_53178_6 : decode cJ7_fill_53178 6 = .ok (.iload_n 3, 1) := by decide +kernel
theorem dJ7_fill_53178_7 : decode cJ7_fill_53178 7 = .ok (.if_icmp .ge 13, 3) := by decide +kernel
theorem dJ7_fill_53178_10 : decode cJ7_fill_53178 10 = .ok (.aload_n 0, 1) := by decide +kernel
theorem dJ7_fill_53178_11 : decode cJ7_fill_53178 11 = .ok (.iload_n 2, 1) := by decide +kernel
theorem dJ7_fill_53178_12 : decode cJ7_fill_53178 12 = .ok (.iload_n 1, 1) := by decide +kernel
theorem dJ7_fill_53178_13 : decode cJ7_fill_53178 13 = .ok (.iastore, 1) := by decide +kernel
theorem dJ7_fill_53178_14 : decode cJ7_fill_53178 14 = .ok (.iinc 2 1, 3) := by decide +kernel
theorem dJ7_fill_53178_17 : decode cJ7_fill_53178 17 = .ok (.goto (-12), 3) := by decide +kernel
theorem dJ7_fill_53178_20 : decode cJ7_fill_53178 20 = .ok (.return_, 1) := by decide +kernel
theorem dJ3_checkIndex_8e157_0 : decode cJ3_checkIndex_8e157 0 = .ok (.iload_n 0, 1) := by decide +kernel
theorem dJ3_checkIndex_8e157_1 : decode cJ3_checkIndex_8e157 1 = .ok (.ifCond .lt 8, 3) := by decide +kernel
theorem dJ3_checkIndex_8e157_4 : decode cJ3_checkIndex_8e157 4 = .ok (.iload_n 0, 1) := by decide +kernel
theorem dJ3_checkIndex_8e157_5 : decode cJ3_checkIndex_8e157 5 = .ok (.iload_n 1, 1) := by decide +kernel
theorem dJ3_checkIndex_8e157_6 : decode cJ3_checkIndex_8e157 6 = .ok (.if_icmp .lt 10, 3) := by decide +kernel
theorem dJ3_checkIndex_8e157_9 : decode cJ3_checkIndex_8e157 9 = .ok (.aload_n 2, 1) := by decide +kernel
theorem dJ3_checkIndex_8e157_10 : decode cJ3_checkIndex_8e157 10 = .ok (.iload_n 0, 1) := by decide +kernel
theorem dJ3_checkIndex_8e157_11 : decode cJ3_checkIndex_8e157 11 = .ok (.iload_n 1, 1) := by decide +kernel
theorem dJ3_checkIndex_8e157_12 : decode cJ3_checkIndex_8e157 12 = .ok (.invokestatic 95, 3) := by decide +kernel
theorem dJ3_checkIndex_8e157_15 : decode cJ3_checkIndex_8e157 15 = .ok (.athrow, 1) := by decide +kernel
theorem dJ3_checkIndex_8e157_16 : decode cJ3_checkIndex_8e157 16 = .ok (.iload_n 0, 1) := by decide +kernel
theorem dJ3_checkIndex_8e157_17 : decode cJ3_checkIndex_8e157 17 = .ok (.ireturn, 1) := by decide +kernel
