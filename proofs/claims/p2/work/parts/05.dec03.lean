theorem dX11_drawYear_0 : decode cX11_drawYear 0 = .ok (.iload_n 1, 1) := by decide +kernel
theorem dX11_drawYear_1 : decode cX11_drawYear 1 = .ok (.invokestatic 388, 3) := by decide +kernel
theorem dX11_drawYear_4 : decode cX11_drawYear 4 = .ok (.istore_n 2, 1) := by decide +kernel
theorem dX11_drawYear_5 : decode cX11_drawYear 5 = .ok (.iload_n 2, 1) := by decide +kernel
theorem dX11_drawYear_6 : decode cX11_drawYear 6 = .ok (.invokestatic 388, 3) := by decide +kernel
theorem dX11_drawYear_9 : decode cX11_drawYear 9 = .ok (.istore_n 3, 1) := by decide +kernel
theorem dX11_drawYear_10 : decode cX11_drawYear 10 = .ok (.iload_n 3, 1) := by decide +kernel
theorem dX11_drawYear_11 : decode cX11_drawYear 11 = .ok (.invokestatic 388, 3) := by decide +kernel
theorem dX11_drawYear_14 : decode cX11_drawYear 14 = .ok (.istore 4, 2) := by decide +kernel
theorem dX11_drawYear_16 : decode cX11_drawYear 16 = .ok (.iload 4, 2) := by decide +kernel
theorem dX11_drawYear_18 : decode cX11_drawYear 18 = .ok (.invokestatic 388, 3) := by decide +kernel
theorem dX11_drawYear_21 : decode cX11_drawYear 21 = .ok (.istore 5, 2) := by decide +kernel
theorem dX11_drawYear_23 : decode cX11_drawYear 23 = .ok (.aload_n 0, 1) := by decide +kernel
theorem dX11_drawYear_24 : decode cX11_drawYear 24 = .ok (.getfield 27, 3) := by decide +kernel
theorem dX11_drawYear_27 : decode cX11_drawYear 27 = .ok (.getfield 298, 3) := by decide +kernel
theorem dX11_drawYear_30 : decode cX11_drawYear 30 = .ok (.ifCond .le 15, 3) := by decide +kernel
theorem dX11_drawYear_33 : decode cX11_drawYear 33 = .ok (.iload_n 2, 1) := by decide +kernel
theorem dX11_drawYear_34 : decode cX11_drawYear 34 = .ok (.aload_n 0, 1) := by decide +kernel
theorem dX11_drawYear_35 : decode cX11_drawYear 35 = .ok (.getfield 27, 3) := by decide +kernel
theorem dX11_drawYear_38 : decode cX11_drawYear 38 = .ok (.getfield 298, 3) := by decide +kernel
theorem dX11_drawYear_41 : decode cX11_drawYear 41 = .ok (.irem, 1) := by decide +kernel
theorem dX11_drawYear_42 : decode cX11_drawYear 42 = .ok (.goto 4, 3) := by decide +kernel
theorem dX11_drawYear_45 : decode cX11_drawYear 45 = .ok (.iconst 0, 1) := by decide +kernel
theorem dX11_drawYear_46 : decode cX11_drawYear 46 = .ok (.istore 6, 2) := by decide +kernel
theorem dX11_drawYear_48 : decode cX11_drawYear 48 = .ok (.aload_n 0, 1) := by decide +kernel
theorem dX11_drawYear_49 : decode cX11_drawYear 49 = .ok (.getfield 27, 3) := by decide +kernel
theorem dX11_drawYear_52 : decode cX11_drawYear 52 = .ok (.getfield 155, 3) := by decide +kernel
theorem dX11_drawYear_55 : decode cX11_drawYear 55 = .ok (.ifCond .le 15, 3) := by decide +kernel
theorem dX11_drawYear_58 : decode cX11_drawYear 58 = .ok (.iload_n 3, 1) := by decide +kernel
theorem dX11_drawYear_59 : decode cX11_drawYear 59 = .ok (.aload_n 0, 1) := by decide +kernel
theorem dX11_drawYear_60 : decode cX11_drawYear 60 = .ok (.getfield 27, 3) := by decide +kernel
theorem dX11_drawYear_63 : decode cX11_drawYear 63 = .ok (.getfield 155, 3) := by decide +kernel
theorem dX11_drawYear_66 : decode cX11_drawYear 66 = .ok (.irem, 1) := by decide +kernel
theorem dX11_drawYear_67 : decode cX11_drawYear 67 = .ok (.goto 4, 3) := by decide +kernel
theorem dX11_drawYear_70 : decode cX11_drawYear 70 = .ok (.iconst 0, 1) := by decide +kernel
theorem dX11_drawYear_71 : decode cX11_drawYear 71 = .ok (.istore 7, 2) := by decide +kernel
theorem dX11_drawYear_73 : decode cX11_drawYear 73 = .ok (.aload_n 0, 1) := by decide +kernel
theorem dX11_drawYear_74 : decode cX11_drawYear 74 = .ok (.getfield 27, 3) := by decide +kernel
theorem dX11_drawYear_77 : decode cX11_drawYear 77 = .ok (.getfield 158, 3) := by decide +kernel
theorem dX11_drawYear_80 : decode cX11_drawYear 80 = .ok (.ifCond .le 16, 3) := by decide +kernel
theorem dX11_drawYear_83 : decode cX11_drawYear 83 = .ok (.iload 4, 2) := by decide +kernel
theorem dX11_drawYear_85 : decode cX11_drawYear 85 = .ok (.aload_n 0, 1) := by decide +kernel
theorem dX11_drawYear_86 : decode cX11_drawYear 86 = .ok (.getfield 27, 3) := by decide +kernel
theorem dX11_drawYear_89 : decode cX11_drawYear 89 = .ok (.getfield 158, 3) := by decide +kernel
theorem dX11_drawYear_92 : decode cX11_drawYear 92 = .ok (.irem, 1) := by decide +kernel
theorem dX11_drawYear_93 : decode cX11_drawYear 93 = .ok (.goto 4, 3) := by decide +kernel
theorem dX11_drawYear_96 : decode cX11_drawYear 96 = .ok (.iconst 0, 1) := by decide +kernel
theorem dX11_drawYear_97 : decode cX11_drawYear 97 = .ok (.istore 8, 2) := by decide +kernel
theorem dX11_drawYear_99 : decode cX11_drawYear 99 = .ok (.iload 5, 2) := by decide +kernel
theorem dX11_drawYear_101 : decode cX11_drawYear 101 = .ok (.iconst 3, 1) := by decide +kernel
theorem dX11_drawYear_102 : decode cX11_drawYear 102 = .ok (.irem, 1) := by decide +kernel
theorem dX11_drawYear_103 : decode cX11_drawYear 103 = .ok (.iconst 2, 1) := by decide +kernel
theorem dX11_drawYear_104 : decode cX11_drawYear 104 = .ok (.if_icmp .ne 15, 3) := by decide +kernel
theorem dX11_drawYear_107 : decode cX11_drawYear 107 = .ok (.aload_n 0, 1) := by decide +kernel
theorem dX11_drawYear_108 : decode cX11_drawYear 108 = .ok (.getfield 27, 3) := by decide +kernel
theorem dX11_drawYear_111 : decode cX11_drawYear 111 = .ok (.iload 6, 2) := by decide +kernel
theorem dX11_drawYear_113 : decode cX11_drawYear 113 = .ok (.invokevirtual 301, 3) := by decide +kernel
theorem dX11_drawYear_116 : decode cX11_drawYear 116 = .ok (.goto 44, 3) := by decide +kernel
theorem dX11_drawYear_119 : decode cX11_drawYear 119 = .ok (.aload_n 0, 1) := by decide +kernel
theorem dX11_drawYear_120 : decode cX11_drawYear 120 = .ok (.aload_n 0, 1) := by decide +kernel
theorem dX11_drawYear_121 : decode cX11_drawYear 121 = .ok (.getfield 27, 3) := by decide +kernel
theorem dX11_drawYear_124 : decode cX11_drawYear 124 = .ok (.iload 6, 2) := by decide +kernel
theorem dX11_drawYear_126 : decode cX11_drawYear 126 = .ok (.iload 7, 2) := by decide +kernel
theorem dX11_drawYear_128 : decode cX11_drawYear 128 = .ok (.iload 8, 2) := by decide +kernel
theorem dX11_drawYear_130 : decode cX11_drawYear 130 = .ok (.invokevirtual 176, 3) := by decide +kernel
theorem dX11_drawYear_133 : decode cX11_drawYear 133 = .ok (.ifCond .eq 27, 3) := by decide +kernel
theorem dX11_drawYear_136 : decode cX11_drawYear 136 = .ok (.aload_n 0, 1) := by decide +kernel
theorem dX11_drawYear_137 : decode cX11_drawYear 137 = .ok (.getfield 27, 3) := by decide +kernel
theorem dX11_drawYear_140 : decode cX11_drawYear 140 = .ok (.getfield 134, 3) := by decide +kernel
theorem dX11_drawYear_143 : decode cX11_drawYear 143 = .ok (.iload 6, 2) := by decide +kernel
theorem dX11_drawYear_145 : decode cX11_drawYear 145 = .ok (.iload 7, 2) := by decide +kernel
theorem dX11_drawYear_147 : decode cX11_drawYear 147 = .ok (.iastore, 1) := by decide +kernel
theorem dX11_drawYear_148 : decode cX11_drawYear 148 = .ok (.aload_n 0, 1) := by decide +kernel
theorem dX11_drawYear_149 : decode cX11_drawYear 149 = .ok (.getfield 27, 3) := by decide +kernel
theorem dX11_drawYear_152 : decode cX11_drawYear 152 = .ok (.getfield 137, 3) := by decide +kernel
theorem dX11_drawYear_155 : decode cX11_drawYear 155 = .ok (.iload 6, 2) := by decide +kernel
theorem dX11_drawYear_157 : decode cX11_drawYear 157 = .ok (.iload 8, 2) := by decide +kernel
theorem dX11_drawYear_159 : decode cX11_drawYear 159 = .ok (.iastore, 1) := by decide +kernel
theorem dX11_drawYear_160 : decode cX11_drawYear 160 = .ok (.aload_n 0, 1) := by decide +kernel
theorem dX11_drawYear_161 : decode cX11_drawYear 161 = .ok (.getfield 27, 3) := by decide +kernel
theorem dX11_drawYear_164 : decode cX11_drawYear 164 = .ok (.aload_n 0, 1) := by decide +kernel
theorem dX11_drawYear_165 : decode cX11_drawYear 165 = .ok (.getfield 65, 3) := by decide +kernel
theorem dX11_drawYear_168 : decode cX11_drawYear 168 = .ok (.aload_n 0, 1) := by decide +kernel
theorem dX11_drawYear_169 : decode cX11_drawYear 169 = .ok (.getfield 12, 3) := by decide +kernel
theorem dX11_drawYear_172 : decode cX11_drawYear 172 = .ok (.invokevirtual 143, 3) := by decide +kernel
theorem dX11_drawYear_175 : decode cX11_drawYear 175 = .ok (.invokevirtual 370, 3) := by decide +kernel
theorem dX11_drawYear_178 : decode cX11_drawYear 178 = .ok (.pop, 1) := by decide +kernel
theorem dX11_drawYear_179 : decode cX11_drawYear 179 = .ok (.iload 5, 2) := by decide +kernel
theorem dX11_drawYear_181 : decode cX11_drawYear 181 = .ok (.ireturn, 1) := by decide +kernel
theorem dX12_lies_0 : decode cX12_lies 0 = .ok (.iload_n 0, 1) := by decide +kernel
theorem dX12_lies_1 : decode cX12_lies 1 = .ok (.iload_n 1, 1) := by decide +kernel
theorem dX12_lies_2 : decode cX12_lies 2 = .ok (.if_icmp .lt 12, 3) := by decide +kernel
theorem dX12_lies_5 : decode cX12_lies 5 = .ok (.iload_n 0, 1) := by decide +kernel
theorem dX12_lies_6 : decode cX12_lies 6 = .ok (.iload_n 2, 1) := by decide +kernel
theorem dX12_lies_7 : decode cX12_lies 7 = .ok (.if_icmp .gt 7, 3) := by decide +kernel
theorem dX12_lies_10 : decode cX12_lies 10 = .ok (.iconst 1, 1) := by decide +kernel
theorem dX12_lies_11 : decode cX12_lies 11 = .ok (.goto 4, 3) := by decide +kernel
theorem dX12_lies_14 : decode cX12_lies 14 = .ok (.iconst 0, 1) := by decide +kernel
theorem dX12_lies_15 : decode cX12_lies 15 = .ok (.ireturn, 1) := by decide +kernel
theorem dX12_lesser_0 : decode cX12_lesser 0 = .ok (.iload_n 0, 1) := by decide +kernel
theorem dX12_lesser_1 : decode cX12_lesser 1 = .ok (.iload_n 1, 1) := by decide +kernel
theorem dX12_lesser_2 : decode cX12_lesser 2 = .ok (.if_icmp .ge 7, 3) := by decide +kernel
theorem dX12_lesser_5 : decode cX12_lesser 5 = .ok (.iload_n 0, 1) := by decide +kernel
theorem dX12_lesser_6 : decode cX12_lesser 6 = .ok (.goto 4, 3) := by decide +kernel
theorem dX12_lesser_9 : decode cX12_lesser 9 = .ok (.iload_n 1, 1) := by decide +kernel
theorem dX12_lesser_10 : decode cX12_lesser 10 = .ok (.ireturn, 1) := by decide +kernel
theorem dX12_greater_0 : decode cX12_greater 0 = .ok (.iload_n 0, 1) := by decide +kernel
theorem dX12_greater_1 : decode cX12_greater 1 = .ok (.iload_n 1, 1) := by decide +kernel
theorem dX12_greater_2 : decode cX12_greater 2 = .ok (.if_icmp .le 7, 3) := by decide +kernel
theorem dX12_greater_5 : decode cX12_greater 5 = .ok (.iload_n 0, 1) := by decide +kernel
theorem dX12_greater_6 : decode cX12_greater 6 = .ok (.goto 4, 3) := by decide +kernel
theorem dX12_greater_9 : decode cX12_greater 9 = .ok (.iload_n 1, 1) := by decide +kernel
theorem dX12_greater_10 : decode cX12_greater 10 = .ok (.ireturn, 1) := by decide +kernel
theorem dX12_refuses_0 : decode cX12_refuses 0 = .ok (.aload_n 0, 1) := by decide +kernel
theorem dX12_refuses_1 : decode cX12_refuses 1 = .ok (.iload_n 1, 1) := by decide +kernel
theorem dX12_refuses_2 : decode cX12_refuses 2 = .ok (.putfield 3, 3) := by decide +kernel
theorem dX12_refuses_5 : decode cX12_refuses 5 = .ok (.aload_n 0, 1) := by decide +kernel
theorem dX12_refuses_6 : decode cX12_refuses 6 = .ok (.getfield 7, 3) := by decide +kernel
theorem dX12_refuses_9 : decode cX12_refuses 9 = .ok (.iload_n 1, 1) := by decide +kernel
theorem dX12_refuses_10 : decode cX12_refuses 10 = .ok (.ineg, 1) := by decide +kernel
theorem dX12_refuses_11 : decode cX12_refuses 11 = .ok (.dup2, 1) := by decide +kernel
theorem dX12_refuses_12 : decode cX12_refuses 12 = .ok (.iaload, 1) := by decide +kernel
theorem dX12_refuses_13 : decode cX12_refuses 13 = .ok (.iconst 1, 1) := by decide +kernel
theorem dX12_refuses_14 : decode cX12_refuses 14 = .ok (.iadd, 1) := by decide +kernel
theorem dX12_refuses_15 : decode cX12_refuses 15 = .ok (.iastore, 1) := by decide +kernel
theorem dX12_refuses_16 : decode cX12_refuses 16 = .ok (.iload_n 1, 1) := by decide +kernel
theorem dX12_refuses_17 : decode cX12_refuses 17 = .ok (.ireturn, 1) := by decide +kernel
theorem dX12_good_0 : decode cX12_good 0 = .ok (.aload_n 0, 1) := by decide +kernel
theorem dX12_good_1 : decode cX12_good 1 = .ok (.iconst 0, 1) := by decide +kernel
theorem dX12_good_2 : decode cX12_good 2 = .ok (.putfield 3, 3) := by decide +kernel
theorem dX12_good_5 : decode cX12_good 5 = .ok (.iload_n 1, 1) := by decide +kernel
theorem dX12_good_6 : decode cX12_good 6 = .ok (.ireturn, 1) := by decide +kernel
theorem dX12_settled_0 : decode cX12_settled 0 = .ok (.aload_n 0, 1) := by decide +kernel
theorem dX12_settled_1 : decode cX12_settled 1 = .ok (.iconst 0, 1) := by decide +kernel
theorem dX12_settled_2 : decode cX12_settled 2 = .ok (.putfield 11, 3) := by decide +kernel
theorem dX12_settled_5 : decode cX12_settled 5 = .ok (.aload_n 0, 1) := by decide +kernel
theorem dX12_settled_6 : decode cX12_settled 6 = .ok (.iload_n 1, 1) := by decide +kernel
theorem dX12_settled_7 : decode cX12_settled 7 = .ok (.invokevirtual 14, 3) := by decide +kernel
theorem dX12_settled_10 : decode cX12_settled 10 = .ok (.ireturn, 1) := by decide +kernel
theorem dX12_isIn_0 : decode cX12_isIn 0 = .ok (.iload_n 0, 1) := by decide +kernel
theorem dX12_isIn_1 : decode cX12_isIn 1 = .ok (.iload_n 1, 1) := by decide +kernel
theorem dX12_isIn_2 : decode cX12_isIn 2 = .ok (.ishr, 1) := by decide +kernel
theorem dX12_isIn_3 : decode cX12_isIn 3 = .ok (.iconst 1, 1) := by decide +kernel
theorem dX12_isIn_4 : decode cX12_isIn 4 = .ok (.iand, 1) := by decide +kernel
theorem dX12_isIn_5 : decode cX12_isIn 5 = .ok (.iconst 1, 1) := by decide +kernel
theorem dX12_isIn_6 : decode cX12_isIn 6 = .ok (.if_icmp .ne 7, 3) := by decide +kernel
theorem dX12_isIn_9 : decode cX12_isIn 9 = .ok (.iconst 1, 1) := by decide +kernel
theorem dX12_isIn_10 : decode cX12_isIn 10 = .ok (.goto 4, 3) := by decide +kernel
theorem dX12_isIn_13 : decode cX12_isIn 13 = .ok (.iconst 0, 1) := by decide +kernel
theorem dX12_isIn_14 : decode cX12_isIn 14 = .ok (.ireturn, 1) := by decide +kernel
theorem dX12_isSide_0 : decode cX12_isSide 0 = .ok (.iload_n 0, 1) := by decide +kernel
theorem dX12_isSide_1 : decode cX12_isSide 1 = .ok (.iconst 1, 1) := by decide +kernel
theorem dX12_isSide_2 : decode cX12_isSide 2 = .ok (.bipush 12, 2) := by decide +kernel
theorem dX12_isSide_4 : decode cX12_isSide 4 = .ok (.invokestatic 18, 3) := by decide +kernel
theorem dX12_isSide_7 : decode cX12_isSide 7 = .ok (.ireturn, 1) := by decide +kernel
theorem dX12_isAlong_0 : decode cX12_isAlong 0 = .ok (.iload_n 0, 1) := by decide +kernel
theorem dX12_isAlong_1 : decode cX12_isAlong 1 = .ok (.iconst 0, 1) := by decide +kernel
theorem dX12_isAlong_2 : decode cX12_isAlong 2 = .ok (.bipush 11, 2) := by decide +kernel
theorem dX12_isAlong_4 : decode cX12_isAlong 4 = .ok (.invokestatic 18, 3) := by decide +kernel
theorem dX12_isAlong_7 : decode cX12_isAlong 7 = .ok (.ireturn, 1) := by decide +kernel
theorem dX12_init_0 : decode cX12_init 0 = .ok (.aload_n 0, 1) := by decide +kernel
theorem dX12_init_1 : decode cX12_init 1 = .ok (.invokespecial 22, 3) := by decide +kernel
theorem dX12_init_4 : decode cX12_init 4 = .ok (.aload_n 0, 1) := by decide +kernel
theorem dX12_init_5 : decode cX12_init 5 = .ok (.bipush 7, 2) := by decide +kernel
theorem dX12_init_7 : decode cX12_init 7 = .ok (.newarray .int, 2) := by decide +kernel
theorem dX12_init_9 : decode cX12_init 9 = .ok (.putfield 7, 3) := by decide +kernel
theorem dX12_init_12 : decode cX12_init 12 = .ok (.aload_n 0, 1) := by decide +kernel
theorem dX12_init_13 : decode cX12_init 13 = .ok (.sipush 5680, 3) := by decide +kernel
theorem dX12_init_16 : decode cX12_init 16 = .ok (.newarray .int, 2) := by decide +kernel
theorem dX12_init_18 : decode cX12_init 18 = .ok (.putfield 28, 3) := by decide +kernel
theorem dX12_init_21 : decode cX12_init 21 = .ok (.aload_n 0, 1) := by decide +kernel
theorem dX12_init_22 : decode cX12_init 22 = .ok (.sipush 11360, 3) := by decide +kernel
theorem dX12_init_25 : decode cX12_init 25 = .ok (.newarray .int, 2) := by decide +kernel
theorem dX12_init_27 : decode cX12_init 27 = .ok (.putfield 31, 3) := by decide +kernel
theorem dX12_init_30 : decode cX12_init 30 = .ok (.aload_n 0, 1) := by decide +kernel
theorem dX12_init_31 : decode cX12_init 31 = .ok (.iconst 2, 1) := by decide +kernel
theorem dX12_init_32 : decode cX12_init 32 = .ok (.newarray .boolean, 2) := by decide +kernel
theorem dX12_init_34 : decode cX12_init 34 = .ok (.putfield 34, 3) := by decide +kernel
theorem dX12_init_37 : decode cX12_init 37 = .ok (.aload_n 0, 1) := by decide +kernel
theorem dX12_init_38 : decode cX12_init 38 = .ok (.bipush 58, 2) := by decide +kernel
theorem dX12_init_40 : decode cX12_init 40 = .ok (.newarray .int, 2) := by decide +kernel
theorem dX12_init_42 : decode cX12_init 42 = .ok (.putfield 38, 3) := by decide +kernel
theorem dX12_init_45 : decode cX12_init 45 = .ok (.aload_n 0, 1) := by decide +kernel
theorem dX12_init_46 : decode cX12_init 46 = .ok (.bipush 127, 2) := by decide +kernel
theorem dX12_init_48 : decode cX12_init 48 = .ok (.newarray .byte, 2) := by decide +kernel
theorem dX12_init_50 : decode cX12_init 50 = .ok (.dup, 1) := by decide +kernel
theorem dX12_init_51 : decode cX12_init 51 = .ok (.iconst 0, 1) := by decide +kernel
theorem dX12_init_52 : decode cX12_init 52 = .ok (.bipush 99, 2) := by decide +kernel
theorem dX12_init_54 : decode cX12_init 54 = .ok (.bastore, 1) := by decide +kernel
theorem dX12_init_55 : decode cX12_init 55 = .ok (.dup, 1) := by decide +kernel
theorem dX12_init_56 : decode cX12_init 56 = .ok (.iconst 1, 1) := by decide +kernel
theorem dX12_init_57 : decode cX12_init 57 = .ok (.bipush 111, 2) := by decide +kernel
theorem dX12_init_59 : decode cX12_init 59 = .ok (.bastore, 1) := by decide +kernel
theorem dX12_init_60 : decode cX12_init 60 = .ok (.dup, 1) := by decide +kernel
theorem dX12_init_61 : decode cX12_init 61 = .ok (.iconst 2, 1) := by decide +kernel
theorem dX12_init_62 : decode cX12_init 62 = .ok (.bipush 115, 2) := by decide +kernel
theorem dX12_init_64 : decode cX12_init 64 = .ok (.bastore, 1) := by decide +kernel
theorem dX12_init_65 : decode cX12_init 65 = .ok (.dup, 1) := by decide +kernel
theorem dX12_init_66 : decode cX12_init 66 = .ok (.iconst 3, 1) := by decide +kernel
theorem dX12_init_67 : decode cX12_init 67 = .ok (.bipush 116, 2) := by decide +kernel
theorem dX12_init_69 : decode cX12_init 69 = .ok (.bastore, 1) := by decide +kernel
theorem dX12_init_70 : decode cX12_init 70 = .ok (.dup, 1) := by decide +kernel
theorem dX12_init_71 : decode cX12_init 71 = .ok (.iconst 4, 1) := by decide +kernel
theorem dX12_init_72 : decode cX12_init 72 = .ok (.bipush 115, 2) := by decide +kernel
theorem dX12_init_74 : decode cX12_init 74 = .ok (.bastore, 1) := by decide +kernel
theorem dX12_init_75 : decode cX12_init 75 = .ok (.dup, 1) := by decide +kernel
theorem dX12_init_76 : decode cX12_init 76 = .ok (.iconst 5, 1) := by decide +kernel
theorem dX12_init_77 : decode cX12_init 77 = .ok (.bipush 32, 2) := by decide +kernel
theorem dX12_init_79 : decode cX12_init 79 = .ok (.bastore, 1) := by decide +kernel
theorem dX12_init_80 : decode cX12_init 80 = .ok (.dup, 1) := by decide +kernel
theorem dX12_init_81 : decode cX12_init 81 = .ok (.bipush 6, 2) := by decide +kernel
theorem dX12_init_83 : decode cX12_init 83 = .ok (.bipush 119, 2) := by decide +kernel
theorem dX12_init_85 : decode cX12_init 85 = .ok (.bastore, 1) := by decide +kernel
theorem dX12_init_86 : decode cX12_init 86 = .ok (.dup, 1) := by decide +kernel
theorem dX12_init_87 : decode cX12_init 87 = .ok (.bipush 7, 2) := by decide +kernel
theorem dX12_init_89 : decode cX12_init 89 = .ok (.bipush 101, 2) := by decide +kernel
theorem dX12_init_91 : decode cX12_init 91 = .ok (.bastore, 1) := by decide +kernel
theorem dX12_init_92 : decode cX12_init 92 = .ok (.dup, 1) := by decide +kernel
theorem dX12_init_93 : decode cX12_init 93 = .ok (.bipush 8, 2) := by decide +kernel
theorem dX12_init_95 : decode cX12_init 95 = .ok (.bipush 97, 2) := by decide +kernel
theorem dX12_init_97 : decode cX12_init 97 = .ok (.bastore, 1) := by decide +kernel
theorem dX12_init_98 : decode cX12_init 98 = .ok (.dup, 1) := by decide +kernel
theorem dX12_init_99 : decode cX12_init 99 = .ok (.bipush 9, 2) := by decide +kernel
theorem dX12_init_101 : decode cX12_init 101 = .ok (.bipush 114, 2) := by decide +kernel
theorem dX12_init_103 : decode cX12_init 103 = .ok (.bastore, 1) := by decide +kernel
theorem dX12_init_104 : decode cX12_init 104 = .ok (.dup, 1) := by decide +kernel
theorem dX12_init_105 : decode cX12_init 105 = .ok (.bipush 10, 2) := by decide +kernel
theorem dX12_init_107 : decode cX12_init 107 = .ok (.bipush 115, 2) := by decide +kernel
theorem dX12_init_109 : decode cX12_init 109 = .ok (.bastore, 1) := by decide +kernel
theorem dX12_init_110 : decode cX12_init 110 = .ok (.dup, 1) := by decide +kernel
theorem dX12_init_111 : decode cX12_init 111 = .ok (.bipush 11, 2) := by decide +kernel
theorem dX12_init_113 : decode cX12_init 113 = .ok (.bipush 32, 2) := by decide +kernel
theorem dX12_init_115 : decode cX12_init 115 = .ok (.bastore, 1) := by decide +kernel
theorem dX12_init_116 : decode cX12_init 116 = .ok (.dup, 1) := by decide +kernel
theorem dX12_init_117 : decode cX12_init 117 = .ok (.bipush 12, 2) := by decide +kernel
theorem dX12_init_119 : decode cX12_init 119 = .ok (.bipush 98, 2) := by decide +kernel
theorem dX12_init_121 : decode cX12_init 121 = .ok (.bastore, 1) := by decide +kernel
theorem dX12_init_122 : decode cX12_init 122 = .ok (.dup, 1) := by decide +kernel
theorem dX12_init_123 : decode cX12_init 123 = .ok (.bipush 13, 2) := by decide +kernel
theorem dX12_init_125 : decode cX12_init 125 = .ok (.bipush 97, 2) := by decide +kernel
theorem dX12_init_127 : decode cX12_init 127 = .ok (.bastore, 1) := by decide +kernel
theorem dX12_init_128 : decode cX12_init 128 = .ok (.dup, 1) := by decide +kernel
theorem dX12_init_129 : decode cX12_init 129 = .ok (.bipush 14, 2) := by decide +kernel
theorem dX12_init_131 : decode cX12_init 131 = .ok (.bipush 114, 2) := by decide +kernel
theorem dX12_init_133 : decode cX12_init 133 = .ok (.bastore, 1) := by decide +kernel
theorem dX12_init_134 : decode cX12_init 134 = .ok (.dup, 1) := by decide +kernel
theorem dX12_init_135 : decode cX12_init 135 = .ok (.bipush 15, 2) := by decide +kernel
theorem dX12_init_137 : decode cX12_init 137 = .ok (.bipush 115, 2) := by decide +kernel
theorem dX12_init_139 : decode cX12_init 139 = .ok (.bastore, 1) := by decide +kernel
theorem dX12_init_140 : decode cX12_init 140 = .ok (.dup, 1) := by decide +kernel
theorem dX12_init_141 : decode cX12_init 141 = .ok (.bipush 16, 2) := by decide +kernel
theorem dX12_init_143 : decode cX12_init 143 = .ok (.bipush 32, 2) := by decide +kernel
theorem dX12_init_145 : decode cX12_init 145 = .ok (.bastore, 1) := by decide +kernel
theorem dX12_init_146 : decode cX12_init 146 = .ok (.dup, 1) := by decide +kernel
theorem dX12_init_147 : decode cX12_init 147 = .ok (.bipush 17, 2) := by decide +kernel
theorem dX12_init_149 : decode cX12_init 149 = .ok (.bipush 105, 2) := by decide +kernel
theorem dX12_init_151 : decode cX12_init 151 = .ok (.bastore, 1) := by decide +kernel
theorem dX12_init_152 : decode cX12_init 152 = .ok (.dup, 1) := by decide +kernel
theorem dX12_init_153 : decode cX12_init 153 = .ok (.bipush 18, 2) := by decide +kernel
theorem dX12_init_155 : decode cX12_init 155 = .ok (.bipush 102, 2) := by decide +kernel
theorem dX12_init_157 : decode cX12_init 157 = .ok (.bastore, 1) := by decide +kernel
theorem dX12_init_158 : decode cX12_init 158 = .ok (.dup, 1) := by decide +kernel
theorem dX12_init_159 : decode cX12_init 159 = .ok (.bipush 19, 2) := by decide +kernel
theorem dX12_init_161 : decode cX12_init 161 = .ok (.bipush 32, 2) := by decide +kernel
theorem dX12_init_163 : decode cX12_init 163 = .ok (.bastore, 1) := by decide +kernel
theorem dX12_init_164 : decode cX12_init 164 = .ok (.dup, 1) := by decide +kernel
theorem dX12_init_165 : decode cX12_init 165 = .ok (.bipush 20, 2) := by decide +kernel
theorem dX12_init_167 : decode cX12_init 167 = .ok (.bipush 111, 2) := by decide +kernel
theorem dX12_init_169 : decode cX12_init 169 = .ok (.bastore, 1) := by decide +kernel
theorem dX12_init_170 : decode cX12_init 170 = .ok (.dup, 1) := by decide +kernel
theorem dX12_init_171 : decode cX12_init 171 = .ok (.bipush 21, 2) := by decide +kernel
theorem dX12_init_173 : decode cX12_init 173 = .ok (.bipush 114, 2) := by decide +kernel
theorem dX12_init_175 : decode cX12_init 175 = .ok (.bastore, 1) := by decide +kernel
theorem dX12_init_176 : decode cX12_init 176 = .ok (.dup, 1) := by decide +kernel
theorem dX12_init_177 : decode cX12_init 177 = .ok (.bipush 22, 2) := by decide +kernel
theorem dX12_init_179 : decode cX12_init 179 = .ok (.bipush 32, 2) := by decide +kernel
theorem dX12_init_181 : decode cX12_init 181 = .ok (.bastore, 1) := by decide +kernel
theorem dX12_init_182 : decode cX12_init 182 = .ok (.dup, 1) := by decide +kernel
theorem dX12_init_183 : decode cX12_init 183 = .ok (.bipush 23, 2) := by decide +kernel
theorem dX12_init_185 : decode cX12_init 185 = .ok (.bipush 97, 2) := by decide +kernel
theorem dX12_init_187 : decode cX12_init 187 = .ok (.bastore, 1) := by decide +kernel
theorem dX12_init_188 : decode cX12_init 188 = .ok (.dup, 1) := by decide +kernel
theorem dX12_init_189 : decode cX12_init 189 = .ok (.bipush 24, 2) := by decide +kernel
theorem dX12_init_191 : decode cX12_init 191 = .ok (.bipush 110, 2) := by decide +kernel
theorem dX12_init_193 : decode cX12_init 193 = .ok (.bastore, 1) := by decide +kernel
theorem dX12_init_194 : decode cX12_init 194 = .ok (.dup, 1) := by decide +kernel
theorem dX12_init_195 : decode cX12_init 195 = .ok (.bipush 25, 2) := by decide +kernel
theorem dX12_init_197 : decode cX12_init 197 = .ok (.bipush 100, 2) := by decide +kernel
theorem dX12_init_199 : decode cX12_init 199 = .ok (.bastore, 1) := by decide +kernel
theorem dX12_init_200 : decode cX12_init 200 = .ok (.dup, 1) := by decide +kernel
theorem dX12_init_201 : decode cX12_init 201 = .ok (.bipush 26, 2) := by decide +kernel
theorem dX12_init_203 : decode cX12_init 203 = .ok (.bipush 32, 2) := by decide +kernel
theorem dX12_init_205 : decode cX12_init 205 = .ok (.bastore, 1) := by decide +kernel
theorem dX12_init_206 : decode cX12_init 206 = .ok (.dup, 1) := by decide +kernel
theorem dX12_init_207 : decode cX12_init 207 = .ok (.bipush 27, 2) := by decide +kernel
theorem dX12_init_209 : decode cX12_init 209 = .ok (.bipush 110, 2) := by decide +kernel
theorem dX12_init_211 : decode cX12_init 211 = .ok (.bastore, 1) := by decide +kernel
theorem dX12_init_212 : decode cX12_init 212 = .ok (.dup, 1) := by decide +kernel
theorem dX12_init_213 : decode cX12_init 213 = .ok (.bipush 28, 2) := by decide +kernel
theorem dX12_init_215 : decode cX12_init 215 = .ok (.bipush 111, 2) := by decide +kernel
theorem dX12_init_217 : decode cX12_init 217 = .ok (.bastore, 1) := by decide +kernel
theorem dX12_init_218 : decode cX12_init 218 = .ok (.dup, 1) := by decide +kernel
theorem dX12_init_219 : decode cX12_init 219 = .ok (.bipush 29, 2) := by decide +kernel
theorem dX12_init_221 : decode cX12_init 221 = .ok (.bipush 116, 2) := by decide +kernel
theorem dX12_init_223 : decode cX12_init 223 = .ok (.bastore, 1) := by decide +kernel
theorem dX12_init_224 : decode cX12_init 224 = .ok (.dup, 1) := by decide +kernel
theorem dX12_init_225 : decode cX12_init 225 = .ok (.bipush 30, 2) := by decide +kernel
theorem dX12_init_227 : decode cX12_init 227 = .ok (.bipush 32, 2) := by decide +kernel
theorem dX12_init_229 : decode cX12_init 229 = .ok (.bastore, 1) := by decide +kernel
theorem dX12_init_230 : decode cX12_init 230 = .ok (.dup, 1) := by decide +kernel
theorem dX12_init_231 : decode cX12_init 231 = .ok (.bipush 31, 2) := by decide +kernel
theorem dX12_init_233 : decode cX12_init 233 = .ok (.bipush 99, 2) := by decide +kernel
theorem dX12_init_235 : decode cX12_init 235 = .ok (.bastore, 1) := by decide +kernel
theorem dX12_init_236 : decode cX12_init 236 = .ok (.dup, 1) := by decide +kernel
theorem dX12_init_237 : decode cX12_init 237 = .ok (.bipush 32, 2) := by decide +kernel
theorem dX12_init_239 : decode cX12_init 239 = .ok (.bipush 97, 2) := by decide +kernel
theorem dX12_init_241 : decode cX12_init 241 = .ok (.bastore, 1) := by decide +kernel
theorem dX12_init_242 : decode cX12_init 242 = .ok (.dup, 1) := by decide +kernel
theorem dX12_init_243 : decode cX12_init 243 = .ok (.bipush 33, 2) := by decide +kernel
theorem dX12_init_245 : decode cX12_init 245 = .ok (.bipush 114, 2) := by decide +kernel
theorem dX12_init_247 : decode cX12_init 247 = .ok (.bastore, 1) := by decide +kernel
theorem dX12_init_248 : decode cX12_init 248 = .ok (.dup, 1) := by decide +kernel
theorem dX12_init_249 : decode cX12_init 249 = .ok (.bipush 34, 2) := by decide +kernel
theorem dX12_init_251 : decode cX12_init 251 = .ok (.bipush 112, 2) := by decide +kernel
theorem dX12_init_253 : decode cX12_init 253 = .ok (.bastore, 1) := by decide +kernel
theorem dX12_init_254 : decode cX12_init 254 = .ok (.dup, 1) := by decide +kernel
theorem dX12_init_255 : decode cX12_init 255 = .ok (.bipush 35, 2) := by decide +kernel
theorem dX12_init_257 : decode cX12_init 257 = .ok (.bipush 101, 2) := by decide +kernel
theorem dX12_init_259 : decode cX12_init 259 = .ok (.bastore, 1) := by decide +kernel
theorem dX12_init_260 : decode cX12_init 260 = .ok (.dup, 1) := by decide +kernel
theorem dX12_init_261 : decode cX12_init 261 = .ok (.bipush 36, 2) := by decide +kernel
theorem dX12_init_263 : decode cX12_init 263 = .ok (.bipush 116, 2) := by decide +kernel
theorem dX12_init_265 : decode cX12_init 265 = .ok (.bastore, 1) := by decide +kernel
theorem dX12_init_266 : decode cX12_init 266 = .ok (.dup, 1) := by decide +kernel
theorem dX12_init_267 : decode cX12_init 267 = .ok (.bipush 37, 2) := by decide +kernel
theorem dX12_init_269 : decode cX12_init 269 = .ok (.bipush 32, 2) := by decide +kernel
theorem dX12_init_271 : decode cX12_init 271 = .ok (.bastore, 1) := by decide +kernel
theorem dX12_init_272 : decode cX12_init 272 = .ok (.dup, 1) := by decide +kernel
theorem dX12_init_273 : decode cX12_init 273 = .ok (.bipush 38, 2) := by decide +kernel
theorem dX12_init_275 : decode cX12_init 275 = .ok (.bipush 115, 2) := by decide +kernel
theorem dX12_init_277 : decode cX12_init 277 = .ok (.bastore, 1) := by decide +kernel
theorem dX12_init_278 : decode cX12_init 278 = .ok (.dup, 1) := by decide +kernel
theorem dX12_init_279 : decode cX12_init 279 = .ok (.bipush 39, 2) := by decide +kernel
theorem dX12_init_281 : decode cX12_init 281 = .ok (.bipush 105, 2) := by decide +kernel
theorem dX12_init_283 : decode cX12_init 283 = .ok (.bastore, 1) := by decide +kernel
theorem dX12_init_284 : decode cX12_init 284 = .ok (.dup, 1) := by decide +kernel
theorem dX12_init_285 : decode cX12_init 285 = .ok (.bipush 40, 2) := by decide +kernel
theorem dX12_init_287 : decode cX12_init 287 = .ok (.bipush 100, 2) := by decide +kernel
theorem dX12_init_289 : decode cX12_init 289 = .ok (.bastore, 1) := by decide +kernel
theorem dX12_init_290 : decode cX12_init 290 = .ok (.dup, 1) := by decide +kernel
theorem dX12_init_291 : decode cX12_init 291 = .ok (.bipush 41, 2) := by decide +kernel
theorem dX12_init_293 : decode cX12_init 293 = .ok (.bipush 101, 2) := by decide +kernel
theorem dX12_init_295 : decode cX12_init 295 = .ok (.bastore, 1) := by decide +kernel
theorem dX12_init_296 : decode cX12_init 296 = .ok (.dup, 1) := by decide +kernel
theorem dX12_init_297 : decode cX12_init 297 = .ok (.bipush 42, 2) := by decide +kernel
theorem dX12_init_299 : decode cX12_init 299 = .ok (.bipush 32, 2) := by decide +kernel
theorem dX12_init_301 : decode cX12_init 301 = .ok (.bastore, 1) := by decide +kernel
theorem dX12_init_302 : decode cX12_init 302 = .ok (.dup, 1) := by decide +kernel
theorem dX12_init_303 : decode cX12_init 303 = .ok (.bipush 43, 2) := by decide +kernel
theorem dX12_init_305 : decode cX12_init 305 = .ok (.bipush 107, 2) := by decide +kernel
theorem dX12_init_307 : decode cX12_init 307 = .ok (.bastore, 1) := by decide +kernel
theorem dX12_init_308 : decode cX12_init 308 = .ok (.dup, 1) := by decide +kernel
theorem dX12_init_309 : decode cX12_init 309 = .ok (.bipush 44, 2) := by decide +kernel
theorem dX12_init_311 : decode cX12_init 311 = .ok (.bipush 105, 2) := by decide +kernel
theorem dX12_init_313 : decode cX12_init 313 = .ok (.bastore, 1) := by decide +kernel
theorem dX12_init_314 : decode cX12_init 314 = .ok (.dup, 1) := by decide +kernel
theorem dX12_init_315 : decode cX12_init 315 = .ok (.bipush 45, 2) := by decide +kernel
theorem dX12_init_317 : decode cX12_init 317 = .ok (.bipush 110, 2) := by decide +kernel
theorem dX12_init_319 : decode cX12_init 319 = .ok (.bastore, 1) := by decide +kernel
theorem dX12_init_320 : decode cX12_init 320 = .ok (.dup, 1) := by decide +kernel
theorem dX12_init_321 : decode cX12_init 321 = .ok (.bipush 46, 2) := by decide +kernel
theorem dX12_init_323 : decode cX12_init 323 = .ok (.bipush 100, 2) := by decide +kernel
theorem dX12_init_325 : decode cX12_init 325 = .ok (.bastore, 1) := by decide +kernel
theorem dX12_init_326 : decode cX12_init 326 = .ok (.dup, 1) := by decide +kernel
theorem dX12_init_327 : decode cX12_init 327 = .ok (.bipush 47, 2) := by decide +kernel
theorem dX12_init_329 : decode cX12_init 329 = .ok (.bipush 32, 2) := by decide +kernel
theorem dX12_init_331 : decode cX12_init 331 = .ok (.bastore, 1) := by decide +kernel
theorem dX12_init_332 : decode cX12_init 332 = .ok (.dup, 1) := by decide +kernel
theorem dX12_init_333 : decode cX12_init 333 = .ok (.bipush 48, 2) := by decide +kernel
theorem dX12_init_335 : decode cX12_init 335 = .ok (.bipush 120, 2) := by decide +kernel
theorem dX12_init_337 : decode cX12_init 337 = .ok (.bastore, 1) := by decide +kernel
theorem dX12_init_338 : decode cX12_init 338 = .ok (.dup, 1) := by decide +kernel
theorem dX12_init_339 : decode cX12_init 339 = .ok (.bipush 49, 2) := by decide +kernel
theorem dX12_init_341 : decode cX12_init 341 = .ok (.bipush 32, 2) := by decide +kernel
theorem dX12_init_343 : decode cX12_init 343 = .ok (.bastore, 1) := by decide +kernel
theorem dX12_init_344 : decode cX12_init 344 = .ok (.dup, 1) := by decide +kernel
theorem dX12_init_345 : decode cX12_init 345 = .ok (.bipush 50, 2) := by decide +kernel
theorem dX12_init_347 : decode cX12_init 347 = .ok (.bipush 121, 2) := by decide +kernel
theorem dX12_init_349 : decode cX12_init 349 = .ok (.bastore, 1) := by decide +kernel
theorem dX12_init_350 : decode cX12_init 350 = .ok (.dup, 1) := by decide +kernel
theorem dX12_init_351 : decode cX12_init 351 = .ok (.bipush 51, 2) := by decide +kernel
theorem dX12_init_353 : decode cX12_init 353 = .ok (.bipush 32, 2) := by decide +kernel
theorem dX12_init_355 : decode cX12_init 355 = .ok (.bastore, 1) := by decide +kernel
theorem dX12_init_356 : decode cX12_init 356 = .ok (.dup, 1) := by decide +kernel
theorem dX12_init_357 : decode cX12_init 357 = .ok (.bipush 52, 2) := by decide +kernel
theorem dX12_init_359 : decode cX12_init 359 = .ok (.bipush 109, 2) := by decide +kernel
theorem dX12_init_361 : decode cX12_init 361 = .ok (.bastore, 1) := by decide +kernel
theorem dX12_init_362 : decode cX12_init 362 = .ok (.dup, 1) := by decide +kernel
theorem dX12_init_363 : decode cX12_init 363 = .ok (.bipush 53, 2) := by decide +kernel
theorem dX12_init_365 : decode cX12_init 365 = .ok (.bipush 111, 2) := by decide +kernel
theorem dX12_init_367 : decode cX12_init 367 = .ok (.bastore, 1) := by decide +kernel
theorem dX12_init_368 : decode cX12_init 368 = .ok (.dup, 1) := by decide +kernel
theorem dX12_init_369 : decode cX12_init 369 = .ok (.bipush 54, 2) := by decide +kernel
theorem dX12_init_371 : decode cX12_init 371 = .ok (.bipush 111, 2) := by decide +kernel
theorem dX12_init_373 : decode cX12_init 373 = .ok (.bastore, 1) := by decide +kernel
theorem dX12_init_374 : decode cX12_init 374 = .ok (.dup, 1) := by decide +kernel
theorem dX12_init_375 : decode cX12_init 375 = .ok (.bipush 55, 2) := by decide +kernel
theorem dX12_init_377 : decode cX12_init 377 = .ok (.bipush 100, 2) := by decide +kernel
theorem dX12_init_379 : decode cX12_init 379 = .ok (.bastore, 1) := by decide +kernel
theorem dX12_init_380 : decode cX12_init 380 = .ok (.dup, 1) := by decide +kernel
theorem dX12_init_381 : decode cX12_init 381 = .ok (.bipush 56, 2) := by decide +kernel
theorem dX12_init_383 : decode cX12_init 383 = .ok (.bipush 32, 2) := by decide +kernel
theorem dX12_init_385 : decode cX12_init 385 = .ok (.bastore, 1) := by decide +kernel
theorem dX12_init_386 : decode cX12_init 386 = .ok (.dup, 1) := by decide +kernel
theorem dX12_init_387 : decode cX12_init 387 = .ok (.bipush 57, 2) := by decide +kernel
theorem dX12_init_389 : decode cX12_init 389 = .ok (.bipush 112, 2) := by decide +kernel
theorem dX12_init_391 : decode cX12_init 391 = .ok (.bastore, 1) := by decide +kernel
theorem dX12_init_392 : decode cX12_init 392 = .ok (.dup, 1) := by decide +kernel
theorem dX12_init_393 : decode cX12_init 393 = .ok (.bipush 58, 2) := by decide +kernel
theorem dX12_init_395 : decode cX12_init 395 = .ok (.bipush 105, 2) := by decide +kernel
theorem dX12_init_397 : decode cX12_init 397 = .ok (.bastore, 1) := by decide +kernel
theorem dX12_init_398 : decode cX12_init 398 = .ok (.dup, 1) := by decide +kernel
theorem dX12_init_399 : decode cX12_init 399 = .ok (.bipush 59, 2) := by decide +kernel
theorem dX12_init_401 : decode cX12_init 401 = .ok (.bipush 108, 2) := by decide +kernel
theorem dX12_init_403 : decode cX12_init 403 = .ok (.bastore, 1) := by decide +kernel
theorem dX12_init_404 : decode cX12_init 404 = .ok (.dup, 1) := by decide +kernel
theorem dX12_init_405 : decode cX12_init 405 = .ok (.bipush 60, 2) := by decide +kernel
theorem dX12_init_407 : decode cX12_init 407 = .ok (.bipush 101, 2) := by decide +kernel
theorem dX12_init_409 : decode cX12_init 409 = .ok (.bastore, 1) := by decide +kernel
theorem dX12_init_410 : decode cX12_init 410 = .ok (.dup, 1) := by decide +kernel
theorem dX12_init_411 : decode cX12_init 411 = .ok (.bipush 61, 2) := by decide +kernel
theorem dX12_init_413 : decode cX12_init 413 = .ok (.bipush 32, 2) := by decide +kernel
theorem dX12_init_415 : decode cX12_init 415 = .ok (.bastore, 1) := by decide +kernel
theorem dX12_init_416 : decode cX12_init 416 = .ok (.dup, 1) := by decide +kernel
theorem dX12_init_417 : decode cX12_init 417 = .ok (.bipush 62, 2) := by decide +kernel
theorem dX12_init_419 : decode cX12_init 419 = .ok (.bipush 121, 2) := by decide +kernel
theorem dX12_init_421 : decode cX12_init 421 = .ok (.bastore, 1) := by decide +kernel
theorem dX12_init_422 : decode cX12_init 422 = .ok (.dup, 1) := by decide +kernel
theorem dX12_init_423 : decode cX12_init 423 = .ok (.bipush 63, 2) := by decide +kernel
theorem dX12_init_425 : decode cX12_init 425 = .ok (.bipush 101, 2) := by decide +kernel
theorem dX12_init_427 : decode cX12_init 427 = .ok (.bastore, 1) := by decide +kernel
theorem dX12_init_428 : decode cX12_init 428 = .ok (.dup, 1) := by decide +kernel
theorem dX12_init_429 : decode cX12_init 429 = .ok (.bipush 64, 2) := by decide +kernel
theorem dX12_init_431 : decode cX12_init 431 = .ok (.bipush 97, 2) := by decide +kernel
theorem dX12_init_433 : decode cX12_init 433 = .ok (.bastore, 1) := by decide +kernel
theorem dX12_init_434 : decode cX12_init 434 = .ok (.dup, 1) := by decide +kernel
theorem dX12_init_435 : decode cX12_init 435 = .ok (.bipush 65, 2) := by decide +kernel
theorem dX12_init_437 : decode cX12_init 437 = .ok (.bipush 114, 2) := by decide +kernel
theorem dX12_init_439 : decode cX12_init 439 = .ok (.bastore, 1) := by decide +kernel
theorem dX12_init_440 : decode cX12_init 440 = .ok (.dup, 1) := by decide +kernel
theorem dX12_init_441 : decode cX12_init 441 = .ok (.bipush 66, 2) := by decide +kernel
theorem dX12_init_443 : decode cX12_init 443 = .ok (.bipush 32, 2) := by decide +kernel
theorem dX12_init_445 : decode cX12_init 445 = .ok (.bastore, 1) := by decide +kernel
theorem dX12_init_446 : decode cX12_init 446 = .ok (.dup, 1) := by decide +kernel
theorem dX12_init_447 : decode cX12_init 447 = .ok (.bipush 67, 2) := by decide +kernel
theorem dX12_init_449 : decode cX12_init 449 = .ok (.bipush 100, 2) := by decide +kernel
theorem dX12_init_451 : decode cX12_init 451 = .ok (.bastore, 1) := by decide +kernel
theorem dX12_init_452 : decode cX12_init 452 = .ok (.dup, 1) := by decide +kernel
theorem dX12_init_453 : decode cX12_init 453 = .ok (.bipush 68, 2) := by decide +kernel
theorem dX12_init_455 : decode cX12_init 455 = .ok (.bipush 111, 2) := by decide +kernel
theorem dX12_init_457 : decode cX12_init 457 = .ok (.bastore, 1) := by decide +kernel
theorem dX12_init_458 : decode cX12_init 458 = .ok (.dup, 1) := by decide +kernel
theorem dX12_init_459 : decode cX12_init 459 = .ok (.bipush 69, 2) := by decide +kernel
theorem dX12_init_461 : decode cX12_init 461 = .ok (.bipush 110, 2) := by decide +kernel
theorem dX12_init_463 : decode cX12_init 463 = .ok (.bastore, 1) := by decide +kernel
theorem dX12_init_464 : decode cX12_init 464 = .ok (.dup, 1) := by decide +kernel
theorem dX12_init_465 : decode cX12_init 465 = .ok (.bipush 70, 2) := by decide +kernel
theorem dX12_init_467 : decode cX12_init 467 = .ok (.bipush 101, 2) := by decide +kernel
theorem dX12_init_469 : decode cX12_init 469 = .ok (.bastore, 1) := by decide +kernel
theorem dX12_init_470 : decode cX12_init 470 = .ok (.dup, 1) := by decide +kernel
theorem dX12_init_471 : decode cX12_init 471 = .ok (.bipush 71, 2) := by decide +kernel
theorem dX12_init_473 : decode cX12_init 473 = .ok (.bipush 32, 2) := by decide +kernel
theorem dX12_init_475 : decode cX12_init 475 = .ok (.bastore, 1) := by decide +kernel
theorem dX12_init_476 : decode cX12_init 476 = .ok (.dup, 1) := by decide +kernel
theorem dX12_init_477 : decode cX12_init 477 = .ok (.bipush 72, 2) := by decide +kernel
theorem dX12_init_479 : decode cX12_init 479 = .ok (.bipush 108, 2) := by decide +kernel
theorem dX12_init_481 : decode cX12_init 481 = .ok (.bastore, 1) := by decide +kernel
theorem dX12_init_482 : decode cX12_init 482 = .ok (.dup, 1) := by decide +kernel
theorem dX12_init_483 : decode cX12_init 483 = .ok (.bipush 73, 2) := by decide +kernel
theorem dX12_init_485 : decode cX12_init 485 = .ok (.bipush 97, 2) := by decide +kernel
theorem dX12_init_487 : decode cX12_init 487 = .ok (.bastore, 1) := by decide +kernel
theorem dX12_init_488 : decode cX12_init 488 = .ok (.dup, 1) := by decide +kernel
theorem dX12_init_489 : decode cX12_init 489 = .ok (.bipush 74, 2) := by decide +kernel
theorem dX12_init_491 : decode cX12_init 491 = .ok (.bipush 116, 2) := by decide +kernel
theorem dX12_init_493 : decode cX12_init 493 = .ok (.bastore, 1) := by decide +kernel
theorem dX12_init_494 : decode cX12_init 494 = .ok (.dup, 1) := by decide +kernel
theorem dX12_init_495 : decode cX12_init 495 = .ok (.bipush 75, 2) := by decide +kernel
theorem dX12_init_497 : decode cX12_init 497 = .ok (.bipush 101, 2) := by decide +kernel
theorem dX12_init_499 : decode cX12_init 499 = .ok (.bastore, 1) := by decide +kernel
theorem dX12_init_500 : decode cX12_init 500 = .ok (.dup, 1) := by decide +kernel
theorem dX12_init_501 : decode cX12_init 501 = .ok (.bipush 76, 2) := by decide +kernel
theorem dX12_init_503 : decode cX12_init 503 = .ok (.bipush 115, 2) := by decide +kernel
theorem dX12_init_505 : decode cX12_init 505 = .ok (.bastore, 1) := by decide +kernel
theorem dX12_init_506 : decode cX12_init 506 = .ok (.dup, 1) := by decide +kernel
theorem dX12_init_507 : decode cX12_init 507 = .ok (.bipush 77, 2) := by decide +kernel
theorem dX12_init_509 : decode cX12_init 509 = .ok (.bipush 116, 2) := by decide +kernel
theorem dX12_init_511 : decode cX12_init 511 = .ok (.bastore, 1) := by decide +kernel
theorem dX12_init_512 : decode cX12_init 512 = .ok (.dup, 1) := by decide +kernel
theorem dX12_init_513 : decode cX12_init 513 = .ok (.bipush 78, 2) := by decide +kernel
theorem dX12_init_515 : decode cX12_init 515 = .ok (.bipush 32, 2) := by decide +kernel
theorem dX12_init_517 : decode cX12_init 517 = .ok (.bastore, 1) := by decide +kernel
theorem dX12_init_518 : decode cX12_init 518 = .ok (.dup, 1) := by decide +kernel
theorem dX12_init_519 : decode cX12_init 519 = .ok (.bipush 79, 2) := by decide +kernel
theorem dX12_init_521 : decode cX12_init 521 = .ok (.bipush 98, 2) := by decide +kernel
theorem dX12_init_523 : decode cX12_init 523 = .ok (.bastore, 1) := by decide +kernel
theorem dX12_init_524 : decode cX12_init 524 = .ok (.dup, 1) := by decide +kernel
theorem dX12_init_525 : decode cX12_init 525 = .ok (.bipush 80, 2) := by decide +kernel
theorem dX12_init_527 : decode cX12_init 527 = .ok (.bipush 97, 2) := by decide +kernel
theorem dX12_init_529 : decode cX12_init 529 = .ok (.bastore, 1) := by decide +kernel
theorem dX12_init_530 : decode cX12_init 530 = .ok (.dup, 1) := by decide +kernel
theorem dX12_init_531 : decode cX12_init 531 = .ok (.bipush 81, 2) := by decide +kernel
theorem dX12_init_533 : decode cX12_init 533 = .ok (.bipush 114, 2) := by decide +kernel
theorem dX12_init_535 : decode cX12_init 535 = .ok (.bastore, 1) := by decide +kernel
theorem dX12_init_536 : decode cX12_init 536 = .ok (.dup, 1) := by decide +kernel
theorem dX12_init_537 : decode cX12_init 537 = .ok (.bipush 82, 2) := by decide +kernel
theorem dX12_init_539 : decode cX12_init 539 = .ok (.bipush 101, 2) := by decide +kernel
theorem dX12_init_541 : decode cX12_init 541 = .ok (.bastore, 1) := by decide +kernel
theorem dX12_init_542 : decode cX12_init 542 = .ok (.dup, 1) := by decide +kernel
theorem dX12_init_543 : decode cX12_init 543 = .ok (.bipush 83, 2) := by decide +kernel
theorem dX12_init_545 : decode cX12_init 545 = .ok (.bipush 32, 2) := by decide +kernel
theorem dX12_init_547 : decode cX12_init 547 = .ok (.bastore, 1) := by decide +kernel
theorem dX12_init_548 : decode cX12_init 548 = .ok (.dup, 1) := by decide +kernel
theorem dX12_init_549 : decode cX12_init 549 = .ok (.bipush 84, 2) := by decide +kernel
theorem dX12_init_551 : decode cX12_init 551 = .ok (.bipush 112, 2) := by decide +kernel
theorem dX12_init_553 : decode cX12_init 553 = .ok (.bastore, 1) := by decide +kernel
theorem dX12_init_554 : decode cX12_init 554 = .ok (.dup, 1) := by decide +kernel
theorem dX12_init_555 : decode cX12_init 555 = .ok (.bipush 85, 2) := by decide +kernel
theorem dX12_init_557 : decode cX12_init 557 = .ok (.bipush 97, 2) := by decide +kernel
theorem dX12_init_559 : decode cX12_init 559 = .ok (.bastore, 1) := by decide +kernel
theorem dX12_init_560 : decode cX12_init 560 = .ok (.dup, 1) := by decide +kernel
theorem dX12_init_561 : decode cX12_init 561 = .ok (.bipush 86, 2) := by decide +kernel
theorem dX12_init_563 : decode cX12_init 563 = .ok (.bipush 105, 2) := by decide +kernel
theorem dX12_init_565 : decode cX12_init 565 = .ok (.bastore, 1) := by decide +kernel
theorem dX12_init_566 : decode cX12_init 566 = .ok (.dup, 1) := by decide +kernel
theorem dX12_init_567 : decode cX12_init 567 = .ok (.bipush 87, 2) := by decide +kernel
theorem dX12_init_569 : decode cX12_init 569 = .ok (.bipush 100, 2) := by decide +kernel
theorem dX12_init_571 : decode cX12_init 571 = .ok (.bastore, 1) := by decide +kernel
theorem dX12_init_572 : decode cX12_init 572 = .ok (.dup, 1) := by decide +kernel
theorem dX12_init_573 : decode cX12_init 573 = .ok (.bipush 88, 2) := by decide +kernel
theorem dX12_init_575 : decode cX12_init 575 = .ok (.bipush 32, 2) := by decide +kernel
theorem dX12_init_577 : decode cX12_init 577 = .ok (.bastore, 1) := by decide +kernel
theorem dX12_init_578 : decode cX12_init 578 = .ok (.dup, 1) := by decide +kernel
theorem dX12_init_579 : decode cX12_init 579 = .ok (.bipush 89, 2) := by decide +kernel
theorem dX12_init_581 : decode cX12_init 581 = .ok (.bipush 108, 2) := by decide +kernel
theorem dX12_init_583 : decode cX12_init 583 = .ok (.bastore, 1) := by decide +kernel
theorem dX12_init_584 : decode cX12_init 584 = .ok (.dup, 1) := by decide +kernel
theorem dX12_init_585 : decode cX12_init 585 = .ok (.bipush 90, 2) := by decide +kernel
theorem dX12_init_587 : decode cX12_init 587 = .ok (.bipush 97, 2) := by decide +kernel
theorem dX12_init_589 : decode cX12_init 589 = .ok (.bastore, 1) := by decide +kernel
theorem dX12_init_590 : decode cX12_init 590 = .ok (.dup, 1) := by decide +kernel
theorem dX12_init_591 : decode cX12_init 591 = .ok (.bipush 91, 2) := by decide +kernel
theorem dX12_init_593 : decode cX12_init 593 = .ok (.bipush 105, 2) := by decide +kernel
theorem dX12_init_595 : decode cX12_init 595 = .ok (.bastore, 1) := by decide +kernel
theorem dX12_init_596 : decode cX12_init 596 = .ok (.dup, 1) := by decide +kernel
theorem dX12_init_597 : decode cX12_init 597 = .ok (.bipush 92, 2) := by decide +kernel
theorem dX12_init_599 : decode cX12_init 599 = .ok (.bipush 100, 2) := by decide +kernel
theorem dX12_init_601 : decode cX12_init 601 = .ok (.bastore, 1) := by decide +kernel
theorem dX12_init_602 : decode cX12_init 602 = .ok (.dup, 1) := by decide +kernel
theorem dX12_init_603 : decode cX12_init 603 = .ok (.bipush 93, 2) := by decide +kernel
theorem dX12_init_605 : decode cX12_init 605 = .ok (.bipush 32, 2) := by decide +kernel
theorem dX12_init_607 : decode cX12_init 607 = .ok (.bastore, 1) := by decide +kernel
theorem dX12_init_608 : decode cX12_init 608 = .ok (.dup, 1) := by decide +kernel
theorem dX12_init_609 : decode cX12_init 609 = .ok (.bipush 94, 2) := by decide +kernel
theorem dX12_init_611 : decode cX12_init 611 = .ok (.bipush 108, 2) := by decide +kernel
theorem dX12_init_613 : decode cX12_init 613 = .ok (.bastore, 1) := by decide +kernel
theorem dX12_init_614 : decode cX12_init 614 = .ok (.dup, 1) := by decide +kernel
theorem dX12_init_615 : decode cX12_init 615 = .ok (.bipush 95, 2) := by decide +kernel
theorem dX12_init_617 : decode cX12_init 617 = .ok (.bipush 97, 2) := by decide +kernel
theorem dX12_init_619 : decode cX12_init 619 = .ok (.bastore, 1) := by decide +kernel
theorem dX12_init_620 : decode cX12_init 620 = .ok (.dup, 1) := by decide +kernel
theorem dX12_init_621 : decode cX12_init 621 = .ok (.bipush 96, 2) := by decide +kernel
theorem dX12_init_623 : decode cX12_init 623 = .ok (.bipush 121, 2) := by decide +kernel
theorem dX12_init_625 : decode cX12_init 625 = .ok (.bastore, 1) := by decide +kernel
theorem dX12_init_626 : decode cX12_init 626 = .ok (.dup, 1) := by decide +kernel
theorem dX12_init_627 : decode cX12_init 627 = .ok (.bipush 97, 2) := by decide +kernel
theorem dX12_init_629 : decode cX12_init 629 = .ok (.bipush 32, 2) := by decide +kernel
theorem dX12_init_631 : decode cX12_init 631 = .ok (.bastore, 1) := by decide +kernel
theorem dX12_init_632 : decode cX12_init 632 = .ok (.dup, 1) := by decide +kernel
theorem dX12_init_633 : decode cX12_init 633 = .ok (.bipush 98, 2) := by decide +kernel
theorem dX12_init_635 : decode cX12_init 635 = .ok (.bipush 97, 2) := by decide +kernel
theorem dX12_init_637 : decode cX12_init 637 = .ok (.bastore, 1) := by decide +kernel
theorem dX12_init_638 : decode cX12_init 638 = .ok (.dup, 1) := by decide +kernel
theorem dX12_init_639 : decode cX12_init 639 = .ok (.bipush 99, 2) := by decide +kernel
theorem dX12_init_641 : decode cX12_init 641 = .ok (.bipush 116, 2) := by decide +kernel
theorem dX12_init_643 : decode cX12_init 643 = .ok (.bastore, 1) := by decide +kernel
theorem dX12_init_644 : decode cX12_init 644 = .ok (.dup, 1) := by decide +kernel
theorem dX12_init_645 : decode cX12_init 645 = .ok (.bipush 100, 2) := by decide +kernel
theorem dX12_init_647 : decode cX12_init 647 = .ok (.bipush 32, 2) := by decide +kernel
theorem dX12_init_649 : decode cX12_init 649 = .ok (.bastore, 1) := by decide +kernel
theorem dX12_init_650 : decode cX12_init 650 = .ok (.dup, 1) := by decide +kernel
theorem dX12_init_651 : decode cX12_init 651 = .ok (.bipush 101, 2) := by decide +kernel
theorem dX12_init_653 : decode cX12_init 653 = .ok (.bipush 98, 2) := by decide +kernel
theorem dX12_init_655 : decode cX12_init 655 = .ok (.bastore, 1) := by decide +kernel
theorem dX12_init_656 : decode cX12_init 656 = .ok (.dup, 1) := by decide +kernel
theorem dX12_init_657 : decode cX12_init 657 = .ok (.bipush 102, 2) := by decide +kernel
theorem dX12_init_659 : decode cX12_init 659 = .ok (.bipush 121, 2) := by decide +kernel
theorem dX12_init_661 : decode cX12_init 661 = .ok (.bastore, 1) := by decide +kernel
theorem dX12_init_662 : decode cX12_init 662 = .ok (.dup, 1) := by decide +kernel
theorem dX12_init_663 : decode cX12_init 663 = .ok (.bipush 103, 2) := by decide +kernel
theorem dX12_init_665 : decode cX12_init 665 = .ok (.bipush 32, 2) := by decide +kernel
theorem dX12_init_667 : decode cX12_init 667 = .ok (.bastore, 1) := by decide +kernel
theorem dX12_init_668 : decode cX12_init 668 = .ok (.dup, 1) := by decide +kernel
theorem dX12_init_669 : decode cX12_init 669 = .ok (.bipush 104, 2) := by decide +kernel
theorem dX12_init_671 : decode cX12_init 671 = .ok (.bipush 114, 2) := by decide +kernel
theorem dX12_init_673 : decode cX12_init 673 = .ok (.bastore, 1) := by decide +kernel
theorem dX12_init_674 : decode cX12_init 674 = .ok (.dup, 1) := by decide +kernel
theorem dX12_init_675 : decode cX12_init 675 = .ok (.bipush 105, 2) := by decide +kernel
theorem dX12_init_677 : decode cX12_init 677 = .ok (.bipush 111, 2) := by decide +kernel
theorem dX12_init_679 : decode cX12_init 679 = .ok (.bastore, 1) := by decide +kernel
theorem dX12_init_680 : decode cX12_init 680 = .ok (.dup, 1) := by decide +kernel
theorem dX12_init_681 : decode cX12_init 681 = .ok (.bipush 106, 2) := by decide +kernel
theorem dX12_init_683 : decode cX12_init 683 = .ok (.bipush 108, 2) := by decide +kernel
theorem dX12_init_685 : decode cX12_init 685 = .ok (.bastore, 1) := by decide +kernel
theorem dX12_init_686 : decode cX12_init 686 = .ok (.dup, 1) := by decide +kernel
theorem dX12_init_687 : decode cX12_init 687 = .ok (.bipush 107, 2) := by decide +kernel
theorem dX12_init_689 : decode cX12_init 689 = .ok (.bipush 108, 2) := by decide +kernel
theorem dX12_init_691 : decode cX12_init 691 = .ok (.bastore, 1) := by decide +kernel
theorem dX12_init_692 : decode cX12_init 692 = .ok (.dup, 1) := by decide +kernel
theorem dX12_init_693 : decode cX12_init 693 = .ok (.bipush 108, 2) := by decide +kernel
theorem dX12_init_695 : decode cX12_init 695 = .ok (.bipush 32, 2) := by decide +kernel
theorem dX12_init_697 : decode cX12_init 697 = .ok (.bastore, 1) := by decide +kernel
theorem dX12_init_698 : decode cX12_init 698 = .ok (.dup, 1) := by decide +kernel
theorem dX12_init_699 : decode cX12_init 699 = .ok (.bipush 109, 2) := by decide +kernel
theorem dX12_init_701 : decode cX12_init 701 = .ok (.bipush 109, 2) := by decide +kernel
theorem dX12_init_703 : decode cX12_init 703 = .ok (.bastore, 1) := by decide +kernel
theorem dX12_init_704 : decode cX12_init 704 = .ok (.dup, 1) := by decide +kernel
theorem dX12_init_705 : decode cX12_init 705 = .ok (.bipush 110, 2) := by decide +kernel
theorem dX12_init_707 : decode cX12_init 707 = .ok (.bipush 105, 2) := by decide +kernel
theorem dX12_init_709 : decode cX12_init 709 = .ok (.bastore, 1) := by decide +kernel
theorem dX12_init_710 : decode cX12_init 710 = .ok (.dup, 1) := by decide +kernel
theorem dX12_init_711 : decode cX12_init 711 = .ok (.bipush 111, 2) := by decide +kernel
theorem dX12_init_713 : decode cX12_init 713 = .ok (.bipush 114, 2) := by decide +kernel
theorem dX12_init_715 : decode cX12_init 715 = .ok (.bastore, 1) := by decide +kernel
theorem dX12_init_716 : decode cX12_init 716 = .ok (.dup, 1) := by decide +kernel
theorem dX12_init_717 : decode cX12_init 717 = .ok (.bipush 112, 2) := by decide +kernel
theorem dX12_init_719 : decode cX12_init 719 = .ok (.bipush 114, 2) := by decide +kernel
theorem dX12_init_721 : decode cX12_init 721 = .ok (.bastore, 1) := by decide +kernel
theorem dX12_init_722 : decode cX12_init 722 = .ok (.dup, 1) := by decide +kernel
theorem dX12_init_723 : decode cX12_init 723 = .ok (.bipush 113, 2) := by decide +kernel
theorem dX12_init_725 : decode cX12_init 725 = .ok (.bipush 111, 2) := by decide +kernel
theorem dX12_init_727 : decode cX12_init 727 = .ok (.bastore, 1) := by decide +kernel
theorem dX12_init_728 : decode cX12_init 728 = .ok (.dup, 1) := by decide +kernel
theorem dX12_init_729 : decode cX12_init 729 = .ok (.bipush 114, 2) := by decide +kernel
theorem dX12_init_731 : decode cX12_init 731 = .ok (.bipush 114, 2) := by decide +kernel
theorem dX12_init_733 : decode cX12_init 733 = .ok (.bastore, 1) := by decide +kernel
theorem dX12_init_734 : decode cX12_init 734 = .ok (.dup, 1) := by decide +kernel
theorem dX12_init_735 : decode cX12_init 735 = .ok (.bipush 115, 2) := by decide +kernel
theorem dX12_init_737 : decode cX12_init 737 = .ok (.bipush 32, 2) := by decide +kernel
theorem dX12_init_739 : decode cX12_init 739 = .ok (.bastore, 1) := by decide +kernel
theorem dX12_init_740 : decode cX12_init 740 = .ok (.dup, 1) := by decide +kernel
theorem dX12_init_741 : decode cX12_init 741 = .ok (.bipush 116, 2) := by decide +kernel
theorem dX12_init_743 : decode cX12_init 743 = .ok (.bipush 112, 2) := by decide +kernel
theorem dX12_init_745 : decode cX12_init 745 = .ok (.bastore, 1) := by decide +kernel
theorem dX12_init_746 : decode cX12_init 746 = .ok (.dup, 1) := by decide +kernel
theorem dX12_init_747 : decode cX12_init 747 = .ok (.bipush 117, 2) := by decide +kernel
theorem dX12_init_749 : decode cX12_init 749 = .ok (.bipush 97, 2) := by decide +kernel
theorem dX12_init_751 : decode cX12_init 751 = .ok (.bastore, 1) := by decide +kernel
theorem dX12_init_752 : decode cX12_init 752 = .ok (.dup, 1) := by decide +kernel
theorem dX12_init_753 : decode cX12_init 753 = .ok (.bipush 118, 2) := by decide +kernel
theorem dX12_init_755 : decode cX12_init 755 = .ok (.bipush 115, 2) := by decide +kernel
theorem dX12_init_757 : decode cX12_init 757 = .ok (.bastore, 1) := by decide +kernel
theorem dX12_init_758 : decode cX12_init 758 = .ok (.dup, 1) := by decide +kernel
theorem dX12_init_759 : decode cX12_init 759 = .ok (.bipush 119, 2) := by decide +kernel
theorem dX12_init_761 : decode cX12_init 761 = .ok (.bipush 115, 2) := by decide +kernel
theorem dX12_init_763 : decode cX12_init 763 = .ok (.bastore, 1) := by decide +kernel
theorem dX12_init_764 : decode cX12_init 764 = .ok (.dup, 1) := by decide +kernel
theorem dX12_init_765 : decode cX12_init 765 = .ok (.bipush 120, 2) := by decide +kernel
theorem dX12_init_767 : decode cX12_init 767 = .ok (.bipush 32, 2) := by decide +kernel
theorem dX12_init_769 : decode cX12_init 769 = .ok (.bastore, 1) := by decide +kernel
theorem dX12_init_770 : decode cX12_init 770 = .ok (.dup, 1) := by decide +kernel
theorem dX12_init_771 : decode cX12_init 771 = .ok (.bipush 121, 2) := by decide +kernel
theorem dX12_init_773 : decode cX12_init 773 = .ok (.bipush 116, 2) := by decide +kernel
theorem dX12_init_775 : decode cX12_init 775 = .ok (.bastore, 1) := by decide +kernel
theorem dX12_init_776 : decode cX12_init 776 = .ok (.dup, 1) := by decide +kernel
theorem dX12_init_777 : decode cX12_init 777 = .ok (.bipush 122, 2) := by decide +kernel
theorem dX12_init_779 : decode cX12_init 779 = .ok (.bipush 105, 2) := by decide +kernel
theorem dX12_init_781 : decode cX12_init 781 = .ok (.bastore, 1) := by decide +kernel
theorem dX12_init_782 : decode cX12_init 782 = .ok (.dup, 1) := by decide +kernel
theorem dX12_init_783 : decode cX12_init 783 = .ok (.bipush 123, 2) := by decide +kernel
theorem dX12_init_785 : decode cX12_init 785 = .ok (.bipush 109, 2) := by decide +kernel
theorem dX12_init_787 : decode cX12_init 787 = .ok (.bastore, 1) := by decide +kernel
theorem dX12_init_788 : decode cX12_init 788 = .ok (.dup, 1) := by decide +kernel
theorem dX12_init_789 : decode cX12_init 789 = .ok (.bipush 124, 2) := by decide +kernel
theorem dX12_init_791 : decode cX12_init 791 = .ok (.bipush 101, 2) := by decide +kernel
theorem dX12_init_793 : decode cX12_init 793 = .ok (.bastore, 1) := by decide +kernel
theorem dX12_init_794 : decode cX12_init 794 = .ok (.dup, 1) := by decide +kernel
theorem dX12_init_795 : decode cX12_init 795 = .ok (.bipush 125, 2) := by decide +kernel
theorem dX12_init_797 : decode cX12_init 797 = .ok (.bipush 115, 2) := by decide +kernel
theorem dX12_init_799 : decode cX12_init 799 = .ok (.bastore, 1) := by decide +kernel
theorem dX12_init_800 : decode cX12_init 800 = .ok (.dup, 1) := by decide +kernel
theorem dX12_init_801 : decode cX12_init 801 = .ok (.bipush 126, 2) := by decide +kernel
theorem dX12_init_803 : decode cX12_init 803 = .ok (.bipush 32, 2) := by decide +kernel
theorem dX12_init_805 : decode cX12_init 805 = .ok (.bastore, 1) := by decide +kernel
theorem dX12_init_806 : decode cX12_init 806 = .ok (.putfield 41, 3) := by decide +kernel
theorem dX12_init_809 : decode cX12_init 809 = .ok (.aload_n 0, 1) := by decide +kernel
theorem dX12_init_810 : decode cX12_init 810 = .ok (.sipush 400, 3) := by decide +kernel
theorem dX12_init_813 : decode cX12_init 813 = .ok (.newarray .byte, 2) := by decide +kernel
theorem dX12_init_815 : decode cX12_init 815 = .ok (.putfield 45, 3) := by decide +kernel
theorem dX12_init_818 : decode cX12_init 818 = .ok (.aload_n 0, 1) := by decide +kernel
theorem dX12_init_819 : decode cX12_init 819 = .ok (.iconst 5, 1) := by decide +kernel
theorem dX12_init_820 : decode cX12_init 820 = .ok (.newarray .int, 2) := by decide +kernel
theorem dX12_init_822 : decode cX12_init 822 = .ok (.putfield 48, 3) := by decide +kernel
theorem dX12_init_825 : decode cX12_init 825 = .ok (.aload_n 0, 1) := by decide +kernel
theorem dX12_init_826 : decode cX12_init 826 = .ok (.iconst (-1), 1) := by decide +kernel
theorem dX12_init_827 : decode cX12_init 827 = .ok (.putfield 51, 3) := by decide +kernel
theorem dX12_init_830 : decode cX12_init 830 = .ok (.aload_n 0, 1) := by decide +kernel
theorem dX12_init_831 : decode cX12_init 831 = .ok (.sipush 401, 3) := by decide +kernel
theorem dX12_init_834 : decode cX12_init 834 = .ok (.newarray .int, 2) := by decide +kernel
theorem dX12_init_836 : decode cX12_init 836 = .ok (.putfield 54, 3) := by decide +kernel
theorem dX12_init_839 : decode cX12_init 839 = .ok (.aload_n 0, 1) := by decide +kernel
theorem dX12_init_840 : decode cX12_init 840 = .ok (.sipush 401, 3) := by decide +kernel
theorem dX12_init_843 : decode cX12_init 843 = .ok (.newarray .int, 2) := by decide +kernel
theorem dX12_init_845 : decode cX12_init 845 = .ok (.putfield 57, 3) := by decide +kernel
theorem dX12_init_848 : decode cX12_init 848 = .ok (.aload_n 0, 1) := by decide +kernel
theorem dX12_init_849 : decode cX12_init 849 = .ok (.sipush 401, 3) := by decide +kernel
theorem dX12_init_852 : decode cX12_init 852 = .ok (.newarray .int, 2) := by decide +kernel
theorem dX12_init_854 : decode cX12_init 854 = .ok (.putfield 60, 3) := by decide +kernel
theorem dX12_init_857 : decode cX12_init 857 = .ok (.aload_n 0, 1) := by decide +kernel
theorem dX12_init_858 : decode cX12_init 858 = .ok (.bipush 8, 2) := by decide +kernel
theorem dX12_init_860 : decode cX12_init 860 = .ok (.newarray .int, 2) := by decide +kernel
theorem dX12_init_862 : decode cX12_init 862 = .ok (.putfield 63, 3) := by decide +kernel
theorem dX12_init_865 : decode cX12_init 865 = .ok (.aload_n 0, 1) := by decide +kernel
theorem dX12_init_866 : decode cX12_init 866 = .ok (.bipush 12, 2) := by decide +kernel
theorem dX12_init_868 : decode cX12_init 868 = .ok (.newarray .int, 2) := by decide +kernel
theorem dX12_init_870 : decode cX12_init 870 = .ok (.putfield 66, 3) := by decide +kernel
theorem dX12_init_873 : decode cX12_init 873 = .ok (.aload_n 0, 1) := by decide +kernel
theorem dX12_init_874 : decode cX12_init 874 = .ok (.bipush 9, 2) := by decide +kernel
theorem dX12_init_876 : decode cX12_init 876 = .ok (.newarray .int, 2) := by decide +kernel
theorem dX12_init_878 : decode cX12_init 878 = .ok (.putfield 69, 3) := by decide +kernel
theorem dX12_init_881 : decode cX12_init 881 = .ok (.aload_n 0, 1) := by decide +kernel
theorem dX12_init_882 : decode cX12_init 882 = .ok (.sipush 480, 3) := by decide +kernel
theorem dX12_init_885 : decode cX12_init 885 = .ok (.newarray .int, 2) := by decide +kernel
theorem dX12_init_887 : decode cX12_init 887 = .ok (.putfield 72, 3) := by decide +kernel
theorem dX12_init_890 : decode cX12_init 890 = .ok (.aload_n 0, 1) := by decide +kernel
theorem dX12_init_891 : decode cX12_init 891 = .ok (.sipush 480, 3) := by decide +kernel
theorem dX12_init_894 : decode cX12_init 894 = .ok (.newarray .int, 2) := by decide +kernel
theorem dX12_init_896 : decode cX12_init 896 = .ok (.putfield 75, 3) := by decide +kernel
theorem dX12_init_899 : decode cX12_init 899 = .ok (.aload_n 0, 1) := by decide +kernel
theorem dX12_init_900 : decode cX12_init 900 = .ok (.sipush 1296, 3) := by decide +kernel
theorem dX12_init_903 : decode cX12_init 903 = .ok (.newarray .int, 2) := by decide +kernel
theorem dX12_init_905 : decode cX12_init 905 = .ok (.putfield 78, 3) := by decide +kernel
theorem dX12_init_908 : decode cX12_init 908 = .ok (.aload_n 0, 1) := by decide +kernel
theorem dX12_init_909 : decode cX12_init 909 = .ok (.bipush 9, 2) := by decide +kernel
theorem dX12_init_911 : decode cX12_init 911 = .ok (.newarray .int, 2) := by decide +kernel
theorem dX12_init_913 : decode cX12_init 913 = .ok (.putfield 81, 3) := by decide +kernel
theorem dX12_init_916 : decode cX12_init 916 = .ok (.aload_n 0, 1) := by decide +kernel
theorem dX12_init_917 : decode cX12_init 917 = .ok (.bipush 9, 2) := by decide +kernel
theorem dX12_init_919 : decode cX12_init 919 = .ok (.newarray .int, 2) := by decide +kernel
theorem dX12_init_921 : decode cX12_init 921 = .ok (.putfield 84, 3) := by decide +kernel
theorem dX12_init_924 : decode cX12_init 924 = .ok (.aload_n 0, 1) := by decide +kernel
theorem dX12_init_925 : decode cX12_init 925 = .ok (.bipush 9, 2) := by decide +kernel
theorem dX12_init_927 : decode cX12_init 927 = .ok (.newarray .int, 2) := by decide +kernel
theorem dX12_init_929 : decode cX12_init 929 = .ok (.putfield 87, 3) := by decide +kernel
theorem dX12_init_932 : decode cX12_init 932 = .ok (.aload_n 0, 1) := by decide +kernel
theorem dX12_init_933 : decode cX12_init 933 = .ok (.sipush 1296, 3) := by decide +kernel
theorem dX12_init_936 : decode cX12_init 936 = .ok (.newarray .int, 2) := by decide +kernel
theorem dX12_init_938 : decode cX12_init 938 = .ok (.putfield 90, 3) := by decide +kernel
theorem dX12_init_941 : decode cX12_init 941 = .ok (.aload_n 0, 1) := by decide +kernel
theorem dX12_init_942 : decode cX12_init 942 = .ok (.bipush 21, 2) := by decide +kernel
theorem dX12_init_944 : decode cX12_init 944 = .ok (.newarray .long, 2) := by decide +kernel
theorem dX12_init_946 : decode cX12_init 946 = .ok (.putfield 93, 3) := by decide +kernel
theorem dX12_init_949 : decode cX12_init 949 = .ok (.aload_n 0, 1) := by decide +kernel
theorem dX12_init_950 : decode cX12_init 950 = .ok (.iconst (-1), 1) := by decide +kernel
theorem dX12_init_951 : decode cX12_init 951 = .ok (.putfield 97, 3) := by decide +kernel
theorem dX12_init_954 : decode cX12_init 954 = .ok (.aload_n 0, 1) := by decide +kernel
theorem dX12_init_955 : decode cX12_init 955 = .ok (.iconst 3, 1) := by decide +kernel
theorem dX12_init_956 : decode cX12_init 956 = .ok (.newarray .long, 2) := by decide +kernel
theorem dX12_init_958 : decode cX12_init 958 = .ok (.putfield 100, 3) := by decide +kernel
theorem dX12_init_961 : decode cX12_init 961 = .ok (.aload_n 0, 1) := by decide +kernel
theorem dX12_init_962 : decode cX12_init 962 = .ok (.bipush 29, 2) := by decide +kernel
theorem dX12_init_964 : decode cX12_init 964 = .ok (.newarray .int, 2) := by decide +kernel
theorem dX12_init_966 : decode cX12_init 966 = .ok (.putfield 103, 3) := by decide +kernel
theorem dX12_init_969 : decode cX12_init 969 = .ok (.aload_n 0, 1) := by decide +kernel
theorem dX12_init_970 : decode cX12_init 970 = .ok (.iconst (-1), 1) := by decide +kernel
theorem dX12_init_971 : decode cX12_init 971 = .ok (.putfield 106, 3) := by decide +kernel
theorem dX12_init_974 : decode cX12_init 974 = .ok (.aload_n 0, 1) := by decide +kernel
theorem dX12_init_975 : decode cX12_init 975 = .ok (.getfield 28, 3) := by decide +kernel
theorem dX12_init_978 : decode cX12_init 978 = .ok (.bipush 65, 2) := by decide +kernel
theorem dX12_init_980 : decode cX12_init 980 = .ok (.iconst 1, 1) := by decide +kernel
theorem dX12_init_981 : decode cX12_init 981 = .ok (.iastore, 1) := by decide +kernel
theorem dX12_init_982 : decode cX12_init 982 = .ok (.aload_n 0, 1) := by decide +kernel
theorem dX12_init_983 : decode cX12_init 983 = .ok (.getfield 28, 3) := by decide +kernel
theorem dX12_init_986 : decode cX12_init 986 = .ok (.bipush 67, 2) := by decide +kernel
theorem dX12_init_988 : decode cX12_init 988 = .ok (.bipush 8, 2) := by decide +kernel
theorem dX12_init_990 : decode cX12_init 990 = .ok (.iastore, 1) := by decide +kernel
theorem dX12_init_991 : decode cX12_init 991 = .ok (.aload_n 0, 1) := by decide +kernel
theorem dX12_init_992 : decode cX12_init 992 = .ok (.getfield 28, 3) := by decide +kernel
theorem dX12_init_995 : decode cX12_init 995 = .ok (.bipush 68, 2) := by decide +kernel
theorem dX12_init_997 : decode cX12_init 997 = .ok (.bipush 8, 2) := by decide +kernel
theorem dX12_init_999 : decode cX12_init 999 = .ok (.iastore, 1) := by decide +kernel
theorem dX12_init_1000 : decode cX12_init 1000 = .ok (.aload_n 0, 1) := by decide +kernel
theorem dX12_init_1001 : decode cX12_init 1001 = .ok (.getfield 28, 3) := by decide +kernel
theorem dX12_init_1004 : decode cX12_init 1004 = .ok (.bipush 72, 2) := by decide +kernel
theorem dX12_init_1006 : decode cX12_init 1006 = .ok (.iconst (-1), 1) := by decide +kernel
theorem dX12_init_1007 : decode cX12_init 1007 = .ok (.iastore, 1) := by decide +kernel
theorem dX12_init_1008 : decode cX12_init 1008 = .ok (.return_, 1) := by decide +kernel
theorem dX12_laysAside_0 : decode cX12_laysAside 0 = .ok (.iconst 0, 1) := by decide +kernel
theorem dX12_laysAside_1 : decode cX12_laysAside 1 = .ok (.istore_n 2, 1) := by decide +kernel
theorem dX12_laysAside_2 : decode cX12_laysAside 2 = .ok (.iload_n 2, 1) := by decide +kernel
theorem dX12_laysAside_3 : decode cX12_laysAside 3 = .ok (.bipush 29, 2) := by decide +kernel
theorem dX12_laysAside_5 : decode cX12_laysAside 5 = .ok (.if_icmp .ge 26, 3) := by decide +kernel
theorem dX12_laysAside_8 : decode cX12_laysAside 8 = .ok (.aload_n 0, 1) := by decide +kernel
theorem dX12_laysAside_9 : decode cX12_laysAside 9 = .ok (.getfield 38, 3) := by decide +kernel
theorem dX12_laysAside_12 : decode cX12_laysAside 12 = .ok (.bipush 29, 2) := by decide +kernel
theorem dX12_laysAside_14 : decode cX12_laysAside 14 = .ok (.iload_n 1, 1) := by decide +kernel
theorem dX12_laysAside_15 : decode cX12_laysAside 15 = .ok (.imul, 1) := by decide +kernel
theorem dX12_laysAside_16 : decode cX12_laysAside 16 = .ok (.iload_n 2, 1) := by decide +kernel
theorem dX12_laysAside_17 : decode cX12_laysAside 17 = .ok (.iadd, 1) := by decide +kernel
theorem dX12_laysAside_18 : decode cX12_laysAside 18 = .ok (.aload_n 0, 1) := by decide +kernel
theorem dX12_laysAside_19 : decode cX12_laysAside 19 = .ok (.getfield 28, 3) := by decide +kernel
theorem dX12_laysAside_22 : decode cX12_laysAside 22 = .ok (.iload_n 2, 1) := by decide +kernel
theorem dX12_laysAside_23 : decode cX12_laysAside 23 = .ok (.iaload, 1) := by decide +kernel
theorem dX12_laysAside_24 : decode cX12_laysAside 24 = .ok (.iastore, 1) := by decide +kernel
theorem dX12_laysAside_25 : decode cX12_laysAside 25 = .ok (.iinc 2 1, 3) := by decide +kernel
theorem dX12_laysAside_28 : decode cX12_laysAside 28 = .ok (.goto (-26), 3) := by decide +kernel
theorem dX12_laysAside_31 : decode cX12_laysAside 31 = .ok (.return_, 1) := by decide +kernel
theorem dX12_takesBack_0 : decode cX12_takesBack 0 = .ok (.iconst 0, 1) := by decide +kernel
theorem dX12_takesBack_1 : decode cX12_takesBack 1 = .ok (.istore_n 2, 1) := by decide +kernel
theorem dX12_takesBack_2 : decode cX12_takesBack 2 = .ok (.iload_n 2, 1) := by decide +kernel
theorem dX12_takesBack_3 : decode cX12_takesBack 3 = .ok (.bipush 29, 2) := by decide +kernel
theorem dX12_takesBack_5 : decode cX12_takesBack 5 = .ok (.if_icmp .ge 26, 3) := by decide +kernel
theorem dX12_takesBack_8 : decode cX12_takesBack 8 = .ok (.aload_n 0, 1) := by decide +kernel
theorem dX12_takesBack_9 : decode cX12_takesBack 9 = .ok (.getfield 28, 3) := by decide +kernel
theorem dX12_takesBack_12 : decode cX12_takesBack 12 = .ok (.iload_n 2, 1) := by decide +kernel
theorem dX12_takesBack_13 : decode cX12_takesBack 13 = .ok (.aload_n 0, 1) := by decide +kernel
theorem dX12_takesBack_14 : decode cX12_takesBack 14 = .ok (.getfield 38, 3) := by decide +kernel
theorem dX12_takesBack_17 : decode cX12_takesBack 17 = .ok (.bipush 29, 2) := by decide +kernel
theorem dX12_takesBack_19 : decode cX12_takesBack 19 = .ok (.iload_n 1, 1) := by decide +kernel
theorem dX12_takesBack_20 : decode cX12_takesBack 20 = .ok (.imul, 1) := by decide +kernel
theorem dX12_takesBack_21 : decode cX12_takesBack 21 = .ok (.iload_n 2, 1) := by decide +kernel
theorem dX12_takesBack_22 : decode cX12_takesBack 22 = .ok (.iadd, 1) := by decide +kernel
theorem dX12_takesBack_23 : decode cX12_takesBack 23 = .ok (.iaload, 1) := by decide +kernel
theorem dX12_takesBack_24 : decode cX12_takesBack 24 = .ok (.iastore, 1) := by decide +kernel
theorem dX12_takesBack_25 : decode cX12_takesBack 25 = .ok (.iinc 2 1, 3) := by decide +kernel
theorem dX12_takesBack_28 : decode cX12_takesBack 28 = .ok (.goto (-26), 3) := by decide +kernel
theorem dX12_takesBack_31 : decode cX12_takesBack 31 = .ok (.return_, 1) := by decide +kernel
theorem dX12_image_0 : decode cX12_image 0 = .ok (.iload_n 1, 1) := by decide +kernel
theorem dX12_image_1 : decode cX12_image 1 = .ok (.iconst 0, 1) := by decide +kernel
theorem dX12_image_2 : decode cX12_image 2 = .ok (.iconst 1, 1) := by decide +kernel
theorem dX12_image_3 : decode cX12_image 3 = .ok (.invokestatic 18, 3) := by decide +kernel
theorem dX12_image_6 : decode cX12_image 6 = .ok (.ifCond .ne 9, 3) := by decide +kernel
theorem dX12_image_9 : decode cX12_image 9 = .ok (.aload_n 0, 1) := by decide +kernel
theorem dX12_image_10 : decode cX12_image 10 = .ok (.iconst (-1), 1) := by decide +kernel
theorem dX12_image_11 : decode cX12_image 11 = .ok (.invokevirtual 109, 3) := by decide +kernel
theorem dX12_image_14 : decode cX12_image 14 = .ok (.ireturn, 1) := by decide +kernel
theorem dX12_image_15 : decode cX12_image 15 = .ok (.iconst 0, 1) := by decide +kernel
theorem dX12_image_16 : decode cX12_image 16 = .ok (.istore_n 2, 1) := by decide +kernel
theorem dX12_image_17 : decode cX12_image 17 = .ok (.iload_n 2, 1) := by decide +kernel
theorem dX12_image_18 : decode cX12_image 18 = .ok (.sipush 5680, 3) := by decide +kernel
theorem dX12_image_21 : decode cX12_image 21 = .ok (.if_icmp .ge 27, 3) := by decide +kernel
theorem dX12_image_24 : decode cX12_image 24 = .ok (.aload_n 0, 1) := by decide +kernel
theorem dX12_image_25 : decode cX12_image 25 = .ok (.getfield 31, 3) := by decide +kernel
theorem dX12_image_28 : decode cX12_image 28 = .ok (.sipush 5680, 3) := by decide +kernel
theorem dX12_image_31 : decode cX12_image 31 = .ok (.iload_n 1, 1) := by decide +kernel
theorem dX12_image_32 : decode cX12_image 32 = .ok (.imul, 1) := by decide +kernel
theorem dX12_image_33 : decode cX12_image 33 = .ok (.iload_n 2, 1) := by decide +kernel
theorem dX12_image_34 : decode cX12_image 34 = .ok (.iadd, 1) := by decide +kernel
theorem dX12_image_35 : decode cX12_image 35 = .ok (.aload_n 0, 1) := by decide +kernel
theorem dX12_image_36 : decode cX12_image 36 = .ok (.getfield 28, 3) := by decide +kernel
theorem dX12_image_39 : decode cX12_image 39 = .ok (.iload_n 2, 1) := by decide +kernel
theorem dX12_image_40 : decode cX12_image 40 = .ok (.iaload, 1) := by decide +kernel
theorem dX12_image_41 : decode cX12_image 41 = .ok (.iastore, 1) := by decide +kernel
theorem dX12_image_42 : decode cX12_image 42 = .ok (.iinc 2 1, 3) := by decide +kernel
theorem dX12_image_45 : decode cX12_image 45 = .ok (.goto (-28), 3) := by decide +kernel
theorem dX12_image_48 : decode cX12_image 48 = .ok (.aload_n 0, 1) := by decide +kernel
theorem dX12_image_49 : decode cX12_image 49 = .ok (.getfield 34, 3) := by decide +kernel
theorem dX12_image_52 : decode cX12_image 52 = .ok (.iload_n 1, 1) := by decide +kernel
theorem dX12_image_53 : decode cX12_image 53 = .ok (.iconst 1, 1) := by decide +kernel
theorem dX12_image_54 : decode cX12_image 54 = .ok (.bastore, 1) := by decide +kernel
theorem dX12_image_55 : decode cX12_image 55 = .ok (.aload_n 0, 1) := by decide +kernel
theorem dX12_image_56 : decode cX12_image 56 = .ok (.iconst 0, 1) := by decide +kernel
theorem dX12_image_57 : decode cX12_image 57 = .ok (.invokevirtual 14, 3) := by decide +kernel
theorem dX12_image_60 : decode cX12_image 60 = .ok (.ireturn, 1) := by decide +kernel
theorem dX12_back_0 : decode cX12_back 0 = .ok (.iload_n 1, 1) := by decide +kernel
theorem dX12_back_1 : decode cX12_back 1 = .ok (.iconst 0, 1) := by decide +kernel
theorem dX12_back_2 : decode cX12_back 2 = .ok (.iconst 1, 1) := by decide +kernel
theorem dX12_back_3 : decode cX12_back 3 = .ok (.invokestatic 18, 3) := by decide +kernel
theorem dX12_back_6 : decode cX12_back 6 = .ok (.ifCond .ne 9, 3) := by decide +kernel
theorem dX12_back_9 : decode cX12_back 9 = .ok (.aload_n 0, 1) := by decide +kernel
theorem dX12_back_10 : decode cX12_back 10 = .ok (.iconst (-1), 1) := by decide +kernel
theorem dX12_back_11 : decode cX12_back 11 = .ok (.invokevirtual 109, 3) := by decide +kernel
theorem dX12_back_14 : decode cX12_back 14 = .ok (.ireturn, 1) := by decide +kernel
theorem dX12_back_15 : decode cX12_back 15 = .ok (.aload_n 0, 1) := by decide +kernel
theorem dX12_back_16 : decode cX12_back 16 = .ok (.getfield 34, 3) := by decide +kernel
theorem dX12_back_19 : decode cX12_back 19 = .ok (.iload_n 1, 1) := by decide +kernel
theorem dX12_back_20 : decode cX12_back 20 = .ok (.baload, 1) := by decide +kernel
theorem dX12_back_21 : decode cX12_back 21 = .ok (.ifCond .ne 10, 3) := by decide +kernel
theorem dX12_back_24 : decode cX12_back 24 = .ok (.aload_n 0, 1) := by decide +kernel
theorem dX12_back_25 : decode cX12_back 25 = .ok (.bipush (-2), 2) := by decide +kernel
theorem dX12_back_27 : decode cX12_back 27 = .ok (.invokevirtual 109, 3) := by decide +kernel
theorem dX12_back_30 : decode cX12_back 30 = .ok (.ireturn, 1) := by decide +kernel
theorem dX12_back_31 : decode cX12_back 31 = .ok (.iconst 0, 1) := by decide +kernel
theorem dX12_back_32 : decode cX12_back 32 = .ok (.istore_n 2, 1) := by decide +kernel
theorem dX12_back_33 : decode cX12_back 33 = .ok (.iload_n 2, 1) := by decide +kernel
theorem dX12_back_34 : decode cX12_back 34 = .ok (.sipush 5680, 3) := by decide +kernel
theorem dX12_back_37 : decode cX12_back 37 = .ok (.if_icmp .ge 27, 3) := by decide +kernel
theorem dX12_back_40 : decode cX12_back 40 = .ok (.aload_n 0, 1) := by decide +kernel
theorem dX12_back_41 : decode cX12_back 41 = .ok (.getfield 28, 3) := by decide +kernel
theorem dX12_back_44 : decode cX12_back 44 = .ok (.iload_n 2, 1) := by decide +kernel
theorem dX12_back_45 : decode cX12_back 45 = .ok (.aload_n 0, 1) := by decide +kernel
theorem dX12_back_46 : decode cX12_back 46 = .ok (.getfield 31, 3) := by decide +kernel
theorem dX12_back_49 : decode cX12_back 49 = .ok (.sipush 5680, 3) := by decide +kernel
theorem dX12_back_52 : decode cX12_back 52 = .ok (.iload_n 1, 1) := by decide +kernel
theorem dX12_back_53 : decode cX12_back 53 = .ok (.imul, 1) := by decide +kernel
theorem dX12_back_54 : decode cX12_back 54 = .ok (.iload_n 2, 1) := by decide +kernel
theorem dX12_back_55 : decode cX12_back 55 = .ok (.iadd, 1) := by decide +kernel
theorem dX12_back_56 : decode cX12_back 56 = .ok (.iaload, 1) := by decide +kernel
theorem dX12_back_57 : decode cX12_back 57 = .ok (.iastore, 1) := by decide +kernel
theorem dX12_back_58 : decode cX12_back 58 = .ok (.iinc 2 1, 3) := by decide +kernel
theorem dX12_back_61 : decode cX12_back 61 = .ok (.goto (-28), 3) := by decide +kernel
theorem dX12_back_64 : decode cX12_back 64 = .ok (.aload_n 0, 1) := by decide +kernel
theorem dX12_back_65 : decode cX12_back 65 = .ok (.iconst 0, 1) := by decide +kernel
theorem dX12_back_66 : decode cX12_back 66 = .ok (.invokevirtual 112, 3) := by decide +kernel
theorem dX12_back_69 : decode cX12_back 69 = .ok (.ireturn, 1) := by decide +kernel
theorem dX12_many_0 : decode cX12_many 0 = .ok (.aload_n 0, 1) := by decide +kernel
theorem dX12_many_1 : decode cX12_many 1 = .ok (.getfield 28, 3) := by decide +kernel
theorem dX12_many_4 : decode cX12_many 4 = .ok (.bipush 69, 2) := by decide +kernel
theorem dX12_many_6 : decode cX12_many 6 = .ok (.iaload, 1) := by decide +kernel
theorem dX12_many_7 : decode cX12_many 7 = .ok (.ireturn, 1) := by decide +kernel
theorem dX12_isCarpet_0 : decode cX12_isCarpet 0 = .ok (.iload_n 1, 1) := by decide +kernel
theorem dX12_isCarpet_1 : decode cX12_isCarpet 1 = .ok (.iconst 0, 1) := by decide +kernel
theorem dX12_isCarpet_2 : decode cX12_isCarpet 2 = .ok (.aload_n 0, 1) := by decide +kernel
theorem dX12_isCarpet_3 : decode cX12_isCarpet 3 = .ok (.invokevirtual 115, 3) := by decide +kernel
theorem dX12_isCarpet_6 : decode cX12_isCarpet 6 = .ok (.iconst 1, 1) := by decide +kernel
theorem dX12_isCarpet_7 : decode cX12_isCarpet 7 = .ok (.isub, 1) := by decide +kernel
theorem dX12_isCarpet_8 : decode cX12_isCarpet 8 = .ok (.invokestatic 18, 3) := by decide +kernel
theorem dX12_isCarpet_11 : decode cX12_isCarpet 11 = .ok (.ireturn, 1) := by decide +kernel
theorem dX12_isLaid_0 : decode cX12_isLaid 0 = .ok (.aload_n 0, 1) := by decide +kernel
theorem dX12_isLaid_1 : decode cX12_isLaid 1 = .ok (.getfield 28, 3) := by decide +kernel
theorem dX12_isLaid_4 : decode cX12_isLaid 4 = .ok (.bipush 9, 2) := by decide +kernel
theorem dX12_isLaid_6 : decode cX12_isLaid 6 = .ok (.iload_n 1, 1) := by decide +kernel
theorem dX12_isLaid_7 : decode cX12_isLaid 7 = .ok (.iadd, 1) := by decide +kernel
theorem dX12_isLaid_8 : decode cX12_isLaid 8 = .ok (.iaload, 1) := by decide +kernel
theorem dX12_isLaid_9 : decode cX12_isLaid 9 = .ok (.iconst (-1), 1) := by decide +kernel
theorem dX12_isLaid_10 : decode cX12_isLaid 10 = .ok (.if_icmp .eq 7, 3) := by decide +kernel
theorem dX12_isLaid_13 : decode cX12_isLaid 13 = .ok (.iconst 1, 1) := by decide +kernel
theorem dX12_isLaid_14 : decode cX12_isLaid 14 = .ok (.goto 4, 3) := by decide +kernel
theorem dX12_isLaid_17 : decode cX12_isLaid 17 = .ok (.iconst 0, 1) := by decide +kernel
theorem dX12_isLaid_18 : decode cX12_isLaid 18 = .ok (.ireturn, 1) := by decide +kernel
theorem dX12_isWhole_0 : decode cX12_isWhole 0 = .ok (.aload_n 0, 1) := by decide +kernel
theorem dX12_isWhole_1 : decode cX12_isWhole 1 = .ok (.getfield 28, 3) := by decide +kernel
theorem dX12_isWhole_4 : decode cX12_isWhole 4 = .ok (.iconst 0, 1) := by decide +kernel
theorem dX12_isWhole_5 : decode cX12_isWhole 5 = .ok (.iload_n 1, 1) := by decide +kernel
theorem dX12_isWhole_6 : decode cX12_isWhole 6 = .ok (.iadd, 1) := by decide +kernel
theorem dX12_isWhole_7 : decode cX12_isWhole 7 = .ok (.iaload, 1) := by decide +kernel
theorem dX12_isWhole_8 : decode cX12_isWhole 8 = .ok (.ifCond .le 7, 3) := by decide +kernel
theorem dX12_isWhole_11 : decode cX12_isWhole 11 = .ok (.iconst 1, 1) := by decide +kernel
theorem dX12_isWhole_12 : decode cX12_isWhole 12 = .ok (.goto 4, 3) := by decide +kernel
theorem dX12_isWhole_15 : decode cX12_isWhole 15 = .ok (.iconst 0, 1) := by decide +kernel
theorem dX12_isWhole_16 : decode cX12_isWhole 16 = .ok (.ireturn, 1) := by decide +kernel
theorem dX12_canBe_0 : decode cX12_canBe 0 = .ok (.iload_n 0, 1) := by decide +kernel
theorem dX12_canBe_1 : decode cX12_canBe 1 = .ok (.invokestatic 119, 3) := by decide +kernel
theorem dX12_canBe_4 : decode cX12_canBe 4 = .ok (.ifCond .eq 26, 3) := by decide +kernel
theorem dX12_canBe_7 : decode cX12_canBe 7 = .ok (.iload_n 1, 1) := by decide +kernel
theorem dX12_canBe_8 : decode cX12_canBe 8 = .ok (.iconst 0, 1) := by decide +kernel
theorem dX12_canBe_9 : decode cX12_canBe 9 = .ok (.iconst 3, 1) := by decide +kernel
theorem dX12_canBe_10 : decode cX12_canBe 10 = .ok (.invokestatic 18, 3) := by decide +kernel
theorem dX12_canBe_13 : decode cX12_canBe 13 = .ok (.ifCond .eq 17, 3) := by decide +kernel
theorem dX12_canBe_16 : decode cX12_canBe 16 = .ok (.iload_n 2, 1) := by decide +kernel
theorem dX12_canBe_17 : decode cX12_canBe 17 = .ok (.iconst 0, 1) := by decide +kernel
theorem dX12_canBe_18 : decode cX12_canBe 18 = .ok (.bipush 9, 2) := by decide +kernel
theorem dX12_canBe_20 : decode cX12_canBe 20 = .ok (.invokestatic 18, 3) := by decide +kernel
theorem dX12_canBe_23 : decode cX12_canBe 23 = .ok (.ifCond .eq 7, 3) := by decide +kernel
theorem dX12_canBe_26 : decode cX12_canBe 26 = .ok (.iconst 1, 1) := by decide +kernel
theorem dX12_canBe_27 : decode cX12_canBe 27 = .ok (.goto 4, 3) := by decide +kernel
theorem dX12_canBe_30 : decode cX12_canBe 30 = .ok (.iconst 0, 1) := by decide +kernel
theorem dX12_canBe_31 : decode cX12_canBe 31 = .ok (.ireturn, 1) := by decide +kernel
theorem dX12_adds_0 : decode cX12_adds 0 = .ok (.aload_n 0, 1) := by decide +kernel
theorem dX12_adds_1 : decode cX12_adds 1 = .ok (.invokevirtual 115, 3) := by decide +kernel
theorem dX12_adds_4 : decode cX12_adds 4 = .ok (.istore 4, 2) := by decide +kernel
theorem dX12_adds_6 : decode cX12_adds 6 = .ok (.aload_n 0, 1) := by decide +kernel
theorem dX12_adds_7 : decode cX12_adds 7 = .ok (.getfield 28, 3) := by decide +kernel
theorem dX12_adds_10 : decode cX12_adds 10 = .ok (.bipush 29, 2) := by decide +kernel
theorem dX12_adds_12 : decode cX12_adds 12 = .ok (.iload 4, 2) := by decide +kernel
theorem dX12_adds_14 : decode cX12_adds 14 = .ok (.iadd, 1) := by decide +kernel
theorem dX12_adds_15 : decode cX12_adds 15 = .ok (.iload_n 1, 1) := by decide +kernel
theorem dX12_adds_16 : decode cX12_adds 16 = .ok (.iastore, 1) := by decide +kernel
theorem dX12_adds_17 : decode cX12_adds 17 = .ok (.aload_n 0, 1) := by decide +kernel
theorem dX12_adds_18 : decode cX12_adds 18 = .ok (.getfield 28, 3) := by decide +kernel
theorem dX12_adds_21 : decode cX12_adds 21 = .ok (.bipush 38, 2) := by decide +kernel
theorem dX12_adds_23 : decode cX12_adds 23 = .ok (.iload 4, 2) := by decide +kernel
theorem dX12_adds_25 : decode cX12_adds 25 = .ok (.iadd, 1) := by decide +kernel
theorem dX12_adds_26 : decode cX12_adds 26 = .ok (.iload_n 2, 1) := by decide +kernel
theorem dX12_adds_27 : decode cX12_adds 27 = .ok (.iastore, 1) := by decide +kernel
theorem dX12_adds_28 : decode cX12_adds 28 = .ok (.aload_n 0, 1) := by decide +kernel
theorem dX12_adds_29 : decode cX12_adds 29 = .ok (.getfield 28, 3) := by decide +kernel
theorem dX12_adds_32 : decode cX12_adds 32 = .ok (.iconst 0, 1) := by decide +kernel
theorem dX12_adds_33 : decode cX12_adds 33 = .ok (.iload 4, 2) := by decide +kernel
theorem dX12_adds_35 : decode cX12_adds 35 = .ok (.iadd, 1) := by decide +kernel
theorem dX12_adds_36 : decode cX12_adds 36 = .ok (.iload_n 3, 1) := by decide +kernel
theorem dX12_adds_37 : decode cX12_adds 37 = .ok (.iastore, 1) := by decide +kernel
theorem dX12_adds_38 : decode cX12_adds 38 = .ok (.aload_n 0, 1) := by decide +kernel
theorem dX12_adds_39 : decode cX12_adds 39 = .ok (.iload 4, 2) := by decide +kernel
theorem dX12_adds_41 : decode cX12_adds 41 = .ok (.invokevirtual 123, 3) := by decide +kernel
theorem dX12_adds_44 : decode cX12_adds 44 = .ok (.aload_n 0, 1) := by decide +kernel
theorem dX12_adds_45 : decode cX12_adds 45 = .ok (.getfield 28, 3) := by decide +kernel
theorem dX12_adds_48 : decode cX12_adds 48 = .ok (.bipush 69, 2) := by decide +kernel
theorem dX12_adds_50 : decode cX12_adds 50 = .ok (.dup2, 1) := by decide +kernel
theorem dX12_adds_51 : decode cX12_adds 51 = .ok (.iaload, 1) := by decide +kernel
theorem dX12_adds_52 : decode cX12_adds 52 = .ok (.iconst 1, 1) := by decide +kernel
theorem dX12_adds_53 : decode cX12_adds 53 = .ok (.iadd, 1) := by decide +kernel
theorem dX12_adds_54 : decode cX12_adds 54 = .ok (.iastore, 1) := by decide +kernel
theorem dX12_adds_55 : decode cX12_adds 55 = .ok (.return_, 1) := by decide +kernel
theorem dX12_rolls_0 : decode cX12_rolls 0 = .ok (.aload_n 0, 1) := by decide +kernel
theorem dX12_rolls_1 : decode cX12_rolls 1 = .ok (.getfield 28, 3) := by decide +kernel
theorem dX12_rolls_4 : decode cX12_rolls 4 = .ok (.bipush 9, 2) := by decide +kernel
theorem dX12_rolls_6 : decode cX12_rolls 6 = .ok (.iload_n 1, 1) := by decide +kernel
theorem dX12_rolls_7 : decode cX12_rolls 7 = .ok (.iadd, 1) := by decide +kernel
theorem dX12_rolls_8 : decode cX12_rolls 8 = .ok (.iconst (-1), 1) := by decide +kernel
theorem dX12_rolls_9 : decode cX12_rolls 9 = .ok (.iastore, 1) := by decide +kernel
theorem dX12_rolls_10 : decode cX12_rolls 10 = .ok (.aload_n 0, 1) := by decide +kernel
theorem dX12_rolls_11 : decode cX12_rolls 11 = .ok (.getfield 28, 3) := by decide +kernel
theorem dX12_rolls_14 : decode cX12_rolls 14 = .ok (.bipush 18, 2) := by decide +kernel
theorem dX12_rolls_16 : decode cX12_rolls 16 = .ok (.iload_n 1, 1) := by decide +kernel
theorem dX12_rolls_17 : decode cX12_rolls 17 = .ok (.iadd, 1) := by decide +kernel
theorem dX12_rolls_18 : decode cX12_rolls 18 = .ok (.iconst (-1), 1) := by decide +kernel
theorem dX12_rolls_19 : decode cX12_rolls 19 = .ok (.iastore, 1) := by decide +kernel
theorem dX12_rolls_20 : decode cX12_rolls 20 = .ok (.return_, 1) := by decide +kernel
theorem dX12_carpet_0 : decode cX12_carpet 0 = .ok (.iload_n 1, 1) := by decide +kernel
theorem dX12_carpet_1 : decode cX12_carpet 1 = .ok (.iload_n 2, 1) := by decide +kernel
theorem dX12_carpet_2 : decode cX12_carpet 2 = .ok (.iload_n 3, 1) := by decide +kernel
theorem dX12_carpet_3 : decode cX12_carpet 3 = .ok (.invokestatic 127, 3) := by decide +kernel
theorem dX12_carpet_6 : decode cX12_carpet 6 = .ok (.ifCond .ne 9, 3) := by decide +kernel
theorem dX12_carpet_9 : decode cX12_carpet 9 = .ok (.aload_n 0, 1) := by decide +kernel
theorem dX12_carpet_10 : decode cX12_carpet 10 = .ok (.iconst (-1), 1) := by decide +kernel
theorem dX12_carpet_11 : decode cX12_carpet 11 = .ok (.invokevirtual 109, 3) := by decide +kernel
theorem dX12_carpet_14 : decode cX12_carpet 14 = .ok (.ireturn, 1) := by decide +kernel
theorem dX12_carpet_15 : decode cX12_carpet 15 = .ok (.aload_n 0, 1) := by decide +kernel
theorem dX12_carpet_16 : decode cX12_carpet 16 = .ok (.invokevirtual 115, 3) := by decide +kernel
theorem dX12_carpet_19 : decode cX12_carpet 19 = .ok (.bipush 9, 2) := by decide +kernel
theorem dX12_carpet_21 : decode cX12_carpet 21 = .ok (.if_icmp .ne 10, 3) := by decide +kernel
theorem dX12_carpet_24 : decode cX12_carpet 24 = .ok (.aload_n 0, 1) := by decide +kernel
theorem dX12_carpet_25 : decode cX12_carpet 25 = .ok (.bipush (-5), 2) := by decide +kernel
theorem dX12_carpet_27 : decode cX12_carpet 27 = .ok (.invokevirtual 109, 3) := by decide +kernel
theorem dX12_carpet_30 : decode cX12_carpet 30 = .ok (.ireturn, 1) := by decide +kernel
theorem dX12_carpet_31 : decode cX12_carpet 31 = .ok (.aload_n 0, 1) := by decide +kernel
theorem dX12_carpet_32 : decode cX12_carpet 32 = .ok (.iload_n 1, 1) := by decide +kernel
theorem dX12_carpet_33 : decode cX12_carpet 33 = .ok (.iload_n 2, 1) := by decide +kernel
theorem dX12_carpet_34 : decode cX12_carpet 34 = .ok (.iload_n 3, 1) := by decide +kernel
theorem dX12_carpet_35 : decode cX12_carpet 35 = .ok (.invokevirtual 130, 3) := by decide +kernel
theorem dX12_carpet_38 : decode cX12_carpet 38 = .ok (.aload_n 0, 1) := by decide +kernel
theorem dX12_carpet_39 : decode cX12_carpet 39 = .ok (.aload_n 0, 1) := by decide +kernel
theorem dX12_carpet_40 : decode cX12_carpet 40 = .ok (.invokevirtual 115, 3) := by decide +kernel
theorem dX12_carpet_43 : decode cX12_carpet 43 = .ok (.iconst 1, 1) := by decide +kernel
theorem dX12_carpet_44 : decode cX12_carpet 44 = .ok (.isub, 1) := by decide +kernel
theorem dX12_carpet_45 : decode cX12_carpet 45 = .ok (.invokevirtual 112, 3) := by decide +kernel
theorem dX12_carpet_48 : decode cX12_carpet 48 = .ok (.ireturn, 1) := by decide +kernel
theorem dX12_of_0 : decode cX12_of 0 = .ok (.aload_n 0, 1) := by decide +kernel
theorem dX12_of_1 : decode cX12_of 1 = .ok (.iload_n 1, 1) := by decide +kernel
theorem dX12_of_2 : decode cX12_of 2 = .ok (.invokevirtual 134, 3) := by decide +kernel
theorem dX12_of_5 : decode cX12_of 5 = .ok (.ifCond .ne 5, 3) := by decide +kernel
theorem dX12_of_8 : decode cX12_of 8 = .ok (.iconst (-1), 1) := by decide +kernel
theorem dX12_of_9 : decode cX12_of 9 = .ok (.ireturn, 1) := by decide +kernel
theorem dX12_of_10 : decode cX12_of 10 = .ok (.iload_n 2, 1) := by decide +kernel
theorem dX12_of_11 : decode cX12_of 11 = .ok (.tableswitch 104 0 5 #[37, 47, 57, 66, 76, 86], 37) := by decide +kernel
theorem dX12_of_48 : decode cX12_of 48 = .ok (.aload_n 0, 1) := by decide +kernel
theorem dX12_of_49 : decode cX12_of 49 = .ok (.getfield 28, 3) := by decide +kernel
theorem dX12_of_52 : decode cX12_of 52 = .ok (.bipush 29, 2) := by decide +kernel
theorem dX12_of_54 : decode cX12_of 54 = .ok (.iload_n 1, 1) := by decide +kernel
theorem dX12_of_55 : decode cX12_of 55 = .ok (.iadd, 1) := by decide +kernel
theorem dX12_of_56 : decode cX12_of 56 = .ok (.iaload, 1) := by decide +kernel
theorem dX12_of_57 : decode cX12_of 57 = .ok (.ireturn, 1) := by decide +kernel
theorem dX12_of_58 : decode cX12_of 58 = .ok (.aload_n 0, 1) := by decide +kernel
theorem dX12_of_59 : decode cX12_of 59 = .ok (.getfield 28, 3) := by decide +kernel
theorem dX12_of_62 : decode cX12_of 62 = .ok (.bipush 38, 2) := by decide +kernel
theorem dX12_of_64 : decode cX12_of 64 = .ok (.iload_n 1, 1) := by decide +kernel
theorem dX12_of_65 : decode cX12_of 65 = .ok (.iadd, 1) := by decide +kernel
theorem dX12_of_66 : decode cX12_of 66 = .ok (.iaload, 1) := by decide +kernel
theorem dX12_of_67 : decode cX12_of 67 = .ok (.ireturn, 1) := by decide +kernel
theorem dX12_of_68 : decode cX12_of 68 = .ok (.aload_n 0, 1) := by decide +kernel
theorem dX12_of_69 : decode cX12_of 69 = .ok (.getfield 28, 3) := by decide +kernel
theorem dX12_of_72 : decode cX12_of 72 = .ok (.iconst 0, 1) := by decide +kernel
theorem dX12_of_73 : decode cX12_of 73 = .ok (.iload_n 1, 1) := by decide +kernel
theorem dX12_of_74 : decode cX12_of 74 = .ok (.iadd, 1) := by decide +kernel
theorem dX12_of_75 : decode cX12_of 75 = .ok (.iaload, 1) := by decide +kernel
theorem dX12_of_76 : decode cX12_of 76 = .ok (.ireturn, 1) := by decide +kernel
theorem dX12_of_77 : decode cX12_of 77 = .ok (.aload_n 0, 1) := by decide +kernel
theorem dX12_of_78 : decode cX12_of 78 = .ok (.getfield 28, 3) := by decide +kernel
theorem dX12_of_81 : decode cX12_of 81 = .ok (.bipush 9, 2) := by decide +kernel
theorem dX12_of_83 : decode cX12_of 83 = .ok (.iload_n 1, 1) := by decide +kernel
theorem dX12_of_84 : decode cX12_of 84 = .ok (.iadd, 1) := by decide +kernel
theorem dX12_of_85 : decode cX12_of 85 = .ok (.iaload, 1) := by decide +kernel
theorem dX12_of_86 : decode cX12_of 86 = .ok (.ireturn, 1) := by decide +kernel
theorem dX12_of_87 : decode cX12_of 87 = .ok (.aload_n 0, 1) := by decide +kernel
theorem dX12_of_88 : decode cX12_of 88 = .ok (.getfield 28, 3) := by decide +kernel
theorem dX12_of_91 : decode cX12_of 91 = .ok (.bipush 18, 2) := by decide +kernel
theorem dX12_of_93 : decode cX12_of 93 = .ok (.iload_n 1, 1) := by decide +kernel
theorem dX12_of_94 : decode cX12_of 94 = .ok (.iadd, 1) := by decide +kernel
theorem dX12_of_95 : decode cX12_of 95 = .ok (.iaload, 1) := by decide +kernel
theorem dX12_of_96 : decode cX12_of 96 = .ok (.ireturn, 1) := by decide +kernel
theorem dX12_of_97 : decode cX12_of 97 = .ok (.aload_n 0, 1) := by decide +kernel
theorem dX12_of_98 : decode cX12_of 98 = .ok (.iload_n 1, 1) := by decide +kernel
theorem dX12_of_99 : decode cX12_of 99 = .ok (.invokevirtual 137, 3) := by decide +kernel
theorem dX12_of_102 : decode cX12_of 102 = .ok (.ifCond .eq 11, 3) := by decide +kernel
theorem dX12_of_105 : decode cX12_of 105 = .ok (.aload_n 0, 1) := by decide +kernel
theorem dX12_of_106 : decode cX12_of 106 = .ok (.iload_n 1, 1) := by decide +kernel
theorem dX12_of_107 : decode cX12_of 107 = .ok (.invokevirtual 140, 3) := by decide +kernel
theorem dX12_of_110 : decode cX12_of 110 = .ok (.goto 4, 3) := by decide +kernel
theorem dX12_of_113 : decode cX12_of 113 = .ok (.iconst (-1), 1) := by decide +kernel
theorem dX12_of_114 : decode cX12_of 114 = .ok (.ireturn, 1) := by decide +kernel
theorem dX12_of_115 : decode cX12_of 115 = .ok (.iconst (-1), 1) := by decide +kernel
theorem dX12_of_116 : decode cX12_of 116 = .ok (.ireturn, 1) := by decide +kernel
theorem dX12_laidMany_0 : decode cX12_laidMany 0 = .ok (.iconst 0, 1) := by decide +kernel
theorem dX12_laidMany_1 : decode cX12_laidMany 1 = .ok (.istore_n 1, 1) := by decide +kernel
theorem dX12_laidMany_2 : decode cX12_laidMany 2 = .ok (.iconst 0, 1) := by decide +kernel
theorem dX12_laidMany_3 : decode cX12_laidMany 3 = .ok (.istore_n 2, 1) := by decide +kernel
theorem dX12_laidMany_4 : decode cX12_laidMany 4 = .ok (.iload_n 2, 1) := by decide +kernel
theorem dX12_laidMany_5 : decode cX12_laidMany 5 = .ok (.aload_n 0, 1) := by decide +kernel
theorem dX12_laidMany_6 : decode cX12_laidMany 6 = .ok (.invokevirtual 115, 3) := by decide +kernel
theorem dX12_laidMany_9 : decode cX12_laidMany 9 = .ok (.if_icmp .ge 25, 3) := by decide +kernel
theorem dX12_laidMany_12 : decode cX12_laidMany 12 = .ok (.iload_n 1, 1) := by decide +kernel
theorem dX12_laidMany_13 : decode cX12_laidMany 13 = .ok (.aload_n 0, 1) := by decide +kernel
theorem dX12_laidMany_14 : decode cX12_laidMany 14 = .ok (.iload_n 2, 1) := by decide +kernel
theorem dX12_laidMany_15 : decode cX12_laidMany 15 = .ok (.invokevirtual 137, 3) := by decide +kernel
theorem dX12_laidMany_18 : decode cX12_laidMany 18 = .ok (.ifCond .eq 7, 3) := by decide +kernel
theorem dX12_laidMany_21 : decode cX12_laidMany 21 = .ok (.iconst 1, 1) := by decide +kernel
theorem dX12_laidMany_22 : decode cX12_laidMany 22 = .ok (.goto 4, 3) := by decide +kernel
theorem dX12_laidMany_25 : decode cX12_laidMany 25 = .ok (.iconst 0, 1) := by decide +kernel
theorem dX12_laidMany_26 : decode cX12_laidMany 26 = .ok (.iadd, 1) := by decide +kernel
theorem dX12_laidMany_27 : decode cX12_laidMany 27 = .ok (.istore_n 1, 1) := by decide +kernel
theorem dX12_laidMany_28 : decode cX12_laidMany 28 = .ok (.iinc 2 1, 3) := by decide +kernel
theorem dX12_laidMany_31 : decode cX12_laidMany 31 = .ok (.goto (-27), 3) := by decide +kernel
theorem dX12_laidMany_34 : decode cX12_laidMany 34 = .ok (.iload_n 1, 1) := by decide +kernel
theorem dX12_laidMany_35 : decode cX12_laidMany 35 = .ok (.ireturn, 1) := by decide +kernel
theorem dX12_hall_0 : decode cX12_hall 0 = .ok (.iload_n 1, 1) := by decide +kernel
theorem dX12_hall_1 : decode cX12_hall 1 = .ok (.invokestatic 119, 3) := by decide +kernel
theorem dX12_hall_4 : decode cX12_hall 4 = .ok (.ifCond .eq 10, 3) := by decide +kernel
theorem dX12_hall_7 : decode cX12_hall 7 = .ok (.iload_n 2, 1) := by decide +kernel
theorem dX12_hall_8 : decode cX12_hall 8 = .ok (.invokestatic 119, 3) := by decide +kernel
theorem dX12_hall_11 : decode cX12_hall 11 = .ok (.ifCond .ne 9, 3) := by decide +kernel
theorem dX12_hall_14 : decode cX12_hall 14 = .ok (.aload_n 0, 1) := by decide +kernel
theorem dX12_hall_15 : decode cX12_hall 15 = .ok (.iconst (-1), 1) := by decide +kernel
theorem dX12_hall_16 : decode cX12_hall 16 = .ok (.invokevirtual 109, 3) := by decide +kernel
theorem dX12_hall_19 : decode cX12_hall 19 = .ok (.ireturn, 1) := by decide +kernel
theorem dX12_hall_20 : decode cX12_hall 20 = .ok (.aload_n 0, 1) := by decide +kernel
theorem dX12_hall_21 : decode cX12_hall 21 = .ok (.invokevirtual 143, 3) := by decide +kernel
theorem dX12_hall_24 : decode cX12_hall 24 = .ok (.ifCond .le 10, 3) := by decide +kernel
theorem dX12_hall_27 : decode cX12_hall 27 = .ok (.aload_n 0, 1) := by decide +kernel
theorem dX12_hall_28 : decode cX12_hall 28 = .ok (.bipush (-3), 2) := by decide +kernel
theorem dX12_hall_30 : decode cX12_hall 30 = .ok (.invokevirtual 109, 3) := by decide +kernel
theorem dX12_hall_33 : decode cX12_hall 33 = .ok (.ireturn, 1) := by decide +kernel
theorem dX12_hall_34 : decode cX12_hall 34 = .ok (.aload_n 0, 1) := by decide +kernel
theorem dX12_hall_35 : decode cX12_hall 35 = .ok (.getfield 28, 3) := by decide +kernel
theorem dX12_hall_38 : decode cX12_hall 38 = .ok (.bipush 67, 2) := by decide +kernel
theorem dX12_hall_40 : decode cX12_hall 40 = .ok (.iload_n 1, 1) := by decide +kernel
theorem dX12_hall_41 : decode cX12_hall 41 = .ok (.iastore, 1) := by decide +kernel
theorem dX12_hall_42 : decode cX12_hall 42 = .ok (.aload_n 0, 1) := by decide +kernel
theorem dX12_hall_43 : decode cX12_hall 43 = .ok (.getfield 28, 3) := by decide +kernel
theorem dX12_hall_46 : decode cX12_hall 46 = .ok (.bipush 68, 2) := by decide +kernel
theorem dX12_hall_48 : decode cX12_hall 48 = .ok (.iload_n 2, 1) := by decide +kernel
theorem dX12_hall_49 : decode cX12_hall 49 = .ok (.iastore, 1) := by decide +kernel
theorem dX12_hall_50 : decode cX12_hall 50 = .ok (.aload_n 0, 1) := by decide +kernel
theorem dX12_hall_51 : decode cX12_hall 51 = .ok (.iload_n 1, 1) := by decide +kernel
theorem dX12_hall_52 : decode cX12_hall 52 = .ok (.iload_n 2, 1) := by decide +kernel
theorem dX12_hall_53 : decode cX12_hall 53 = .ok (.imul, 1) := by decide +kernel
theorem dX12_hall_54 : decode cX12_hall 54 = .ok (.invokevirtual 112, 3) := by decide +kernel
theorem dX12_hall_57 : decode cX12_hall 57 = .ok (.ireturn, 1) := by decide +kernel
theorem dX12_covers_0 : decode cX12_covers 0 = .ok (.aload_n 0, 1) := by decide +kernel
theorem dX12_covers_1 : decode cX12_covers 1 = .ok (.iload_n 1, 1) := by decide +kernel
theorem dX12_covers_2 : decode cX12_covers 2 = .ok (.invokevirtual 137, 3) := by decide +kernel
theorem dX12_covers_5 : decode cX12_covers 5 = .ok (.ifCond .eq 81, 3) := by decide +kernel
theorem dX12_covers_8 : decode cX12_covers 8 = .ok (.iload_n 2, 1) := by decide +kernel
theorem dX12_covers_9 : decode cX12_covers 9 = .ok (.aload_n 0, 1) := by decide +kernel
theorem dX12_covers_10 : decode cX12_covers 10 = .ok (.getfield 28, 3) := by decide +kernel
theorem dX12_covers_13 : decode cX12_covers 13 = .ok (.bipush 9, 2) := by decide +kernel
theorem dX12_covers_15 : decode cX12_covers 15 = .ok (.iload_n 1, 1) := by decide +kernel
theorem dX12_covers_16 : decode cX12_covers 16 = .ok (.iadd, 1) := by decide +kernel
theorem dX12_covers_17 : decode cX12_covers 17 = .ok (.iaload, 1) := by decide +kernel
theorem dX12_covers_18 : decode cX12_covers 18 = .ok (.aload_n 0, 1) := by decide +kernel
theorem dX12_covers_19 : decode cX12_covers 19 = .ok (.getfield 28, 3) := by decide +kernel
theorem dX12_covers_22 : decode cX12_covers 22 = .ok (.bipush 9, 2) := by decide +kernel
theorem dX12_covers_24 : decode cX12_covers 24 = .ok (.iload_n 1, 1) := by decide +kernel
theorem dX12_covers_25 : decode cX12_covers 25 = .ok (.iadd, 1) := by decide +kernel
theorem dX12_covers_26 : decode cX12_covers 26 = .ok (.iaload, 1) := by decide +kernel
theorem dX12_covers_27 : decode cX12_covers 27 = .ok (.aload_n 0, 1) := by decide +kernel
theorem dX12_covers_28 : decode cX12_covers 28 = .ok (.getfield 28, 3) := by decide +kernel
theorem dX12_covers_31 : decode cX12_covers 31 = .ok (.bipush 29, 2) := by decide +kernel
theorem dX12_covers_33 : decode cX12_covers 33 = .ok (.iload_n 1, 1) := by decide +kernel
theorem dX12_covers_34 : decode cX12_covers 34 = .ok (.iadd, 1) := by decide +kernel
theorem dX12_covers_35 : decode cX12_covers 35 = .ok (.iaload, 1) := by decide +kernel
theorem dX12_covers_36 : decode cX12_covers 36 = .ok (.iadd, 1) := by decide +kernel
theorem dX12_covers_37 : decode cX12_covers 37 = .ok (.iconst 1, 1) := by decide +kernel
theorem dX12_covers_38 : decode cX12_covers 38 = .ok (.isub, 1) := by decide +kernel
theorem dX12_covers_39 : decode cX12_covers 39 = .ok (.invokestatic 18, 3) := by decide +kernel
theorem dX12_covers_42 : decode cX12_covers 42 = .ok (.ifCond .eq 44, 3) := by decide +kernel
theorem dX12_covers_45 : decode cX12_covers 45 = .ok (.iload_n 3, 1) := by decide +kernel
theorem dX12_covers_46 : decode cX12_covers 46 = .ok (.aload_n 0, 1) := by decide +kernel
theorem dX12_covers_47 : decode cX12_covers 47 = .ok (.getfield 28, 3) := by decide +kernel
theorem dX12_covers_50 : decode cX12_covers 50 = .ok (.bipush 18, 2) := by decide +kernel
theorem dX12_covers_52 : decode cX12_covers 52 = .ok (.iload_n 1, 1) := by decide +kernel
theorem dX12_covers_53 : decode cX12_covers 53 = .ok (.iadd, 1) := by decide +kernel
theorem dX12_covers_54 : decode cX12_covers 54 = .ok (.iaload, 1) := by decide +kernel
theorem dX12_covers_55 : decode cX12_covers 55 = .ok (.aload_n 0, 1) := by decide +kernel
theorem dX12_covers_56 : decode cX12_covers 56 = .ok (.getfield 28, 3) := by decide +kernel
theorem dX12_covers_59 : decode cX12_covers 59 = .ok (.bipush 18, 2) := by decide +kernel
theorem dX12_covers_61 : decode cX12_covers 61 = .ok (.iload_n 1, 1) := by decide +kernel
theorem dX12_covers_62 : decode cX12_covers 62 = .ok (.iadd, 1) := by decide +kernel
theorem dX12_covers_63 : decode cX12_covers 63 = .ok (.iaload, 1) := by decide +kernel
theorem dX12_covers_64 : decode cX12_covers 64 = .ok (.aload_n 0, 1) := by decide +kernel
theorem dX12_covers_65 : decode cX12_covers 65 = .ok (.getfield 28, 3) := by decide +kernel
theorem dX12_covers_68 : decode cX12_covers 68 = .ok (.bipush 29, 2) := by decide +kernel
theorem dX12_covers_70 : decode cX12_covers 70 = .ok (.iload_n 1, 1) := by decide +kernel
theorem dX12_covers_71 : decode cX12_covers 71 = .ok (.iadd, 1) := by decide +kernel
theorem dX12_covers_72 : decode cX12_covers 72 = .ok (.iaload, 1) := by decide +kernel
theorem dX12_covers_73 : decode cX12_covers 73 = .ok (.iadd, 1) := by decide +kernel
theorem dX12_covers_74 : decode cX12_covers 74 = .ok (.iconst 1, 1) := by decide +kernel
theorem dX12_covers_75 : decode cX12_covers 75 = .ok (.isub, 1) := by decide +kernel
theorem dX12_covers_76 : decode cX12_covers 76 = .ok (.invokestatic 18, 3) := by decide +kernel
theorem dX12_covers_79 : decode cX12_covers 79 = .ok (.ifCond .eq 7, 3) := by decide +kernel
theorem dX12_covers_82 : decode cX12_covers 82 = .ok (.iconst 1, 1) := by decide +kernel
theorem dX12_covers_83 : decode cX12_covers 83 = .ok (.goto 4, 3) := by decide +kernel
theorem dX12_covers_86 : decode cX12_covers 86 = .ok (.iconst 0, 1) := by decide +kernel
theorem dX12_covers_87 : decode cX12_covers 87 = .ok (.ireturn, 1) := by decide +kernel
theorem dX12_at_0 : decode cX12_at 0 = .ok (.iconst (-1), 1) := by decide +kernel
theorem dX12_at_1 : decode cX12_at 1 = .ok (.istore_n 3, 1) := by decide +kernel
theorem dX12_at_2 : decode cX12_at 2 = .ok (.iconst 0, 1) := by decide +kernel
theorem dX12_at_3 : decode cX12_at 3 = .ok (.istore 4, 2) := by decide +kernel
theorem dX12_at_5 : decode cX12_at 5 = .ok (.iload 4, 2) := by decide +kernel
theorem dX12_at_7 : decode cX12_at 7 = .ok (.aload_n 0, 1) := by decide +kernel
theorem dX12_at_8 : decode cX12_at 8 = .ok (.invokevirtual 115, 3) := by decide +kernel
theorem dX12_at_11 : decode cX12_at 11 = .ok (.if_icmp .ge 27, 3) := by decide +kernel
theorem dX12_at_14 : decode cX12_at 14 = .ok (.aload_n 0, 1) := by decide +kernel
theorem dX12_at_15 : decode cX12_at 15 = .ok (.iload 4, 2) := by decide +kernel
theorem dX12_at_17 : decode cX12_at 17 = .ok (.iload_n 1, 1) := by decide +kernel
theorem dX12_at_18 : decode cX12_at 18 = .ok (.iload_n 2, 1) := by decide +kernel
theorem dX12_at_19 : decode cX12_at 19 = .ok (.invokevirtual 146, 3) := by decide +kernel
theorem dX12_at_22 : decode cX12_at 22 = .ok (.ifCond .eq 8, 3) := by decide +kernel
theorem dX12_at_25 : decode cX12_at 25 = .ok (.iload 4, 2) := by decide +kernel
theorem dX12_at_27 : decode cX12_at 27 = .ok (.goto 4, 3) := by decide +kernel
theorem dX12_at_30 : decode cX12_at 30 = .ok (.iload_n 3, 1) := by decide +kernel
theorem dX12_at_31 : decode cX12_at 31 = .ok (.istore_n 3, 1) := by decide +kernel
theorem dX12_at_32 : decode cX12_at 32 = .ok (.iinc 4 1, 3) := by decide +kernel
theorem dX12_at_35 : decode cX12_at 35 = .ok (.goto (-30), 3) := by decide +kernel
theorem dX12_at_38 : decode cX12_at 38 = .ok (.iload_n 3, 1) := by decide +kernel
theorem dX12_at_39 : decode cX12_at 39 = .ok (.ireturn, 1) := by decide +kernel
theorem dX12_asks_0 : decode cX12_asks 0 = .ok (.aload_n 0, 1) := by decide +kernel
theorem dX12_asks_1 : decode cX12_asks 1 = .ok (.iload_n 1, 1) := by decide +kernel
theorem dX12_asks_2 : decode cX12_asks 2 = .ok (.invokevirtual 134, 3) := by decide +kernel
theorem dX12_asks_5 : decode cX12_asks 5 = .ok (.ifCond .eq 17, 3) := by decide +kernel
theorem dX12_asks_8 : decode cX12_asks 8 = .ok (.iload_n 2, 1) := by decide +kernel
theorem dX12_asks_9 : decode cX12_asks 9 = .ok (.invokestatic 149, 3) := by decide +kernel
theorem dX12_asks_12 : decode cX12_asks 12 = .ok (.ifCond .eq 10, 3) := by decide +kernel
theorem dX12_asks_15 : decode cX12_asks 15 = .ok (.iload_n 3, 1) := by decide +kernel
theorem dX12_asks_16 : decode cX12_asks 16 = .ok (.invokestatic 149, 3) := by decide +kernel
theorem dX12_asks_19 : decode cX12_asks 19 = .ok (.ifCond .ne 5, 3) := by decide +kernel
theorem dX12_asks_22 : decode cX12_asks 22 = .ok (.iconst (-1), 1) := by decide +kernel
theorem dX12_asks_23 : decode cX12_asks 23 = .ok (.ireturn, 1) := by decide +kernel
theorem dX12_asks_24 : decode cX12_asks 24 = .ok (.iload 4, 2) := by decide +kernel
theorem dX12_asks_26 : decode cX12_asks 26 = .ok (.tableswitch 66 0 2 #[26, 34, 50], 26) := by decide +kernel
theorem dX12_asks_52 : decode cX12_asks 52 = .ok (.aload_n 0, 1) := by decide +kernel
theorem dX12_asks_53 : decode cX12_asks 53 = .ok (.iload_n 1, 1) := by decide +kernel
theorem dX12_asks_54 : decode cX12_asks 54 = .ok (.iload_n 2, 1) := by decide +kernel
theorem dX12_asks_55 : decode cX12_asks 55 = .ok (.iload_n 3, 1) := by decide +kernel
theorem dX12_asks_56 : decode cX12_asks 56 = .ok (.invokevirtual 152, 3) := by decide +kernel
theorem dX12_asks_59 : decode cX12_asks 59 = .ok (.ireturn, 1) := by decide +kernel
theorem dX12_asks_60 : decode cX12_asks 60 = .ok (.aload_n 0, 1) := by decide +kernel
theorem dX12_asks_61 : decode cX12_asks 61 = .ok (.iload_n 1, 1) := by decide +kernel
theorem dX12_asks_62 : decode cX12_asks 62 = .ok (.iload_n 2, 1) := by decide +kernel
theorem dX12_asks_63 : decode cX12_asks 63 = .ok (.iload_n 3, 1) := by decide +kernel
theorem dX12_asks_64 : decode cX12_asks 64 = .ok (.invokevirtual 156, 3) := by decide +kernel
theorem dX12_asks_67 : decode cX12_asks 67 = .ok (.ifCond .eq 7, 3) := by decide +kernel
theorem dX12_asks_70 : decode cX12_asks 70 = .ok (.iconst 1, 1) := by decide +kernel
theorem dX12_asks_71 : decode cX12_asks 71 = .ok (.goto 4, 3) := by decide +kernel
theorem dX12_asks_74 : decode cX12_asks 74 = .ok (.iconst 0, 1) := by decide +kernel
theorem dX12_asks_75 : decode cX12_asks 75 = .ok (.ireturn, 1) := by decide +kernel
theorem dX12_asks_76 : decode cX12_asks 76 = .ok (.aload_n 0, 1) := by decide +kernel
theorem dX12_asks_77 : decode cX12_asks 77 = .ok (.iload_n 1, 1) := by decide +kernel
theorem dX12_asks_78 : decode cX12_asks 78 = .ok (.iload_n 2, 1) := by decide +kernel
theorem dX12_asks_79 : decode cX12_asks 79 = .ok (.iload_n 3, 1) := by decide +kernel
theorem dX12_asks_80 : decode cX12_asks 80 = .ok (.invokevirtual 159, 3) := by decide +kernel
theorem dX12_asks_83 : decode cX12_asks 83 = .ok (.ifCond .eq 7, 3) := by decide +kernel
theorem dX12_asks_86 : decode cX12_asks 86 = .ok (.iconst 1, 1) := by decide +kernel
theorem dX12_asks_87 : decode cX12_asks 87 = .ok (.goto 4, 3) := by decide +kernel
theorem dX12_asks_90 : decode cX12_asks 90 = .ok (.iconst 0, 1) := by decide +kernel
theorem dX12_asks_91 : decode cX12_asks 91 = .ok (.ireturn, 1) := by decide +kernel
theorem dX12_asks_92 : decode cX12_asks 92 = .ok (.iconst (-1), 1) := by decide +kernel
theorem dX12_asks_93 : decode cX12_asks 93 = .ok (.ireturn, 1) := by decide +kernel
theorem dX12_isTerm_0 : decode cX12_isTerm 0 = .ok (.iload_n 0, 1) := by decide +kernel
theorem dX12_isTerm_1 : decode cX12_isTerm 1 = .ok (.tableswitch 52 0 2 #[27, 36, 44], 27) := by decide +kernel
theorem dX12_isTerm_28 : decode cX12_isTerm 28 = .ok (.iload_n 1, 1) := by decide +kernel
theorem dX12_isTerm_29 : decode cX12_isTerm 29 = .ok (.iconst 0, 1) := by decide +kernel
theorem dX12_isTerm_30 : decode cX12_isTerm 30 = .ok (.sipush 999, 3) := by decide +kernel
theorem dX12_isTerm_33 : decode cX12_isTerm 33 = .ok (.invokestatic 18, 3) := by decide +kernel
theorem dX12_isTerm_36 : decode cX12_isTerm 36 = .ok (.ireturn, 1) := by decide +kernel
theorem dX12_isTerm_37 : decode cX12_isTerm 37 = .ok (.iload_n 1, 1) := by decide +kernel
theorem dX12_isTerm_38 : decode cX12_isTerm 38 = .ok (.iconst 0, 1) := by decide +kernel
theorem dX12_isTerm_39 : decode cX12_isTerm 39 = .ok (.bipush 10, 2) := by decide +kernel
theorem dX12_isTerm_41 : decode cX12_isTerm 41 = .ok (.invokestatic 18, 3) := by decide +kernel
theorem dX12_isTerm_44 : decode cX12_isTerm 44 = .ok (.ireturn, 1) := by decide +kernel
theorem dX12_isTerm_45 : decode cX12_isTerm 45 = .ok (.iload_n 1, 1) := by decide +kernel
theorem dX12_isTerm_46 : decode cX12_isTerm 46 = .ok (.iconst 0, 1) := by decide +kernel
theorem dX12_isTerm_47 : decode cX12_isTerm 47 = .ok (.bipush 9, 2) := by decide +kernel
theorem dX12_isTerm_49 : decode cX12_isTerm 49 = .ok (.invokestatic 18, 3) := by decide +kernel
theorem dX12_isTerm_52 : decode cX12_isTerm 52 = .ok (.ireturn, 1) := by decide +kernel
theorem dX12_isTerm_53 : decode cX12_isTerm 53 = .ok (.iconst 0, 1) := by decide +kernel
theorem dX12_isTerm_54 : decode cX12_isTerm 54 = .ok (.ireturn, 1) := by decide +kernel
theorem dX12_termAt_0 : decode cX12_termAt 0 = .ok (.iload_n 0, 1) := by decide +kernel
theorem dX12_termAt_1 : decode cX12_termAt 1 = .ok (.ifCond .ne 8, 3) := by decide +kernel
theorem dX12_termAt_4 : decode cX12_termAt 4 = .ok (.bipush 28, 2) := by decide +kernel
theorem dX12_termAt_6 : decode cX12_termAt 6 = .ok (.goto 15, 3) := by decide +kernel
theorem dX12_termAt_9 : decode cX12_termAt 9 = .ok (.iload_n 0, 1) := by decide +kernel
theorem dX12_termAt_10 : decode cX12_termAt 10 = .ok (.iconst 1, 1) := by decide +kernel
theorem dX12_termAt_11 : decode cX12_termAt 11 = .ok (.if_icmp .ne 8, 3) := by decide +kernel
theorem dX12_termAt_14 : decode cX12_termAt 14 = .ok (.bipush 65, 2) := by decide +kernel
theorem dX12_termAt_16 : decode cX12_termAt 16 = .ok (.goto 5, 3) := by decide +kernel
theorem dX12_termAt_19 : decode cX12_termAt 19 = .ok (.bipush 66, 2) := by decide +kernel
theorem dX12_termAt_21 : decode cX12_termAt 21 = .ok (.ireturn, 1) := by decide +kernel
theorem dX12_terms_0 : decode cX12_terms 0 = .ok (.iload_n 1, 1) := by decide +kernel
theorem dX12_terms_1 : decode cX12_terms 1 = .ok (.iload_n 2, 1) := by decide +kernel
theorem dX12_terms_2 : decode cX12_terms 2 = .ok (.invokestatic 162, 3) := by decide +kernel
theorem dX12_terms_5 : decode cX12_terms 5 = .ok (.ifCond .ne 9, 3) := by decide +kernel
theorem dX12_terms_8 : decode cX12_terms 8 = .ok (.aload_n 0, 1) := by decide +kernel
theorem dX12_terms_9 : decode cX12_terms 9 = .ok (.iconst (-1), 1) := by decide +kernel
theorem dX12_terms_10 : decode cX12_terms 10 = .ok (.invokevirtual 109, 3) := by decide +kernel
theorem dX12_terms_13 : decode cX12_terms 13 = .ok (.ireturn, 1) := by decide +kernel
theorem dX12_terms_14 : decode cX12_terms 14 = .ok (.aload_n 0, 1) := by decide +kernel
theorem dX12_terms_15 : decode cX12_terms 15 = .ok (.getfield 28, 3) := by decide +kernel
theorem dX12_terms_18 : decode cX12_terms 18 = .ok (.iload_n 1, 1) := by decide +kernel
theorem dX12_terms_19 : decode cX12_terms 19 = .ok (.invokestatic 166, 3) := by decide +kernel
theorem dX12_terms_22 : decode cX12_terms 22 = .ok (.iaload, 1) := by decide +kernel
theorem dX12_terms_23 : decode cX12_terms 23 = .ok (.istore_n 3, 1) := by decide +kernel
theorem dX12_terms_24 : decode cX12_terms 24 = .ok (.aload_n 0, 1) := by decide +kernel
theorem dX12_terms_25 : decode cX12_terms 25 = .ok (.getfield 28, 3) := by decide +kernel
theorem dX12_terms_28 : decode cX12_terms 28 = .ok (.iload_n 1, 1) := by decide +kernel
theorem dX12_terms_29 : decode cX12_terms 29 = .ok (.invokestatic 166, 3) := by decide +kernel
theorem dX12_terms_32 : decode cX12_terms 32 = .ok (.iload_n 2, 1) := by decide +kernel
theorem dX12_terms_33 : decode cX12_terms 33 = .ok (.iastore, 1) := by decide +kernel
theorem dX12_terms_34 : decode cX12_terms 34 = .ok (.aload_n 0, 1) := by decide +kernel
theorem dX12_terms_35 : decode cX12_terms 35 = .ok (.iload_n 3, 1) := by decide +kernel
theorem dX12_terms_36 : decode cX12_terms 36 = .ok (.invokevirtual 112, 3) := by decide +kernel
theorem dX12_terms_39 : decode cX12_terms 39 = .ok (.ireturn, 1) := by decide +kernel
theorem dX12_row_0 : decode cX12_row 0 = .ok (.aload_n 0, 1) := by decide +kernel
theorem dX12_row_1 : decode cX12_row 1 = .ok (.getfield 169, 3) := by decide +kernel
theorem dX12_row_4 : decode cX12_row 4 = .ok (.istore_n 1, 1) := by decide +kernel
theorem dX12_row_5 : decode cX12_row 5 = .ok (.aload_n 0, 1) := by decide +kernel
theorem dX12_row_6 : decode cX12_row 6 = .ok (.iconst 0, 1) := by decide +kernel
theorem dX12_row_7 : decode cX12_row 7 = .ok (.putfield 169, 3) := by decide +kernel
theorem dX12_row_10 : decode cX12_row 10 = .ok (.iload_n 1, 1) := by decide +kernel
theorem dX12_row_11 : decode cX12_row 11 = .ok (.ifCond .ne 10, 3) := by decide +kernel
theorem dX12_row_14 : decode cX12_row 14 = .ok (.aload_n 0, 1) := by decide +kernel
theorem dX12_row_15 : decode cX12_row 15 = .ok (.bipush (-6), 2) := by decide +kernel
theorem dX12_row_17 : decode cX12_row 17 = .ok (.invokevirtual 109, 3) := by decide +kernel
theorem dX12_row_20 : decode cX12_row 20 = .ok (.ireturn, 1) := by decide +kernel
theorem dX12_row_21 : decode cX12_row 21 = .ok (.iconst 0, 1) := by decide +kernel
theorem dX12_row_22 : decode cX12_row 22 = .ok (.istore_n 2, 1) := by decide +kernel
theorem dX12_row_23 : decode cX12_row 23 = .ok (.aload_n 0, 1) := by decide +kernel
theorem dX12_row_24 : decode cX12_row 24 = .ok (.iload_n 1, 1) := by decide +kernel
theorem dX12_row_25 : decode cX12_row 25 = .ok (.iconst 3, 1) := by decide +kernel
theorem dX12_row_26 : decode cX12_row 26 = .ok (.irem, 1) := by decide +kernel
theorem dX12_row_27 : decode cX12_row 27 = .ok (.ifCond .ne 7, 3) := by decide +kernel
theorem dX12_row_30 : decode cX12_row 30 = .ok (.iconst 0, 1) := by decide +kernel
theorem dX12_row_31 : decode cX12_row 31 = .ok (.goto 4, 3) := by decide +kernel
theorem dX12_row_34 : decode cX12_row 34 = .ok (.iconst 1, 1) := by decide +kernel
theorem dX12_row_35 : decode cX12_row 35 = .ok (.putfield 172, 3) := by decide +kernel
theorem dX12_row_38 : decode cX12_row 38 = .ok (.iconst 0, 1) := by decide +kernel
theorem dX12_row_39 : decode cX12_row 39 = .ok (.istore_n 3, 1) := by decide +kernel
theorem dX12_row_40 : decode cX12_row 40 = .ok (.iload_n 3, 1) := by decide +kernel
theorem dX12_row_41 : decode cX12_row 41 = .ok (.iconst 3, 1) := by decide +kernel
theorem dX12_row_42 : decode cX12_row 42 = .ok (.iadd, 1) := by decide +kernel
theorem dX12_row_43 : decode cX12_row 43 = .ok (.iload_n 1, 1) := by decide +kernel
theorem dX12_row_44 : decode cX12_row 44 = .ok (.if_icmp .gt 116, 3) := by decide +kernel
theorem dX12_row_47 : decode cX12_row 47 = .ok (.aload_n 0, 1) := by decide +kernel
theorem dX12_row_48 : decode cX12_row 48 = .ok (.invokevirtual 115, 3) := by decide +kernel
theorem dX12_row_51 : decode cX12_row 51 = .ok (.bipush 9, 2) := by decide +kernel
theorem dX12_row_53 : decode cX12_row 53 = .ok (.if_icmp .ge 35, 3) := by decide +kernel
theorem dX12_row_56 : decode cX12_row 56 = .ok (.aload_n 0, 1) := by decide +kernel
theorem dX12_row_57 : decode cX12_row 57 = .ok (.getfield 45, 3) := by decide +kernel
theorem dX12_row_60 : decode cX12_row 60 = .ok (.iload_n 3, 1) := by decide +kernel
theorem dX12_row_61 : decode cX12_row 61 = .ok (.baload, 1) := by decide +kernel
theorem dX12_row_62 : decode cX12_row 62 = .ok (.aload_n 0, 1) := by decide +kernel
theorem dX12_row_63 : decode cX12_row 63 = .ok (.getfield 45, 3) := by decide +kernel
theorem dX12_row_66 : decode cX12_row 66 = .ok (.iload_n 3, 1) := by decide +kernel
theorem dX12_row_67 : decode cX12_row 67 = .ok (.iconst 1, 1) := by decide +kernel
theorem dX12_row_68 : decode cX12_row 68 = .ok (.iadd, 1) := by decide +kernel
theorem dX12_row_69 : decode cX12_row 69 = .ok (.baload, 1) := by decide +kernel
theorem dX12_row_70 : decode cX12_row 70 = .ok (.aload_n 0, 1) := by decide +kernel
theorem dX12_row_71 : decode cX12_row 71 = .ok (.getfield 45, 3) := by decide +kernel
theorem dX12_row_74 : decode cX12_row 74 = .ok (.iload_n 3, 1) := by decide +kernel
theorem dX12_row_75 : decode cX12_row 75 = .ok (.iconst 2, 1) := by decide +kernel
theorem dX12_row_76 : decode cX12_row 76 = .ok (.iadd, 1) := by decide +kernel
theorem dX12_row_77 : decode cX12_row 77 = .ok (.baload, 1) := by decide +kernel
theorem dX12_row_78 : decode cX12_row 78 = .ok (.invokestatic 127, 3) := by decide +kernel
theorem dX12_row_81 : decode cX12_row 81 = .ok (.ifCond .eq 7, 3) := by decide +kernel
theorem dX12_row_84 : decode cX12_row 84 = .ok (.iconst 1, 1) := by decide +kernel
theorem dX12_row_85 : decode cX12_row 85 = .ok (.goto 4, 3) := by decide +kernel
theorem dX12_row_88 : decode cX12_row 88 = .ok (.iconst 0, 1) := by decide +kernel
theorem dX12_row_89 : decode cX12_row 89 = .ok (.istore 4, 2) := by decide +kernel
theorem dX12_row_91 : decode cX12_row 91 = .ok (.iload 4, 2) := by decide +kernel
theorem dX12_row_93 : decode cX12_row 93 = .ok (.ifCond .eq 29, 3) := by decide +kernel
theorem dX12_row_96 : decode cX12_row 96 = .ok (.aload_n 0, 1) := by decide +kernel
theorem dX12_row_97 : decode cX12_row 97 = .ok (.aload_n 0, 1) := by decide +kernel
theorem dX12_row_98 : decode cX12_row 98 = .ok (.getfield 45, 3) := by decide +kernel
theorem dX12_row_101 : decode cX12_row 101 = .ok (.iload_n 3, 1) := by decide +kernel
theorem dX12_row_102 : decode cX12_row 102 = .ok (.baload, 1) := by decide +kernel
theorem dX12_row_103 : decode cX12_row 103 = .ok (.aload_n 0, 1) := by decide +kernel
theorem dX12_row_104 : decode cX12_row 104 = .ok (.getfield 45, 3) := by decide +kernel
theorem dX12_row_107 : decode cX12_row 107 = .ok (.iload_n 3, 1) := by decide +kernel
theorem dX12_row_108 : decode cX12_row 108 = .ok (.iconst 1, 1) := by decide +kernel
theorem dX12_row_109 : decode cX12_row 109 = .ok (.iadd, 1) := by decide +kernel
theorem dX12_row_110 : decode cX12_row 110 = .ok (.baload, 1) := by decide +kernel
theorem dX12_row_111 : decode cX12_row 111 = .ok (.aload_n 0, 1) := by decide +kernel
theorem dX12_row_112 : decode cX12_row 112 = .ok (.getfield 45, 3) := by decide +kernel
theorem dX12_row_115 : decode cX12_row 115 = .ok (.iload_n 3, 1) := by decide +kernel
theorem dX12_row_116 : decode cX12_row 116 = .ok (.iconst 2, 1) := by decide +kernel
theorem dX12_row_117 : decode cX12_row 117 = .ok (.iadd, 1) := by decide +kernel
theorem dX12_row_118 : decode cX12_row 118 = .ok (.baload, 1) := by decide +kernel
theorem dX12_row_119 : decode cX12_row 119 = .ok (.invokevirtual 130, 3) := by decide +kernel
theorem dX12_row_122 : decode cX12_row 122 = .ok (.iload_n 2, 1) := by decide +kernel
theorem dX12_row_123 : decode cX12_row 123 = .ok (.iload 4, 2) := by decide +kernel
theorem dX12_row_125 : decode cX12_row 125 = .ok (.ifCond .eq 7, 3) := by decide +kernel
theorem dX12_row_128 : decode cX12_row 128 = .ok (.iconst 1, 1) := by decide +kernel
theorem dX12_row_129 : decode cX12_row 129 = .ok (.goto 4, 3) := by decide +kernel
theorem dX12_row_132 : decode cX12_row 132 = .ok (.iconst 0, 1) := by decide +kernel
theorem dX12_row_133 : decode cX12_row 133 = .ok (.iadd, 1) := by decide +kernel
theorem dX12_row_134 : decode cX12_row 134 = .ok (.istore_n 2, 1) := by decide +kernel
theorem dX12_row_135 : decode cX12_row 135 = .ok (.aload_n 0, 1) := by decide +kernel
theorem dX12_row_136 : decode cX12_row 136 = .ok (.dup, 1) := by decide +kernel
theorem dX12_row_137 : decode cX12_row 137 = .ok (.getfield 172, 3) := by decide +kernel
theorem dX12_row_140 : decode cX12_row 140 = .ok (.iload 4, 2) := by decide +kernel
theorem dX12_row_142 : decode cX12_row 142 = .ok (.ifCond .eq 7, 3) := by decide +kernel
theorem dX12_row_145 : decode cX12_row 145 = .ok (.iconst 0, 1) := by decide +kernel
theorem dX12_row_146 : decode cX12_row 146 = .ok (.goto 4, 3) := by decide +kernel
theorem dX12_row_149 : decode cX12_row 149 = .ok (.iconst 1, 1) := by decide +kernel
theorem dX12_row_150 : decode cX12_row 150 = .ok (.iadd, 1) := by decide +kernel
theorem dX12_row_151 : decode cX12_row 151 = .ok (.putfield 172, 3) := by decide +kernel
theorem dX12_row_154 : decode cX12_row 154 = .ok (.iinc 3 3, 3) := by decide +kernel
theorem dX12_row_157 : decode cX12_row 157 = .ok (.goto (-117), 3) := by decide +kernel
theorem dX12_row_160 : decode cX12_row 160 = .ok (.aload_n 0, 1) := by decide +kernel
theorem dX12_row_161 : decode cX12_row 161 = .ok (.iload_n 2, 1) := by decide +kernel
theorem dX12_row_162 : decode cX12_row 162 = .ok (.invokevirtual 112, 3) := by decide +kernel
theorem dX12_row_165 : decode cX12_row 165 = .ok (.ireturn, 1) := by decide +kernel
theorem dX12_fluff_0 : decode cX12_fluff 0 = .ok (.aload_n 0, 1) := by decide +kernel
theorem dX12_fluff_1 : decode cX12_fluff 1 = .ok (.getfield 172, 3) := by decide +kernel
theorem dX12_fluff_4 : decode cX12_fluff 4 = .ok (.ireturn, 1) := by decide +kernel
theorem dX12_feed_0 : decode cX12_feed 0 = .ok (.aload_n 0, 1) := by decide +kernel
theorem dX12_feed_1 : decode cX12_feed 1 = .ok (.getfield 169, 3) := by decide +kernel
theorem dX12_feed_4 : decode cX12_feed 4 = .ok (.bipush 20, 2) := by decide +kernel
theorem dX12_feed_6 : decode cX12_feed 6 = .ok (.iadd, 1) := by decide +kernel
theorem dX12_feed_7 : decode cX12_feed 7 = .ok (.sipush 400, 3) := by decide +kernel
theorem dX12_feed_10 : decode cX12_feed 10 = .ok (.if_icmp .le 5, 3) := by decide +kernel
theorem dX12_feed_13 : decode cX12_feed 13 = .ok (.iconst (-1), 1) := by decide +kernel
theorem dX12_feed_14 : decode cX12_feed 14 = .ok (.ireturn, 1) := by decide +kernel
theorem dX12_feed_15 : decode cX12_feed 15 = .ok (.aload_n 0, 1) := by decide +kernel
theorem dX12_feed_16 : decode cX12_feed 16 = .ok (.getfield 48, 3) := by decide +kernel
theorem dX12_feed_19 : decode cX12_feed 19 = .ok (.iconst 0, 1) := by decide +kernel
theorem dX12_feed_20 : decode cX12_feed 20 = .ok (.iload_n 1, 1) := by decide +kernel
theorem dX12_feed_21 : decode cX12_feed 21 = .ok (.iastore, 1) := by decide +kernel
theorem dX12_feed_22 : decode cX12_feed 22 = .ok (.aload_n 0, 1) := by decide +kernel
theorem dX12_feed_23 : decode cX12_feed 23 = .ok (.getfield 48, 3) := by decide +kernel
theorem dX12_feed_26 : decode cX12_feed 26 = .ok (.iconst 1, 1) := by decide +kernel
theorem dX12_feed_27 : decode cX12_feed 27 = .ok (.iload_n 2, 1) := by decide +kernel
theorem dX12_feed_28 : decode cX12_feed 28 = .ok (.iastore, 1) := by decide +kernel
theorem dX12_feed_29 : decode cX12_feed 29 = .ok (.aload_n 0, 1) := by decide +kernel
theorem dX12_feed_30 : decode cX12_feed 30 = .ok (.getfield 48, 3) := by decide +kernel
theorem dX12_feed_33 : decode cX12_feed 33 = .ok (.iconst 2, 1) := by decide +kernel
theorem dX12_feed_34 : decode cX12_feed 34 = .ok (.iload_n 3, 1) := by decide +kernel
theorem dX12_feed_35 : decode cX12_feed 35 = .ok (.iastore, 1) := by decide +kernel
theorem dX12_feed_36 : decode cX12_feed 36 = .ok (.aload_n 0, 1) := by decide +kernel
theorem dX12_feed_37 : decode cX12_feed 37 = .ok (.getfield 48, 3) := by decide +kernel
theorem dX12_feed_40 : decode cX12_feed 40 = .ok (.iconst 3, 1) := by decide +kernel
theorem dX12_feed_41 : decode cX12_feed 41 = .ok (.iload 4, 2) := by decide +kernel
theorem dX12_feed_43 : decode cX12_feed 43 = .ok (.iastore, 1) := by decide +kernel
theorem dX12_feed_44 : decode cX12_feed 44 = .ok (.aload_n 0, 1) := by decide +kernel
theorem dX12_feed_45 : decode cX12_feed 45 = .ok (.getfield 48, 3) := by decide +kernel
theorem dX12_feed_48 : decode cX12_feed 48 = .ok (.iconst 4, 1) := by decide +kernel
theorem dX12_feed_49 : decode cX12_feed 49 = .ok (.iload 5, 2) := by decide +kernel
theorem dX12_feed_51 : decode cX12_feed 51 = .ok (.iastore, 1) := by decide +kernel
theorem dX12_feed_52 : decode cX12_feed 52 = .ok (.iconst 0, 1) := by decide +kernel
theorem dX12_feed_53 : decode cX12_feed 53 = .ok (.istore 6, 2) := by decide +kernel
theorem dX12_feed_55 : decode cX12_feed 55 = .ok (.iload 6, 2) := by decide +kernel
theorem dX12_feed_57 : decode cX12_feed 57 = .ok (.bipush 20, 2) := by decide +kernel
theorem dX12_feed_59 : decode cX12_feed 59 = .ok (.if_icmp .ge 42, 3) := by decide +kernel
theorem dX12_feed_62 : decode cX12_feed 62 = .ok (.aload_n 0, 1) := by decide +kernel
theorem dX12_feed_63 : decode cX12_feed 63 = .ok (.getfield 45, 3) := by decide +kernel
theorem dX12_feed_66 : decode cX12_feed 66 = .ok (.aload_n 0, 1) := by decide +kernel
theorem dX12_feed_67 : decode cX12_feed 67 = .ok (.getfield 169, 3) := by decide +kernel
theorem dX12_feed_70 : decode cX12_feed 70 = .ok (.iload 6, 2) := by decide +kernel
theorem dX12_feed_72 : decode cX12_feed 72 = .ok (.iadd, 1) := by decide +kernel
theorem dX12_feed_73 : decode cX12_feed 73 = .ok (.aload_n 0, 1) := by decide +kernel
theorem dX12_feed_74 : decode cX12_feed 74 = .ok (.getfield 48, 3) := by decide +kernel
theorem dX12_feed_77 : decode cX12_feed 77 = .ok (.iload 6, 2) := by decide +kernel
theorem dX12_feed_79 : decode cX12_feed 79 = .ok (.iconst 4, 1) := by decide +kernel
theorem dX12_feed_80 : decode cX12_feed 80 = .ok (.idiv, 1) := by decide +kernel
theorem dX12_feed_81 : decode cX12_feed 81 = .ok (.iaload, 1) := by decide +kernel
theorem dX12_feed_82 : decode cX12_feed 82 = .ok (.bipush 24, 2) := by decide +kernel
theorem dX12_feed_84 : decode cX12_feed 84 = .ok (.bipush 8, 2) := by decide +kernel
theorem dX12_feed_86 : decode cX12_feed 86 = .ok (.iload 6, 2) := by decide +kernel
theorem dX12_feed_88 : decode cX12_feed 88 = .ok (.iconst 4, 1) := by decide +kernel
theorem dX12_feed_89 : decode cX12_feed 89 = .ok (.irem, 1) := by decide +kernel
theorem dX12_feed_90 : decode cX12_feed 90 = .ok (.imul, 1) := by decide +kernel
theorem dX12_feed_91 : decode cX12_feed 91 = .ok (.isub, 1) := by decide +kernel
theorem dX12_feed_92 : decode cX12_feed 92 = .ok (.ishr, 1) := by decide +kernel
theorem dX12_feed_93 : decode cX12_feed 93 = .ok (.i2b, 1) := by decide +kernel
theorem dX12_feed_94 : decode cX12_feed 94 = .ok (.bastore, 1) := by decide +kernel
theorem dX12_feed_95 : decode cX12_feed 95 = .ok (.iinc 6 1, 3) := by decide +kernel
theorem dX12_feed_98 : decode cX12_feed 98 = .ok (.goto (-43), 3) := by decide +kernel
theorem dX12_feed_101 : decode cX12_feed 101 = .ok (.aload_n 0, 1) := by decide +kernel
theorem dX12_feed_102 : decode cX12_feed 102 = .ok (.dup, 1) := by decide +kernel
theorem dX12_feed_103 : decode cX12_feed 103 = .ok (.getfield 169, 3) := by decide +kernel
theorem dX12_feed_106 : decode cX12_feed 106 = .ok (.bipush 20, 2) := by decide +kernel
theorem dX12_feed_108 : decode cX12_feed 108 = .ok (.iadd, 1) := by decide +kernel
theorem dX12_feed_109 : decode cX12_feed 109 = .ok (.putfield 169, 3) := by decide +kernel
theorem dX12_feed_112 : decode cX12_feed 112 = .ok (.aload_n 0, 1) := by decide +kernel
theorem dX12_feed_113 : decode cX12_feed 113 = .ok (.getfield 169, 3) := by decide +kernel
theorem dX12_feed_116 : decode cX12_feed 116 = .ok (.ireturn, 1) := by decide +kernel
theorem dX12_end_0 : decode cX12_end 0 = .ok (.iload_n 1, 1) := by decide +kernel
theorem dX12_end_1 : decode cX12_end 1 = .ok (.iconst 0, 1) := by decide +kernel
theorem dX12_end_2 : decode cX12_end 2 = .ok (.aload_n 0, 1) := by decide +kernel
theorem dX12_end_3 : decode cX12_end 3 = .ok (.getfield 169, 3) := by decide +kernel
theorem dX12_end_6 : decode cX12_end 6 = .ok (.invokestatic 18, 3) := by decide +kernel
theorem dX12_end_9 : decode cX12_end 9 = .ok (.ifCond .ne 5, 3) := by decide +kernel
theorem dX12_end_12 : decode cX12_end 12 = .ok (.iconst (-1), 1) := by decide +kernel
theorem dX12_end_13 : decode cX12_end 13 = .ok (.ireturn, 1) := by decide +kernel
theorem dX12_end_14 : decode cX12_end 14 = .ok (.aload_n 0, 1) := by decide +kernel
theorem dX12_end_15 : decode cX12_end 15 = .ok (.iload_n 1, 1) := by decide +kernel
theorem dX12_end_16 : decode cX12_end 16 = .ok (.putfield 169, 3) := by decide +kernel
theorem dX12_end_19 : decode cX12_end 19 = .ok (.iload_n 1, 1) := by decide +kernel
theorem dX12_end_20 : decode cX12_end 20 = .ok (.ireturn, 1) := by decide +kernel
theorem dX12_isSmall_0 : decode cX12_isSmall 0 = .ok (.iload_n 0, 1) := by decide +kernel
theorem dX12_isSmall_1 : decode cX12_isSmall 1 = .ok (.bipush 97, 2) := by decide +kernel
theorem dX12_isSmall_3 : decode cX12_isSmall 3 = .ok (.if_icmp .lt 13, 3) := by decide +kernel
theorem dX12_isSmall_6 : decode cX12_isSmall 6 = .ok (.iload_n 0, 1) := by decide +kernel
theorem dX12_isSmall_7 : decode cX12_isSmall 7 = .ok (.bipush 122, 2) := by decide +kernel
theorem dX12_isSmall_9 : decode cX12_isSmall 9 = .ok (.if_icmp .gt 7, 3) := by decide +kernel
theorem dX12_isSmall_12 : decode cX12_isSmall 12 = .ok (.iconst 1, 1) := by decide +kernel
theorem dX12_isSmall_13 : decode cX12_isSmall 13 = .ok (.goto 4, 3) := by decide +kernel
theorem dX12_isSmall_16 : decode cX12_isSmall 16 = .ok (.iconst 0, 1) := by decide +kernel
theorem dX12_isSmall_17 : decode cX12_isSmall 17 = .ok (.ireturn, 1) := by decide +kernel
theorem dX12_isDigit_0 : decode cX12_isDigit 0 = .ok (.iload_n 0, 1) := by decide +kernel
theorem dX12_isDigit_1 : decode cX12_isDigit 1 = .ok (.bipush 48, 2) := by decide +kernel
theorem dX12_isDigit_3 : decode cX12_isDigit 3 = .ok (.if_icmp .lt 13, 3) := by decide +kernel
theorem dX12_isDigit_6 : decode cX12_isDigit 6 = .ok (.iload_n 0, 1) := by decide +kernel
theorem dX12_isDigit_7 : decode cX12_isDigit 7 = .ok (.bipush 57, 2) := by decide +kernel
theorem dX12_isDigit_9 : decode cX12_isDigit 9 = .ok (.if_icmp .gt 7, 3) := by decide +kernel
theorem dX12_isDigit_12 : decode cX12_isDigit 12 = .ok (.iconst 1, 1) := by decide +kernel
theorem dX12_isDigit_13 : decode cX12_isDigit 13 = .ok (.goto 4, 3) := by decide +kernel
theorem dX12_isDigit_16 : decode cX12_isDigit 16 = .ok (.iconst 0, 1) := by decide +kernel
theorem dX12_isDigit_17 : decode cX12_isDigit 17 = .ok (.ireturn, 1) := by decide +kernel
theorem dX12_wordOf_0 : decode cX12_wordOf 0 = .ok (.iconst 1, 1) := by decide +kernel
theorem dX12_wordOf_1 : decode cX12_wordOf 1 = .ok (.istore_n 3, 1) := by decide +kernel
theorem dX12_wordOf_2 : decode cX12_wordOf 2 = .ok (.iconst 0, 1) := by decide +kernel
theorem dX12_wordOf_3 : decode cX12_wordOf 3 = .ok (.istore 4, 2) := by decide +kernel
theorem dX12_wordOf_5 : decode cX12_wordOf 5 = .ok (.iload 4, 2) := by decide +kernel
theorem dX12_wordOf_7 : decode cX12_wordOf 7 = .ok (.aload_n 0, 1) := by decide +kernel
theorem dX12_wordOf_8 : decode cX12_wordOf 8 = .ok (.getfield 41, 3) := by decide +kernel
theorem dX12_wordOf_11 : decode cX12_wordOf 11 = .ok (.arraylength, 1) := by decide +kernel
theorem dX12_wordOf_12 : decode cX12_wordOf 12 = .ok (.if_icmp .ge 114, 3) := by decide +kernel
theorem dX12_wordOf_15 : decode cX12_wordOf 15 = .ok (.iconst 0, 1) := by decide +kernel
theorem dX12_wordOf_16 : decode cX12_wordOf 16 = .ok (.istore 5, 2) := by decide +kernel
theorem dX12_wordOf_18 : decode cX12_wordOf 18 = .ok (.aload_n 0, 1) := by decide +kernel
theorem dX12_wordOf_19 : decode cX12_wordOf 19 = .ok (.getfield 41, 3) := by decide +kernel
theorem dX12_wordOf_22 : decode cX12_wordOf 22 = .ok (.iload 4, 2) := by decide +kernel
theorem dX12_wordOf_24 : decode cX12_wordOf 24 = .ok (.iload 5, 2) := by decide +kernel
theorem dX12_wordOf_26 : decode cX12_wordOf 26 = .ok (.iadd, 1) := by decide +kernel
theorem dX12_wordOf_27 : decode cX12_wordOf 27 = .ok (.baload, 1) := by decide +kernel
theorem dX12_wordOf_28 : decode cX12_wordOf 28 = .ok (.bipush 32, 2) := by decide +kernel
theorem dX12_wordOf_30 : decode cX12_wordOf 30 = .ok (.if_icmp .eq 9, 3) := by decide +kernel
theorem dX12_wordOf_33 : decode cX12_wordOf 33 = .ok (.iinc 5 1, 3) := by decide +kernel
theorem dX12_wordOf_36 : decode cX12_wordOf 36 = .ok (.goto (-18), 3) := by decide +kernel
theorem dX12_wordOf_39 : decode cX12_wordOf 39 = .ok (.iload 5, 2) := by decide +kernel
theorem dX12_wordOf_41 : decode cX12_wordOf 41 = .ok (.iload_n 2, 1) := by decide +kernel
theorem dX12_wordOf_42 : decode cX12_wordOf 42 = .ok (.iload_n 1, 1) := by decide +kernel
theorem dX12_wordOf_43 : decode cX12_wordOf 43 = .ok (.isub, 1) := by decide +kernel
theorem dX12_wordOf_44 : decode cX12_wordOf 44 = .ok (.if_icmp .ne 7, 3) := by decide +kernel
theorem dX12_wordOf_47 : decode cX12_wordOf 47 = .ok (.iconst 1, 1) := by decide +kernel
theorem dX12_wordOf_48 : decode cX12_wordOf 48 = .ok (.goto 4, 3) := by decide +kernel
theorem dX12_wordOf_51 : decode cX12_wordOf 51 = .ok (.iconst 0, 1) := by decide +kernel
theorem dX12_wordOf_52 : decode cX12_wordOf 52 = .ok (.istore 6, 2) := by decide +kernel
theorem dX12_wordOf_54 : decode cX12_wordOf 54 = .ok (.iconst 0, 1) := by decide +kernel
theorem dX12_wordOf_55 : decode cX12_wordOf 55 = .ok (.istore 7, 2) := by decide +kernel
theorem dX12_wordOf_57 : decode cX12_wordOf 57 = .ok (.iload 7, 2) := by decide +kernel
theorem dX12_wordOf_59 : decode cX12_wordOf 59 = .ok (.iload 5, 2) := by decide +kernel
theorem dX12_wordOf_61 : decode cX12_wordOf 61 = .ok (.if_icmp .ge 43, 3) := by decide +kernel
theorem dX12_wordOf_64 : decode cX12_wordOf 64 = .ok (.iload 6, 2) := by decide +kernel
theorem dX12_wordOf_66 : decode cX12_wordOf 66 = .ok (.ifCond .eq 38, 3) := by decide +kernel
theorem dX12_wordOf_69 : decode cX12_wordOf 69 = .ok (.aload_n 0, 1) := by decide +kernel
theorem dX12_wordOf_70 : decode cX12_wordOf 70 = .ok (.getfield 41, 3) := by decide +kernel
theorem dX12_wordOf_73 : decode cX12_wordOf 73 = .ok (.iload 4, 2) := by decide +kernel
theorem dX12_wordOf_75 : decode cX12_wordOf 75 = .ok (.iload 7, 2) := by decide +kernel
theorem dX12_wordOf_77 : decode cX12_wordOf 77 = .ok (.iadd, 1) := by decide +kernel
theorem dX12_wordOf_78 : decode cX12_wordOf 78 = .ok (.baload, 1) := by decide +kernel
theorem dX12_wordOf_79 : decode cX12_wordOf 79 = .ok (.aload_n 0, 1) := by decide +kernel
theorem dX12_wordOf_80 : decode cX12_wordOf 80 = .ok (.getfield 45, 3) := by decide +kernel
theorem dX12_wordOf_83 : decode cX12_wordOf 83 = .ok (.iload_n 1, 1) := by decide +kernel
theorem dX12_wordOf_84 : decode cX12_wordOf 84 = .ok (.iload 7, 2) := by decide +kernel
theorem dX12_wordOf_86 : decode cX12_wordOf 86 = .ok (.iadd, 1) := by decide +kernel
theorem dX12_wordOf_87 : decode cX12_wordOf 87 = .ok (.baload, 1) := by decide +kernel
theorem dX12_wordOf_88 : decode cX12_wordOf 88 = .ok (.if_icmp .ne 7, 3) := by decide +kernel
theorem dX12_wordOf_91 : decode cX12_wordOf 91 = .ok (.iconst 1, 1) := by decide +kernel
theorem dX12_wordOf_92 : decode cX12_wordOf 92 = .ok (.goto 4, 3) := by decide +kernel
theorem dX12_wordOf_95 : decode cX12_wordOf 95 = .ok (.iconst 0, 1) := by decide +kernel
theorem dX12_wordOf_96 : decode cX12_wordOf 96 = .ok (.istore 6, 2) := by decide +kernel
theorem dX12_wordOf_98 : decode cX12_wordOf 98 = .ok (.iinc 7 1, 3) := by decide +kernel
theorem dX12_wordOf_101 : decode cX12_wordOf 101 = .ok (.goto (-44), 3) := by decide +kernel
theorem dX12_wordOf_104 : decode cX12_wordOf 104 = .ok (.iload 6, 2) := by decide +kernel
theorem dX12_wordOf_106 : decode cX12_wordOf 106 = .ok (.ifCond .eq 5, 3) := by decide +kernel
theorem dX12_wordOf_109 : decode cX12_wordOf 109 = .ok (.iload_n 3, 1) := by decide +kernel
theorem dX12_wordOf_110 : decode cX12_wordOf 110 = .ok (.ireturn, 1) := by decide +kernel
theorem dX12_wordOf_111 : decode cX12_wordOf 111 = .ok (.iload 4, 2) := by decide +kernel
theorem dX12_wordOf_113 : decode cX12_wordOf 113 = .ok (.iload 5, 2) := by decide +kernel
theorem dX12_wordOf_115 : decode cX12_wordOf 115 = .ok (.iconst 1, 1) := by decide +kernel
theorem dX12_wordOf_116 : decode cX12_wordOf 116 = .ok (.iadd, 1) := by decide +kernel
theorem dX12_wordOf_117 : decode cX12_wordOf 117 = .ok (.iadd, 1) := by decide +kernel
theorem dX12_wordOf_118 : decode cX12_wordOf 118 = .ok (.istore 4, 2) := by decide +kernel
theorem dX12_wordOf_120 : decode cX12_wordOf 120 = .ok (.iinc 3 1, 3) := by decide +kernel
theorem dX12_wordOf_123 : decode cX12_wordOf 123 = .ok (.goto (-118), 3) := by decide +kernel
theorem dX12_wordOf_126 : decode cX12_wordOf 126 = .ok (.iconst 0, 1) := by decide +kernel
theorem dX12_wordOf_127 : decode cX12_wordOf 127 = .ok (.ireturn, 1) := by decide +kernel
theorem dX12_splits_0 : decode cX12_splits 0 = .ok (.aload_n 0, 1) := by decide +kernel
theorem dX12_splits_1 : decode cX12_splits 1 = .ok (.iconst 0, 1) := by decide +kernel
theorem dX12_splits_2 : decode cX12_splits 2 = .ok (.putfield 175, 3) := by decide +kernel
theorem dX12_splits_5 : decode cX12_splits 5 = .ok (.iconst 0, 1) := by decide +kernel
theorem dX12_splits_6 : decode cX12_splits 6 = .ok (.istore_n 2, 1) := by decide +kernel
theorem dX12_splits_7 : decode cX12_splits 7 = .ok (.iload_n 2, 1) := by decide +kernel
theorem dX12_splits_8 : decode cX12_splits 8 = .ok (.iload_n 1, 1) := by decide +kernel
theorem dX12_splits_9 : decode cX12_splits 9 = .ok (.if_icmp .ge 254, 3) := by decide +kernel
theorem dX12_splits_12 : decode cX12_splits 12 = .ok (.aload_n 0, 1) := by decide +kernel
theorem dX12_splits_13 : decode cX12_splits 13 = .ok (.getfield 45, 3) := by decide +kernel
theorem dX12_splits_16 : decode cX12_splits 16 = .ok (.iload_n 2, 1) := by decide +kernel
theorem dX12_splits_17 : decode cX12_splits 17 = .ok (.baload, 1) := by decide +kernel
theorem dX12_splits_18 : decode cX12_splits 18 = .ok (.istore_n 3, 1) := by decide +kernel
theorem dX12_splits_19 : decode cX12_splits 19 = .ok (.iload_n 3, 1) := by decide +kernel
theorem dX12_splits_20 : decode cX12_splits 20 = .ok (.bipush 32, 2) := by decide +kernel
theorem dX12_splits_22 : decode cX12_splits 22 = .ok (.if_icmp .ne 9, 3) := by decide +kernel
theorem dX12_splits_25 : decode cX12_splits 25 = .ok (.iinc 2 1, 3) := by decide +kernel
theorem dX12_splits_28 : decode cX12_splits 28 = .ok (.goto (-21), 3) := by decide +kernel
theorem dX12_splits_31 : decode cX12_splits 31 = .ok (.iload_n 2, 1) := by decide +kernel
theorem dX12_splits_32 : decode cX12_splits 32 = .ok (.iconst 1, 1) := by decide +kernel
theorem dX12_splits_33 : decode cX12_splits 33 = .ok (.iadd, 1) := by decide +kernel
theorem dX12_splits_34 : decode cX12_splits 34 = .ok (.istore 4, 2) := by decide +kernel
theorem dX12_splits_36 : decode cX12_splits 36 = .ok (.iload_n 3, 1) := by decide +kernel
theorem dX12_splits_37 : decode cX12_splits 37 = .ok (.invokestatic 178, 3) := by decide +kernel
theorem dX12_splits_40 : decode cX12_splits 40 = .ok (.ifCond .eq 28, 3) := by decide +kernel
theorem dX12_splits_43 : decode cX12_splits 43 = .ok (.iload 4, 2) := by decide +kernel
theorem dX12_splits_45 : decode cX12_splits 45 = .ok (.iload_n 1, 1) := by decide +kernel
theorem dX12_splits_46 : decode cX12_splits 46 = .ok (.if_icmp .ge 22, 3) := by decide +kernel
theorem dX12_splits_49 : decode cX12_splits 49 = .ok (.aload_n 0, 1) := by decide +kernel
theorem dX12_splits_50 : decode cX12_splits 50 = .ok (.getfield 45, 3) := by decide +kernel
theorem dX12_splits_53 : decode cX12_splits 53 = .ok (.iload 4, 2) := by decide +kernel
theorem dX12_splits_55 : decode cX12_splits 55 = .ok (.baload, 1) := by decide +kernel
theorem dX12_splits_56 : decode cX12_splits 56 = .ok (.invokestatic 178, 3) := by decide +kernel
theorem dX12_splits_59 : decode cX12_splits 59 = .ok (.ifCond .eq 9, 3) := by decide +kernel
theorem dX12_splits_62 : decode cX12_splits 62 = .ok (.iinc 4 1, 3) := by decide +kernel
theorem dX12_splits_65 : decode cX12_splits 65 = .ok (.goto (-22), 3) := by decide +kernel
theorem dX12_splits_68 : decode cX12_splits 68 = .ok (.iload_n 3, 1) := by decide +kernel
theorem dX12_splits_69 : decode cX12_splits 69 = .ok (.invokestatic 181, 3) := by decide +kernel
theorem dX12_splits_72 : decode cX12_splits 72 = .ok (.ifCond .eq 28, 3) := by decide +kernel
theorem dX12_splits_75 : decode cX12_splits 75 = .ok (.iload 4, 2) := by decide +kernel
theorem dX12_splits_77 : decode cX12_splits 77 = .ok (.iload_n 1, 1) := by decide +kernel
theorem dX12_splits_78 : decode cX12_splits 78 = .ok (.if_icmp .ge 22, 3) := by decide +kernel
theorem dX12_splits_81 : decode cX12_splits 81 = .ok (.aload_n 0, 1) := by decide +kernel
theorem dX12_splits_82 : decode cX12_splits 82 = .ok (.getfield 45, 3) := by decide +kernel
theorem dX12_splits_85 : decode cX12_splits 85 = .ok (.iload 4, 2) := by decide +kernel
theorem dX12_splits_87 : decode cX12_splits 87 = .ok (.baload, 1) := by decide +kernel
theorem dX12_splits_88 : decode cX12_splits 88 = .ok (.invokestatic 181, 3) := by decide +kernel
theorem dX12_splits_91 : decode cX12_splits 91 = .ok (.ifCond .eq 9, 3) := by decide +kernel
theorem dX12_splits_94 : decode cX12_splits 94 = .ok (.iinc 4 1, 3) := by decide +kernel
theorem dX12_splits_97 : decode cX12_splits 97 = .ok (.goto (-22), 3) := by decide +kernel
theorem dX12_splits_100 : decode cX12_splits 100 = .ok (.aload_n 0, 1) := by decide +kernel
theorem dX12_splits_101 : decode cX12_splits 101 = .ok (.getfield 60, 3) := by decide +kernel
theorem dX12_splits_104 : decode cX12_splits 104 = .ok (.aload_n 0, 1) := by decide +kernel
theorem dX12_splits_105 : decode cX12_splits 105 = .ok (.getfield 175, 3) := by decide +kernel
theorem dX12_splits_108 : decode cX12_splits 108 = .ok (.iload_n 2, 1) := by decide +kernel
theorem dX12_splits_109 : decode cX12_splits 109 = .ok (.iastore, 1) := by decide +kernel
theorem dX12_splits_110 : decode cX12_splits 110 = .ok (.aload_n 0, 1) := by decide +kernel
theorem dX12_splits_111 : decode cX12_splits 111 = .ok (.getfield 57, 3) := by decide +kernel
theorem dX12_splits_114 : decode cX12_splits 114 = .ok (.aload_n 0, 1) := by decide +kernel
theorem dX12_splits_115 : decode cX12_splits 115 = .ok (.getfield 175, 3) := by decide +kernel
theorem dX12_splits_118 : decode cX12_splits 118 = .ok (.iconst 0, 1) := by decide +kernel
theorem dX12_splits_119 : decode cX12_splits 119 = .ok (.iastore, 1) := by decide +kernel
theorem dX12_splits_120 : decode cX12_splits 120 = .ok (.aload_n 0, 1) := by decide +kernel
theorem dX12_splits_121 : decode cX12_splits 121 = .ok (.getfield 54, 3) := by decide +kernel
theorem dX12_splits_124 : decode cX12_splits 124 = .ok (.aload_n 0, 1) := by decide +kernel
theorem dX12_splits_125 : decode cX12_splits 125 = .ok (.getfield 175, 3) := by decide +kernel
theorem dX12_splits_128 : decode cX12_splits 128 = .ok (.iload_n 3, 1) := by decide +kernel
theorem dX12_splits_129 : decode cX12_splits 129 = .ok (.invokestatic 178, 3) := by decide +kernel
theorem dX12_splits_132 : decode cX12_splits 132 = .ok (.ifCond .eq 13, 3) := by decide +kernel
theorem dX12_splits_135 : decode cX12_splits 135 = .ok (.aload_n 0, 1) := by decide +kernel
theorem dX12_splits_136 : decode cX12_splits 136 = .ok (.iload_n 2, 1) := by decide +kernel
theorem dX12_splits_137 : decode cX12_splits 137 = .ok (.iload 4, 2) := by decide +kernel
theorem dX12_splits_139 : decode cX12_splits 139 = .ok (.invokevirtual 184, 3) := by decide +kernel
theorem dX12_splits_142 : decode cX12_splits 142 = .ok (.goto 23, 3) := by decide +kernel
theorem dX12_splits_145 : decode cX12_splits 145 = .ok (.iload_n 3, 1) := by decide +kernel
theorem dX12_splits_146 : decode cX12_splits 146 = .ok (.invokestatic 181, 3) := by decide +kernel
theorem dX12_splits_149 : decode cX12_splits 149 = .ok (.ifCond .eq 8, 3) := by decide +kernel
theorem dX12_splits_152 : decode cX12_splits 152 = .ok (.bipush 50, 2) := by decide +kernel
theorem dX12_splits_154 : decode cX12_splits 154 = .ok (.goto 11, 3) := by decide +kernel
theorem dX12_splits_157 : decode cX12_splits 157 = .ok (.bipush 100, 2) := by decide +kernel
theorem dX12_splits_159 : decode cX12_splits 159 = .ok (.iload_n 3, 1) := by decide +kernel
theorem dX12_splits_160 : decode cX12_splits 160 = .ok (.sipush 255, 3) := by decide +kernel
theorem dX12_splits_163 : decode cX12_splits 163 = .ok (.iand, 1) := by decide +kernel
theorem dX12_splits_164 : decode cX12_splits 164 = .ok (.iadd, 1) := by decide +kernel
theorem dX12_splits_165 : decode cX12_splits 165 = .ok (.iastore, 1) := by decide +kernel
theorem dX12_splits_166 : decode cX12_splits 166 = .ok (.iload_n 2, 1) := by decide +kernel
theorem dX12_splits_167 : decode cX12_splits 167 = .ok (.istore 5, 2) := by decide +kernel
theorem dX12_splits_169 : decode cX12_splits 169 = .ok (.iload 5, 2) := by decide +kernel
theorem dX12_splits_171 : decode cX12_splits 171 = .ok (.iload 4, 2) := by decide +kernel
theorem dX12_splits_173 : decode cX12_splits 173 = .ok (.if_icmp .ge 74, 3) := by decide +kernel
theorem dX12_splits_176 : decode cX12_splits 176 = .ok (.iload_n 3, 1) := by decide +kernel
theorem dX12_splits_177 : decode cX12_splits 177 = .ok (.invokestatic 181, 3) := by decide +kernel
theorem dX12_splits_180 : decode cX12_splits 180 = .ok (.ifCond .eq 67, 3) := by decide +kernel
theorem dX12_splits_183 : decode cX12_splits 183 = .ok (.aload_n 0, 1) := by decide +kernel
theorem dX12_splits_184 : decode cX12_splits 184 = .ok (.getfield 57, 3) := by decide +kernel
theorem dX12_splits_187 : decode cX12_splits 187 = .ok (.aload_n 0, 1) := by decide +kernel
theorem dX12_splits_188 : decode cX12_splits 188 = .ok (.getfield 175, 3) := by decide +kernel
theorem dX12_splits_191 : decode cX12_splits 191 = .ok (.aload_n 0, 1) := by decide +kernel
theorem dX12_splits_192 : decode cX12_splits 192 = .ok (.getfield 57, 3) := by decide +kernel
theorem dX12_splits_195 : decode cX12_splits 195 = .ok (.aload_n 0, 1) := by decide +kernel
theorem dX12_splits_196 : decode cX12_splits 196 = .ok (.getfield 175, 3) := by decide +kernel
theorem dX12_splits_199 : decode cX12_splits 199 = .ok (.iaload, 1) := by decide +kernel
theorem dX12_splits_200 : decode cX12_splits 200 = .ok (.ldc 188, 2) := by decide +kernel
theorem dX12_splits_202 : decode cX12_splits 202 = .ok (.if_icmp .le 15, 3) := by decide +kernel
theorem dX12_splits_205 : decode cX12_splits 205 = .ok (.aload_n 0, 1) := by decide +kernel
theorem dX12_splits_206 : decode cX12_splits 206 = .ok (.getfield 57, 3) := by decide +kernel
theorem dX12_splits_209 : decode cX12_splits 209 = .ok (.aload_n 0, 1) := by decide +kernel
theorem dX12_splits_210 : decode cX12_splits 210 = .ok (.getfield 175, 3) := by decide +kernel
theorem dX12_splits_213 : decode cX12_splits 213 = .ok (.iaload, 1) := by decide +kernel
theorem dX12_splits_214 : decode cX12_splits 214 = .ok (.goto 26, 3) := by decide +kernel
theorem dX12_splits_217 : decode cX12_splits 217 = .ok (.bipush 10, 2) := by decide +kernel
theorem dX12_splits_219 : decode cX12_splits 219 = .ok (.aload_n 0, 1) := by decide +kernel
theorem dX12_splits_220 : decode cX12_splits 220 = .ok (.getfield 57, 3) := by decide +kernel
theorem dX12_splits_223 : decode cX12_splits 223 = .ok (.aload_n 0, 1) := by decide +kernel
theorem dX12_splits_224 : decode cX12_splits 224 = .ok (.getfield 175, 3) := by decide +kernel
theorem dX12_splits_227 : decode cX12_splits 227 = .ok (.iaload, 1) := by decide +kernel
theorem dX12_splits_228 : decode cX12_splits 228 = .ok (.imul, 1) := by decide +kernel
theorem dX12_splits_229 : decode cX12_splits 229 = .ok (.aload_n 0, 1) := by decide +kernel
theorem dX12_splits_230 : decode cX12_splits 230 = .ok (.getfield 45, 3) := by decide +kernel
theorem dX12_splits_233 : decode cX12_splits 233 = .ok (.iload 5, 2) := by decide +kernel
theorem dX12_splits_235 : decode cX12_splits 235 = .ok (.baload, 1) := by decide +kernel
theorem dX12_splits_236 : decode cX12_splits 236 = .ok (.iadd, 1) := by decide +kernel
theorem dX12_splits_237 : decode cX12_splits 237 = .ok (.bipush 48, 2) := by decide +kernel
theorem dX12_splits_239 : decode cX12_splits 239 = .ok (.isub, 1) := by decide +kernel
theorem dX12_splits_240 : decode cX12_splits 240 = .ok (.iastore, 1) := by decide +kernel
theorem dX12_splits_241 : decode cX12_splits 241 = .ok (.iinc 5 1, 3) := by decide +kernel
theorem dX12_splits_244 : decode cX12_splits 244 = .ok (.goto (-75), 3) := by decide +kernel
theorem dX12_splits_247 : decode cX12_splits 247 = .ok (.aload_n 0, 1) := by decide +kernel
theorem dX12_splits_248 : decode cX12_splits 248 = .ok (.dup, 1) := by decide +kernel
theorem dX12_splits_249 : decode cX12_splits 249 = .ok (.getfield 175, 3) := by decide +kernel
theorem dX12_splits_252 : decode cX12_splits 252 = .ok (.iconst 1, 1) := by decide +kernel
theorem dX12_splits_253 : decode cX12_splits 253 = .ok (.iadd, 1) := by decide +kernel
theorem dX12_splits_254 : decode cX12_splits 254 = .ok (.putfield 175, 3) := by decide +kernel
theorem dX12_splits_257 : decode cX12_splits 257 = .ok (.iload 4, 2) := by decide +kernel
theorem dX12_splits_259 : decode cX12_splits 259 = .ok (.istore_n 2, 1) := by decide +kernel
theorem dX12_splits_260 : decode cX12_splits 260 = .ok (.goto (-253), 3) := by decide +kernel
theorem dX12_splits_263 : decode cX12_splits 263 = .ok (.aload_n 0, 1) := by decide +kernel
theorem dX12_splits_264 : decode cX12_splits 264 = .ok (.getfield 60, 3) := by decide +kernel
theorem dX12_splits_267 : decode cX12_splits 267 = .ok (.aload_n 0, 1) := by decide +kernel
theorem dX12_splits_268 : decode cX12_splits 268 = .ok (.getfield 175, 3) := by decide +kernel
theorem dX12_splits_271 : decode cX12_splits 271 = .ok (.iload_n 1, 1) := by decide +kernel
theorem dX12_splits_272 : decode cX12_splits 272 = .ok (.iastore, 1) := by decide +kernel
theorem dX12_splits_273 : decode cX12_splits 273 = .ok (.aload_n 0, 1) := by decide +kernel
theorem dX12_splits_274 : decode cX12_splits 274 = .ok (.getfield 54, 3) := by decide +kernel
theorem dX12_splits_277 : decode cX12_splits 277 = .ok (.aload_n 0, 1) := by decide +kernel
theorem dX12_splits_278 : decode cX12_splits 278 = .ok (.getfield 175, 3) := by decide +kernel
theorem dX12_splits_281 : decode cX12_splits 281 = .ok (.iconst 0, 1) := by decide +kernel
theorem dX12_splits_282 : decode cX12_splits 282 = .ok (.iastore, 1) := by decide +kernel
theorem dX12_splits_283 : decode cX12_splits 283 = .ok (.aload_n 0, 1) := by decide +kernel
theorem dX12_splits_284 : decode cX12_splits 284 = .ok (.getfield 57, 3) := by decide +kernel
theorem dX12_splits_287 : decode cX12_splits 287 = .ok (.aload_n 0, 1) := by decide +kernel
theorem dX12_splits_288 : decode cX12_splits 288 = .ok (.getfield 175, 3) := by decide +kernel
theorem dX12_splits_291 : decode cX12_splits 291 = .ok (.iconst 0, 1) := by decide +kernel
theorem dX12_splits_292 : decode cX12_splits 292 = .ok (.iastore, 1) := by decide +kernel
theorem dX12_splits_293 : decode cX12_splits 293 = .ok (.return_, 1) := by decide +kernel
theorem dX12_fine_0 : decode cX12_fine 0 = .ok (.aload_n 0, 1) := by decide +kernel
theorem dX12_fine_1 : decode cX12_fine 1 = .ok (.getfield 189, 3) := by decide +kernel
theorem dX12_fine_4 : decode cX12_fine 4 = .ok (.iconst (-1), 1) := by decide +kernel
theorem dX12_fine_5 : decode cX12_fine 5 = .ok (.if_icmp .ne 7, 3) := by decide +kernel
theorem dX12_fine_8 : decode cX12_fine 8 = .ok (.iconst 1, 1) := by decide +kernel
theorem dX12_fine_9 : decode cX12_fine 9 = .ok (.goto 4, 3) := by decide +kernel
theorem dX12_fine_12 : decode cX12_fine 12 = .ok (.iconst 0, 1) := by decide +kernel
theorem dX12_fine_13 : decode cX12_fine 13 = .ok (.ireturn, 1) := by decide +kernel
theorem dX12_faults_0 : decode cX12_faults 0 = .ok (.aload_n 0, 1) := by decide +kernel
theorem dX12_faults_1 : decode cX12_faults 1 = .ok (.invokevirtual 192, 3) := by decide +kernel
theorem dX12_faults_4 : decode cX12_faults 4 = .ok (.ifCond .eq 16, 3) := by decide +kernel
theorem dX12_faults_7 : decode cX12_faults 7 = .ok (.aload_n 0, 1) := by decide +kernel
theorem dX12_faults_8 : decode cX12_faults 8 = .ok (.aload_n 0, 1) := by decide +kernel
theorem dX12_faults_9 : decode cX12_faults 9 = .ok (.getfield 60, 3) := by decide +kernel
theorem dX12_faults_12 : decode cX12_faults 12 = .ok (.aload_n 0, 1) := by decide +kernel
theorem dX12_faults_13 : decode cX12_faults 13 = .ok (.getfield 196, 3) := by decide +kernel
theorem dX12_faults_16 : decode cX12_faults 16 = .ok (.iaload, 1) := by decide +kernel
theorem dX12_faults_17 : decode cX12_faults 17 = .ok (.putfield 189, 3) := by decide +kernel
theorem dX12_faults_20 : decode cX12_faults 20 = .ok (.return_, 1) := by decide +kernel
theorem dX12_takes0_0 : decode cX12_takes0 0 = .ok (.aload_n 0, 1) := by decide +kernel
theorem dX12_takes0_1 : decode cX12_takes0 1 = .ok (.invokevirtual 192, 3) := by decide +kernel
theorem dX12_takes0_4 : decode cX12_takes0 4 = .ok (.ifCond .eq 20, 3) := by decide +kernel
theorem dX12_takes0_7 : decode cX12_takes0 7 = .ok (.aload_n 0, 1) := by decide +kernel
theorem dX12_takes0_8 : decode cX12_takes0 8 = .ok (.getfield 54, 3) := by decide +kernel
theorem dX12_takes0_11 : decode cX12_takes0 11 = .ok (.aload_n 0, 1) := by decide +kernel
theorem dX12_takes0_12 : decode cX12_takes0 12 = .ok (.getfield 196, 3) := by decide +kernel
theorem dX12_takes0_15 : decode cX12_takes0 15 = .ok (.iaload, 1) := by decide +kernel
theorem dX12_takes0_16 : decode cX12_takes0 16 = .ok (.iload_n 1, 1) := by decide +kernel
theorem dX12_takes0_17 : decode cX12_takes0 17 = .ok (.if_icmp .ne 7, 3) := by decide +kernel
theorem dX12_takes0_20 : decode cX12_takes0 20 = .ok (.iconst 1, 1) := by decide +kernel
theorem dX12_takes0_21 : decode cX12_takes0 21 = .ok (.goto 4, 3) := by decide +kernel
theorem dX12_takes0_24 : decode cX12_takes0 24 = .ok (.iconst 0, 1) := by decide +kernel
theorem dX12_takes0_25 : decode cX12_takes0 25 = .ok (.istore_n 2, 1) := by decide +kernel
theorem dX12_takes0_26 : decode cX12_takes0 26 = .ok (.iload_n 2, 1) := by decide +kernel
theorem dX12_takes0_27 : decode cX12_takes0 27 = .ok (.ifCond .eq 13, 3) := by decide +kernel
theorem dX12_takes0_30 : decode cX12_takes0 30 = .ok (.aload_n 0, 1) := by decide +kernel
theorem dX12_takes0_31 : decode cX12_takes0 31 = .ok (.dup, 1) := by decide +kernel
theorem dX12_takes0_32 : decode cX12_takes0 32 = .ok (.getfield 196, 3) := by decide +kernel
theorem dX12_takes0_35 : decode cX12_takes0 35 = .ok (.iconst 1, 1) := by decide +kernel
theorem dX12_takes0_36 : decode cX12_takes0 36 = .ok (.iadd, 1) := by decide +kernel
theorem dX12_takes0_37 : decode cX12_takes0 37 = .ok (.putfield 196, 3) := by decide +kernel
theorem dX12_takes0_40 : decode cX12_takes0 40 = .ok (.iload_n 2, 1) := by decide +kernel
theorem dX12_takes0_41 : decode cX12_takes0 41 = .ok (.ireturn, 1) := by decide +kernel
theorem dX12_must_0 : decode cX12_must 0 = .ok (.aload_n 0, 1) := by decide +kernel
theorem dX12_must_1 : decode cX12_must 1 = .ok (.iload_n 1, 1) := by decide +kernel
theorem dX12_must_2 : decode cX12_must 2 = .ok (.invokevirtual 199, 3) := by decide +kernel
theorem dX12_must_5 : decode cX12_must 5 = .ok (.ifCond .ne 7, 3) := by decide +kernel
theorem dX12_must_8 : decode cX12_must 8 = .ok (.aload_n 0, 1) := by decide +kernel
theorem dX12_must_9 : decode cX12_must 9 = .ok (.invokevirtual 202, 3) := by decide +kernel
theorem dX12_must_12 : decode cX12_must 12 = .ok (.return_, 1) := by decide +kernel
theorem dX12_leaf_0 : decode cX12_leaf 0 = .ok (.aload_n 0, 1) := by decide +kernel
theorem dX12_leaf_1 : decode cX12_leaf 1 = .ok (.getfield 205, 3) := by decide +kernel
theorem dX12_leaf_4 : decode cX12_leaf 4 = .ok (.bipush 50, 2) := by decide +kernel
theorem dX12_leaf_6 : decode cX12_leaf 6 = .ok (.if_icmp .ne 7, 3) := by decide +kernel
theorem dX12_leaf_9 : decode cX12_leaf 9 = .ok (.aload_n 0, 1) := by decide +kernel
theorem dX12_leaf_10 : decode cX12_leaf 10 = .ok (.invokevirtual 202, 3) := by decide +kernel
theorem dX12_leaf_13 : decode cX12_leaf 13 = .ok (.aload_n 0, 1) := by decide +kernel
theorem dX12_leaf_14 : decode cX12_leaf 14 = .ok (.dup, 1) := by decide +kernel
theorem dX12_leaf_15 : decode cX12_leaf 15 = .ok (.getfield 205, 3) := by decide +kernel
theorem dX12_leaf_18 : decode cX12_leaf 18 = .ok (.iconst 1, 1) := by decide +kernel
theorem dX12_leaf_19 : decode cX12_leaf 19 = .ok (.iadd, 1) := by decide +kernel
theorem dX12_leaf_20 : decode cX12_leaf 20 = .ok (.putfield 205, 3) := by decide +kernel
theorem dX12_leaf_23 : decode cX12_leaf 23 = .ok (.aload_n 0, 1) := by decide +kernel
theorem dX12_leaf_24 : decode cX12_leaf 24 = .ok (.invokevirtual 192, 3) := by decide +kernel
theorem dX12_leaf_27 : decode cX12_leaf 27 = .ok (.ifCond .eq 13, 3) := by decide +kernel
theorem dX12_leaf_30 : decode cX12_leaf 30 = .ok (.aload_n 0, 1) := by decide +kernel
theorem dX12_leaf_31 : decode cX12_leaf 31 = .ok (.dup, 1) := by decide +kernel
theorem dX12_leaf_32 : decode cX12_leaf 32 = .ok (.getfield 196, 3) := by decide +kernel
theorem dX12_leaf_35 : decode cX12_leaf 35 = .ok (.iconst 1, 1) := by decide +kernel
theorem dX12_leaf_36 : decode cX12_leaf 36 = .ok (.iadd, 1) := by decide +kernel
theorem dX12_leaf_37 : decode cX12_leaf 37 = .ok (.putfield 196, 3) := by decide +kernel
theorem dX12_leaf_40 : decode cX12_leaf 40 = .ok (.return_, 1) := by decide +kernel
theorem dX12_sign_0 : decode cX12_sign 0 = .ok (.bipush 100, 2) := by decide +kernel
theorem dX12_sign_2 : decode cX12_sign 2 = .ok (.iload_n 0, 1) := by decide +kernel
theorem dX12_sign_3 : decode cX12_sign 3 = .ok (.iadd, 1) := by decide +kernel
theorem dX12_sign_4 : decode cX12_sign 4 = .ok (.ireturn, 1) := by decide +kernel
theorem dX12_mustNumber_0 : decode cX12_mustNumber 0 = .ok (.aload_n 0, 1) := by decide +kernel
theorem dX12_mustNumber_1 : decode cX12_mustNumber 1 = .ok (.invokevirtual 192, 3) := by decide +kernel
theorem dX12_mustNumber_4 : decode cX12_mustNumber 4 = .ok (.ifCond .eq 38, 3) := by decide +kernel
theorem dX12_mustNumber_7 : decode cX12_mustNumber 7 = .ok (.aload_n 0, 1) := by decide +kernel
theorem dX12_mustNumber_8 : decode cX12_mustNumber 8 = .ok (.getfield 54, 3) := by decide +kernel
theorem dX12_mustNumber_11 : decode cX12_mustNumber 11 = .ok (.aload_n 0, 1) := by decide +kernel
theorem dX12_mustNumber_12 : decode cX12_mustNumber 12 = .ok (.getfield 196, 3) := by decide +kernel
theorem dX12_mustNumber_15 : decode cX12_mustNumber 15 = .ok (.iaload, 1) := by decide +kernel
theorem dX12_mustNumber_16 : decode cX12_mustNumber 16 = .ok (.bipush 50, 2) := by decide +kernel
theorem dX12_mustNumber_18 : decode cX12_mustNumber 18 = .ok (.if_icmp .ne 20, 3) := by decide +kernel
theorem dX12_mustNumber_21 : decode cX12_mustNumber 21 = .ok (.aload_n 0, 1) := by decide +kernel
theorem dX12_mustNumber_22 : decode cX12_mustNumber 22 = .ok (.getfield 57, 3) := by decide +kernel
theorem dX12_mustNumber_25 : decode cX12_mustNumber 25 = .ok (.aload_n 0, 1) := by decide +kernel
theorem dX12_mustNumber_26 : decode cX12_mustNumber 26 = .ok (.getfield 196, 3) := by decide +kernel
theorem dX12_mustNumber_29 : decode cX12_mustNumber 29 = .ok (.iaload, 1) := by decide +kernel
theorem dX12_mustNumber_30 : decode cX12_mustNumber 30 = .ok (.iload_n 1, 1) := by decide +kernel
theorem dX12_mustNumber_31 : decode cX12_mustNumber 31 = .ok (.iload_n 2, 1) := by decide +kernel
theorem dX12_mustNumber_32 : decode cX12_mustNumber 32 = .ok (.invokestatic 18, 3) := by decide +kernel
theorem dX12_mustNumber_35 : decode cX12_mustNumber 35 = .ok (.ifCond .ne 7, 3) := by decide +kernel
theorem dX12_mustNumber_38 : decode cX12_mustNumber 38 = .ok (.aload_n 0, 1) := by decide +kernel
theorem dX12_mustNumber_39 : decode cX12_mustNumber 39 = .ok (.invokevirtual 202, 3) := by decide +kernel
theorem dX12_mustNumber_42 : decode cX12_mustNumber 42 = .ok (.aload_n 0, 1) := by decide +kernel
theorem dX12_mustNumber_43 : decode cX12_mustNumber 43 = .ok (.invokevirtual 192, 3) := by decide +kernel
theorem dX12_mustNumber_46 : decode cX12_mustNumber 46 = .ok (.ifCond .eq 13, 3) := by decide +kernel
theorem dX12_mustNumber_49 : decode cX12_mustNumber 49 = .ok (.aload_n 0, 1) := by decide +kernel
theorem dX12_mustNumber_50 : decode cX12_mustNumber 50 = .ok (.dup, 1) := by decide +kernel
theorem dX12_mustNumber_51 : decode cX12_mustNumber 51 = .ok (.getfield 196, 3) := by decide +kernel
theorem dX12_mustNumber_54 : decode cX12_mustNumber 54 = .ok (.iconst 1, 1) := by decide +kernel
theorem dX12_mustNumber_55 : decode cX12_mustNumber 55 = .ok (.iadd, 1) := by decide +kernel
theorem dX12_mustNumber_56 : decode cX12_mustNumber 56 = .ok (.putfield 196, 3) := by decide +kernel
theorem dX12_mustNumber_59 : decode cX12_mustNumber 59 = .ok (.return_, 1) := by decide +kernel
theorem dX12_readClause_0 : decode cX12_readClause 0 = .ok (.aload_n 0, 1) := by decide +kernel
theorem dX12_readClause_1 : decode cX12_readClause 1 = .ok (.iconst 1, 1) := by decide +kernel
theorem dX12_readClause_2 : decode cX12_readClause 2 = .ok (.invokevirtual 199, 3) := by decide +kernel
theorem dX12_readClause_5 : decode cX12_readClause 5 = .ok (.ifCond .ne 11, 3) := by decide +kernel
theorem dX12_readClause_8 : decode cX12_readClause 8 = .ok (.aload_n 0, 1) := by decide +kernel
theorem dX12_readClause_9 : decode cX12_readClause 9 = .ok (.iconst 2, 1) := by decide +kernel
theorem dX12_readClause_10 : decode cX12_readClause 10 = .ok (.invokevirtual 199, 3) := by decide +kernel
theorem dX12_readClause_13 : decode cX12_readClause 13 = .ok (.ifCond .eq 11, 3) := by decide +kernel
theorem dX12_readClause_16 : decode cX12_readClause 16 = .ok (.aload_n 0, 1) := by decide +kernel
theorem dX12_readClause_17 : decode cX12_readClause 17 = .ok (.iconst 0, 1) := by decide +kernel
theorem dX12_readClause_18 : decode cX12_readClause 18 = .ok (.invokevirtual 208, 3) := by decide +kernel
theorem dX12_readClause_21 : decode cX12_readClause 21 = .ok (.goto 8, 3) := by decide +kernel
theorem dX12_readClause_24 : decode cX12_readClause 24 = .ok (.aload_n 0, 1) := by decide +kernel
theorem dX12_readClause_25 : decode cX12_readClause 25 = .ok (.iconst 3, 1) := by decide +kernel
theorem dX12_readClause_26 : decode cX12_readClause 26 = .ok (.invokevirtual 211, 3) := by decide +kernel
theorem dX12_readClause_29 : decode cX12_readClause 29 = .ok (.aload_n 0, 1) := by decide +kernel
theorem dX12_readClause_30 : decode cX12_readClause 30 = .ok (.iconst 4, 1) := by decide +kernel
theorem dX12_readClause_31 : decode cX12_readClause 31 = .ok (.invokevirtual 199, 3) := by decide +kernel
theorem dX12_readClause_34 : decode cX12_readClause 34 = .ok (.ifCond .eq 8, 3) := by decide +kernel
theorem dX12_readClause_37 : decode cX12_readClause 37 = .ok (.aload_n 0, 1) := by decide +kernel
theorem dX12_readClause_38 : decode cX12_readClause 38 = .ok (.iconst 0, 1) := by decide +kernel
theorem dX12_readClause_39 : decode cX12_readClause 39 = .ok (.invokevirtual 214, 3) := by decide +kernel
theorem dX12_readClause_42 : decode cX12_readClause 42 = .ok (.return_, 1) := by decide +kernel
theorem dX12_readMore_0 : decode cX12_readMore 0 = .ok (.aload_n 0, 1) := by decide +kernel
theorem dX12_readMore_1 : decode cX12_readMore 1 = .ok (.iload_n 1, 1) := by decide +kernel
theorem dX12_readMore_2 : decode cX12_readMore 2 = .ok (.invokevirtual 211, 3) := by decide +kernel
theorem dX12_readMore_5 : decode cX12_readMore 5 = .ok (.aload_n 0, 1) := by decide +kernel
theorem dX12_readMore_6 : decode cX12_readMore 6 = .ok (.iconst 0, 1) := by decide +kernel
theorem dX12_readMore_7 : decode cX12_readMore 7 = .ok (.invokevirtual 208, 3) := by decide +kernel
theorem dX12_readMore_10 : decode cX12_readMore 10 = .ok (.return_, 1) := by decide +kernel
theorem dX12_readOrder_0 : decode cX12_readOrder 0 = .ok (.aload_n 0, 1) := by decide +kernel
theorem dX12_readOrder_1 : decode cX12_readOrder 1 = .ok (.bipush 21, 2) := by decide +kernel
theorem dX12_readOrder_3 : decode cX12_readOrder 3 = .ok (.invokevirtual 199, 3) := by decide +kernel
theorem dX12_readOrder_6 : decode cX12_readOrder 6 = .ok (.ifCond .eq 23, 3) := by decide +kernel
theorem dX12_readOrder_9 : decode cX12_readOrder 9 = .ok (.aload_n 0, 1) := by decide +kernel
theorem dX12_readOrder_10 : decode cX12_readOrder 10 = .ok (.iconst 0, 1) := by decide +kernel
theorem dX12_readOrder_11 : decode cX12_readOrder 11 = .ok (.invokevirtual 208, 3) := by decide +kernel
theorem dX12_readOrder_14 : decode cX12_readOrder 14 = .ok (.aload_n 0, 1) := by decide +kernel
theorem dX12_readOrder_15 : decode cX12_readOrder 15 = .ok (.bipush 22, 2) := by decide +kernel
theorem dX12_readOrder_17 : decode cX12_readOrder 17 = .ok (.invokevirtual 217, 3) := by decide +kernel
theorem dX12_readOrder_20 : decode cX12_readOrder 20 = .ok (.aload_n 0, 1) := by decide +kernel
theorem dX12_readOrder_21 : decode cX12_readOrder 21 = .ok (.bipush 23, 2) := by decide +kernel
theorem dX12_readOrder_23 : decode cX12_readOrder 23 = .ok (.invokevirtual 217, 3) := by decide +kernel
theorem dX12_readOrder_26 : decode cX12_readOrder 26 = .ok (.goto 35, 3) := by decide +kernel
theorem dX12_readOrder_29 : decode cX12_readOrder 29 = .ok (.aload_n 0, 1) := by decide +kernel
theorem dX12_readOrder_30 : decode cX12_readOrder 30 = .ok (.bipush 24, 2) := by decide +kernel
theorem dX12_readOrder_32 : decode cX12_readOrder 32 = .ok (.invokevirtual 199, 3) := by decide +kernel
theorem dX12_readOrder_35 : decode cX12_readOrder 35 = .ok (.ifCond .eq 11, 3) := by decide +kernel
theorem dX12_readOrder_38 : decode cX12_readOrder 38 = .ok (.aload_n 0, 1) := by decide +kernel
theorem dX12_readOrder_39 : decode cX12_readOrder 39 = .ok (.iconst 0, 1) := by decide +kernel
theorem dX12_readOrder_40 : decode cX12_readOrder 40 = .ok (.invokevirtual 208, 3) := by decide +kernel
theorem dX12_readOrder_43 : decode cX12_readOrder 43 = .ok (.goto 18, 3) := by decide +kernel
theorem dX12_readOrder_46 : decode cX12_readOrder 46 = .ok (.aload_n 0, 1) := by decide +kernel
theorem dX12_readOrder_47 : decode cX12_readOrder 47 = .ok (.bipush 25, 2) := by decide +kernel
theorem dX12_readOrder_49 : decode cX12_readOrder 49 = .ok (.invokevirtual 199, 3) := by decide +kernel
theorem dX12_readOrder_52 : decode cX12_readOrder 52 = .ok (.ifCond .ne 9, 3) := by decide +kernel
theorem dX12_readOrder_55 : decode cX12_readOrder 55 = .ok (.aload_n 0, 1) := by decide +kernel
theorem dX12_readOrder_56 : decode cX12_readOrder 56 = .ok (.bipush 26, 2) := by decide +kernel
theorem dX12_readOrder_58 : decode cX12_readOrder 58 = .ok (.invokevirtual 211, 3) := by decide +kernel
theorem dX12_readOrder_61 : decode cX12_readOrder 61 = .ok (.aload_n 0, 1) := by decide +kernel
theorem dX12_readOrder_62 : decode cX12_readOrder 62 = .ok (.bipush 27, 2) := by decide +kernel
theorem dX12_readOrder_64 : decode cX12_readOrder 64 = .ok (.invokevirtual 199, 3) := by decide +kernel
theorem dX12_readOrder_67 : decode cX12_readOrder 67 = .ok (.ifCond .eq 10, 3) := by decide +kernel
theorem dX12_readOrder_70 : decode cX12_readOrder 70 = .ok (.aload_n 0, 1) := by decide +kernel
theorem dX12_readOrder_71 : decode cX12_readOrder 71 = .ok (.iconst 1, 1) := by decide +kernel
theorem dX12_readOrder_72 : decode cX12_readOrder 72 = .ok (.bipush 20, 2) := by decide +kernel
theorem dX12_readOrder_74 : decode cX12_readOrder 74 = .ok (.invokevirtual 220, 3) := by decide +kernel
theorem dX12_readOrder_77 : decode cX12_readOrder 77 = .ok (.aload_n 0, 1) := by decide +kernel
theorem dX12_readOrder_78 : decode cX12_readOrder 78 = .ok (.iconst 4, 1) := by decide +kernel
theorem dX12_readOrder_79 : decode cX12_readOrder 79 = .ok (.invokevirtual 199, 3) := by decide +kernel
theorem dX12_readOrder_82 : decode cX12_readOrder 82 = .ok (.ifCond .eq 8, 3) := by decide +kernel
theorem dX12_readOrder_85 : decode cX12_readOrder 85 = .ok (.aload_n 0, 1) := by decide +kernel
theorem dX12_readOrder_86 : decode cX12_readOrder 86 = .ok (.iconst 0, 1) := by decide +kernel
theorem dX12_readOrder_87 : decode cX12_readOrder 87 = .ok (.invokevirtual 214, 3) := by decide +kernel
theorem dX12_readOrder_90 : decode cX12_readOrder 90 = .ok (.return_, 1) := by decide +kernel
theorem dX12_readOne_0 : decode cX12_readOne 0 = .ok (.aload_n 0, 1) := by decide +kernel
theorem dX12_readOne_1 : decode cX12_readOne 1 = .ok (.getfield 224, 3) := by decide +kernel
theorem dX12_readOne_4 : decode cX12_readOne 4 = .ok (.ifCond .eq 10, 3) := by decide +kernel
theorem dX12_readOne_7 : decode cX12_readOne 7 = .ok (.aload_n 0, 1) := by decide +kernel
theorem dX12_readOne_8 : decode cX12_readOne 8 = .ok (.invokevirtual 228, 3) := by decide +kernel
theorem dX12_readOne_11 : decode cX12_readOne 11 = .ok (.goto 7, 3) := by decide +kernel
theorem dX12_readOne_14 : decode cX12_readOne 14 = .ok (.aload_n 0, 1) := by decide +kernel
theorem dX12_readOne_15 : decode cX12_readOne 15 = .ok (.invokevirtual 231, 3) := by decide +kernel
theorem dX12_readOne_18 : decode cX12_readOne 18 = .ok (.return_, 1) := by decide +kernel
theorem dX12_readTest_0 : decode cX12_readTest 0 = .ok (.aload_n 0, 1) := by decide +kernel
theorem dX12_readTest_1 : decode cX12_readTest 1 = .ok (.iload_n 1, 1) := by decide +kernel
theorem dX12_readTest_2 : decode cX12_readTest 2 = .ok (.invokevirtual 234, 3) := by decide +kernel
theorem dX12_readTest_5 : decode cX12_readTest 5 = .ok (.aload_n 0, 1) := by decide +kernel
theorem dX12_readTest_6 : decode cX12_readTest 6 = .ok (.iconst 5, 1) := by decide +kernel
theorem dX12_readTest_7 : decode cX12_readTest 7 = .ok (.invokevirtual 199, 3) := by decide +kernel
theorem dX12_readTest_10 : decode cX12_readTest 10 = .ok (.ifCond .eq 11, 3) := by decide +kernel
theorem dX12_readTest_13 : decode cX12_readTest 13 = .ok (.aload_n 0, 1) := by decide +kernel
theorem dX12_readTest_14 : decode cX12_readTest 14 = .ok (.iload_n 1, 1) := by decide +kernel
theorem dX12_readTest_15 : decode cX12_readTest 15 = .ok (.invokevirtual 234, 3) := by decide +kernel
theorem dX12_readTest_18 : decode cX12_readTest 18 = .ok (.goto (-13), 3) := by decide +kernel
theorem dX12_readTest_21 : decode cX12_readTest 21 = .ok (.return_, 1) := by decide +kernel
theorem dX12_readBoth_0 : decode cX12_readBoth 0 = .ok (.aload_n 0, 1) := by decide +kernel
theorem dX12_readBoth_1 : decode cX12_readBoth 1 = .ok (.iload_n 1, 1) := by decide +kernel
theorem dX12_readBoth_2 : decode cX12_readBoth 2 = .ok (.invokevirtual 237, 3) := by decide +kernel
theorem dX12_readBoth_5 : decode cX12_readBoth 5 = .ok (.aload_n 0, 1) := by decide +kernel
theorem dX12_readBoth_6 : decode cX12_readBoth 6 = .ok (.bipush 6, 2) := by decide +kernel
theorem dX12_readBoth_8 : decode cX12_readBoth 8 = .ok (.invokevirtual 199, 3) := by decide +kernel
theorem dX12_readBoth_11 : decode cX12_readBoth 11 = .ok (.ifCond .eq 11, 3) := by decide +kernel
theorem dX12_readBoth_14 : decode cX12_readBoth 14 = .ok (.aload_n 0, 1) := by decide +kernel
theorem dX12_readBoth_15 : decode cX12_readBoth 15 = .ok (.iload_n 1, 1) := by decide +kernel
theorem dX12_readBoth_16 : decode cX12_readBoth 16 = .ok (.invokevirtual 237, 3) := by decide +kernel
theorem dX12_readBoth_19 : decode cX12_readBoth 19 = .ok (.goto (-14), 3) := by decide +kernel
theorem dX12_readBoth_22 : decode cX12_readBoth 22 = .ok (.return_, 1) := by decide +kernel
theorem dX12_readPlain_0 : decode cX12_readPlain 0 = .ok (.iconst 1, 1) := by decide +kernel
theorem dX12_readPlain_1 : decode cX12_readPlain 1 = .ok (.istore_n 2, 1) := by decide +kernel
theorem dX12_readPlain_2 : decode cX12_readPlain 2 = .ok (.iload_n 2, 1) := by decide +kernel
theorem dX12_readPlain_3 : decode cX12_readPlain 3 = .ok (.ifCond .eq 13, 3) := by decide +kernel
theorem dX12_readPlain_6 : decode cX12_readPlain 6 = .ok (.aload_n 0, 1) := by decide +kernel
theorem dX12_readPlain_7 : decode cX12_readPlain 7 = .ok (.bipush 7, 2) := by decide +kernel
theorem dX12_readPlain_9 : decode cX12_readPlain 9 = .ok (.invokevirtual 199, 3) := by decide +kernel
theorem dX12_readPlain_12 : decode cX12_readPlain 12 = .ok (.istore_n 2, 1) := by decide +kernel
theorem dX12_readPlain_13 : decode cX12_readPlain 13 = .ok (.goto (-11), 3) := by decide +kernel
theorem dX12_readPlain_16 : decode cX12_readPlain 16 = .ok (.aload_n 0, 1) := by decide +kernel
theorem dX12_readPlain_17 : decode cX12_readPlain 17 = .ok (.invokevirtual 192, 3) := by decide +kernel
theorem dX12_readPlain_20 : decode cX12_readPlain 20 = .ok (.ifCond .ne 4, 3) := by decide +kernel
theorem dX12_readPlain_23 : decode cX12_readPlain 23 = .ok (.return_, 1) := by decide +kernel
theorem dX12_readPlain_24 : decode cX12_readPlain 24 = .ok (.aload_n 0, 1) := by decide +kernel
theorem dX12_readPlain_25 : decode cX12_readPlain 25 = .ok (.getfield 54, 3) := by decide +kernel
theorem dX12_readPlain_28 : decode cX12_readPlain 28 = .ok (.aload_n 0, 1) := by decide +kernel
theorem dX12_readPlain_29 : decode cX12_readPlain 29 = .ok (.getfield 196, 3) := by decide +kernel
theorem dX12_readPlain_32 : decode cX12_readPlain 32 = .ok (.iaload, 1) := by decide +kernel
theorem dX12_readPlain_33 : decode cX12_readPlain 33 = .ok (.istore_n 3, 1) := by decide +kernel
theorem dX12_readPlain_34 : decode cX12_readPlain 34 = .ok (.iload_n 3, 1) := by decide +kernel
theorem dX12_readPlain_35 : decode cX12_readPlain 35 = .ok (.bipush 40, 2) := by decide +kernel
theorem dX12_readPlain_37 : decode cX12_readPlain 37 = .ok (.invokestatic 240, 3) := by decide +kernel
theorem dX12_readPlain_40 : decode cX12_readPlain 40 = .ok (.if_icmp .ne 50, 3) := by decide +kernel
theorem dX12_readPlain_43 : decode cX12_readPlain 43 = .ok (.iload_n 1, 1) := by decide +kernel
theorem dX12_readPlain_44 : decode cX12_readPlain 44 = .ok (.bipush 8, 2) := by decide +kernel
theorem dX12_readPlain_46 : decode cX12_readPlain 46 = .ok (.if_icmp .ne 7, 3) := by decide +kernel
theorem dX12_readPlain_49 : decode cX12_readPlain 49 = .ok (.aload_n 0, 1) := by decide +kernel
theorem dX12_readPlain_50 : decode cX12_readPlain 50 = .ok (.invokevirtual 202, 3) := by decide +kernel
theorem dX12_readPlain_53 : decode cX12_readPlain 53 = .ok (.aload_n 0, 1) := by decide +kernel
theorem dX12_readPlain_54 : decode cX12_readPlain 54 = .ok (.invokevirtual 192, 3) := by decide +kernel
theorem dX12_readPlain_57 : decode cX12_readPlain 57 = .ok (.ifCond .ne 4, 3) := by decide +kernel
theorem dX12_readPlain_60 : decode cX12_readPlain 60 = .ok (.return_, 1) := by decide +kernel
theorem dX12_readPlain_61 : decode cX12_readPlain 61 = .ok (.aload_n 0, 1) := by decide +kernel
theorem dX12_readPlain_62 : decode cX12_readPlain 62 = .ok (.dup, 1) := by decide +kernel
theorem dX12_readPlain_63 : decode cX12_readPlain 63 = .ok (.getfield 196, 3) := by decide +kernel
theorem dX12_readPlain_66 : decode cX12_readPlain 66 = .ok (.iconst 1, 1) := by decide +kernel
theorem dX12_readPlain_67 : decode cX12_readPlain 67 = .ok (.iadd, 1) := by decide +kernel
theorem dX12_readPlain_68 : decode cX12_readPlain 68 = .ok (.putfield 196, 3) := by decide +kernel
theorem dX12_readPlain_71 : decode cX12_readPlain 71 = .ok (.aload_n 0, 1) := by decide +kernel
theorem dX12_readPlain_72 : decode cX12_readPlain 72 = .ok (.iload_n 1, 1) := by decide +kernel
theorem dX12_readPlain_73 : decode cX12_readPlain 73 = .ok (.iconst 1, 1) := by decide +kernel
theorem dX12_readPlain_74 : decode cX12_readPlain 74 = .ok (.iadd, 1) := by decide +kernel
theorem dX12_readPlain_75 : decode cX12_readPlain 75 = .ok (.invokevirtual 214, 3) := by decide +kernel
theorem dX12_readPlain_78 : decode cX12_readPlain 78 = .ok (.aload_n 0, 1) := by decide +kernel
theorem dX12_readPlain_79 : decode cX12_readPlain 79 = .ok (.bipush 41, 2) := by decide +kernel
theorem dX12_readPlain_81 : decode cX12_readPlain 81 = .ok (.invokestatic 240, 3) := by decide +kernel
theorem dX12_readPlain_84 : decode cX12_readPlain 84 = .ok (.invokevirtual 211, 3) := by decide +kernel
theorem dX12_readPlain_87 : decode cX12_readPlain 87 = .ok (.goto 46, 3) := by decide +kernel
theorem dX12_readPlain_90 : decode cX12_readPlain 90 = .ok (.aload_n 0, 1) := by decide +kernel
theorem dX12_readPlain_91 : decode cX12_readPlain 91 = .ok (.iload_n 1, 1) := by decide +kernel
theorem dX12_readPlain_92 : decode cX12_readPlain 92 = .ok (.invokevirtual 208, 3) := by decide +kernel
theorem dX12_readPlain_95 : decode cX12_readPlain 95 = .ok (.aload_n 0, 1) := by decide +kernel
theorem dX12_readPlain_96 : decode cX12_readPlain 96 = .ok (.bipush 60, 2) := by decide +kernel
theorem dX12_readPlain_98 : decode cX12_readPlain 98 = .ok (.invokestatic 240, 3) := by decide +kernel
theorem dX12_readPlain_101 : decode cX12_readPlain 101 = .ok (.invokevirtual 199, 3) := by decide +kernel
theorem dX12_readPlain_104 : decode cX12_readPlain 104 = .ok (.ifCond .ne 24, 3) := by decide +kernel
theorem dX12_readPlain_107 : decode cX12_readPlain 107 = .ok (.aload_n 0, 1) := by decide +kernel
theorem dX12_readPlain_108 : decode cX12_readPlain 108 = .ok (.bipush 62, 2) := by decide +kernel
theorem dX12_readPlain_110 : decode cX12_readPlain 110 = .ok (.invokestatic 240, 3) := by decide +kernel
theorem dX12_readPlain_113 : decode cX12_readPlain 113 = .ok (.invokevirtual 199, 3) := by decide +kernel
theorem dX12_readPlain_116 : decode cX12_readPlain 116 = .ok (.ifCond .ne 12, 3) := by decide +kernel
theorem dX12_readPlain_119 : decode cX12_readPlain 119 = .ok (.aload_n 0, 1) := by decide +kernel
theorem dX12_readPlain_120 : decode cX12_readPlain 120 = .ok (.bipush 61, 2) := by decide +kernel
theorem dX12_readPlain_122 : decode cX12_readPlain 122 = .ok (.invokestatic 240, 3) := by decide +kernel
theorem dX12_readPlain_125 : decode cX12_readPlain 125 = .ok (.invokevirtual 211, 3) := by decide +kernel
theorem dX12_readPlain_128 : decode cX12_readPlain 128 = .ok (.aload_n 0, 1) := by decide +kernel
theorem dX12_readPlain_129 : decode cX12_readPlain 129 = .ok (.iload_n 1, 1) := by decide +kernel
theorem dX12_readPlain_130 : decode cX12_readPlain 130 = .ok (.invokevirtual 208, 3) := by decide +kernel
theorem dX12_readPlain_133 : decode cX12_readPlain 133 = .ok (.return_, 1) := by decide +kernel
theorem dX12_readSum_0 : decode cX12_readSum 0 = .ok (.aload_n 0, 1) := by decide +kernel
theorem dX12_readSum_1 : decode cX12_readSum 1 = .ok (.iload_n 1, 1) := by decide +kernel
theorem dX12_readSum_2 : decode cX12_readSum 2 = .ok (.invokevirtual 244, 3) := by decide +kernel
theorem dX12_readSum_5 : decode cX12_readSum 5 = .ok (.aload_n 0, 1) := by decide +kernel
theorem dX12_readSum_6 : decode cX12_readSum 6 = .ok (.bipush 43, 2) := by decide +kernel
theorem dX12_readSum_8 : decode cX12_readSum 8 = .ok (.invokestatic 240, 3) := by decide +kernel
theorem dX12_readSum_11 : decode cX12_readSum 11 = .ok (.invokevirtual 199, 3) := by decide +kernel
theorem dX12_readSum_14 : decode cX12_readSum 14 = .ok (.ifCond .ne 15, 3) := by decide +kernel
theorem dX12_readSum_17 : decode cX12_readSum 17 = .ok (.aload_n 0, 1) := by decide +kernel
theorem dX12_readSum_18 : decode cX12_readSum 18 = .ok (.bipush 45, 2) := by decide +kernel
theorem dX12_readSum_20 : decode cX12_readSum 20 = .ok (.invokestatic 240, 3) := by decide +kernel
theorem dX12_readSum_23 : decode cX12_readSum 23 = .ok (.invokevirtual 199, 3) := by decide +kernel
theorem dX12_readSum_26 : decode cX12_readSum 26 = .ok (.ifCond .eq 11, 3) := by decide +kernel
theorem dX12_readSum_29 : decode cX12_readSum 29 = .ok (.aload_n 0, 1) := by decide +kernel
theorem dX12_readSum_30 : decode cX12_readSum 30 = .ok (.iload_n 1, 1) := by decide +kernel
theorem dX12_readSum_31 : decode cX12_readSum 31 = .ok (.invokevirtual 244, 3) := by decide +kernel
theorem dX12_readSum_34 : decode cX12_readSum 34 = .ok (.goto (-29), 3) := by decide +kernel
theorem dX12_readSum_37 : decode cX12_readSum 37 = .ok (.return_, 1) := by decide +kernel
theorem dX12_readTerm_0 : decode cX12_readTerm 0 = .ok (.aload_n 0, 1) := by decide +kernel
theorem dX12_readTerm_1 : decode cX12_readTerm 1 = .ok (.iload_n 1, 1) := by decide +kernel
theorem dX12_readTerm_2 : decode cX12_readTerm 2 = .ok (.invokevirtual 247, 3) := by decide +kernel
theorem dX12_readTerm_5 : decode cX12_readTerm 5 = .ok (.aload_n 0, 1) := by decide +kernel
theorem dX12_readTerm_6 : decode cX12_readTerm 6 = .ok (.bipush 42, 2) := by decide +kernel
theorem dX12_readTerm_8 : decode cX12_readTerm 8 = .ok (.invokestatic 240, 3) := by decide +kernel
theorem dX12_readTerm_11 : decode cX12_readTerm 11 = .ok (.invokevirtual 199, 3) := by decide +kernel
theorem dX12_readTerm_14 : decode cX12_readTerm 14 = .ok (.ifCond .ne 27, 3) := by decide +kernel
theorem dX12_readTerm_17 : decode cX12_readTerm 17 = .ok (.aload_n 0, 1) := by decide +kernel
theorem dX12_readTerm_18 : decode cX12_readTerm 18 = .ok (.bipush 47, 2) := by decide +kernel
theorem dX12_readTerm_20 : decode cX12_readTerm 20 = .ok (.invokestatic 240, 3) := by decide +kernel
theorem dX12_readTerm_23 : decode cX12_readTerm 23 = .ok (.invokevirtual 199, 3) := by decide +kernel
theorem dX12_readTerm_26 : decode cX12_readTerm 26 = .ok (.ifCond .ne 15, 3) := by decide +kernel
theorem dX12_readTerm_29 : decode cX12_readTerm 29 = .ok (.aload_n 0, 1) := by decide +kernel
theorem dX12_readTerm_30 : decode cX12_readTerm 30 = .ok (.bipush 37, 2) := by decide +kernel
theorem dX12_readTerm_32 : decode cX12_readTerm 32 = .ok (.invokestatic 240, 3) := by decide +kernel
theorem dX12_readTerm_35 : decode cX12_readTerm 35 = .ok (.invokevirtual 199, 3) := by decide +kernel
theorem dX12_readTerm_38 : decode cX12_readTerm 38 = .ok (.ifCond .eq 11, 3) := by decide +kernel
theorem dX12_readTerm_41 : decode cX12_readTerm 41 = .ok (.aload_n 0, 1) := by decide +kernel
theorem dX12_readTerm_42 : decode cX12_readTerm 42 = .ok (.iload_n 1, 1) := by decide +kernel
theorem dX12_readTerm_43 : decode cX12_readTerm 43 = .ok (.invokevirtual 247, 3) := by decide +kernel
theorem dX12_readTerm_46 : decode cX12_readTerm 46 = .ok (.goto (-41), 3) := by decide +kernel
theorem dX12_readTerm_49 : decode cX12_readTerm 49 = .ok (.return_, 1) := by decide +kernel
theorem dX12_readPart_0 : decode cX12_readPart 0 = .ok (.aload_n 0, 1) := by decide +kernel
theorem dX12_readPart_1 : decode cX12_readPart 1 = .ok (.invokevirtual 192, 3) := by decide +kernel
theorem dX12_readPart_4 : decode cX12_readPart 4 = .ok (.ifCond .ne 4, 3) := by decide +kernel
theorem dX12_readPart_7 : decode cX12_readPart 7 = .ok (.return_, 1) := by decide +kernel
theorem dX12_readPart_8 : decode cX12_readPart 8 = .ok (.aload_n 0, 1) := by decide +kernel
theorem dX12_readPart_9 : decode cX12_readPart 9 = .ok (.getfield 54, 3) := by decide +kernel
theorem dX12_readPart_12 : decode cX12_readPart 12 = .ok (.aload_n 0, 1) := by decide +kernel
theorem dX12_readPart_13 : decode cX12_readPart 13 = .ok (.getfield 196, 3) := by decide +kernel
theorem dX12_readPart_16 : decode cX12_readPart 16 = .ok (.iaload, 1) := by decide +kernel
theorem dX12_readPart_17 : decode cX12_readPart 17 = .ok (.istore_n 2, 1) := by decide +kernel
theorem dX12_readPart_18 : decode cX12_readPart 18 = .ok (.iload_n 2, 1) := by decide +kernel
theorem dX12_readPart_19 : decode cX12_readPart 19 = .ok (.bipush 91, 2) := by decide +kernel
theorem dX12_readPart_21 : decode cX12_readPart 21 = .ok (.invokestatic 240, 3) := by decide +kernel
theorem dX12_readPart_24 : decode cX12_readPart 24 = .ok (.if_icmp .ne 50, 3) := by decide +kernel
theorem dX12_readPart_27 : decode cX12_readPart 27 = .ok (.iload_n 1, 1) := by decide +kernel
theorem dX12_readPart_28 : decode cX12_readPart 28 = .ok (.bipush 8, 2) := by decide +kernel
theorem dX12_readPart_30 : decode cX12_readPart 30 = .ok (.if_icmp .ne 7, 3) := by decide +kernel
theorem dX12_readPart_33 : decode cX12_readPart 33 = .ok (.aload_n 0, 1) := by decide +kernel
theorem dX12_readPart_34 : decode cX12_readPart 34 = .ok (.invokevirtual 202, 3) := by decide +kernel
theorem dX12_readPart_37 : decode cX12_readPart 37 = .ok (.aload_n 0, 1) := by decide +kernel
theorem dX12_readPart_38 : decode cX12_readPart 38 = .ok (.invokevirtual 192, 3) := by decide +kernel
theorem dX12_readPart_41 : decode cX12_readPart 41 = .ok (.ifCond .ne 4, 3) := by decide +kernel
theorem dX12_readPart_44 : decode cX12_readPart 44 = .ok (.return_, 1) := by decide +kernel
theorem dX12_readPart_45 : decode cX12_readPart 45 = .ok (.aload_n 0, 1) := by decide +kernel
theorem dX12_readPart_46 : decode cX12_readPart 46 = .ok (.dup, 1) := by decide +kernel
theorem dX12_readPart_47 : decode cX12_readPart 47 = .ok (.getfield 196, 3) := by decide +kernel
theorem dX12_readPart_50 : decode cX12_readPart 50 = .ok (.iconst 1, 1) := by decide +kernel
theorem dX12_readPart_51 : decode cX12_readPart 51 = .ok (.iadd, 1) := by decide +kernel
theorem dX12_readPart_52 : decode cX12_readPart 52 = .ok (.putfield 196, 3) := by decide +kernel
theorem dX12_readPart_55 : decode cX12_readPart 55 = .ok (.aload_n 0, 1) := by decide +kernel
theorem dX12_readPart_56 : decode cX12_readPart 56 = .ok (.iload_n 1, 1) := by decide +kernel
theorem dX12_readPart_57 : decode cX12_readPart 57 = .ok (.iconst 1, 1) := by decide +kernel
theorem dX12_readPart_58 : decode cX12_readPart 58 = .ok (.iadd, 1) := by decide +kernel
theorem dX12_readPart_59 : decode cX12_readPart 59 = .ok (.invokevirtual 208, 3) := by decide +kernel
theorem dX12_readPart_62 : decode cX12_readPart 62 = .ok (.aload_n 0, 1) := by decide +kernel
theorem dX12_readPart_63 : decode cX12_readPart 63 = .ok (.bipush 93, 2) := by decide +kernel
theorem dX12_readPart_65 : decode cX12_readPart 65 = .ok (.invokestatic 240, 3) := by decide +kernel
theorem dX12_readPart_68 : decode cX12_readPart 68 = .ok (.invokevirtual 211, 3) := by decide +kernel
theorem dX12_readPart_71 : decode cX12_readPart 71 = .ok (.goto 77, 3) := by decide +kernel
theorem dX12_readPart_74 : decode cX12_readPart 74 = .ok (.iload_n 2, 1) := by decide +kernel
theorem dX12_readPart_75 : decode cX12_readPart 75 = .ok (.bipush 50, 2) := by decide +kernel
theorem dX12_readPart_77 : decode cX12_readPart 77 = .ok (.if_icmp .ne 18, 3) := by decide +kernel
theorem dX12_readPart_80 : decode cX12_readPart 80 = .ok (.aload_n 0, 1) := by decide +kernel
theorem dX12_readPart_81 : decode cX12_readPart 81 = .ok (.getfield 57, 3) := by decide +kernel
theorem dX12_readPart_84 : decode cX12_readPart 84 = .ok (.aload_n 0, 1) := by decide +kernel
theorem dX12_readPart_85 : decode cX12_readPart 85 = .ok (.getfield 196, 3) := by decide +kernel
theorem dX12_readPart_88 : decode cX12_readPart 88 = .ok (.iaload, 1) := by decide +kernel
theorem dX12_readPart_89 : decode cX12_readPart 89 = .ok (.sipush 1000, 3) := by decide +kernel
theorem dX12_readPart_92 : decode cX12_readPart 92 = .ok (.if_icmp .le 19, 3) := by decide +kernel
theorem dX12_readPart_95 : decode cX12_readPart 95 = .ok (.iload_n 2, 1) := by decide +kernel
theorem dX12_readPart_96 : decode cX12_readPart 96 = .ok (.aload_n 0, 1) := by decide +kernel
theorem dX12_readPart_97 : decode cX12_readPart 97 = .ok (.getfield 250, 3) := by decide +kernel
theorem dX12_readPart_100 : decode cX12_readPart 100 = .ok (.if_icmp .lt 44, 3) := by decide +kernel
theorem dX12_readPart_103 : decode cX12_readPart 103 = .ok (.iload_n 2, 1) := by decide +kernel
theorem dX12_readPart_104 : decode cX12_readPart 104 = .ok (.aload_n 0, 1) := by decide +kernel
theorem dX12_readPart_105 : decode cX12_readPart 105 = .ok (.getfield 253, 3) := by decide +kernel
theorem dX12_readPart_108 : decode cX12_readPart 108 = .ok (.if_icmp .gt 36, 3) := by decide +kernel
theorem dX12_readPart_111 : decode cX12_readPart 111 = .ok (.aload_n 0, 1) := by decide +kernel
theorem dX12_readPart_112 : decode cX12_readPart 112 = .ok (.invokevirtual 256, 3) := by decide +kernel
theorem dX12_readPart_115 : decode cX12_readPart 115 = .ok (.aload_n 0, 1) := by decide +kernel
theorem dX12_readPart_116 : decode cX12_readPart 116 = .ok (.getfield 224, 3) := by decide +kernel
theorem dX12_readPart_119 : decode cX12_readPart 119 = .ok (.ifCond .eq 29, 3) := by decide +kernel
theorem dX12_readPart_122 : decode cX12_readPart 122 = .ok (.iload_n 2, 1) := by decide +kernel
theorem dX12_readPart_123 : decode cX12_readPart 123 = .ok (.bipush 14, 2) := by decide +kernel
theorem dX12_readPart_125 : decode cX12_readPart 125 = .ok (.if_icmp .eq 9, 3) := by decide +kernel
theorem dX12_readPart_128 : decode cX12_readPart 128 = .ok (.iload_n 2, 1) := by decide +kernel
theorem dX12_readPart_129 : decode cX12_readPart 129 = .ok (.bipush 20, 2) := by decide +kernel
theorem dX12_readPart_131 : decode cX12_readPart 131 = .ok (.if_icmp .ne 17, 3) := by decide +kernel
theorem dX12_readPart_134 : decode cX12_readPart 134 = .ok (.aload_n 0, 1) := by decide +kernel
theorem dX12_readPart_135 : decode cX12_readPart 135 = .ok (.iconst 0, 1) := by decide +kernel
theorem dX12_readPart_136 : decode cX12_readPart 136 = .ok (.bipush 8, 2) := by decide +kernel
theorem dX12_readPart_138 : decode cX12_readPart 138 = .ok (.invokevirtual 220, 3) := by decide +kernel
theorem dX12_readPart_141 : decode cX12_readPart 141 = .ok (.goto 7, 3) := by decide +kernel
theorem dX12_readPart_144 : decode cX12_readPart 144 = .ok (.aload_n 0, 1) := by decide +kernel
theorem dX12_readPart_145 : decode cX12_readPart 145 = .ok (.invokevirtual 202, 3) := by decide +kernel
theorem dX12_readPart_148 : decode cX12_readPart 148 = .ok (.return_, 1) := by decide +kernel
