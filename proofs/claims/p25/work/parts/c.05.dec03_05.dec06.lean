section
theorem dX11_drawYear_0 : decode cX11_drawYear 0 = .ok (.iload_n 1, 1) := by decide +kernel
theorem dX11_drawYear_1 : decode cX11_drawYear 1 = .ok (.invokestatic 388, 3) := by decide +kernel
theorem dX11_drawYear_4 : decode cX11_drawYear 4 = .ok (.istore_n 2, 1) := by decide +kernel
theorem dX11_drawYear_5 : decode cX11_drawYear 5 = .ok (.iload_n 2, 1) := by decide +kernel
theorem dX11_drawYear_6 : decode cX11_drawYear 6 = .ok (.invokestatic 388, 3) := by decide +kernel
theorem dX11_drawYear_9 : decode cX11_drawYear 9 = .ok (.istore_n 3, 1) := by decide +kernel
theorem dX11_drawYear_10 : decode cX11_drawYear 10 = .ok (.iload_n 3, 1) := by decide +kernel
theorem dX11_drawYear_11 : decode cX11_drawYear 11 = .ok (.invokestatic 388, 3) := by decide +kernel
theorem dX11_drawYear_14 : decode cX11_drawYear 14 = .ok (.istore 4, 2) := by decide +kernel
theorem dX11_drawYear_16 : decode cX11_drawYear 16 = .ok (.iload 4, 2) := by decide +kernel
theorem dX11_drawYear_18 : decode cX11_drawYear 18 = .ok (.invokestatic 388, 3) := by decide +kernel
theorem dX11_drawYear_21 : decode cX11_drawYear 21 = .ok (.istore 5, 2) := by decide +kernel
theorem dX11_drawYear_23 : decode cX11_drawYear 23 = .ok (.aload_n 0, 1) := by decide +kernel
theorem dX11_drawYear_24 : decode cX11_drawYear 24 = .ok (.getfield 27, 3) := by decide +kernel
theorem dX11_drawYear_27 : decode cX11_drawYear 27 = .ok (.getfield 298, 3) := by decide +kernel
theorem dX11_drawYear_30 : decode cX11_drawYear 30 = .ok (.ifCond .le 15, 3) := by decide +kernel
theorem dX11_drawYear_33 : decode cX11_drawYear 33 = .ok (.iload_n 2, 1) := by decide +kernel
theorem dX11_drawYear_34 : decode cX11_drawYear 34 = .ok (.aload_n 0, 1) := by decide +kernel
theorem dX11_drawYear_35 : decode cX11_drawYear 35 = .ok (.getfield 27, 3) := by decide +kernel
theorem dX11_drawYear_38 : decode cX11_drawYear 38 = .ok (.getfield 298, 3) := by decide +kernel
theorem dX11_drawYear_41 : decode cX11_drawYear 41 = .ok (.irem, 1) := by decide +kernel
theorem dX11_drawYear_42 : decode cX11_drawYear 42 = .ok (.goto 4, 3) := by decide +kernel
theorem dX11_drawYear_45 : decode cX11_drawYear 45 = .ok (.iconst 0, 1) := by decide +kernel
theorem dX11_drawYear_46 : decode cX11_drawYear 46 = .ok (.istore 6, 2) := by decide +kernel
theorem dX11_drawYear_48 : decode cX11_drawYear 48 = .ok (.aload_n 0, 1) := by decide +kernel
theorem dX11_drawYear_49 : decode cX11_drawYear 49 = .ok (.getfield 27, 3) := by decide +kernel
theorem dX11_drawYear_52 : decode cX11_drawYear 52 = .ok (.getfield 155, 3) := by decide +kernel
theorem dX11_drawYear_55 : decode cX11_drawYear 55 = .ok (.ifCond .le 15, 3) := by decide +kernel
theorem dX11_drawYear_58 : decode cX11_drawYear 58 = .ok (.iload_n 3, 1) := by decide +kernel
theorem dX11_drawYear_59 : decode cX11_drawYear 59 = .ok (.aload_n 0, 1) := by decide +kernel
theorem dX11_drawYear_60 : decode cX11_drawYear 60 = .ok (.getfield 27, 3) := by decide +kernel
theorem dX11_drawYear_63 : decode cX11_drawYear 63 = .ok (.getfield 155, 3) := by decide +kernel
theorem dX11_drawYear_66 : decode cX11_drawYear 66 = .ok (.irem, 1) := by decide +kernel
theorem dX11_drawYear_67 : decode cX11_drawYear 67 = .ok (.goto 4, 3) := by decide +kernel
theorem dX11_drawYear_70 : decode cX11_drawYear 70 = .ok (.iconst 0, 1) := by decide +kernel
theorem dX11_drawYear_71 : decode cX11_drawYear 71 = .ok (.istore 7, 2) := by decide +kernel
theorem dX11_drawYear_73 : decode cX11_drawYear 73 = .ok (.aload_n 0, 1) := by decide +kernel
theorem dX11_drawYear_74 : decode cX11_drawYear 74 = .ok (.getfield 27, 3) := by decide +kernel
theorem dX11_drawYear_77 : decode cX11_drawYear 77 = .ok (.getfield 158, 3) := by decide +kernel
theorem dX11_drawYear_80 : decode cX11_drawYear 80 = .ok (.ifCond .le 16, 3) := by decide +kernel
theorem dX11_drawYear_83 : decode cX11_drawYear 83 = .ok (.iload 4, 2) := by decide +kernel
theorem dX11_drawYear_85 : decode cX11_drawYear 85 = .ok (.aload_n 0, 1) := by decide +kernel
theorem dX11_drawYear_86 : decode cX11_drawYear 86 = .ok (.getfield 27, 3) := by decide +kernel
theorem dX11_drawYear_89 : decode cX11_drawYear 89 = .ok (.getfield 158, 3) := by decide +kernel
theorem dX11_drawYear_92 : decode cX11_drawYear 92 = .ok (.irem, 1) := by decide +kernel
theorem dX11_drawYear_93 : decode cX11_drawYear 93 = .ok (.goto 4, 3) := by decide +kernel
theorem dX11_drawYear_96 : decode cX11_drawYear 96 = .ok (.iconst 0, 1) := by decide +kernel
theorem dX11_drawYear_97 : decode cX11_drawYear 97 = .ok (.istore 8, 2) := by decide +kernel
theorem dX11_drawYear_99 : decode cX11_drawYear 99 = .ok (.iload 5, 2) := by decide +kernel
theorem dX11_drawYear_101 : decode cX11_drawYear 101 = .ok (.iconst 3, 1) := by decide +kernel
theorem dX11_drawYear_102 : decode cX11_drawYear 102 = .ok (.irem, 1) := by decide +kernel
theorem dX11_drawYear_103 : decode cX11_drawYear 103 = .ok (.iconst 2, 1) := by decide +kernel
theorem dX11_drawYear_104 : decode cX11_drawYear 104 = .ok (.if_icmp .ne 15, 3) := by decide +kernel
theorem dX11_drawYear_107 : decode cX11_drawYear 107 = .ok (.aload_n 0, 1) := by decide +kernel
theorem dX11_drawYear_108 : decode cX11_drawYear 108 = .ok (.getfield 27, 3) := by decide +kernel
theorem dX11_drawYear_111 : decode cX11_drawYear 111 = .ok (.iload 6, 2) := by decide +kernel
theorem dX11_drawYear_113 : decode cX11_drawYear 113 = .ok (.invokevirtual 301, 3) := by decide +kernel
theorem dX11_drawYear_116 : decode cX11_drawYear 116 = .ok (.goto 44, 3) := by decide +kernel
theorem dX11_drawYear_119 : decode cX11_drawYear 119 = .ok (.aload_n 0, 1) := by decide +kernel
theorem dX11_drawYear_120 : decode cX11_drawYear 120 = .ok (.aload_n 0, 1) := by decide +kernel
theorem dX11_drawYear_121 : decode cX11_drawYear 121 = .ok (.getfield 27, 3) := by decide +kernel
theorem dX11_drawYear_124 : decode cX11_drawYear 124 = .ok (.iload 6, 2) := by decide +kernel
theorem dX11_drawYear_126 : decode cX11_drawYear 126 = .ok (.iload 7, 2) := by decide +kernel
theorem dX11_drawYear_128 : decode cX11_drawYear 128 = .ok (.iload 8, 2) := by decide +kernel
theorem dX11_drawYear_130 : decode cX11_drawYear 130 = .ok (.invokevirtual 176, 3) := by decide +kernel
theorem dX11_drawYear_133 : decode cX11_drawYear 133 = .ok (.ifCond .eq 27, 3) := by decide +kernel
theorem dX11_drawYear_136 : decode cX11_drawYear 136 = .ok (.aload_n 0, 1) := by decide +kernel
theorem dX11_drawYear_137 : decode cX11_drawYear 137 = .ok (.getfield 27, 3) := by decide +kernel
theorem dX11_drawYear_140 : decode cX11_drawYear 140 = .ok (.getfield 134, 3) := by decide +kernel
theorem dX11_drawYear_143 : decode cX11_drawYear 143 = .ok (.iload 6, 2) := by decide +kernel
theorem dX11_drawYear_145 : decode cX11_drawYear 145 = .ok (.iload 7, 2) := by decide +kernel
theorem dX11_drawYear_147 : decode cX11_drawYear 147 = .ok (.iastore, 1) := by decide +kernel
theorem dX11_drawYear_148 : decode cX11_drawYear 148 = .ok (.aload_n 0, 1) := by decide +kernel
theorem dX11_drawYear_149 : decode cX11_drawYear 149 = .ok (.getfield 27, 3) := by decide +kernel
theorem dX11_drawYear_152 : decode cX11_drawYear 152 = .ok (.getfield 137, 3) := by decide +kernel
theorem dX11_drawYear_155 : decode cX11_drawYear 155 = .ok (.iload 6, 2) := by decide +kernel
theorem dX11_drawYear_157 : decode cX11_drawYear 157 = .ok (.iload 8, 2) := by decide +kernel
theorem dX11_drawYear_159 : decode cX11_drawYear 159 = .ok (.iastore, 1) := by decide +kernel
theorem dX11_drawYear_160 : decode cX11_drawYear 160 = .ok (.aload_n 0, 1) := by decide +kernel
theorem dX11_drawYear_161 : decode cX11_drawYear 161 = .ok (.getfield 27, 3) := by decide +kernel
theorem dX11_drawYear_164 : decode cX11_drawYear 164 = .ok (.aload_n 0, 1) := by decide +kernel
theorem dX11_drawYear_165 : decode cX11_drawYear 165 = .ok (.getfield 65, 3) := by decide +kernel
theorem dX11_drawYear_168 : decode cX11_drawYear 168 = .ok (.aload_n 0, 1) := by decide +kernel
theorem dX11_drawYear_169 : decode cX11_drawYear 169 = .ok (.getfield 12, 3) := by decide +kernel
theorem dX11_drawYear_172 : decode cX11_drawYear 172 = .ok (.invokevirtual 143, 3) := by decide +kernel
theorem dX11_drawYear_175 : decode cX11_drawYear 175 = .ok (.invokevirtual 370, 3) := by decide +kernel
theorem dX11_drawYear_178 : decode cX11_drawYear 178 = .ok (.pop, 1) := by decide +kernel
theorem dX11_drawYear_179 : decode cX11_drawYear 179 = .ok (.iload 5, 2) := by decide +kernel
theorem dX11_drawYear_181 : decode cX11_drawYear 181 = .ok (.ireturn, 1) := by decide +kernel
theorem dX12_lies_0 : decode cX12_lies 0 = .ok (.iload_n 0, 1) := by decide +kernel
theorem dX12_lies_1 : decode cX12_lies 1 = .ok (.iload_n 1, 1) := by decide +kernel
theorem dX12_lies_2 : decode cX12_lies 2 = .ok (.if_icmp .lt 12, 3) := by decide +kernel
theorem dX12_lies_5 : decode cX12_lies 5 = .ok (.iload_n 0, 1) := by decide +kernel
theorem dX12_lies_6 : decode cX12_lies 6 = .ok (.iload_n 2, 1) := by decide +kernel
theorem dX12_lies_7 : decode cX12_lies 7 = .ok (.if_icmp .gt 7, 3) := by decide +kernel
theorem dX12_lies_10 : decode cX12_lies 10 = .ok (.iconst 1, 1) := by decide +kernel
theorem dX12_lies_11 : decode cX12_lies 11 = .ok (.goto 4, 3) := by decide +kernel
theorem dX12_lies_14 : decode cX12_lies 14 = .ok (.iconst 0, 1) := by decide +kernel
theorem dX12_lies_15 : decode cX12_lies 15 = .ok (.ireturn, 1) := by decide +kernel
theorem dX12_lesser_0 : decode cX12_lesser 0 = .ok (.iload_n 0, 1) := by decide +kernel
theorem dX12_lesser_1 : decode cX12_lesser 1 = .ok (.iload_n 1, 1) := by decide +kernel
theorem dX12_lesser_2 : decode cX12_lesser 2 = .ok (.if_icmp .ge 7, 3) := by decide +kernel
theorem dX12_lesser_5 : decode cX12_lesser 5 = .ok (.iload_n 0, 1) := by decide +kernel
theorem dX12_lesser_6 : decode cX12_lesser 6 = .ok (.goto 4, 3) := by decide +kernel
theorem dX12_lesser_9 : decode cX12_lesser 9 = .ok (.iload_n 1, 1) := by decide +kernel
theorem dX12_lesser_10 : decode cX12_lesser 10 = .ok (.ireturn, 1) := by decide +kernel
theorem dX12_greater_0 : decode cX12_greater 0 = .ok (.iload_n 0, 1) := by decide +kernel
theorem dX12_greater_1 : decode cX12_greater 1 = .ok (.iload_n 1, 1) := by decide +kernel
theorem dX12_greater_2 : decode cX12_greater 2 = .ok (.if_icmp .le 7, 3) := by decide +kernel
theorem dX12_greater_5 : decode cX12_greater 5 = .ok (.iload_n 0, 1) := by decide +kernel
theorem dX12_greater_6 : decode cX12_greater 6 = .ok (.goto 4, 3) := by decide +kernel
theorem dX12_greater_9 : decode cX12_greater 9 = .ok (.iload_n 1, 1) := by decide +kernel
theorem dX12_greater_10 : decode cX12_greater 10 = .ok (.ireturn, 1) := by decide +kernel
theorem dX12_refuses_0 : decode cX12_refuses 0 = .ok (.aload_n 0, 1) := by decide +kernel
theorem dX12_refuses_1 : decode cX12_refuses 1 = .ok (.iload_n 1, 1) := by decide +kernel
theorem dX12_refuses_2 : decode cX12_refuses 2 = .ok (.putfield 3, 3) := by decide +kernel
theorem dX12_refuses_5 : decode cX12_refuses 5 = .ok (.aload_n 0, 1) := by decide +kernel
theorem dX12_refuses_6 : decode cX12_refuses 6 = .ok (.getfield 7, 3) := by decide +kernel
theorem dX12_refuses_9 : decode cX12_refuses 9 = .ok (.iload_n 1, 1) := by decide +kernel
theorem dX12_refuses_10 : decode cX12_refuses 10 = .ok (.ineg, 1) := by decide +kernel
theorem dX12_refuses_11 : decode cX12_refuses 11 = .ok (.dup2, 1) := by decide +kernel
theorem dX12_refuses_12 : decode cX12_refuses 12 = .ok (.iaload, 1) := by decide +kernel
theorem dX12_refuses_13 : decode cX12_refuses 13 = .ok (.iconst 1, 1) := by decide +kernel
theorem dX12_refuses_14 : decode cX12_refuses 14 = .ok (.iadd, 1) := by decide +kernel
theorem dX12_refuses_15 : decode cX12_refuses 15 = .ok (.iastore, 1) := by decide +kernel
theorem dX12_refuses_16 : decode cX12_refuses 16 = .ok (.iload_n 1, 1) := by decide +kernel
theorem dX12_refuses_17 : decode cX12_refuses 17 = .ok (.ireturn, 1) := by decide +kernel
theorem dX12_good_0 : decode cX12_good 0 = .ok (.aload_n 0, 1) := by decide +kernel
theorem dX12_good_1 : decode cX12_good 1 = .ok (.iconst 0, 1) := by decide +kernel
theorem dX12_good_2 : decode cX12_good 2 = .ok (.putfield 3, 3) := by decide +kernel
theorem dX12_good_5 : decode cX12_good 5 = .ok (.iload_n 1, 1) := by decide +kernel
theorem dX12_good_6 : decode cX12_good 6 = .ok (.ireturn, 1) := by decide +kernel
theorem dX12_settled_0 : decode cX12_settled 0 = .ok (.aload_n 0, 1) := by decide +kernel
theorem dX12_settled_1 : decode cX12_settled 1 = .ok (.iconst 0, 1) := by decide +kernel
theorem dX12_settled_2 : decode cX12_settled 2 = .ok (.putfield 11, 3) := by decide +kernel
theorem dX12_settled_5 : decode cX12_settled 5 = .ok (.aload_n 0, 1) := by decide +kernel
theorem dX12_settled_6 : decode cX12_settled 6 = .ok (.iload_n 1, 1) := by decide +kernel
theorem dX12_settled_7 : decode cX12_settled 7 = .ok (.invokevirtual 14, 3) := by decide +kernel
theorem dX12_settled_10 : decode cX12_settled 10 = .ok (.ireturn, 1) := by decide +kernel
theorem dX12_isIn_0 : decode cX12_isIn 0 = .ok (.iload_n 0, 1) := by decide +kernel
theorem dX12_isIn_1 : decode cX12_isIn 1 = .ok (.iload_n 1, 1) := by decide +kernel
theorem dX12_isIn_2 : decode cX12_isIn 2 = .ok (.ishr, 1) := by decide +kernel
theorem dX12_isIn_3 : decode cX12_isIn 3 = .ok (.iconst 1, 1) := by decide +kernel
theorem dX12_isIn_4 : decode cX12_isIn 4 = .ok (.iand, 1) := by decide +kernel
theorem dX12_isIn_5 : decode cX12_isIn 5 = .ok (.iconst 1, 1) := by decide +kernel
theorem dX12_isIn_6 : decode cX12_isIn 6 = .ok (.if_icmp .ne 7, 3) := by decide +kernel
theorem dX12_isIn_9 : decode cX12_isIn 9 = .ok (.iconst 1, 1) := by decide +kernel
theorem dX12_isIn_10 : decode cX12_isIn 10 = .ok (.goto 4, 3) := by decide +kernel
theorem dX12_isIn_13 : decode cX12_isIn 13 = .ok (.iconst 0, 1) := by decide +kernel
theorem dX12_isIn_14 : decode cX12_isIn 14 = .ok (.ireturn, 1) := by decide +kernel
theorem dX12_isSide_0 : decode cX12_isSide 0 = .ok (.iload_n 0, 1) := by decide +kernel
theorem dX12_isSide_1 : decode cX12_isSide 1 = .ok (.iconst 1, 1) := by decide +kernel
theorem dX12_isSide_2 : decode cX12_isSide 2 = .ok (.bipush 12, 2) := by decide +kernel
theorem dX12_isSide_4 : decode cX12_isSide 4 = .ok (.invokestatic 18, 3) := by decide +kernel
theorem dX12_isSide_7 : decode cX12_isSide 7 = .ok (.ireturn, 1) := by decide +kernel
theorem dX12_isAlong_0 : decode cX12_isAlong 0 = .ok (.iload_n 0, 1) := by decide +kernel
theorem dX12_isAlong_1 : decode cX12_isAlong 1 = .ok (.iconst 0, 1) := by decide +kernel
theorem dX12_isAlong_2 : decode cX12_isAlong 2 = .ok (.bipush 11, 2) := by decide +kernel
theorem dX12_isAlong_4 : decode cX12_isAlong 4 = .ok (.invokestatic 18, 3) := by decide +kernel
theorem dX12_isAlong_7 : decode cX12_isAlong 7 = .ok (.ireturn, 1) := by decide +kernel
theorem dX12_init_0 : decode cX12_init 0 = .ok (.aload_n 0, 1) := by decide +kernel
theorem dX12_init_1 : decode cX12_init 1 = .ok (.invokespecial 22, 3) := by decide +kernel
theorem dX12_init_4 : decode cX12_init 4 = .ok (.aload_n 0, 1) := by decide +kernel
theorem dX12_init_5 : decode cX12_init 5 = .ok (.bipush 7, 2) := by decide +kernel
theorem dX12_init_7 : decode cX12_init 7 = .ok (.newarray .int, 2) := by decide +kernel
theorem dX12_init_9 : decode cX12_init 9 = .ok (.putfield 7, 3) := by decide +kernel
theorem dX12_init_12 : decode cX12_init 12 = .ok (.aload_n 0, 1) := by decide +kernel
theorem dX12_init_13 : decode cX12_init 13 = .ok (.sipush 5680, 3) := by decide +kernel
theorem dX12_init_16 : decode cX12_init 16 = .ok (.newarray .int, 2) := by decide +kernel
theorem dX12_init_18 : decode cX12_init 18 = .ok (.putfield 28, 3) := by decide +kernel
theorem dX12_init_21 : decode cX12_init 21 = .ok (.aload_n 0, 1) := by decide +kernel
theorem dX12_init_22 : decode cX12_init 22 = .ok (.sipush 11360, 3) := by decide +kernel
theorem dX12_init_25 : decode cX12_init 25 = .ok (.newarray .int, 2) := by decide +kernel
theorem dX12_init_27 : decode cX12_init 27 = .ok (.putfield 31, 3) := by decide +kernel
theorem dX12_init_30 : decode cX12_init 30 = .ok (.aload_n 0, 1) := by decide +kernel
theorem dX12_init_31 : decode cX12_init 31 = .ok (.iconst 2, 1) := by decide +kernel
theorem dX12_init_32 : decode cX12_init 32 = .ok (.newarray .boolean, 2) := by decide +kernel
theorem dX12_init_34 : decode cX12_init 34 = .ok (.putfield 34, 3) := by decide +kernel
theorem dX12_init_37 : decode cX12_init 37 = .ok (.aload_n 0, 1) := by decide +kernel
theorem dX12_init_38 : decode cX12_init 38 = .ok (.bipush 58, 2) := by decide +kernel
theorem dX12_init_40 : decode cX12_init 40 = .ok (.newarray .int, 2) := by decide +kernel
theorem dX12_init_42 : decode cX12_init 42 = .ok (.putfield 38, 3) := by decide +kernel
theorem dX12_init_45 : decode cX12_init 45 = .ok (.aload_n 0, 1) := by decide +kernel
theorem dX12_init_46 : decode cX12_init 46 = .ok (.bipush 127, 2) := by decide +kernel
theorem dX12_init_48 : decode cX12_init 48 = .ok (.newarray .byte, 2) := by decide +kernel
theorem dX12_init_50 : decode cX12_init 50 = .ok (.dup, 1) := by decide +kernel
theorem dX12_init_51 : decode cX12_init 51 = .ok (.iconst 0, 1) := by decide +kernel
theorem dX12_init_52 : decode cX12_init 52 = .ok (.bipush 99, 2) := by decide +kernel
theorem dX12_init_54 : decode cX12_init 54 = .ok (.bastore, 1) := by decide +kernel
theorem dX12_init_55 : decode cX12_init 55 = .ok (.dup, 1) := by decide +kernel
theorem dX12_init_56 : decode cX12_init 56 = .ok (.iconst 1, 1) := by decide +kernel
theorem dX12_init_57 : decode cX12_init 57 = .ok (.bipush 111, 2) := by decide +kernel
theorem dX12_init_59 : decode cX12_init 59 = .ok (.bastore, 1) := by decide +kernel
theorem dX12_init_60 : decode cX12_init 60 = .ok (.dup, 1) := by decide +kernel
theorem dX12_init_61 : decode cX12_init 61 = .ok (.iconst 2, 1) := by decide +kernel
theorem dX12_init_62 : decode cX12_init 62 = .ok (.bipush 115, 2) := by decide +kernel
theorem dX12_init_64 : decode cX12_init 64 = .ok (.bastore, 1) := by decide +kernel
theorem dX12_init_65 : decode cX12_init 65 = .ok (.dup, 1) := by decide +kernel
theorem dX12_init_66 : decode cX12_init 66 = .ok (.iconst 3, 1) := by decide +kernel
theorem dX12_init_67 : decode cX12_init 67 = .ok (.bipush 116, 2) := by decide +kernel
theorem dX12_init_69 : decode cX12_init 69 = .ok (.bastore, 1) := by decide +kernel
theorem dX12_init_70 : decode cX12_init 70 = .ok (.dup, 1) := by decide +kernel
theorem dX12_init_71 : decode cX12_init 71 = .ok (.iconst 4, 1) := by decide +kernel
theorem dX12_init_72 : decode cX12_init 72 = .ok (.bipush 115, 2) := by decide +kernel
theorem dX12_init_74 : decode cX12_init 74 = .ok (.bastore, 1) := by decide +kernel
theorem dX12_init_75 : decode cX12_init 75 = .ok (.dup, 1) := by decide +kernel
theorem dX12_init_76 : decode cX12_init 76 = .ok (.iconst 5, 1) := by decide +kernel
theorem dX12_init_77 : decode cX12_init 77 = .ok (.bipush 32, 2) := by decide +kernel
theorem dX12_init_79 : decode cX12_init 79 = .ok (.bastore, 1) := by decide +kernel
theorem dX12_init_80 : decode cX12_init 80 = .ok (.dup, 1) := by decide +kernel
theorem dX12_init_81 : decode cX12_init 81 = .ok (.bipush 6, 2) := by decide +kernel
theorem dX12_init_83 : decode cX12_init 83 = .ok (.bipush 119, 2) := by decide +kernel
theorem dX12_init_85 : decode cX12_init 85 = .ok (.bastore, 1) := by decide +kernel
theorem dX12_init_86 : decode cX12_init 86 = .ok (.dup, 1) := by decide +kernel
theorem dX12_init_87 : decode cX12_init 87 = .ok (.bipush 7, 2) := by decide +kernel
theorem dX12_init_89 : decode cX12_init 89 = .ok (.bipush 101, 2) := by decide +kernel
theorem dX12_init_91 : decode cX12_init 91 = .ok (.bastore, 1) := by decide +kernel
theorem dX12_init_92 : decode cX12_init 92 = .ok (.dup, 1) := by decide +kernel
theorem dX12_init_93 : decode cX12_init 93 = .ok (.bipush 8, 2) := by decide +kernel
theorem dX12_init_95 : decode cX12_init 95 = .ok (.bipush 97, 2) := by decide +kernel
theorem dX12_init_97 : decode cX12_init 97 = .ok (.bastore, 1) := by decide +kernel
theorem dX12_init_98 : decode cX12_init 98 = .ok (.dup, 1) := by decide +kernel
theorem dX12_init_99 : decode cX12_init 99 = .ok (.bipush 9, 2) := by decide +kernel
theorem dX12_init_101 : decode cX12_init 101 = .ok (.bipush 114, 2) := by decide +kernel
theorem dX12_init_103 : decode cX12_init 103 = .ok (.bastore, 1) := by decide +kernel
theorem dX12_init_104 : decode cX12_init 104 = .ok (.dup, 1) := by decide +kernel
theorem dX12_init_105 : decode cX12_init 105 = .ok (.bipush 10, 2) := by decide +kernel
theorem dX12_init_107 : decode cX12_init 107 = .ok (.bipush 115, 2) := by decide +kernel
theorem dX12_init_109 : decode cX12_init 109 = .ok (.bastore, 1) := by decide +kernel
theorem dX12_init_110 : decode cX12_init 110 = .ok (.dup, 1) := by decide +kernel
theorem dX12_init_111 : decode cX12_init 111 = .ok (.bipush 11, 2) := by decide +kernel
theorem dX12_init_113 : decode cX12_init 113 = .ok (.bipush 32, 2) := by decide +kernel
theorem dX12_init_115 : decode cX12_init 115 = .ok (.bastore, 1) := by decide +kernel
theorem dX12_init_116 : decode cX12_init 116 = .ok (.dup, 1) := by decide +kernel
theorem dX12_init_117 : decode cX12_init 117 = .ok (.bipush 12, 2) := by decide +kernel
theorem dX12_init_119 : decode cX12_init 119 = .ok (.bipush 98, 2) := by decide +kernel
theorem dX12_init_121 : decode cX12_init 121 = .ok (.bastore, 1) := by decide +kernel
theorem dX12_init_122 : decode cX12_init 122 = .ok (.dup, 1) := by decide +kernel
theorem dX12_init_123 : decode cX12_init 123 = .ok (.bipush 13, 2) := by decide +kernel
theorem dX12_init_125 : decode cX12_init 125 = .ok (.bipush 97, 2) := by decide +kernel
theorem dX12_init_127 : decode cX12_init 127 = .ok (.bastore, 1) := by decide +kernel
theorem dX12_init_128 : decode cX12_init 128 = .ok (.dup, 1) := by decide +kernel
theorem dX12_init_129 : decode cX12_init 129 = .ok (.bipush 14, 2) := by decide +kernel
theorem dX12_init_131 : decode cX12_init 131 = .ok (.bipush 114, 2) := by decide +kernel
theorem dX12_init_133 : decode cX12_init 133 = .ok (.bastore, 1) := by decide +kernel
theorem dX12_init_134 : decode cX12_init 134 = .ok (.dup, 1) := by decide +kernel
theorem dX12_init_135 : decode cX12_init 135 = .ok (.bipush 15, 2) := by decide +kernel
theorem dX12_init_137 : decode cX12_init 137 = .ok (.bipush 115, 2) := by decide +kernel
theorem dX12_init_139 : decode cX12_init 139 = .ok (.bastore, 1) := by decide +kernel
theorem dX12_init_140 : decode cX12_init 140 = .ok (.dup, 1) := by decide +kernel
theorem dX12_init_141 : decode cX12_init 141 = .ok (.bipush 16, 2) := by decide +kernel
theorem dX12_init_143 : decode cX12_init 143 = .ok (.bipush 32, 2) := by decide +kernel
theorem dX12_init_145 : decode cX12_init 145 = .ok (.bastore, 1) := by decide +kernel
theorem dX12_init_146 : decode cX12_init 146 = .ok (.dup, 1) := by decide +kernel
theorem dX12_init_147 : decode cX12_init 147 = .ok (.bipush 17, 2) := by decide +kernel
theorem dX12_init_149 : decode cX12_init 149 = .ok (.bipush 105, 2) := by decide +kernel
theorem dX12_init_151 : decode cX12_init 151 = .ok (.bastore, 1) := by decide +kernel
theorem dX12_init_152 : decode cX12_init 152 = .ok (.dup, 1) := by decide +kernel
theorem dX12_init_153 : decode cX12_init 153 = .ok (.bipush 18, 2) := by decide +kernel
theorem dX12_init_155 : decode cX12_init 155 = .ok (.bipush 102, 2) := by decide +kernel
theorem dX12_init_157 : decode cX12_init 157 = .ok (.bastore, 1) := by decide +kernel
theorem dX12_init_158 : decode cX12_init 158 = .ok (.dup, 1) := by decide +kernel
theorem dX12_init_159 : decode cX12_init 159 = .ok (.bipush 19, 2) := by decide +kernel
theorem dX12_init_161 : decode cX12_init 161 = .ok (.bipush 32, 2) := by decide +kernel
theorem dX12_init_163 : decode cX12_init 163 = .ok (.bastore, 1) := by decide +kernel
theorem dX12_init_164 : decode cX12_init 164 = .ok (.dup, 1) := by decide +kernel
theorem dX12_init_165 : decode cX12_init 165 = .ok (.bipush 20, 2) := by decide +kernel
theorem dX12_init_167 : decode cX12_init 167 = .ok (.bipush 111, 2) := by decide +kernel
theorem dX12_init_169 : decode cX12_init 169 = .ok (.bastore, 1) := by decide +kernel
theorem dX12_init_170 : decode cX12_init 170 = .ok (.dup, 1) := by decide +kernel
theorem dX12_init_171 : decode cX12_init 171 = .ok (.bipush 21, 2) := by decide +kernel
theorem dX12_init_173 : decode cX12_init 173 = .ok (.bipush 114, 2) := by decide +kernel
theorem dX12_init_175 : decode cX12_init 175 = .ok (.bastore, 1) := by decide +kernel
theorem dX12_init_176 : decode cX12_init 176 = .ok (.dup, 1) := by decide +kernel
theorem dX12_init_177 : decode cX12_init 177 = .ok (.bipush 22, 2) := by decide +kernel
theorem dX12_init_179 : decode cX12_init 179 = .ok (.bipush 32, 2) := by decide +kernel
theorem dX12_init_181 : decode cX12_init 181 = .ok (.bastore, 1) := by decide +kernel
theorem dX12_init_182 : decode cX12_init 182 = .ok (.dup, 1) := by decide +kernel
theorem dX12_init_183 : decode cX12_init 183 = .ok (.bipush 23, 2) := by decide +kernel
theorem dX12_init_185 : decode cX12_init 185 = .ok (.bipush 97, 2) := by decide +kernel
theorem dX12_init_187 : decode cX12_init 187 = .ok (.bastore, 1) := by decide +kernel
theorem dX12_init_188 : decode cX12_init 188 = .ok (.dup, 1) := by decide +kernel
theorem dX12_init_189 : decode cX12_init 189 = .ok (.bipush 24, 2) := by decide +kernel
theorem dX12_init_191 : decode cX12_init 191 = .ok (.bipush 110, 2) := by decide +kernel
theorem dX12_init_193 : decode cX12_init 193 = .ok (.bastore, 1) := by decide +kernel
theorem dX12_init_194 : decode cX12_init 194 = .ok (.dup, 1) := by decide +kernel
theorem dX12_init_195 : decode cX12_init 195 = .ok (.bipush 25, 2) := by decide +kernel
theorem dX12_init_197 : decode cX12_init 197 = .ok (.bipush 100, 2) := by decide +kernel
theorem dX12_init_199 : decode cX12_init 199 = .ok (.bastore, 1) := by decide +kernel
theorem dX12_init_200 : decode cX12_init 200 = .ok (.dup, 1) := by decide +kernel
theorem dX12_init_201 : decode cX12_init 201 = .ok (.bipush 26, 2) := by decide +kernel
theorem dX12_init_203 : decode cX12_init 203 = .ok (.bipush 32, 2) := by decide +kernel
theorem dX12_init_205 : decode cX12_init 205 = .ok (.bastore, 1) := by decide +kernel
theorem dX12_init_206 : decode cX12_init 206 = .ok (.dup, 1) := by decide +kernel
theorem dX12_init_207 : decode cX12_init 207 = .ok (.bipush 27, 2) := by decide +kernel
theorem dX12_init_209 : decode cX12_init 209 = .ok (.bipush 110, 2) := by decide +kernel
theorem dX12_init_211 : decode cX12_init 211 = .ok (.bastore, 1) := by decide +kernel
theorem dX12_init_212 : decode cX12_init 212 = .ok (.dup, 1) := by decide +kernel
theorem dX12_init_213 : decode cX12_init 213 = .ok (.bipush 28, 2) := by decide +kernel
theorem dX12_init_215 : decode cX12_init 215 = .ok (.bipush 111, 2) := by decide +kernel
theorem dX12_init_217 : decode cX12_init 217 = .ok (.bastore, 1) := by decide +kernel
theorem dX12_init_218 : decode cX12_init 218 = .ok (.dup, 1) := by decide +kernel
theorem dX12_init_219 : decode cX12_init 219 = .ok (.bipush 29, 2) := by decide +kernel
theorem dX12_init_221 : decode cX12_init 221 = .ok (.bipush 116, 2) := by decide +kernel
theorem dX12_init_223 : decode cX12_init 223 = .ok (.bastore, 1) := by decide +kernel
theorem dX12_init_224 : decode cX12_init 224 = .ok (.dup, 1) := by decide +kernel
theorem dX12_init_225 : decode cX12_init 225 = .ok (.bipush 30, 2) := by decide +kernel
theorem dX12_init_227 : decode cX12_init 227 = .ok (.bipush 32, 2) := by decide +kernel
theorem dX12_init_229 : decode cX12_init 229 = .ok (.bastore, 1) := by decide +kernel
theorem dX12_init_230 : decode cX12_init 230 = .ok (.dup, 1) := by decide +kernel
theorem dX12_init_231 : decode cX12_init 231 = .ok (.bipush 31, 2) := by decide +kernel
theorem dX12_init_233 : decode cX12_init 233 = .ok (.bipush 99, 2) := by decide +kernel
theorem dX12_init_235 : decode cX12_init 235 = .ok (.bastore, 1) := by decide +kernel
theorem dX12_init_236 : decode cX12_init 236 = .ok (.dup, 1) := by decide +kernel
theorem dX12_init_237 : decode cX12_init 237 = .ok (.bipush 32, 2) := by decide +kernel
theorem dX12_init_239 : decode cX12_init 239 = .ok (.bipush 97, 2) := by decide +kernel
theorem dX12_init_241 : decode cX12_init 241 = .ok (.bastore, 1) := by decide +kernel
theorem dX12_init_242 : decode cX12_init 242 = .ok (.dup, 1) := by decide +kernel
theorem dX12_init_243 : decode cX12_init 243 = .ok (.bipush 33, 2) := by decide +kernel
theorem dX12_init_245 : decode cX12_init 245 = .ok (.bipush 114, 2) := by decide +kernel
theorem dX12_init_247 : decode cX12_init 247 = .ok (.bastore, 1) := by decide +kernel
theorem dX12_init_248 : decode cX12_init 248 = .ok (.dup, 1) := by decide +kernel
theorem dX12_init_249 : decode cX12_init 249 = .ok (.bipush 34, 2) := by decide +kernel
theorem dX12_init_251 : decode cX12_init 251 = .ok (.bipush 112, 2) := by decide +kernel
theorem dX12_init_253 : decode cX12_init 253 = .ok (.bastore, 1) := by decide +kernel
theorem dX12_init_254 : decode cX12_init 254 = .ok (.dup, 1) := by decide +kernel
theorem dX12_init_255 : decode cX12_init 255 = .ok (.bipush 35, 2) := by decide +kernel
theorem dX12_init_257 : decode cX12_init 257 = .ok (.bipush 101, 2) := by decide +kernel
theorem dX12_init_259 : decode cX12_init 259 = .ok (.bastore, 1) := by decide +kernel
theorem dX12_init_260 : decode cX12_init 260 = .ok (.dup, 1) := by decide +kernel
theorem dX12_init_261 : decode cX12_init 261 = .ok (.bipush 36, 2) := by decide +kernel
theorem dX12_init_263 : decode cX12_init 263 = .ok (.bipush 116, 2) := by decide +kernel
theorem dX12_init_265 : decode cX12_init 265 = .ok (.bastore, 1) := by decide +kernel
theorem dX12_init_266 : decode cX12_init 266 = .ok (.dup, 1) := by decide +kernel
theorem dX12_init_267 : decode cX12_init 267 = .ok (.bipush 37, 2) := by decide +kernel
theorem dX12_init_269 : decode cX12_init 269 = .ok (.bipush 32, 2) := by decide +kernel
theorem dX12_init_271 : decode cX12_init 271 = .ok (.bastore, 1) := by decide +kernel
theorem dX12_init_272 : decode cX12_init 272 = .ok (.dup, 1) := by decide +kernel
theorem dX12_init_273 : decode cX12_init 273 = .ok (.bipush 38, 2) := by decide +kernel
theorem dX12_init_275 : decode cX12_init 275 = .ok (.bipush 115, 2) := by decide +kernel
theorem dX12_init_277 : decode cX12_init 277 = .ok (.bastore, 1) := by decide +kernel
theorem dX12_init_278 : decode cX12_init 278 = .ok (.dup, 1) := by decide +kernel
theorem dX12_init_279 : decode cX12_init 279 = .ok (.bipush 39, 2) := by decide +kernel
theorem dX12_init_281 : decode cX12_init 281 = .ok (.bipush 105, 2) := by decide +kernel
theorem dX12_init_283 : decode cX12_init 283 = .ok (.bastore, 1) := by decide +kernel
theorem dX12_init_284 : decode cX12_init 284 = .ok (.dup, 1) := by decide +kernel
theorem dX12_init_285 : decode cX12_init 285 = .ok (.bipush 40, 2) := by decide +kernel
theorem dX12_init_287 : decode cX12_init 287 = .ok (.bipush 100, 2) := by decide +kernel
theorem dX12_init_289 : decode cX12_init 289 = .ok (.bastore, 1) := by decide +kernel
theorem dX12_init_290 : decode cX12_init 290 = .ok (.dup, 1) := by decide +kernel
theorem dX12_init_291 : decode cX12_init 291 = .ok (.bipush 41, 2) := by decide +kernel
theorem dX12_init_293 : decode cX12_init 293 = .ok (.bipush 101, 2) := by decide +kernel
theorem dX12_init_295 : decode cX12_init 295 = .ok (.bastore, 1) := by decide +kernel
theorem dX12_init_296 : decode cX12_init 296 = .ok (.dup, 1) := by decide +kernel
theorem dX12_init_297 : decode cX12_init 297 = .ok (.bipush 42, 2) := by decide +kernel
theorem dX12_init_299 : decode cX12_init 299 = .ok (.bipush 32, 2) := by decide +kernel
theorem dX12_init_301 : decode cX12_init 301 = .ok (.bastore, 1) := by decide +kernel
theorem dX12_init_302 : decode cX12_init 302 = .ok (.dup, 1) := by decide +kernel
theorem dX12_init_303 : decode cX12_init 303 = .ok (.bipush 43, 2) := by decide +kernel
theorem dX12_init_305 : decode cX12_init 305 = .ok (.bipush 107, 2) := by decide +kernel
theorem dX12_init_307 : decode cX12_init 307 = .ok (.bastore, 1) := by decide +kernel
theorem dX12_init_308 : decode cX12_init 308 = .ok (.dup, 1) := by decide +kernel
theorem dX12_init_309 : decode cX12_init 309 = .ok (.bipush 44, 2) := by decide +kernel
theorem dX12_init_311 : decode cX12_init 311 = .ok (.bipush 105, 2) := by decide +kernel
theorem dX12_init_313 : decode cX12_init 313 = .ok (.bastore, 1) := by decide +kernel
theorem dX12_init_314 : decode cX12_init 314 = .ok (.dup, 1) := by decide +kernel
theorem dX12_init_315 : decode cX12_init 315 = .ok (.bipush 45, 2) := by decide +kernel
theorem dX12_init_317 : decode cX12_init 317 = .ok (.bipush 110, 2) := by decide +kernel
theorem dX12_init_319 : decode cX12_init 319 = .ok (.bastore, 1) := by decide +kernel
theorem dX12_init_320 : decode cX12_init 320 = .ok (.dup, 1) := by decide +kernel
theorem dX12_init_321 : decode cX12_init 321 = .ok (.bipush 46, 2) := by decide +kernel
theorem dX12_init_323 : decode cX12_init 323 = .ok (.bipush 100, 2) := by decide +kernel
theorem dX12_init_325 : decode cX12_init 325 = .ok (.bastore, 1) := by decide +kernel
theorem dX12_init_326 : decode cX12_init 326 = .ok (.dup, 1) := by decide +kernel
theorem dX12_init_327 : decode cX12_init 327 = .ok (.bipush 47, 2) := by decide +kernel
theorem dX12_init_329 : decode cX12_init 329 = .ok (.bipush 32, 2) := by decide +kernel
theorem dX12_init_331 : decode cX12_init 331 = .ok (.bastore, 1) := by decide +kernel
theorem dX12_init_332 : decode cX12_init 332 = .ok (.dup, 1) := by decide +kernel
theorem dX12_init_333 : decode cX12_init 333 = .ok (.bipush 48, 2) := by decide +kernel
theorem dX12_init_335 : decode cX12_init 335 = .ok (.bipush 120, 2) := by decide +kernel
theorem dX12_init_337 : decode cX12_init 337 = .ok (.bastore, 1) := by decide +kernel
theorem dX12_init_338 : decode cX12_init 338 = .ok (.dup, 1) := by decide +kernel
theorem dX12_init_339 : decode cX12_init 339 = .ok (.bipush 49, 2) := by decide +kernel
theorem dX12_init_341 : decode cX12_init 341 = .ok (.bipush 32, 2) := by decide +kernel
theorem dX12_init_343 : decode cX12_init 343 = .ok (.bastore, 1) := by decide +kernel
theorem dX12_init_344 : decode cX12_init 344 = .ok (.dup, 1) := by decide +kernel
theorem dX12_init_345 : decode cX12_init 345 = .ok (.bipush 50, 2) := by decide +kernel
theorem dX12_init_347 : decode cX12_init 347 = .ok (.bipush 121, 2) := by decide +kernel
theorem dX12_init_349 : decode cX12_init 349 = .ok (.bastore, 1) := by decide +kernel
theorem dX12_init_350 : decode cX12_init 350 = .ok (.dup, 1) := by decide +kernel
theorem dX12_init_351 : decode cX12_init 351 = .ok (.bipush 51, 2) := by decide +kernel
theorem dX12_init_353 : decode cX12_init 353 = .ok (.bipush 32, 2) := by decide +kernel
theorem dX12_init_355 : decode cX12_init 355 = .ok (.bastore, 1) := by decide +kernel
theorem dX12_init_356 : decode cX12_init 356 = .ok (.dup, 1) := by decide +kernel
theorem dX12_init_357 : decode cX12_init 357 = .ok (.bipush 52, 2) := by decide +kernel
theorem dX12_init_359 : decode cX12_init 359 = .ok (.bipush 109, 2) := by decide +kernel
theorem dX12_init_361 : decode cX12_init 361 = .ok (.bastore, 1) := by decide +kernel
theorem dX12_init_362 : decode cX12_init 362 = .ok (.dup, 1) := by decide +kernel
theorem dX12_init_363 : decode cX12_init 363 = .ok (.bipush 53, 2) := by decide +kernel
theorem dX12_init_365 : decode cX12_init 365 = .ok (.bipush 111, 2) := by decide +kernel
theorem dX12_init_367 : decode cX12_init 367 = .ok (.bastore, 1) := by decide +kernel
theorem dX12_init_368 : decode cX12_init 368 = .ok (.dup, 1) := by decide +kernel
theorem dX12_init_369 : decode cX12_init 369 = .ok (.bipush 54, 2) := by decide +kernel
theorem dX12_init_371 : decode cX12_init 371 = .ok (.bipush 111, 2) := by decide +kernel
theorem dX12_init_373 : decode cX12_init 373 = .ok (.bastore, 1) := by decide +kernel
theorem dX12_init_374 : decode cX12_init 374 = .ok (.dup, 1) := by decide +kernel
theorem dX12_init_375 : decode cX12_init 375 = .ok (.bipush 55, 2) := by decide +kernel
theorem dX12_init_377 : decode cX12_init 377 = .ok (.bipush 100, 2) := by decide +kernel
theorem dX12_init_379 : decode cX12_init 379 = .ok (.bastore, 1) := by decide +kernel
theorem dX12_init_380 : decode cX12_init 380 = .ok (.dup, 1) := by decide +kernel
theorem dX12_init_381 : decode cX12_init 381 = .ok (.bipush 56, 2) := by decide +kernel
theorem dX12_init_383 : decode cX12_init 383 = .ok (.bipush 32, 2) := by decide +kernel
theorem dX12_init_385 : decode cX12_init 385 = .ok (.bastore, 1) := by decide +kernel
theorem dX12_init_386 : decode cX12_init 386 = .ok (.dup, 1) := by decide +kernel
theorem dX12_init_387 : decode cX12_init 387 = .ok (.bipush 57, 2) := by decide +kernel
theorem dX12_init_389 : decode cX12_init 389 = .ok (.bipush 112, 2) := by decide +kernel
theorem dX12_init_391 : decode cX12_init 391 = .ok (.bastore, 1) := by decide +kernel
theorem dX12_init_392 : decode cX12_init 392 = .ok (.dup, 1) := by decide +kernel
theorem dX12_init_393 : decode cX12_init 393 = .ok (.bipush 58, 2) := by decide +kernel
theorem dX12_init_395 : decode cX12_init 395 = .ok (.bipush 105, 2) := by decide +kernel
theorem dX12_init_397 : decode cX12_init 397 = .ok (.bastore, 1) := by decide +kernel
theorem dX12_init_398 : decode cX12_init 398 = .ok (.dup, 1) := by decide +kernel
theorem dX12_init_399 : decode cX12_init 399 = .ok (.bipush 59, 2) := by decide +kernel
theorem dX12_init_401 : decode cX12_init 401 = .ok (.bipush 108, 2) := by decide +kernel
theorem dX12_init_403 : decode cX12_init 403 = .ok (.bastore, 1) := by decide +kernel
theorem dX12_init_404 : decode cX12_init 404 = .ok (.dup, 1) := by decide +kernel
theorem dX12_init_405 : decode cX12_init 405 = .ok (.bipush 60, 2) := by decide +kernel
theorem dX12_init_407 : decode cX12_init 407 = .ok (.bipush 101, 2) := by decide +kernel
theorem dX12_init_409 : decode cX12_init 409 = .ok (.bastore, 1) := by decide +kernel
theorem dX12_init_410 : decode cX12_init 410 = .ok (.dup, 1) := by decide +kernel
theorem dX12_init_411 : decode cX12_init 411 = .ok (.bipush 61, 2) := by decide +kernel
theorem dX12_init_413 : decode cX12_init 413 = .ok (.bipush 32, 2) := by decide +kernel
theorem dX12_init_415 : decode cX12_init 415 = .ok (.bastore, 1) := by decide +kernel
theorem dX12_init_416 : decode cX12_init 416 = .ok (.dup, 1) := by decide +kernel
theorem dX12_init_417 : decode cX12_init 417 = .ok (.bipush 62, 2) := by decide +kernel
theorem dX12_init_419 : decode cX12_init 419 = .ok (.bipush 121, 2) := by decide +kernel
theorem dX12_init_421 : decode cX12_init 421 = .ok (.bastore, 1) := by decide +kernel
theorem dX12_init_422 : decode cX12_init 422 = .ok (.dup, 1) := by decide +kernel
theorem dX12_init_423 : decode cX12_init 423 = .ok (.bipush 63, 2) := by decide +kernel
theorem dX12_init_425 : decode cX12_init 425 = .ok (.bipush 101, 2) := by decide +kernel
theorem dX12_init_427 : decode cX12_init 427 = .ok (.bastore, 1) := by decide +kernel
theorem dX12_init_428 : decode cX12_init 428 = .ok (.dup, 1) := by decide +kernel
theorem dX12_init_429 : decode cX12_init 429 = .ok (.bipush 64, 2) := by decide +kernel
theorem dX12_init_431 : decode cX12_init 431 = .ok (.bipush 97, 2) := by decide +kernel
theorem dX12_init_433 : decode cX12_init 433 = .ok (.bastore, 1) := by decide +kernel
theorem dX12_init_434 : decode cX12_init 434 = .ok (.dup, 1) := by decide +kernel
theorem dX12_init_435 : decode cX12_init 435 = .ok (.bipush 65, 2) := by decide +kernel
theorem dX12_init_437 : decode cX12_init 437 = .ok (.bipush 114, 2) := by decide +kernel
theorem dX12_init_439 : decode cX12_init 439 = .ok (.bastore, 1) := by decide +kernel
theorem dX12_init_440 : decode cX12_init 440 = .ok (.dup, 1) := by decide +kernel
theorem dX12_init_441 : decode cX12_init 441 = .ok (.bipush 66, 2) := by decide +kernel
theorem dX12_init_443 : decode cX12_init 443 = .ok (.bipush 32, 2) := by decide +kernel
theorem dX12_init_445 : decode cX12_init 445 = .ok (.bastore, 1) := by decide +kernel
theorem dX12_init_446 : decode cX12_init 446 = .ok (.dup, 1) := by decide +kernel
theorem dX12_init_447 : decode cX12_init 447 = .ok (.bipush 67, 2) := by decide +kernel
theorem dX12_init_449 : decode cX12_init 449 = .ok (.bipush 100, 2) := by decide +kernel
theorem dX12_init_451 : decode cX12_init 451 = .ok (.bastore, 1) := by decide +kernel
theorem dX12_init_452 : decode cX12_init 452 = .ok (.dup, 1) := by decide +kernel
theorem dX12_init_453 : decode cX12_init 453 = .ok (.bipush 68, 2) := by decide +kernel
theorem dX12_init_455 : decode cX12_init 455 = .ok (.bipush 111, 2) := by decide +kernel
theorem dX12_init_457 : decode cX12_init 457 = .ok (.bastore, 1) := by decide +kernel
theorem dX12_init_458 : decode cX12_init 458 = .ok (.dup, 1) := by decide +kernel
theorem dX12_init_459 : decode cX12_init 459 = .ok (.bipush 69, 2) := by decide +kernel
theorem dX12_init_461 : decode cX12_init 461 = .ok (.bipush 110, 2) := by decide +kernel
theorem dX12_init_463 : decode cX12_init 463 = .ok (.bastore, 1) := by decide +kernel
theorem dX12_init_464 : decode cX12_init 464 = .ok (.dup, 1) := by decide +kernel
theorem dX12_init_465 : decode cX12_init 465 = .ok (.bipush 70, 2) := by decide +kernel
theorem dX12_init_467 : decode cX12_init 467 = .ok (.bipush 101, 2) := by decide +kernel
theorem dX12_init_469 : decode cX12_init 469 = .ok (.bastore, 1) := by decide +kernel
theorem dX12_init_470 : decode cX12_init 470 = .ok (.dup, 1) := by decide +kernel
theorem dX12_init_471 : decode cX12_init 471 = .ok (.bipush 71, 2) := by decide +kernel
theorem dX12_init_473 : decode cX12_init 473 = .ok (.bipush 32, 2) := by decide +kernel
theorem dX12_init_475 : decode cX12_init 475 = .ok (.bastore, 1) := by decide +kernel
theorem dX12_init_476 : decode cX12_init 476 = .ok (.dup, 1) := by decide +kernel
theorem dX12_init_477 : decode cX12_init 477 = .ok (.bipush 72, 2) := by decide +kernel
theorem dX12_init_479 : decode cX12_init 479 = .ok (.bipush 108, 2) := by decide +kernel
theorem dX12_init_481 : decode cX12_init 481 = .ok (.bastore, 1) := by decide +kernel
theorem dX12_init_482 : decode cX12_init 482 = .ok (.dup, 1) := by decide +kernel
theorem dX12_init_483 : decode cX12_init 483 = .ok (.bipush 73, 2) := by decide +kernel
theorem dX12_init_485 : decode cX12_init 485 = .ok (.bipush 97, 2) := by decide +kernel
theorem dX12_init_487 : decode cX12_init 487 = .ok (.bastore, 1) := by decide +kernel
theorem dX12_init_488 : decode cX12_init 488 = .ok (.dup, 1) := by decide +kernel
theorem dX12_init_489 : decode cX12_init 489 = .ok (.bipush 74, 2) := by decide +kernel
theorem dX12_init_491 : decode cX12_init 491 = .ok (.bipush 116, 2) := by decide +kernel
theorem dX12_init_493 : decode cX12_init 493 = .ok (.bastore, 1) := by decide +kernel
theorem dX12_init_494 : decode cX12_init 494 = .ok (.dup, 1) := by decide +kernel
theorem dX12_init_495 : decode cX12_init 495 = .ok (.bipush 75, 2) := by decide +kernel
theorem dX12_init_497 : decode cX12_init 497 = .ok (.bipush 101, 2) := by decide +kernel
theorem dX12_init_499 : decode cX12_init 499 = .ok (.bastore, 1) := by decide +kernel
theorem dX12_init_500 : decode cX12_init 500 = .ok (.dup, 1) := by decide +kernel
theorem dX12_init_501 : decode cX12_init 501 = .ok (.bipush 76, 2) := by decide +kernel
theorem dX12_init_503 : decode cX12_init 503 = .ok (.bipush 115, 2) := by decide +kernel
theorem dX12_init_505 : decode cX12_init 505 = .ok (.bastore, 1) := by decide +kernel
theorem dX12_init_506 : decode cX12_init 506 = .ok (.dup, 1) := by decide +kernel
theorem dX12_init_507 : decode cX12_init 507 = .ok (.bipush 77, 2) := by decide +kernel
theorem dX12_init_509 : decode cX12_init 509 = .ok (.bipush 116, 2) := by decide +kernel
theorem dX12_init_511 : decode cX12_init 511 = .ok (.bastore, 1) := by decide +kernel
theorem dX12_init_512 : decode cX12_init 512 = .ok (.dup, 1) := by decide +kernel
theorem dX12_init_513 : decode cX12_init 513 = .ok (.bipush 78, 2) := by decide +kernel
theorem dX12_init_515 : decode cX12_init 515 = .ok (.bipush 32, 2) := by decide +kernel
theorem dX12_init_517 : decode cX12_init 517 = .ok (.bastore, 1) := by decide +kernel
theorem dX12_init_518 : decode cX12_init 518 = .ok (.dup, 1) := by decide +kernel
theorem dX12_init_519 : decode cX12_init 519 = .ok (.bipush 79, 2) := by decide +kernel
theorem dX12_init_521 : decode cX12_init 521 = .ok (.bipush 98, 2) := by decide +kernel
theorem dX12_init_523 : decode cX12_init 523 = .ok (.bastore, 1) := by decide +kernel
theorem dX12_init_524 : decode cX12_init 524 = .ok (.dup, 1) := by decide +kernel
theorem dX12_init_525 : decode cX12_init 525 = .ok (.bipush 80, 2) := by decide +kernel
theorem dX12_init_527 : decode cX12_init 527 = .ok (.bipush 97, 2) := by decide +kernel
theorem dX12_init_529 : decode cX12_init 529 = .ok (.bastore, 1) := by decide +kernel
theorem dX12_init_530 : decode cX12_init 530 = .ok (.dup, 1) := by decide +kernel
theorem dX12_init_531 : decode cX12_init 531 = .ok (.bipush 81, 2) := by decide +kernel
theorem dX12_init_533 : decode cX12_init 533 = .ok (.bipush 114, 2) := by decide +kernel
theorem dX12_init_535 : decode cX12_init 535 = .ok (.bastore, 1) := by decide +kernel
theorem dX12_init_536 : decode cX12_init 536 = .ok (.dup, 1) := by decide +kernel
theorem dX12_init_537 : decode cX12_init 537 = .ok (.bipush 82, 2) := by decide +kernel
theorem dX12_init_539 : decode cX12_init 539 = .ok (.bipush 101, 2) := by decide +kernel
theorem dX12_init_541 : decode cX12_init 541 = .ok (.bastore, 1) := by decide +kernel
theorem dX12_init_542 : decode cX12_init 542 = .ok (.dup, 1) := by decide +kernel
theorem dX12_init_543 : decode cX12_init 543 = .ok (.bipush 83, 2) := by decide +kernel
theorem dX12_init_545 : decode cX12_init 545 = .ok (.bipush 32, 2) := by decide +kernel
theorem dX12_init_547 : decode cX12_init 547 = .ok (.bastore, 1) := by decide +kernel
theorem dX12_init_548 : decode cX12_init 548 = .ok (.dup, 1) := by decide +kernel
theorem dX12_init_549 : decode cX12_init 549 = .ok (.bipush 84, 2) := by decide +kernel
theorem dX12_init_551 : decode cX12_init 551 = .ok (.bipush 112, 2) := by decide +kernel
theorem dX12_init_553 : decode cX12_init 553 = .ok (.bastore, 1) := by decide +kernel
theorem dX12_init_554 : decode cX12_init 554 = .ok (.dup, 1) := by decide +kernel
theorem dX12_init_555 : decode cX12_init 555 = .ok (.bipush 85, 2) := by decide +kernel
theorem dX12_init_557 : decode cX12_init 557 = .ok (.bipush 97, 2) := by decide +kernel
theorem dX12_init_559 : decode cX12_init 559 = .ok (.bastore, 1) := by decide +kernel
theorem dX12_init_560 : decode cX12_init 560 = .ok (.dup, 1) := by decide +kernel
theorem dX12_init_561 : decode cX12_init 561 = .ok (.bipush 86, 2) := by decide +kernel
theorem dX12_init_563 : decode cX12_init 563 = .ok (.bipush 105, 2) := by decide +kernel
theorem dX12_init_565 : decode cX12_init 565 = .ok (.bastore, 1) := by decide +kernel
theorem dX12_init_566 : decode cX12_init 566 = .ok (.dup, 1) := by decide +kernel
theorem dX12_init_567 : decode cX12_init 567 = .ok (.bipush 87, 2) := by decide +kernel
theorem dX12_init_569 : decode cX12_init 569 = .ok (.bipush 100, 2) := by decide +kernel
theorem dX12_init_571 : decode cX12_init 571 = .ok (.bastore, 1) := by decide +kernel
theorem dX12_init_572 : decode cX12_init 572 = .ok (.dup, 1) := by decide +kernel
theorem dX12_init_573 : decode cX12_init 573 = .ok (.bipush 88, 2) := by decide +kernel
theorem dX12_init_575 : decode cX12_init 575 = .ok (.bipush 32, 2) := by decide +kernel
theorem dX12_init_577 : decode cX12_init 577 = .ok (.bastore, 1) := by decide +kernel
theorem dX12_init_578 : decode cX12_init 578 = .ok (.dup, 1) := by decide +kernel
theorem dX12_init_579 : decode cX12_init 579 = .ok (.bipush 89, 2) := by decide +kernel
theorem dX12_init_581 : decode cX12_init 581 = .ok (.bipush 108, 2) := by decide +kernel
theorem dX12_init_583 : decode cX12_init 583 = .ok (.bastore, 1) := by decide +kernel
theorem dX12_init_584 : decode cX12_init 584 = .ok (.dup, 1) := by decide +kernel
theorem dX12_init_585 : decode cX12_init 585 = .ok (.bipush 90, 2) := by decide +kernel
theorem dX12_init_587 : decode cX12_init 587 = .ok (.bipush 97, 2) := by decide +kernel
theorem dX12_init_589 : decode cX12_init 589 = .ok (.bastore, 1) := by decide +kernel
theorem dX12_init_590 : decode cX12_init 590 = .ok (.dup, 1) := by decide +kernel
theorem dX12_init_591 : decode cX12_init 591 = .ok (.bipush 91, 2) := by decide +kernel
theorem dX12_init_593 : decode cX12_init 593 = .ok (.bipush 105, 2) := by decide +kernel
theorem dX12_init_595 : decode cX12_init 595 = .ok (.bastore, 1) := by decide +kernel
theorem dX12_init_596 : decode cX12_init 596 = .ok (.dup, 1) := by decide +kernel
theorem dX12_init_597 : decode cX12_init 597 = .ok (.bipush 92, 2) := by decide +kernel
theorem dX12_init_599 : decode cX12_init 599 = .ok (.bipush 100, 2) := by decide +kernel
theorem dX12_init_601 : decode cX12_init 601 = .ok (.bastore, 1) := by decide +kernel
theorem dX12_init_602 : decode cX12_init 602 = .ok (.dup, 1) := by decide +kernel
theorem dX12_init_603 : decode cX12_init 603 = .ok (.bipush 93, 2) := by decide +kernel
theorem dX12_init_605 : decode cX12_init 605 = .ok (.bipush 32, 2) := by decide +kernel
theorem dX12_init_607 : decode cX12_init 607 = .ok (.bastore, 1) := by decide +kernel
theorem dX12_init_608 : decode cX12_init 608 = .ok (.dup, 1) := by decide +kernel
theorem dX12_init_609 : decode cX12_init 609 = .ok (.bipush 94, 2) := by decide +kernel
theorem dX12_init_611 : decode cX12_init 611 = .ok (.bipush 108, 2) := by decide +kernel
theorem dX12_init_613 : decode cX12_init 613 = .ok (.bastore, 1) := by decide +kernel
theorem dX12_init_614 : decode cX12_init 614 = .ok (.dup, 1) := by decide +kernel
theorem dX12_init_615 : decode cX12_init 615 = .ok (.bipush 95, 2) := by decide +kernel
theorem dX12_init_617 : decode cX12_init 617 = .ok (.bipush 97, 2) := by decide +kernel
theorem dX12_init_619 : decode cX12_init 619 = .ok (.bastore, 1) := by decide +kernel
theorem dX12_init_620 : decode cX12_init 620 = .ok (.dup, 1) := by decide +kernel
theorem dX12_init_621 : decode cX12_init 621 = .ok (.bipush 96, 2) := by decide +kernel
theorem dX12_init_623 : decode cX12_init 623 = .ok (.bipush 121, 2) := by decide +kernel
theorem dX12_init_625 : decode cX12_init 625 = .ok (.bastore, 1) := by decide +kernel
theorem dX12_init_626 : decode cX12_init 626 = .ok (.dup, 1) := by decide +kernel
theorem dX12_init_627 : decode cX12_init 627 = .ok (.bipush 97, 2) := by decide +kernel
theorem dX12_init_629 : decode cX12_init 629 = .ok (.bipush 32, 2) := by decide +kernel
theorem dX12_init_631 : decode cX12_init 631 = .ok (.bastore, 1) := by decide +kernel
theorem dX12_init_632 : decode cX12_init 632 = .ok (.dup, 1) := by decide +kernel
theorem dX12_init_633 : decode cX12_init 633 = .ok (.bipush 98, 2) := by decide +kernel
theorem dX12_init_635 : decode cX12_init 635 = .ok (.bipush 97, 2) := by decide +kernel
theorem dX12_init_637 : decode cX12_init 637 = .ok (.bastore, 1) := by decide +kernel
theorem dX12_init_638 : decode cX12_init 638 = .ok (.dup, 1) := by decide +kernel
theorem dX12_init_639 : decode cX12_init 639 = .ok (.bipush 99, 2) := by decide +kernel
theorem dX12_init_641 : decode cX12_init 641 = .ok (.bipush 116, 2) := by decide +kernel
theorem dX12_init_643 : decode cX12_init 643 = .ok (.bastore, 1) := by decide +kernel
theorem dX12_init_644 : decode cX12_init 644 = .ok (.dup, 1) := by decide +kernel
theorem dX12_init_645 : decode cX12_init 645 = .ok (.bipush 100, 2) := by decide +kernel
theorem dX12_init_647 : decode cX12_init 647 = .ok (.bipush 32, 2) := by decide +kernel
theorem dX12_init_649 : decode cX12_init 649 = .ok (.bastore, 1) := by decide +kernel
theorem dX12_init_650 : decode cX12_init 650 = .ok (.dup, 1) := by decide +kernel
theorem dX12_init_651 : decode cX12_init 651 = .ok (.bipush 101, 2) := by decide +kernel
theorem dX12_init_653 : decode cX12_init 653 = .ok (.bipush 98, 2) := by decide +kernel
theorem dX12_init_655 : decode cX12_init 655 = .ok (.bastore, 1) := by decide +kernel
theorem dX12_init_656 : decode cX12_init 656 = .ok (.dup, 1) := by decide +kernel
theorem dX12_init_657 : decode cX12_init 657 = .ok (.bipush 102, 2) := by decide +kernel
theorem dX12_init_659 : decode cX12_init 659 = .ok (.bipush 121, 2) := by decide +kernel
theorem dX12_init_661 : decode cX12_init 661 = .ok (.bastore, 1) := by decide +kernel
theorem dX12_init_662 : decode cX12_init 662 = .ok (.dup, 1) := by decide +kernel
theorem dX12_init_663 : decode cX12_init 663 = .ok (.bipush 103, 2) := by decide +kernel
theorem dX12_init_665 : decode cX12_init 665 = .ok (.bipush 32, 2) := by decide +kernel
theorem dX12_init_667 : decode cX12_init 667 = .ok (.bastore, 1) := by decide +kernel
theorem dX12_init_668 : decode cX12_init 668 = .ok (.dup, 1) := by decide +kernel
theorem dX12_init_669 : decode cX12_init 669 = .ok (.bipush 104, 2) := by decide +kernel
theorem dX12_init_671 : decode cX12_init 671 = .ok (.bipush 114, 2) := by decide +kernel
theorem dX12_init_673 : decode cX12_init 673 = .ok (.bastore, 1) := by decide +kernel
theorem dX12_init_674 : decode cX12_init 674 = .ok (.dup, 1) := by decide +kernel
theorem dX12_init_675 : decode cX12_init 675 = .ok (.bipush 105, 2) := by decide +kernel
theorem dX12_init_677 : decode cX12_init 677 = .ok (.bipush 111, 2) := by decide +kernel
theorem dX12_init_679 : decode cX12_init 679 = .ok (.bastore, 1) := by decide +kernel
theorem dX12_init_680 : decode cX12_init 680 = .ok (.dup, 1) := by decide +kernel
theorem dX12_init_681 : decode cX12_init 681 = .ok (.bipush 106, 2) := by decide +kernel
theorem dX12_init_683 : decode cX12_init 683 = .ok (.bipush 108, 2) := by decide +kernel
theorem dX12_init_685 : decode cX12_init 685 = .ok (.bastore, 1) := by decide +kernel
theorem dX12_init_686 : decode cX12_init 686 = .ok (.dup, 1) := by decide +kernel
theorem dX12_init_687 : decode cX12_init 687 = .ok (.bipush 107, 2) := by decide +kernel
theorem dX12_init_689 : decode cX12_init 689 = .ok (.bipush 108, 2) := by decide +kernel
theorem dX12_init_691 : decode cX12_init 691 = .ok (.bastore, 1) := by decide +kernel
theorem dX12_init_692 : decode cX12_init 692 = .ok (.dup, 1) := by decide +kernel
theorem dX12_init_693 : decode cX12_init 693 = .ok (.bipush 108, 2) := by decide +kernel
theorem dX12_init_695 : decode cX12_init 695 = .ok (.bipush 32, 2) := by decide +kernel
theorem dX12_init_697 : decode cX12_init 697 = .ok (.bastore, 1) := by decide +kernel
theorem dX12_init_698 : decode cX12_init 698 = .ok (.dup, 1) := by decide +kernel
theorem dX12_init_699 : decode cX12_init 699 = .ok (.bipush 109, 2) := by decide +kernel
theorem dX12_init_701 : decode cX12_init 701 = .ok (.bipush 109, 2) := by decide +kernel
theorem dX12_init_703 : decode cX12_init 703 = .ok (.bastore, 1) := by decide +kernel
theorem dX12_init_704 : decode cX12_init 704 = .ok (.dup, 1) := by decide +kernel
theorem dX12_init_705 : decode cX12_init 705 = .ok (.bipush 110, 2) := by decide +kernel
theorem dX12_init_707 : decode cX12_init 707 = .ok (.bipush 105, 2) := by decide +kernel
theorem dX12_init_709 : decode cX12_init 709 = .ok (.bastore, 1) := by decide +kernel
theorem dX12_init_710 : decode cX12_init 710 = .ok (.dup, 1) := by decide +kernel
theorem dX12_init_711 : decode cX12_init 711 = .ok (.bipush 111, 2) := by decide +kernel
theorem dX12_init_713 : decode cX12_init 713 = .ok (.bipush 114, 2) := by decide +kernel
theorem dX12_init_715 : decode cX12_init 715 = .ok (.bastore, 1) := by decide +kernel
theorem dX12_init_716 : decode cX12_init 716 = .ok (.dup, 1) := by decide +kernel
theorem dX12_init_717 : decode cX12_init 717 = .ok (.bipush 112, 2) := by decide +kernel
theorem dX12_init_719 : decode cX12_init 719 = .ok (.bipush 114, 2) := by decide +kernel
theorem dX12_init_721 : decode cX12_init 721 = .ok (.bastore, 1) := by decide +kernel
theorem dX12_init_722 : decode cX12_init 722 = .ok (.dup, 1) := by decide +kernel
theorem dX12_init_723 : decode cX12_init 723 = .ok (.bipush 113, 2) := by decide +kernel
theorem dX12_init_725 : decode cX12_init 725 = .ok (.bipush 111, 2) := by decide +kernel
theorem dX12_init_727 : decode cX12_init 727 = .ok (.bastore, 1) := by decide +kernel
theorem dX12_init_728 : decode cX12_init 728 = .ok (.dup, 1) := by decide +kernel
theorem dX12_init_729 : decode cX12_init 729 = .ok (.bipush 114, 2) := by decide +kernel
theorem dX12_init_731 : decode cX12_init 731 = .ok (.bipush 114, 2) := by decide +kernel
theorem dX12_init_733 : decode cX12_init 733 = .ok (.bastore, 1) := by decide +kernel
theorem dX12_init_734 : decode cX12_init 734 = .ok (.dup, 1) := by decide +kernel
theorem dX12_init_735 : decode cX12_init 735 = .ok (.bipush 115, 2) := by decide +kernel
theorem dX12_init_737 : decode cX12_init 737 = .ok (.bipush 32, 2) := by decide +kernel
theorem dX12_init_739 : decode cX12_init 739 = .ok (.bastore, 1) := by decide +kernel
theorem dX12_init_740 : decode cX12_init 740 = .ok (.dup, 1) := by decide +kernel
theorem dX12_init_741 : decode cX12_init 741 = .ok (.bipush 116, 2) := by decide +kernel
theorem dX12_init_743 : decode cX12_init 743 = .ok (.bipush 112, 2) := by decide +kernel
theorem dX12_init_745 : decode cX12_init 745 = .ok (.bastore, 1) := by decide +kernel
theorem dX12_init_746 : decode cX12_init 746 = .ok (.dup, 1) := by decide +kernel
theorem dX12_init_747 : decode cX12_init 747 = .ok (.bipush 117, 2) := by decide +kernel
theorem dX12_init_749 : decode cX12_init 749 = .ok (.bipush 97, 2) := by decide +kernel
theorem dX12_init_751 : decode cX12_init 751 = .ok (.bastore, 1) := by decide +kernel
theorem dX12_init_752 : decode cX12_init 752 = .ok (.dup, 1) := by decide +kernel
theorem dX12_init_753 : decode cX12_init 753 = .ok (.bipush 118, 2) := by decide +kernel
theorem dX12_init_755 : decode cX12_init 755 = .ok (.bipush 115, 2) := by decide +kernel
theorem dX12_init_757 : decode cX12_init 757 = .ok (.bastore, 1) := by decide +kernel
theorem dX12_init_758 : decode cX12_init 758 = .ok (.dup, 1) := by decide +kernel
theorem dX12_init_759 : decode cX12_init 759 = .ok (.bipush 119, 2) := by decide +kernel
theorem dX12_init_761 : decode cX12_init 761 = .ok (.bipush 115, 2) := by decide +kernel
theorem dX12_init_763 : decode cX12_init 763 = .ok (.bastore, 1) := by decide +kernel
theorem dX12_init_764 : decode cX12_init 764 = .ok (.dup, 1) := by decide +kernel
theorem dX12_init_765 : decode cX12_init 765 = .ok (.bipush 120, 2) := by decide +kernel
theorem dX12_init_767 : decode cX12_init 767 = .ok (.bipush 32, 2) := by decide +kernel
theorem dX12_init_769 : decode cX12_init 769 = .ok (.bastore, 1) := by decide +kernel
theorem dX12_init_770 : decode cX12_init 770 = .ok (.dup, 1) := by decide +kernel
theorem dX12_init_771 : decode cX12_init 771 = .ok (.bipush 121, 2) := by decide +kernel
theorem dX12_init_773 : decode cX12_init 773 = .ok (.bipush 116, 2) := by decide +kernel
theorem dX12_init_775 : decode cX12_init 775 = .ok (.bastore, 1) := by decide +kernel
theorem dX12_init_776 : decode cX12_init 776 = .ok (.dup, 1) := by decide +kernel
theorem dX12_init_777 : decode cX12_init 777 = .ok (.bipush 122, 2) := by decide +kernel
theorem dX12_init_779 : decode cX12_init 779 = .ok (.bipush 105, 2) := by decide +kernel
theorem dX12_init_781 : decode cX12_init 781 = .ok (.bastore, 1) := by decide +kernel
theorem dX12_init_782 : decode cX12_init 782 = .ok (.dup, 1) := by decide +kernel
theorem dX12_init_783 : decode cX12_init 783 = .ok (.bipush 123, 2) := by decide +kernel
theorem dX12_init_785 : decode cX12_init 785 = .ok (.bipush 109, 2) := by decide +kernel
theorem dX12_init_787 : decode cX12_init 787 = .ok (.bastore, 1) := by decide +kernel
theorem dX12_init_788 : decode cX12_init 788 = .ok (.dup, 1) := by decide +kernel
theorem dX12_init_789 : decode cX12_init 789 = .ok (.bipush 124, 2) := by decide +kernel
theorem dX12_init_791 : decode cX12_init 791 = .ok (.bipush 101, 2) := by decide +kernel
theorem dX12_init_793 : decode cX12_init 793 = .ok (.bastore, 1) := by decide +kernel
theorem dX12_init_794 : decode cX12_init 794 = .ok (.dup, 1) := by decide +kernel
theorem dX12_init_795 : decode cX12_init 795 = .ok (.bipush 125, 2) := by decide +kernel
theorem dX12_init_797 : decode cX12_init 797 = .ok (.bipush 115, 2) := by decide +kernel
theorem dX12_init_799 : decode cX12_init 799 = .ok (.bastore, 1) := by decide +kernel
theorem dX12_init_800 : decode cX12_init 800 = .ok (.dup, 1) := by decide +kernel
theorem dX12_init_801 : decode cX12_init 801 = .ok (.bipush 126, 2) := by decide +kernel
theorem dX12_init_803 : decode cX12_init 803 = .ok (.bipush 32, 2) := by decide +kernel
theorem dX12_init_805 : decode cX12_init 805 = .ok (.bastore, 1) := by decide +kernel
theorem dX12_init_806 : decode cX12_init 806 = .ok (.putfield 41, 3) := by decide +kernel
theorem dX12_init_809 : decode cX12_init 809 = .ok (.aload_n 0, 1) := by decide +kernel
theorem dX12_init_810 : decode cX12_init 810 = .ok (.sipush 400, 3) := by decide +kernel
theorem dX12_init_813 : decode cX12_init 813 = .ok (.newarray .byte, 2) := by decide +kernel
theorem dX12_init_815 : decode cX12_init 815 = .ok (.putfield 45, 3) := by decide +kernel
theorem dX12_init_818 : decode cX12_init 818 = .ok (.aload_n 0, 1) := by decide +kernel
theorem dX12_init_819 : decode cX12_init 819 = .ok (.iconst 5, 1) := by decide +kernel
theorem dX12_init_820 : decode cX12_init 820 = .ok (.newarray .int, 2) := by decide +kernel
theorem dX12_init_822 : decode cX12_init 822 = .ok (.putfield 48, 3) := by decide +kernel
theorem dX12_init_825 : decode cX12_init 825 = .ok (.aload_n 0, 1) := by decide +kernel
theorem dX12_init_826 : decode cX12_init 826 = .ok (.iconst (-1), 1) := by decide +kernel
theorem dX12_init_827 : decode cX12_init 827 = .ok (.putfield 51, 3) := by decide +kernel
theorem dX12_init_830 : decode cX12_init 830 = .ok (.aload_n 0, 1) := by decide +kernel
theorem dX12_init_831 : decode cX12_init 831 = .ok (.sipush 401, 3) := by decide +kernel
theorem dX12_init_834 : decode cX12_init 834 = .ok (.newarray .int, 2) := by decide +kernel
theorem dX12_init_836 : decode cX12_init 836 = .ok (.putfield 54, 3) := by decide +kernel
theorem dX12_init_839 : decode cX12_init 839 = .ok (.aload_n 0, 1) := by decide +kernel
theorem dX12_init_840 : decode cX12_init 840 = .ok (.sipush 401, 3) := by decide +kernel
theorem dX12_init_843 : decode cX12_init 843 = .ok (.newarray .int, 2) := by decide +kernel
theorem dX12_init_845 : decode cX12_init 845 = .ok (.putfield 57, 3) := by decide +kernel
theorem dX12_init_848 : decode cX12_init 848 = .ok (.aload_n 0, 1) := by decide +kernel
theorem dX12_init_849 : decode cX12_init 849 = .ok (.sipush 401, 3) := by decide +kernel
theorem dX12_init_852 : decode cX12_init 852 = .ok (.newarray .int, 2) := by decide +kernel
theorem dX12_init_854 : decode cX12_init 854 = .ok (.putfield 60, 3) := by decide +kernel
theorem dX12_init_857 : decode cX12_init 857 = .ok (.aload_n 0, 1) := by decide +kernel
theorem dX12_init_858 : decode cX12_init 858 = .ok (.bipush 8, 2) := by decide +kernel
theorem dX12_init_860 : decode cX12_init 860 = .ok (.newarray .int, 2) := by decide +kernel
theorem dX12_init_862 : decode cX12_init 862 = .ok (.putfield 63, 3) := by decide +kernel
theorem dX12_init_865 : decode cX12_init 865 = .ok (.aload_n 0, 1) := by decide +kernel
theorem dX12_init_866 : decode cX12_init 866 = .ok (.bipush 12, 2) := by decide +kernel
theorem dX12_init_868 : decode cX12_init 868 = .ok (.newarray .int, 2) := by decide +kernel
theorem dX12_init_870 : decode cX12_init 870 = .ok (.putfield 66, 3) := by decide +kernel
theorem dX12_init_873 : decode cX12_init 873 = .ok (.aload_n 0, 1) := by decide +kernel
theorem dX12_init_874 : decode cX12_init 874 = .ok (.bipush 9, 2) := by decide +kernel
theorem dX12_init_876 : decode cX12_init 876 = .ok (.newarray .int, 2) := by decide +kernel
theorem dX12_init_878 : decode cX12_init 878 = .ok (.putfield 69, 3) := by decide +kernel
theorem dX12_init_881 : decode cX12_init 881 = .ok (.aload_n 0, 1) := by decide +kernel
theorem dX12_init_882 : decode cX12_init 882 = .ok (.sipush 480, 3) := by decide +kernel
theorem dX12_init_885 : decode cX12_init 885 = .ok (.newarray .int, 2) := by decide +kernel
theorem dX12_init_887 : decode cX12_init 887 = .ok (.putfield 72, 3) := by decide +kernel
theorem dX12_init_890 : decode cX12_init 890 = .ok (.aload_n 0, 1) := by decide +kernel
theorem dX12_init_891 : decode cX12_init 891 = .ok (.sipush 480, 3) := by decide +kernel
theorem dX12_init_894 : decode cX12_init 894 = .ok (.newarray .int, 2) := by decide +kernel
theorem dX12_init_896 : decode cX12_init 896 = .ok (.putfield 75, 3) := by decide +kernel
theorem dX12_init_899 : decode cX12_init 899 = .ok (.aload_n 0, 1) := by decide +kernel
theorem dX12_init_900 : decode cX12_init 900 = .ok (.sipush 1296, 3) := by decide +kernel
theorem dX12_init_903 : decode cX12_init 903 = .ok (.newarray .int, 2) := by decide +kernel
theorem dX12_init_905 : decode cX12_init 905 = .ok (.putfield 78, 3) := by decide +kernel
theorem dX12_init_908 : decode cX12_init 908 = .ok (.aload_n 0, 1) := by decide +kernel
theorem dX12_init_909 : decode cX12_init 909 = .ok (.bipush 9, 2) := by decide +kernel
theorem dX12_init_911 : decode cX12_init 911 = .ok (.newarray .int, 2) := by decide +kernel
theorem dX12_init_913 : decode cX12_init 913 = .ok (.putfield 81, 3) := by decide +kernel
theorem dX12_init_916 : decode cX12_init 916 = .ok (.aload_n 0, 1) := by decide +kernel
theorem dX12_init_917 : decode cX12_init 917 = .ok (.bipush 9, 2) := by decide +kernel
theorem dX12_init_919 : decode cX12_init 919 = .ok (.newarray .int, 2) := by decide +kernel
theorem dX12_init_921 : decode cX12_init 921 = .ok (.putfield 84, 3) := by decide +kernel
theorem dX12_init_924 : decode cX12_init 924 = .ok (.aload_n 0, 1) := by decide +kernel
theorem dX12_init_925 : decode cX12_init 925 = .ok (.bipush 9, 2) := by decide +kernel
theorem dX12_init_927 : decode cX12_init 927 = .ok (.newarray .int, 2) := by decide +kernel
theorem dX12_init_929 : decode cX12_init 929 = .ok (.putfield 87, 3) := by decide +kernel
theorem dX12_init_932 : decode cX12_init 932 = .ok (.aload_n 0, 1) := by decide +kernel
theorem dX12_init_933 : decode cX12_init 933 = .ok (.sipush 1296, 3) := by decide +kernel
theorem dX12_init_936 : decode cX12_init 936 = .ok (.newarray .int, 2) := by decide +kernel
theorem dX12_init_938 : decode cX12_init 938 = .ok (.putfield 90, 3) := by decide +kernel
theorem dX12_init_941 : decode cX12_init 941 = .ok (.aload_n 0, 1) := by decide +kernel
theorem dX12_init_942 : decode cX12_init 942 = .ok (.bipush 21, 2) := by decide +kernel
theorem dX12_init_944 : decode cX12_init 944 = .ok (.newarray .long, 2) := by decide +kernel
theorem dX12_init_946 : decode cX12_init 946 = .ok (.putfield 93, 3) := by decide +kernel
theorem dX12_init_949 : decode cX12_init 949 = .ok (.aload_n 0, 1) := by decide +kernel
theorem dX12_init_950 : decode cX12_init 950 = .ok (.iconst (-1), 1) := by decide +kernel
theorem dX12_init_951 : decode cX12_init 951 = .ok (.putfield 97, 3) := by decide +kernel
theorem dX12_init_954 : decode cX12_init 954 = .ok (.aload_n 0, 1) := by decide +kernel
theorem dX12_init_955 : decode cX12_init 955 = .ok (.iconst 3, 1) := by decide +kernel
theorem dX12_init_956 : decode cX12_init 956 = .ok (.newarray .long, 2) := by decide +kernel
theorem dX12_init_958 : decode cX12_init 958 = .ok (.putfield 100, 3) := by decide +kernel
theorem dX12_init_961 : decode cX12_init 961 = .ok (.aload_n 0, 1) := by decide +kernel
theorem dX12_init_962 : decode cX12_init 962 = .ok (.bipush 29, 2) := by decide +kernel
theorem dX12_init_964 : decode cX12_init 964 = .ok (.newarray .int, 2) := by decide +kernel
theorem dX12_init_966 : decode cX12_init 966 = .ok (.putfield 103, 3) := by decide +kernel
theorem dX12_init_969 : decode cX12_init 969 = .ok (.aload_n 0, 1) := by decide +kernel
theorem dX12_init_970 : decode cX12_init 970 = .ok (.iconst (-1), 1) := by decide +kernel
theorem dX12_init_971 : decode cX12_init 971 = .ok (.putfield 106, 3) := by decide +kernel
theorem dX12_init_974 : decode cX12_init 974 = .ok (.aload_n 0, 1) := by decide +kernel
theorem dX12_init_975 : decode cX12_init 975 = .ok (.getfield 28, 3) := by decide +kernel
theorem dX12_init_978 : decode cX12_init 978 = .ok (.bipush 65, 2) := by decide +kernel
theorem dX12_init_980 : decode cX12_init 980 = .ok (.iconst 1, 1) := by decide +kernel
theorem dX12_init_981 : decode cX12_init 981 = .ok (.iastore, 1) := by decide +kernel
theorem dX12_init_982 : decode cX12_init 982 = .ok (.aload_n 0, 1) := by decide +kernel
theorem dX12_init_983 : decode cX12_init 983 = .ok (.getfield 28, 3) := by decide +kernel
theorem dX12_init_986 : decode cX12_init 986 = .ok (.bipush 67, 2) := by decide +kernel
theorem dX12_init_988 : decode cX12_init 988 = .ok (.bipush 8, 2) := by decide +kernel
theorem dX12_init_990 : decode cX12_init 990 = .ok (.iastore, 1) := by decide +kernel
theorem dX12_init_991 : decode cX12_init 991 = .ok (.aload_n 0, 1) := by decide +kernel
theorem dX12_init_992 : decode cX12_init 992 = .ok (.getfield 28, 3) := by decide +kernel
theorem dX12_init_995 : decode cX12_init 995 = .ok (.bipush 68, 2) := by decide +kernel
theorem dX12_init_997 : decode cX12_init 997 = .ok (.bipush 8, 2) := by decide +kernel
theorem dX12_init_999 : decode cX12_init 999 = .ok (.iastore, 1) := by decide +kernel
theorem dX12_init_1000 : decode cX12_init 1000 = .ok (.aload_n 0, 1) := by decide +kernel
theorem dX12_init_1001 : decode cX12_init 1001 = .ok (.getfield 28, 3) := by decide +kernel
theorem dX12_init_1004 : decode cX12_init 1004 = .ok (.bipush 72, 2) := by decide +kernel
theorem dX12_init_1006 : decode cX12_init 1006 = .ok (.iconst (-1), 1) := by decide +kernel
theorem dX12_init_1007 : decode cX12_init 1007 = .ok (.iastore, 1) := by decide +kernel
theorem dX12_init_1008 : decode cX12_init 1008 = .ok (.return_, 1) := by decide +kernel
theorem dX12_laysAside_0 : decode cX12_laysAside 0 = .ok (.iconst 0, 1) := by decide +kernel
theorem dX12_laysAside_1 : decode cX12_laysAside 1 = .ok (.istore_n 2, 1) := by decide +kernel
theorem dX12_laysAside_2 : decode cX12_laysAside 2 = .ok (.iload_n 2, 1) := by decide +kernel
theorem dX12_laysAside_3 : decode cX12_laysAside 3 = .ok (.bipush 29, 2) := by decide +kernel
theorem dX12_laysAside_5 : decode cX12_laysAside 5 = .ok (.if_icmp .ge 26, 3) := by decide +kernel
theorem dX12_laysAside_8 : decode cX12_laysAside 8 = .ok (.aload_n 0, 1) := by decide +kernel
theorem dX12_laysAside_9 : decode cX12_laysAside 9 = .ok (.getfield 38, 3) := by decide +kernel
theorem dX12_laysAside_12 : decode cX12_laysAside 12 = .ok (.bipush 29, 2) := by decide +kernel
theorem dX12_laysAside_14 : decode cX12_laysAside 14 = .ok (.iload_n 1, 1) := by decide +kernel
theorem dX12_laysAside_15 : decode cX12_laysAside 15 = .ok (.imul, 1) := by decide +kernel
theorem dX12_laysAside_16 : decode cX12_laysAside 16 = .ok (.iload_n 2, 1) := by decide +kernel
theorem dX12_laysAside_17 : decode cX12_laysAside 17 = .ok (.iadd, 1) := by decide +kernel
theorem dX12_laysAside_18 : decode cX12_laysAside 18 = .ok (.aload_n 0, 1) := by decide +kernel
theorem dX12_laysAside_19 : decode cX12_laysAside 19 = .ok (.getfield 28, 3) := by decide +kernel
theorem dX12_laysAside_22 : decode cX12_laysAside 22 = .ok (.iload_n 2, 1) := by decide +kernel
theorem dX12_laysAside_23 : decode cX12_laysAside 23 = .ok (.iaload, 1) := by decide +kernel
theorem dX12_laysAside_24 : decode cX12_laysAside 24 = .ok (.iastore, 1) := by decide +kernel
theorem dX12_laysAside_25 : decode cX12_laysAside 25 = .ok (.iinc 2 1, 3) := by decide +kernel
theorem dX12_laysAside_28 : decode cX12_laysAside 28 = .ok (.goto (-26), 3) := by decide +kernel
theorem dX12_laysAside_31 : decode cX12_laysAside 31 = .ok (.return_, 1) := by decide +kernel
theorem dX12_takesBack_0 : decode cX12_takesBack 0 = .ok (.iconst 0, 1) := by decide +kernel
theorem dX12_takesBack_1 : decode cX12_takesBack 1 = .ok (.istore_n 2, 1) := by decide +kernel
theorem dX12_takesBack_2 : decode cX12_takesBack 2 = .ok (.iload_n 2, 1) := by decide +kernel
theorem dX12_takesBack_3 : decode cX12_takesBack 3 = .ok (.bipush 29, 2) := by decide +kernel
theorem dX12_takesBack_5 : decode cX12_takesBack 5 = .ok (.if_icmp .ge 26, 3) := by decide +kernel
theorem dX12_takesBack_8 : decode cX12_takesBack 8 = .ok (.aload_n 0, 1) := by decide +kernel
theorem dX12_takesBack_9 : decode cX12_takesBack 9 = .ok (.getfield 28, 3) := by decide +kernel
theorem dX12_takesBack_12 : decode cX12_takesBack 12 = .ok (.iload_n 2, 1) := by decide +kernel
theorem dX12_takesBack_13 : decode cX12_takesBack 13 = .ok (.aload_n 0, 1) := by decide +kernel
theorem dX12_takesBack_14 : decode cX12_takesBack 14 = .ok (.getfield 38, 3) := by decide +kernel
theorem dX12_takesBack_17 : decode cX12_takesBack 17 = .ok (.bipush 29, 2) := by decide +kernel
theorem dX12_takesBack_19 : decode cX12_takesBack 19 = .ok (.iload_n 1, 1) := by decide +kernel
theorem dX12_takesBack_20 : decode cX12_takesBack 20 = .ok (.imul, 1) := by decide +kernel
theorem dX12_takesBack_21 : decode cX12_takesBack 21 = .ok (.iload_n 2, 1) := by decide +kernel
theorem dX12_takesBack_22 : decode cX12_takesBack 22 = .ok (.iadd, 1) := by decide +kernel
theorem dX12_takesBack_23 : decode cX12_takesBack 23 = .ok (.iaload, 1) := by decide +kernel
theorem dX12_takesBack_24 : decode cX12_takesBack 24 = .ok (.iastore, 1) := by decide +kernel
theorem dX12_takesBack_25 : decode cX12_takesBack 25 = .ok (.iinc 2 1, 3) := by decide +kernel
theorem dX12_takesBack_28 : decode cX12_takesBack 28 = .ok (.goto (-26), 3) := by decide +kernel
theorem dX12_takesBack_31 : decode cX12_takesBack 31 = .ok (.return_, 1) := by decide +kernel
theorem dX12_image_0 : decode cX12_image 0 = .ok (.iload_n 1, 1) := by decide +kernel
theorem dX12_image_1 : decode cX12_image 1 = .ok (.iconst 0, 1) := by decide +kernel
theorem dX12_image_2 : decode cX12_image 2 = .ok (.iconst 1, 1) := by decide +kernel
theorem dX12_image_3 : decode cX12_image 3 = .ok (.invokestatic 18, 3) := by decide +kernel
theorem dX12_image_6 : decode cX12_image 6 = .ok (.ifCond .ne 9, 3) := by decide +kernel
theorem dX12_image_9 : decode cX12_image 9 = .ok (.aload_n 0, 1) := by decide +kernel
theorem dX12_image_10 : decode cX12_image 10 = .ok (.iconst (-1), 1) := by decide +kernel
theorem dX12_image_11 : decode cX12_image 11 = .ok (.invokevirtual 109, 3) := by decide +kernel
theorem dX12_image_14 : decode cX12_image 14 = .ok (.ireturn, 1) := by decide +kernel
theorem dX12_image_15 : decode cX12_image 15 = .ok (.iconst 0, 1) := by decide +kernel
theorem dX12_image_16 : decode cX12_image 16 = .ok (.istore_n 2, 1) := by decide +kernel
theorem dX12_image_17 : decode cX12_image 17 = .ok (.iload_n 2, 1) := by decide +kernel
theorem dX12_image_18 : decode cX12_image 18 = .ok (.sipush 5680, 3) := by decide +kernel
theorem dX12_image_21 : decode cX12_image 21 = .ok (.if_icmp .ge 27, 3) := by decide +kernel
theorem dX12_image_24 : decode cX12_image 24 = .ok (.aload_n 0, 1) := by decide +kernel
theorem dX12_image_25 : decode cX12_image 25 = .ok (.getfield 31, 3) := by decide +kernel
theorem dX12_image_28 : decode cX12_image 28 = .ok (.sipush 5680, 3) := by decide +kernel
theorem dX12_image_31 : decode cX12_image 31 = .ok (.iload_n 1, 1) := by decide +kernel
theorem dX12_image_32 : decode cX12_image 32 = .ok (.imul, 1) := by decide +kernel
theorem dX12_image_33 : decode cX12_image 33 = .ok (.iload_n 2, 1) := by decide +kernel
theorem dX12_image_34 : decode cX12_image 34 = .ok (.iadd, 1) := by decide +kernel
theorem dX12_image_35 : decode cX12_image 35 = .ok (.aload_n 0, 1) := by decide +kernel
theorem dX12_image_36 : decode cX12_image 36 = .ok (.getfield 28, 3) := by decide +kernel
theorem dX12_image_39 : decode cX12_image 39 = .ok (.iload_n 2, 1) := by decide +kernel
theorem dX12_image_40 : decode cX12_image 40 = .ok (.iaload, 1) := by decide +kernel
theorem dX12_image_41 : decode cX12_image 41 = .ok (.iastore, 1) := by decide +kernel
theorem dX12_image_42 : decode cX12_image 42 = .ok (.iinc 2 1, 3) := by decide +kernel
theorem dX12_image_45 : decode cX12_image 45 = .ok (.goto (-28), 3) := by decide +kernel
theorem dX12_image_48 : decode cX12_image 48 = .ok (.aload_n 0, 1) := by decide +kernel
theorem dX12_image_49 : decode cX12_image 49 = .ok (.getfield 34, 3) := by decide +kernel
theorem dX12_image_52 : decode cX12_image 52 = .ok (.iload_n 1, 1) := by decide +kernel
theorem dX12_image_53 : decode cX12_image 53 = .ok (.iconst 1, 1) := by decide +kernel
theorem dX12_image_54 : decode cX12_image 54 = .ok (.bastore, 1) := by decide +kernel
theorem dX12_image_55 : decode cX12_image 55 = .ok (.aload_n 0, 1) := by decide +kernel
theorem dX12_image_56 : decode cX12_image 56 = .ok (.iconst 0, 1) := by decide +kernel
theorem dX12_image_57 : decode cX12_image 57 = .ok (.invokevirtual 14, 3) := by decide +kernel
theorem dX12_image_60 : decode cX12_image 60 = .ok (.ireturn, 1) := by decide +kernel
theorem dX12_back_0 : decode cX12_back 0 = .ok (.iload_n 1, 1) := by decide +kernel
theorem dX12_back_1 : decode cX12_back 1 = .ok (.iconst 0, 1) := by decide +kernel
theorem dX12_back_2 : decode cX12_back 2 = .ok (.iconst 1, 1) := by decide +kernel
theorem dX12_back_3 : decode cX12_back 3 = .ok (.invokestatic 18, 3) := by decide +kernel
theorem dX12_back_6 : decode cX12_back 6 = .ok (.ifCond .ne 9, 3) := by decide +kernel
theorem dX12_back_9 : decode cX12_back 9 = .ok (.aload_n 0, 1) := by decide +kernel
theorem dX12_back_10 : decode cX12_back 10 = .ok (.iconst (-1), 1) := by decide +kernel
theorem dX12_back_11 : decode cX12_back 11 = .ok (.invokevirtual 109, 3) := by decide +kernel
theorem dX12_back_14 : decode cX12_back 14 = .ok (.ireturn, 1) := by decide +kernel
theorem dX12_back_15 : decode cX12_back 15 = .ok (.aload_n 0, 1) := by decide +kernel
theorem dX12_back_16 : decode cX12_back 16 = .ok (.getfield 34, 3) := by decide +kernel
theorem dX12_back_19 : decode cX12_back 19 = .ok (.iload_n 1, 1) := by decide +kernel
theorem dX12_back_20 : decode cX12_back 20 = .ok (.baload, 1) := by decide +kernel
theorem dX12_back_21 : decode cX12_back 21 = .ok (.ifCond .ne 10, 3) := by decide +kernel
theorem dX12_back_24 : decode cX12_back 24 = .ok (.aload_n 0, 1) := by decide +kernel
theorem dX12_back_25 : decode cX12_back 25 = .ok (.bipush (-2), 2) := by decide +kernel
theorem dX12_back_27 : decode cX12_back 27 = .ok (.invokevirtual 109, 3) := by decide +kernel
theorem dX12_back_30 : decode cX12_back 30 = .ok (.ireturn, 1) := by decide +kernel
theorem dX12_back_31 : decode cX12_back 31 = .ok (.iconst 0, 1) := by decide +kernel
theorem dX12_back_32 : decode cX12_back 32 = .ok (.istore_n 2, 1) := by decide +kernel
theorem dX12_back_33 : decode cX12_back 33 = .ok (.iload_n 2, 1) := by decide +kernel
theorem dX12_back_34 : decode cX12_back 34 = .ok (.sipush 5680, 3) := by decide +kernel
theorem dX12_back_37 : decode cX12_back 37 = .ok (.if_icmp .ge 27, 3) := by decide +kernel
theorem dX12_back_40 : decode cX12_back 40 = .ok (.aload_n 0, 1) := by decide +kernel
theorem dX12_back_41 : decode cX12_back 41 = .ok (.getfield 28, 3) := by decide +kernel
theorem dX12_back_44 : decode cX12_back 44 = .ok (.iload_n 2, 1) := by decide +kernel
theorem dX12_back_45 : decode cX12_back 45 = .ok (.aload_n 0, 1) := by decide +kernel
theorem dX12_back_46 : decode cX12_back 46 = .ok (.getfield 31, 3) := by decide +kernel
theorem dX12_back_49 : decode cX12_back 49 = .ok (.sipush 5680, 3) := by decide +kernel
theorem dX12_back_52 : decode cX12_back 52 = .ok (.iload_n 1, 1) := by decide +kernel
theorem dX12_back_53 : decode cX12_back 53 = .ok (.imul, 1) := by decide +kernel
theorem dX12_back_54 : decode cX12_back 54 = .ok (.iload_n 2, 1) := by decide +kernel
theorem dX12_back_55 : decode cX12_back 55 = .ok (.iadd, 1) := by decide +kernel
theorem dX12_back_56 : decode cX12_back 56 = .ok (.iaload, 1) := by decide +kernel
theorem dX12_back_57 : decode cX12_back 57 = .ok (.iastore, 1) := by decide +kernel
theorem dX12_back_58 : decode cX12_back 58 = .ok (.iinc 2 1, 3) := by decide +kernel
theorem dX12_back_61 : decode cX12_back 61 = .ok (.goto (-28), 3) := by decide +kernel
theorem dX12_back_64 : decode cX12_back 64 = .ok (.aload_n 0, 1) := by decide +kernel
theorem dX12_back_65 : decode cX12_back 65 = .ok (.iconst 0, 1) := by decide +kernel
theorem dX12_back_66 : decode cX12_back 66 = .ok (.invokevirtual 112, 3) := by decide +kernel
theorem dX12_back_69 : decode cX12_back 69 = .ok (.ireturn, 1) := by decide +kernel
theorem dX12_many_0 : decode cX12_many 0 = .ok (.aload_n 0, 1) := by decide +kernel
theorem dX12_many_1 : decode cX12_many 1 = .ok (.getfield 28, 3) := by decide +kernel
theorem dX12_many_4 : decode cX12_many 4 = .ok (.bipush 69, 2) := by decide +kernel
theorem dX12_many_6 : decode cX12_many 6 = .ok (.iaload, 1) := by decide +kernel
theorem dX12_many_7 : decode cX12_many 7 = .ok (.ireturn, 1) := by decide +kernel
theorem dX12_isCarpet_0 : decode cX12_isCarpet 0 = .ok (.iload_n 1, 1) := by decide +kernel
theorem dX12_isCarpet_1 : decode cX12_isCarpet 1 = .ok (.iconst 0, 1) := by decide +kernel
theorem dX12_isCarpet_2 : decode cX12_isCarpet 2 = .ok (.aload_n 0, 1) := by decide +kernel
theorem dX12_isCarpet_3 : decode cX12_isCarpet 3 = .ok (.invokevirtual 115, 3) := by decide +kernel
theorem dX12_isCarpet_6 : decode cX12_isCarpet 6 = .ok (.iconst 1, 1) := by decide +kernel
theorem dX12_isCarpet_7 : decode cX12_isCarpet 7 = .ok (.isub, 1) := by decide +kernel
theorem dX12_isCarpet_8 : decode cX12_isCarpet 8 = .ok (.invokestatic 18, 3) := by decide +kernel
theorem dX12_isCarpet_11 : decode cX12_isCarpet 11 = .ok (.ireturn, 1) := by decide +kernel
theorem dX12_isLaid_0 : decode cX12_isLaid 0 = .ok (.aload_n 0, 1) := by decide +kernel
theorem dX12_isLaid_1 : decode cX12_isLaid 1 = .ok (.getfield 28, 3) := by decide +kernel
theorem dX12_isLaid_4 : decode cX12_isLaid 4 = .ok (.bipush 9, 2) := by decide +kernel
theorem dX12_isLaid_6 : decode cX12_isLaid 6 = .ok (.iload_n 1, 1) := by decide +kernel
theorem dX12_isLaid_7 : decode cX12_isLaid 7 = .ok (.iadd, 1) := by decide +kernel
theorem dX12_isLaid_8 : decode cX12_isLaid 8 = .ok (.iaload, 1) := by decide +kernel
theorem dX12_isLaid_9 : decode cX12_isLaid 9 = .ok (.iconst (-1), 1) := by decide +kernel
theorem dX12_isLaid_10 : decode cX12_isLaid 10 = .ok (.if_icmp .eq 7, 3) := by decide +kernel
theorem dX12_isLaid_13 : decode cX12_isLaid 13 = .ok (.iconst 1, 1) := by decide +kernel
theorem dX12_isLaid_14 : decode cX12_isLaid 14 = .ok (.goto 4, 3) := by decide +kernel
theorem dX12_isLaid_17 : decode cX12_isLaid 17 = .ok (.iconst 0, 1) := by decide +kernel
theorem dX12_isLaid_18 : decode cX12_isLaid 18 = .ok (.ireturn, 1) := by decide +kernel
theorem dX12_isWhole_0 : decode cX12_isWhole 0 = .ok (.aload_n 0, 1) := by decide +kernel
theorem dX12_isWhole_1 : decode cX12_isWhole 1 = .ok (.getfield 28, 3) := by decide +kernel
theorem dX12_isWhole_4 : decode cX12_isWhole 4 = .ok (.iconst 0, 1) := by decide +kernel
theorem dX12_isWhole_5 : decode cX12_isWhole 5 = .ok (.iload_n 1, 1) := by decide +kernel
theorem dX12_isWhole_6 : decode cX12_isWhole 6 = .ok (.iadd, 1) := by decide +kernel
theorem dX12_isWhole_7 : decode cX12_isWhole 7 = .ok (.iaload, 1) := by decide +kernel
theorem dX12_isWhole_8 : decode cX12_isWhole 8 = .ok (.ifCond .le 7, 3) := by decide +kernel
theorem dX12_isWhole_11 : decode cX12_isWhole 11 = .ok (.iconst 1, 1) := by decide +kernel
theorem dX12_isWhole_12 : decode cX12_isWhole 12 = .ok (.goto 4, 3) := by decide +kernel
theorem dX12_isWhole_15 : decode cX12_isWhole 15 = .ok (.iconst 0, 1) := by decide +kernel
theorem dX12_isWhole_16 : decode cX12_isWhole 16 = .ok (.ireturn, 1) := by decide +kernel
theorem dX12_canBe_0 : decode cX12_canBe 0 = .ok (.iload_n 0, 1) := by decide +kernel
theorem dX12_canBe_1 : decode cX12_canBe 1 = .ok (.invokestatic 119, 3) := by decide +kernel
theorem dX12_canBe_4 : decode cX12_canBe 4 = .ok (.ifCond .eq 26, 3) := by decide +kernel
theorem dX12_canBe_7 : decode cX12_canBe 7 = .ok (.iload_n 1, 1) := by decide +kernel
theorem dX12_canBe_8 : decode cX12_canBe 8 = .ok (.iconst 0, 1) := by decide +kernel
theorem dX12_canBe_9 : decode cX12_canBe 9 = .ok (.iconst 3, 1) := by decide +kernel
theorem dX12_canBe_10 : decode cX12_canBe 10 = .ok (.invokestatic 18, 3) := by decide +kernel
theorem dX12_canBe_13 : decode cX12_canBe 13 = .ok (.ifCond .eq 17, 3) := by decide +kernel
theorem dX12_canBe_16 : decode cX12_canBe 16 = .ok (.iload_n 2, 1) := by decide +kernel
theorem dX12_canBe_17 : decode cX12_canBe 17 = .ok (.iconst 0, 1) := by decide +kernel
theorem dX12_canBe_18 : decode cX12_canBe 18 = .ok (.bipush 9, 2) := by decide +kernel
theorem dX12_canBe_20 : decode cX12_canBe 20 = .ok (.invokestatic 18, 3) := by decide +kernel
theorem dX12_canBe_23 : decode cX12_canBe 23 = .ok (.ifCond .eq 7, 3) := by decide +kernel
theorem dX12_canBe_26 : decode cX12_canBe 26 = .ok (.iconst 1, 1) := by decide +kernel
theorem dX12_canBe_27 : decode cX12_canBe 27 = .ok (.goto 4, 3) := by decide +kernel
theorem dX12_canBe_30 : decode cX12_canBe 30 = .ok (.iconst 0, 1) := by decide +kernel
theorem dX12_canBe_31 : decode cX12_canBe 31 = .ok (.ireturn, 1) := by decide +kernel
theorem dX12_adds_0 : decode cX12_adds 0 = .ok (.aload_n 0, 1) := by decide +kernel
theorem dX12_adds_1 : decode cX12_adds 1 = .ok (.invokevirtual 115, 3) := by decide +kernel
theorem dX12_adds_4 : decode cX12_adds 4 = .ok (.istore 4, 2) := by decide +kernel
theorem dX12_adds_6 : decode cX12_adds 6 = .ok (.aload_n 0, 1) := by decide +kernel
theorem dX12_adds_7 : decode cX12_adds 7 = .ok (.getfield 28, 3) := by decide +kernel
theorem dX12_adds_10 : decode cX12_adds 10 = .ok (.bipush 29, 2) := by decide +kernel
theorem dX12_adds_12 : decode cX12_adds 12 = .ok (.iload 4, 2) := by decide +kernel
theorem dX12_adds_14 : decode cX12_adds 14 = .ok (.iadd, 1) := by decide +kernel
theorem dX12_adds_15 : decode cX12_adds 15 = .ok (.iload_n 1, 1) := by decide +kernel
theorem dX12_adds_16 : decode cX12_adds 16 = .ok (.iastore, 1) := by decide +kernel
theorem dX12_adds_17 : decode cX12_adds 17 = .ok (.aload_n 0, 1) := by decide +kernel
theorem dX12_adds_18 : decode cX12_adds 18 = .ok (.getfield 28, 3) := by decide +kernel
theorem dX12_adds_21 : decode cX12_adds 21 = .ok (.bipush 38, 2) := by decide +kernel
theorem dX12_adds_23 : decode cX12_adds 23 = .ok (.iload 4, 2) := by decide +kernel
theorem dX12_adds_25 : decode cX12_adds 25 = .ok (.iadd, 1) := by decide +kernel
theorem dX12_adds_26 : decode cX12_adds 26 = .ok (.iload_n 2, 1) := by decide +kernel
theorem dX12_adds_27 : decode cX12_adds 27 = .ok (.iastore, 1) := by decide +kernel
theorem dX12_adds_28 : decode cX12_adds 28 = .ok (.aload_n 0, 1) := by decide +kernel
theorem dX12_adds_29 : decode cX12_adds 29 = .ok (.getfield 28, 3) := by decide +kernel
theorem dX12_adds_32 : decode cX12_adds 32 = .ok (.iconst 0, 1) := by decide +kernel
theorem dX12_adds_33 : decode cX12_adds 33 = .ok (.iload 4, 2) := by decide +kernel
theorem dX12_adds_35 : decode cX12_adds 35 = .ok (.iadd, 1) := by decide +kernel
theorem dX12_adds_36 : decode cX12_adds 36 = .ok (.iload_n 3, 1) := by decide +kernel
theorem dX12_adds_37 : decode cX12_adds 37 = .ok (.iastore, 1) := by decide +kernel
theorem dX12_adds_38 : decode cX12_adds 38 = .ok (.aload_n 0, 1) := by decide +kernel
theorem dX12_adds_39 : decode cX12_adds 39 = .ok (.iload 4, 2) := by decide +kernel
theorem dX12_adds_41 : decode cX12_adds 41 = .ok (.invokevirtual 123, 3) := by decide +kernel
theorem dX12_adds_44 : decode cX12_adds 44 = .ok (.aload_n 0, 1) := by decide +kernel
theorem dX12_adds_45 : decode cX12_adds 45 = .ok (.getfield 28, 3) := by decide +kernel
theorem dX12_adds_48 : decode cX12_adds 48 = .ok (.bipush 69, 2) := by decide +kernel
theorem dX12_adds_50 : decode cX12_adds 50 = .ok (.dup2, 1) := by decide +kernel
theorem dX12_adds_51 : decode cX12_adds 51 = .ok (.iaload, 1) := by decide +kernel
theorem dX12_adds_52 : decode cX12_adds 52 = .ok (.iconst 1, 1) := by decide +kernel
theorem dX12_adds_53 : decode cX12_adds 53 = .ok (.iadd, 1) := by decide +kernel
theorem dX12_adds_54 : decode cX12_adds 54 = .ok (.iastore, 1) := by decide +kernel
theorem dX12_adds_55 : decode cX12_adds 55 = .ok (.return_, 1) := by decide +kernel
theorem dX12_rolls_0 : decode cX12_rolls 0 = .ok (.aload_n 0, 1) := by decide +kernel
theorem dX12_rolls_1 : decode cX12_rolls 1 = .ok (.getfield 28, 3) := by decide +kernel
theorem dX12_rolls_4 : decode cX12_rolls 4 = .ok (.bipush 9, 2) := by decide +kernel
theorem dX12_rolls_6 : decode cX12_rolls 6 = .ok (.iload_n 1, 1) := by decide +kernel
theorem dX12_rolls_7 : decode cX12_rolls 7 = .ok (.iadd, 1) := by decide +kernel
theorem dX12_rolls_8 : decode cX12_rolls 8 = .ok (.iconst (-1), 1) := by decide +kernel
theorem dX12_rolls_9 : decode cX12_rolls 9 = .ok (.iastore, 1) := by decide +kernel
theorem dX12_rolls_10 : decode cX12_rolls 10 = .ok (.aload_n 0, 1) := by decide +kernel
theorem dX12_rolls_11 : decode cX12_rolls 11 = .ok (.getfield 28, 3) := by decide +kernel
theorem dX12_rolls_14 : decode cX12_rolls 14 = .ok (.bipush 18, 2) := by decide +kernel
theorem dX12_rolls_16 : decode cX12_rolls 16 = .ok (.iload_n 1, 1) := by decide +kernel
theorem dX12_rolls_17 : decode cX12_rolls 17 = .ok (.iadd, 1) := by decide +kernel
theorem dX12_rolls_18 : decode cX12_rolls 18 = .ok (.iconst (-1), 1) := by decide +kernel
theorem dX12_rolls_19 : decode cX12_rolls 19 = .ok (.iastore, 1) := by decide +kernel
theorem dX12_rolls_20 : decode cX12_rolls 20 = .ok (.return_, 1) := by decide +kernel
theorem dX12_carpet_0 : decode cX12_carpet 0 = .ok (.iload_n 1, 1) := by decide +kernel
theorem dX12_carpet_1 : decode cX12_carpet 1 = .ok (.iload_n 2, 1) := by decide +kernel
theorem dX12_carpet_2 : decode cX12_carpet 2 = .ok (.iload_n 3, 1) := by decide +kernel
theorem dX12_carpet_3 : decode cX12_carpet 3 = .ok (.invokestatic 127, 3) := by decide +kernel
theorem dX12_carpet_6 : decode cX12_carpet 6 = .ok (.ifCond .ne 9, 3) := by decide +kernel
theorem dX12_carpet_9 : decode cX12_carpet 9 = .ok (.aload_n 0, 1) := by decide +kernel
theorem dX12_carpet_10 : decode cX12_carpet 10 = .ok (.iconst (-1), 1) := by decide +kernel
theorem dX12_carpet_11 : decode cX12_carpet 11 = .ok (.invokevirtual 109, 3) := by decide +kernel
theorem dX12_carpet_14 : decode cX12_carpet 14 = .ok (.ireturn, 1) := by decide +kernel
theorem dX12_carpet_15 : decode cX12_carpet 15 = .ok (.aload_n 0, 1) := by decide +kernel
theorem dX12_carpet_16 : decode cX12_carpet 16 = .ok (.invokevirtual 115, 3) := by decide +kernel
theorem dX12_carpet_19 : decode cX12_carpet 19 = .ok (.bipush 9, 2) := by decide +kernel
theorem dX12_carpet_21 : decode cX12_carpet 21 = .ok (.if_icmp .ne 10, 3) := by decide +kernel
theorem dX12_carpet_24 : decode cX12_carpet 24 = .ok (.aload_n 0, 1) := by decide +kernel
theorem dX12_carpet_25 : decode cX12_carpet 25 = .ok (.bipush (-5), 2) := by decide +kernel
theorem dX12_carpet_27 : decode cX12_carpet 27 = .ok (.invokevirtual 109, 3) := by decide +kernel
theorem dX12_carpet_30 : decode cX12_carpet 30 = .ok (.ireturn, 1) := by decide +kernel
theorem dX12_carpet_31 : decode cX12_carpet 31 = .ok (.aload_n 0, 1) := by decide +kernel
theorem dX12_carpet_32 : decode cX12_carpet 32 = .ok (.iload_n 1, 1) := by decide +kernel
theorem dX12_carpet_33 : decode cX12_carpet 33 = .ok (.iload_n 2, 1) := by decide +kernel
theorem dX12_carpet_34 : decode cX12_carpet 34 = .ok (.iload_n 3, 1) := by decide +kernel
theorem dX12_carpet_35 : decode cX12_carpet 35 = .ok (.invokevirtual 130, 3) := by decide +kernel
theorem dX12_carpet_38 : decode cX12_carpet 38 = .ok (.aload_n 0, 1) := by decide +kernel
theorem dX12_carpet_39 : decode cX12_carpet 39 = .ok (.aload_n 0, 1) := by decide +kernel
theorem dX12_carpet_40 : decode cX12_carpet 40 = .ok (.invokevirtual 115, 3) := by decide +kernel
theorem dX12_carpet_43 : decode cX12_carpet 43 = .ok (.iconst 1, 1) := by decide +kernel
theorem dX12_carpet_44 : decode cX12_carpet 44 = .ok (.isub, 1) := by decide +kernel
theorem dX12_carpet_45 : decode cX12_carpet 45 = .ok (.invokevirtual 112, 3) := by decide +kernel
theorem dX12_carpet_48 : decode cX12_carpet 48 = .ok (.ireturn, 1) := by decide +kernel
theorem dX12_of_0 : decode cX12_of 0 = .ok (.aload_n 0, 1) := by decide +kernel
theorem dX12_of_1 : decode cX12_of 1 = .ok (.iload_n 1, 1) := by decide +kernel
theorem dX12_of_2 : decode cX12_of 2 = .ok (.invokevirtual 134, 3) := by decide +kernel
theorem dX12_of_5 : decode cX12_of 5 = .ok (.ifCond .ne 5, 3) := by decide +kernel
theorem dX12_of_8 : decode cX12_of 8 = .ok (.iconst (-1), 1) := by decide +kernel
theorem dX12_of_9 : decode cX12_of 9 = .ok (.ireturn, 1) := by decide +kernel
theorem dX12_of_10 : decode cX12_of 10 = .ok (.iload_n 2, 1) := by decide +kernel
theorem dX12_of_11 : decode cX12_of 11 = .ok (.tableswitch 104 0 5 #[37, 47, 57, 66, 76, 86], 37) := by decide +kernel
theorem dX12_of_48 : decode cX12_of 48 = .ok (.aload_n 0, 1) := by decide +kernel
theorem dX12_of_49 : decode cX12_of 49 = .ok (.getfield 28, 3) := by decide +kernel
theorem dX12_of_52 : decode cX12_of 52 = .ok (.bipush 29, 2) := by decide +kernel
theorem dX12_of_54 : decode cX12_of 54 = .ok (.iload_n 1, 1) := by decide +kernel
theorem dX12_of_55 : decode cX12_of 55 = .ok (.iadd, 1) := by decide +kernel
theorem dX12_of_56 : decode cX12_of 56 = .ok (.iaload, 1) := by decide +kernel
theorem dX12_of_57 : decode cX12_of 57 = .ok (.ireturn, 1) := by decide +kernel
theorem dX12_of_58 : decode cX12_of 58 = .ok (.aload_n 0, 1) := by decide +kernel
theorem dX12_of_59 : decode cX12_of 59 = .ok (.getfield 28, 3) := by decide +kernel
theorem dX12_of_62 : decode cX12_of 62 = .ok (.bipush 38, 2) := by decide +kernel
theorem dX12_of_64 : decode cX12_of 64 = .ok (.iload_n 1, 1) := by decide +kernel
theorem dX12_of_65 : decode cX12_of 65 = .ok (.iadd, 1) := by decide +kernel
theorem dX12_of_66 : decode cX12_of 66 = .ok (.iaload, 1) := by decide +kernel
theorem dX12_of_67 : decode cX12_of 67 = .ok (.ireturn, 1) := by decide +kernel
theorem dX12_of_68 : decode cX12_of 68 = .ok (.aload_n 0, 1) := by decide +kernel
theorem dX12_of_69 : decode cX12_of 69 = .ok (.getfield 28, 3) := by decide +kernel
theorem dX12_of_72 : decode cX12_of 72 = .ok (.iconst 0, 1) := by decide +kernel
theorem dX12_of_73 : decode cX12_of 73 = .ok (.iload_n 1, 1) := by decide +kernel
theorem dX12_of_74 : decode cX12_of 74 = .ok (.iadd, 1) := by decide +kernel
theorem dX12_of_75 : decode cX12_of 75 = .ok (.iaload, 1) := by decide +kernel
theorem dX12_of_76 : decode cX12_of 76 = .ok (.ireturn, 1) := by decide +kernel
theorem dX12_of_77 : decode cX12_of 77 = .ok (.aload_n 0, 1) := by decide +kernel
theorem dX12_of_78 : decode cX12_of 78 = .ok (.getfield 28, 3) := by decide +kernel
theorem dX12_of_81 : decode cX12_of 81 = .ok (.bipush 9, 2) := by decide +kernel
theorem dX12_of_83 : decode cX12_of 83 = .ok (.iload_n 1, 1) := by decide +kernel
theorem dX12_of_84 : decode cX12_of 84 = .ok (.iadd, 1) := by decide +kernel
theorem dX12_of_85 : decode cX12_of 85 = .ok (.iaload, 1) := by decide +kernel
theorem dX12_of_86 : decode cX12_of 86 = .ok (.ireturn, 1) := by decide +kernel
theorem dX12_of_87 : decode cX12_of 87 = .ok (.aload_n 0, 1) := by decide +kernel
theorem dX12_of_88 : decode cX12_of 88 = .ok (.getfield 28, 3) := by decide +kernel
theorem dX12_of_91 : decode cX12_of 91 = .ok (.bipush 18, 2) := by decide +kernel
theorem dX12_of_93 : decode cX12_of 93 = .ok (.iload_n 1, 1) := by decide +kernel
theorem dX12_of_94 : decode cX12_of 94 = .ok (.iadd, 1) := by decide +kernel
theorem dX12_of_95 : decode cX12_of 95 = .ok (.iaload, 1) := by decide +kernel
theorem dX12_of_96 : decode cX12_of 96 = .ok (.ireturn, 1) := by decide +kernel
theorem dX12_of_97 : decode cX12_of 97 = .ok (.aload_n 0, 1) := by decide +kernel
theorem dX12_of_98 : decode cX12_of 98 = .ok (.iload_n 1, 1) := by decide +kernel
theorem dX12_of_99 : decode cX12_of 99 = .ok (.invokevirtual 137, 3) := by decide +kernel
theorem dX12_of_102 : decode cX12_of 102 = .ok (.ifCond .eq 11, 3) := by decide +kernel
theorem dX12_of_105 : decode cX12_of 105 = .ok (.aload_n 0, 1) := by decide +kernel
theorem dX12_of_106 : decode cX12_of 106 = .ok (.iload_n 1, 1) := by decide +kernel
theorem dX12_of_107 : decode cX12_of 107 = .ok (.invokevirtual 140, 3) := by decide +kernel
theorem dX12_of_110 : decode cX12_of 110 = .ok (.goto 4, 3) := by decide +kernel
theorem dX12_of_113 : decode cX12_of 113 = .ok (.iconst (-1), 1) := by decide +kernel
theorem dX12_of_114 : decode cX12_of 114 = .ok (.ireturn, 1) := by decide +kernel
theorem dX12_of_115 : decode cX12_of 115 = .ok (.iconst (-1), 1) := by decide +kernel
theorem dX12_of_116 : decode cX12_of 116 = .ok (.ireturn, 1) := by decide +kernel
theorem dX12_laidMany_0 : decode cX12_laidMany 0 = .ok (.iconst 0, 1) := by decide +kernel
theorem dX12_laidMany_1 : decode cX12_laidMany 1 = .ok (.istore_n 1, 1) := by decide +kernel
theorem dX12_laidMany_2 : decode cX12_laidMany 2 = .ok (.iconst 0, 1) := by decide +kernel
theorem dX12_laidMany_3 : decode cX12_laidMany 3 = .ok (.istore_n 2, 1) := by decide +kernel
theorem dX12_laidMany_4 : decode cX12_laidMany 4 = .ok (.iload_n 2, 1) := by decide +kernel
theorem dX12_laidMany_5 : decode cX12_laidMany 5 = .ok (.aload_n 0, 1) := by decide +kernel
theorem dX12_laidMany_6 : decode cX12_laidMany 6 = .ok (.invokevirtual 115, 3) := by decide +kernel
theorem dX12_laidMany_9 : decode cX12_laidMany 9 = .ok (.if_icmp .ge 25, 3) := by decide +kernel
theorem dX12_laidMany_12 : decode cX12_laidMany 12 = .ok (.iload_n 1, 1) := by decide +kernel
theorem dX12_laidMany_13 : decode cX12_laidMany 13 = .ok (.aload_n 0, 1) := by decide +kernel
theorem dX12_laidMany_14 : decode cX12_laidMany 14 = .ok (.iload_n 2, 1) := by decide +kernel
theorem dX12_laidMany_15 : decode cX12_laidMany 15 = .ok (.invokevirtual 137, 3) := by decide +kernel
theorem dX12_laidMany_18 : decode cX12_laidMany 18 = .ok (.ifCond .eq 7, 3) := by decide +kernel
theorem dX12_laidMany_21 : decode cX12_laidMany 21 = .ok (.iconst 1, 1) := by decide +kernel
theorem dX12_laidMany_22 : decode cX12_laidMany 22 = .ok (.goto 4, 3) := by decide +kernel
theorem dX12_laidMany_25 : decode cX12_laidMany 25 = .ok (.iconst 0, 1) := by decide +kernel
theorem dX12_laidMany_26 : decode cX12_laidMany 26 = .ok (.iadd, 1) := by decide +kernel
theorem dX12_laidMany_27 : decode cX12_laidMany 27 = .ok (.istore_n 1, 1) := by decide +kernel
theorem dX12_laidMany_28 : decode cX12_laidMany 28 = .ok (.iinc 2 1, 3) := by decide +kernel
theorem dX12_laidMany_31 : decode cX12_laidMany 31 = .ok (.goto (-27), 3) := by decide +kernel
theorem dX12_laidMany_34 : decode cX12_laidMany 34 = .ok (.iload_n 1, 1) := by decide +kernel
theorem dX12_laidMany_35 : decode cX12_laidMany 35 = .ok (.ireturn, 1) := by decide +kernel
theorem dX12_hall_0 : decode cX12_hall 0 = .ok (.iload_n 1, 1) := by decide +kernel
theorem dX12_hall_1 : decode cX12_hall 1 = .ok (.invokestatic 119, 3) := by decide +kernel
theorem dX12_hall_4 : decode cX12_hall 4 = .ok (.ifCond .eq 10, 3) := by decide +kernel
theorem dX12_hall_7 : decode cX12_hall 7 = .ok (.iload_n 2, 1) := by decide +kernel
theorem dX12_hall_8 : decode cX12_hall 8 = .ok (.invokestatic 119, 3) := by decide +kernel
theorem dX12_hall_11 : decode cX12_hall 11 = .ok (.ifCond .ne 9, 3) := by decide +kernel
theorem dX12_hall_14 : decode cX12_hall 14 = .ok (.aload_n 0, 1) := by decide +kernel
theorem dX12_hall_15 : decode cX12_hall 15 = .ok (.iconst (-1), 1) := by decide +kernel
theorem dX12_hall_16 : decode cX12_hall 16 = .ok (.invokevirtual 109, 3) := by decide +kernel
theorem dX12_hall_19 : decode cX12_hall 19 = .ok (.ireturn, 1) := by decide +kernel
theorem dX12_hall_20 : decode cX12_hall 20 = .ok (.aload_n 0, 1) := by decide +kernel
theorem dX12_hall_21 : decode cX12_hall 21 = .ok (.invokevirtual 143, 3) := by decide +kernel
theorem dX12_hall_24 : decode cX12_hall 24 = .ok (.ifCond .le 10, 3) := by decide +kernel
theorem dX12_hall_27 : decode cX12_hall 27 = .ok (.aload_n 0, 1) := by decide +kernel
theorem dX12_hall_28 : decode cX12_hall 28 = .ok (.bipush (-3), 2) := by decide +kernel
theorem dX12_hall_30 : decode cX12_hall 30 = .ok (.invokevirtual 109, 3) := by decide +kernel
theorem dX12_hall_33 : decode cX12_hall 33 = .ok (.ireturn, 1) := by decide +kernel
theorem dX12_hall_34 : decode cX12_hall 34 = .ok (.aload_n 0, 1) := by decide +kernel
theorem dX12_hall_35 : decode cX12_hall 35 = .ok (.getfield 28, 3) := by decide +kernel
theorem dX12_hall_38 : decode cX12_hall 38 = .ok (.bipush 67, 2) := by decide +kernel
theorem dX12_hall_40 : decode cX12_hall 40 = .ok (.iload_n 1, 1) := by decide +kernel
theorem dX12_hall_41 : decode cX12_hall 41 = .ok (.iastore, 1) := by decide +kernel
theorem dX12_hall_42 : decode cX12_hall 42 = .ok (.aload_n 0, 1) := by decide +kernel
theorem dX12_hall_43 : decode cX12_hall 43 = .ok (.getfield 28, 3) := by decide +kernel
theorem dX12_hall_46 : decode cX12_hall 46 = .ok (.bipush 68, 2) := by decide +kernel
theorem dX12_hall_48 : decode cX12_hall 48 = .ok (.iload_n 2, 1) := by decide +kernel
theorem dX12_hall_49 : decode cX12_hall 49 = .ok (.iastore, 1) := by decide +kernel
theorem dX12_hall_50 : decode cX12_hall 50 = .ok (.aload_n 0, 1) := by decide +kernel
theorem dX12_hall_51 : decode cX12_hall 51 = .ok (.iload_n 1, 1) := by decide +kernel
theorem dX12_hall_52 : decode cX12_hall 52 = .ok (.iload_n 2, 1) := by decide +kernel
theorem dX12_hall_53 : decode cX12_hall 53 = .ok (.imul, 1) := by decide +kernel
theorem dX12_hall_54 : decode cX12_hall 54 = .ok (.invokevirtual 112, 3) := by decide +kernel
theorem dX12_hall_57 : decode cX12_hall 57 = .ok (.ireturn, 1) := by decide +kernel
theorem dX12_covers_0 : decode cX12_covers 0 = .ok (.aload_n 0, 1) := by decide +kernel
theorem dX12_covers_1 : decode cX12_covers 1 = .ok (.iload_n 1, 1) := by decide +kernel
theorem dX12_covers_2 : decode cX12_covers 2 = .ok (.invokevirtual 137, 3) := by decide +kernel
theorem dX12_covers_5 : decode cX12_covers 5 = .ok (.ifCond .eq 81, 3) := by decide +kernel
theorem dX12_covers_8 : decode cX12_covers 8 = .ok (.iload_n 2, 1) := by decide +kernel
theorem dX12_covers_9 : decode cX12_covers 9 = .ok (.aload_n 0, 1) := by decide +kernel
theorem dX12_covers_10 : decode cX12_covers 10 = .ok (.getfield 28, 3) := by decide +kernel
theorem dX12_covers_13 : decode cX12_covers 13 = .ok (.bipush 9, 2) := by decide +kernel
theorem dX12_covers_15 : decode cX12_covers 15 = .ok (.iload_n 1, 1) := by decide +kernel
theorem dX12_covers_16 : decode cX12_covers 16 = .ok (.iadd, 1) := by decide +kernel
theorem dX12_covers_17 : decode cX12_covers 17 = .ok (.iaload, 1) := by decide +kernel
theorem dX12_covers_18 : decode cX12_covers 18 = .ok (.aload_n 0, 1) := by decide +kernel
theorem dX12_covers_19 : decode cX12_covers 19 = .ok (.getfield 28, 3) := by decide +kernel
theorem dX12_covers_22 : decode cX12_covers 22 = .ok (.bipush 9, 2) := by decide +kernel
theorem dX12_covers_24 : decode cX12_covers 24 = .ok (.iload_n 1, 1) := by decide +kernel
theorem dX12_covers_25 : decode cX12_covers 25 = .ok (.iadd, 1) := by decide +kernel
theorem dX12_covers_26 : decode cX12_covers 26 = .ok (.iaload, 1) := by decide +kernel
theorem dX12_covers_27 : decode cX12_covers 27 = .ok (.aload_n 0, 1) := by decide +kernel
theorem dX12_covers_28 : decode cX12_covers 28 = .ok (.getfield 28, 3) := by decide +kernel
theorem dX12_covers_31 : decode cX12_covers 31 = .ok (.bipush 29, 2) := by decide +kernel
theorem dX12_covers_33 : decode cX12_covers 33 = .ok (.iload_n 1, 1) := by decide +kernel
theorem dX12_covers_34 : decode cX12_covers 34 = .ok (.iadd, 1) := by decide +kernel
theorem dX12_covers_35 : decode cX12_covers 35 = .ok (.iaload, 1) := by decide +kernel
theorem dX12_covers_36 : decode cX12_covers 36 = .ok (.iadd, 1) := by decide +kernel
theorem dX12_covers_37 : decode cX12_covers 37 = .ok (.iconst 1, 1) := by decide +kernel
theorem dX12_covers_38 : decode cX12_covers 38 = .ok (.isub, 1) := by decide +kernel
theorem dX12_covers_39 : decode cX12_covers 39 = .ok (.invokestatic 18, 3) := by decide +kernel
theorem dX12_covers_42 : decode cX12_covers 42 = .ok (.ifCond .eq 44, 3) := by decide +kernel
theorem dX12_covers_45 : decode cX12_covers 45 = .ok (.iload_n 3, 1) := by decide +kernel
theorem dX12_covers_46 : decode cX12_covers 46 = .ok (.aload_n 0, 1) := by decide +kernel
theorem dX12_covers_47 : decode cX12_covers 47 = .ok (.getfield 28, 3) := by decide +kernel
theorem dX12_covers_50 : decode cX12_covers 50 = .ok (.bipush 18, 2) := by decide +kernel
theorem dX12_covers_52 : decode cX12_covers 52 = .ok (.iload_n 1, 1) := by decide +kernel
theorem dX12_covers_53 : decode cX12_covers 53 = .ok (.iadd, 1) := by decide +kernel
theorem dX12_covers_54 : decode cX12_covers 54 = .ok (.iaload, 1) := by decide +kernel
theorem dX12_covers_55 : decode cX12_covers 55 = .ok (.aload_n 0, 1) := by decide +kernel
theorem dX12_covers_56 : decode cX12_covers 56 = .ok (.getfield 28, 3) := by decide +kernel
theorem dX12_covers_59 : decode cX12_covers 59 = .ok (.bipush 18, 2) := by decide +kernel
theorem dX12_covers_61 : decode cX12_covers 61 = .ok (.iload_n 1, 1) := by decide +kernel
theorem dX12_covers_62 : decode cX12_covers 62 = .ok (.iadd, 1) := by decide +kernel
theorem dX12_covers_63 : decode cX12_covers 63 = .ok (.iaload, 1) := by decide +kernel
theorem dX12_covers_64 : decode cX12_covers 64 = .ok (.aload_n 0, 1) := by decide +kernel
theorem dX12_covers_65 : decode cX12_covers 65 = .ok (.getfield 28, 3) := by decide +kernel
theorem dX12_covers_68 : decode cX12_covers 68 = .ok (.bipush 29, 2) := by decide +kernel
theorem dX12_covers_70 : decode cX12_covers 70 = .ok (.iload_n 1, 1) := by decide +kernel
theorem dX12_covers_71 : decode cX12_covers 71 = .ok (.iadd, 1) := by decide +kernel
theorem dX12_covers_72 : decode cX12_covers 72 = .ok (.iaload, 1) := by decide +kernel
theorem dX12_covers_73 : decode cX12_covers 73 = .ok (.iadd, 1) := by decide +kernel
theorem dX12_covers_74 : decode cX12_covers 74 = .ok (.iconst 1, 1) := by decide +kernel
theorem dX12_covers_75 : decode cX12_covers 75 = .ok (.isub, 1) := by decide +kernel
theorem dX12_covers_76 : decode cX12_covers 76 = .ok (.invokestatic 18, 3) := by decide +kernel
theorem dX12_covers_79 : decode cX12_covers 79 = .ok (.ifCond .eq 7, 3) := by decide +kernel
theorem dX12_covers_82 : decode cX12_covers 82 = .ok (.iconst 1, 1) := by decide +kernel
theorem dX12_covers_83 : decode cX12_covers 83 = .ok (.goto 4, 3) := by decide +kernel
theorem dX12_covers_86 : decode cX12_covers 86 = .ok (.iconst 0, 1) := by decide +kernel
theorem dX12_covers_87 : decode cX12_covers 87 = .ok (.ireturn, 1) := by decide +kernel
theorem dX12_at_0 : decode cX12_at 0 = .ok (.iconst (-1), 1) := by decide +kernel
theorem dX12_at_1 : decode cX12_at 1 = .ok (.istore_n 3, 1) := by decide +kernel
theorem dX12_at_2 : decode cX12_at 2 = .ok (.iconst 0, 1) := by decide +kernel
theorem dX12_at_3 : decode cX12_at 3 = .ok (.istore 4, 2) := by decide +kernel
theorem dX12_at_5 : decode cX12_at 5 = .ok (.iload 4, 2) := by decide +kernel
theorem dX12_at_7 : decode cX12_at 7 = .ok (.aload_n 0, 1) := by decide +kernel
theorem dX12_at_8 : decode cX12_at 8 = .ok (.invokevirtual 115, 3) := by decide +kernel
theorem dX12_at_11 : decode cX12_at 11 = .ok (.if_icmp .ge 27, 3) := by decide +kernel
theorem dX12_at_14 : decode cX12_at 14 = .ok (.aload_n 0, 1) := by decide +kernel
theorem dX12_at_15 : decode cX12_at 15 = .ok (.iload 4, 2) := by decide +kernel
theorem dX12_at_17 : decode cX12_at 17 = .ok (.iload_n 1, 1) := by decide +kernel
theorem dX12_at_18 : decode cX12_at 18 = .ok (.iload_n 2, 1) := by decide +kernel
theorem dX12_at_19 : decode cX12_at 19 = .ok (.invokevirtual 146, 3) := by decide +kernel
theorem dX12_at_22 : decode cX12_at 22 = .ok (.ifCond .eq 8, 3) := by decide +kernel
theorem dX12_at_25 : decode cX12_at 25 = .ok (.iload 4, 2) := by decide +kernel
theorem dX12_at_27 : decode cX12_at 27 = .ok (.goto 4, 3) := by decide +kernel
theorem dX12_at_30 : decode cX12_at 30 = .ok (.iload_n 3, 1) := by decide +kernel
theorem dX12_at_31 : decode cX12_at 31 = .ok (.istore_n 3, 1) := by decide +kernel
theorem dX12_at_32 : decode cX12_at 32 = .ok (.iinc 4 1, 3) := by decide +kernel
theorem dX12_at_35 : decode cX12_at 35 = .ok (.goto (-30), 3) := by decide +kernel
theorem dX12_at_38 : decode cX12_at 38 = .ok (.iload_n 3, 1) := by decide +kernel
theorem dX12_at_39 : decode cX12_at 39 = .ok (.ireturn, 1) := by decide +kernel
theorem dX12_asks_0 : decode cX12_asks 0 = .ok (.aload_n 0, 1) := by decide +kernel
theorem dX12_asks_1 : decode cX12_asks 1 = .ok (.iload_n 1, 1) := by decide +kernel
theorem dX12_asks_2 : decode cX12_asks 2 = .ok (.invokevirtual 134, 3) := by decide +kernel
theorem dX12_asks_5 : decode cX12_asks 5 = .ok (.ifCond .eq 17, 3) := by decide +kernel
theorem dX12_asks_8 : decode cX12_asks 8 = .ok (.iload_n 2, 1) := by decide +kernel
theorem dX12_asks_9 : decode cX12_asks 9 = .ok (.invokestatic 149, 3) := by decide +kernel
theorem dX12_asks_12 : decode cX12_asks 12 = .ok (.ifCond .eq 10, 3) := by decide +kernel
theorem dX12_asks_15 : decode cX12_asks 15 = .ok (.iload_n 3, 1) := by decide +kernel
theorem dX12_asks_16 : decode cX12_asks 16 = .ok (.invokestatic 149, 3) := by decide +kernel
theorem dX12_asks_19 : decode cX12_asks 19 = .ok (.ifCond .ne 5, 3) := by decide +kernel
theorem dX12_asks_22 : decode cX12_asks 22 = .ok (.iconst (-1), 1) := by decide +kernel
theorem dX12_asks_23 : decode cX12_asks 23 = .ok (.ireturn, 1) := by decide +kernel
theorem dX12_asks_24 : decode cX12_asks 24 = .ok (.iload 4, 2) := by decide +kernel
theorem dX12_asks_26 : decode cX12_asks 26 = .ok (.tableswitch 66 0 2 #[26, 34, 50], 26) := by decide +kernel
theorem dX12_asks_52 : decode cX12_asks 52 = .ok (.aload_n 0, 1) := by decide +kernel
theorem dX12_asks_53 : decode cX12_asks 53 = .ok (.iload_n 1, 1) := by decide +kernel
theorem dX12_asks_54 : decode cX12_asks 54 = .ok (.iload_n 2, 1) := by decide +kernel
theorem dX12_asks_55 : decode cX12_asks 55 = .ok (.iload_n 3, 1) := by decide +kernel
theorem dX12_asks_56 : decode cX12_asks 56 = .ok (.invokevirtual 152, 3) := by decide +kernel
theorem dX12_asks_59 : decode cX12_asks 59 = .ok (.ireturn, 1) := by decide +kernel
theorem dX12_asks_60 : decode cX12_asks 60 = .ok (.aload_n 0, 1) := by decide +kernel
theorem dX12_asks_61 : decode cX12_asks 61 = .ok (.iload_n 1, 1) := by decide +kernel
theorem dX12_asks_62 : decode cX12_asks 62 = .ok (.iload_n 2, 1) := by decide +kernel
theorem dX12_asks_63 : decode cX12_asks 63 = .ok (.iload_n 3, 1) := by decide +kernel
theorem dX12_asks_64 : decode cX12_asks 64 = .ok (.invokevirtual 156, 3) := by decide +kernel
theorem dX12_asks_67 : decode cX12_asks 67 = .ok (.ifCond .eq 7, 3) := by decide +kernel
theorem dX12_asks_70 : decode cX12_asks 70 = .ok (.iconst 1, 1) := by decide +kernel
theorem dX12_asks_71 : decode cX12_asks 71 = .ok (.goto 4, 3) := by decide +kernel
theorem dX12_asks_74 : decode cX12_asks 74 = .ok (.iconst 0, 1) := by decide +kernel
theorem dX12_asks_75 : decode cX12_asks 75 = .ok (.ireturn, 1) := by decide +kernel
theorem dX12_asks_76 : decode cX12_asks 76 = .ok (.aload_n 0, 1) := by decide +kernel
theorem dX12_asks_77 : decode cX12_asks 77 = .ok (.iload_n 1, 1) := by decide +kernel
theorem dX12_asks_78 : decode cX12_asks 78 = .ok (.iload_n 2, 1) := by decide +kernel
theorem dX12_asks_79 : decode cX12_asks 79 = .ok (.iload_n 3, 1) := by decide +kernel
theorem dX12_asks_80 : decode cX12_asks 80 = .ok (.invokevirtual 159, 3) := by decide +kernel
theorem dX12_asks_83 : decode cX12_asks 83 = .ok (.ifCond .eq 7, 3) := by decide +kernel
theorem dX12_asks_86 : decode cX12_asks 86 = .ok (.iconst 1, 1) := by decide +kernel
theorem dX12_asks_87 : decode cX12_asks 87 = .ok (.goto 4, 3) := by decide +kernel
theorem dX12_asks_90 : decode cX12_asks 90 = .ok (.iconst 0, 1) := by decide +kernel
theorem dX12_asks_91 : decode cX12_asks 91 = .ok (.ireturn, 1) := by decide +kernel
theorem dX12_asks_92 : decode cX12_asks 92 = .ok (.iconst (-1), 1) := by decide +kernel
theorem dX12_asks_93 : decode cX12_asks 93 = .ok (.ireturn, 1) := by decide +kernel
theorem dX12_isTerm_0 : decode cX12_isTerm 0 = .ok (.iload_n 0, 1) := by decide +kernel
theorem dX12_isTerm_1 : decode cX12_isTerm 1 = .ok (.tableswitch 52 0 2 #[27, 36, 44], 27) := by decide +kernel
theorem dX12_isTerm_28 : decode cX12_isTerm 28 = .ok (.iload_n 1, 1) := by decide +kernel
theorem dX12_isTerm_29 : decode cX12_isTerm 29 = .ok (.iconst 0, 1) := by decide +kernel
theorem dX12_isTerm_30 : decode cX12_isTerm 30 = .ok (.sipush 999, 3) := by decide +kernel
theorem dX12_isTerm_33 : decode cX12_isTerm 33 = .ok (.invokestatic 18, 3) := by decide +kernel
theorem dX12_isTerm_36 : decode cX12_isTerm 36 = .ok (.ireturn, 1) := by decide +kernel
theorem dX12_isTerm_37 : decode cX12_isTerm 37 = .ok (.iload_n 1, 1) := by decide +kernel
theorem dX12_isTerm_38 : decode cX12_isTerm 38 = .ok (.iconst 0, 1) := by decide +kernel
theorem dX12_isTerm_39 : decode cX12_isTerm 39 = .ok (.bipush 10, 2) := by decide +kernel
theorem dX12_isTerm_41 : decode cX12_isTerm 41 = .ok (.invokestatic 18, 3) := by decide +kernel
theorem dX12_isTerm_44 : decode cX12_isTerm 44 = .ok (.ireturn, 1) := by decide +kernel
theorem dX12_isTerm_45 : decode cX12_isTerm 45 = .ok (.iload_n 1, 1) := by decide +kernel
theorem dX12_isTerm_46 : decode cX12_isTerm 46 = .ok (.iconst 0, 1) := by decide +kernel
theorem dX12_isTerm_47 : decode cX12_isTerm 47 = .ok (.bipush 9, 2) := by decide +kernel
theorem dX12_isTerm_49 : decode cX12_isTerm 49 = .ok (.invokestatic 18, 3) := by decide +kernel
theorem dX12_isTerm_52 : decode cX12_isTerm 52 = .ok (.ireturn, 1) := by decide +kernel
theorem dX12_isTerm_53 : decode cX12_isTerm 53 = .ok (.iconst 0, 1) := by decide +kernel
theorem dX12_isTerm_54 : decode cX12_isTerm 54 = .ok (.ireturn, 1) := by decide +kernel
theorem dX12_termAt_0 : decode cX12_termAt 0 = .ok (.iload_n 0, 1) := by decide +kernel
theorem dX12_termAt_1 : decode cX12_termAt 1 = .ok (.ifCond .ne 8, 3) := by decide +kernel
theorem dX12_termAt_4 : decode cX12_termAt 4 = .ok (.bipush 28, 2) := by decide +kernel
theorem dX12_termAt_6 : decode cX12_termAt 6 = .ok (.goto 15, 3) := by decide +kernel
theorem dX12_termAt_9 : decode cX12_termAt 9 = .ok (.iload_n 0, 1) := by decide +kernel
theorem dX12_termAt_10 : decode cX12_termAt 10 = .ok (.iconst 1, 1) := by decide +kernel
theorem dX12_termAt_11 : decode cX12_termAt 11 = .ok (.if_icmp .ne 8, 3) := by decide +kernel
theorem dX12_termAt_14 : decode cX12_termAt 14 = .ok (.bipush 65, 2) := by decide +kernel
theorem dX12_termAt_16 : decode cX12_termAt 16 = .ok (.goto 5, 3) := by decide +kernel
theorem dX12_termAt_19 : decode cX12_termAt 19 = .ok (.bipush 66, 2) := by decide +kernel
theorem dX12_termAt_21 : decode cX12_termAt 21 = .ok (.ireturn, 1) := by decide +kernel
theorem dX12_terms_0 : decode cX12_terms 0 = .ok (.iload_n 1, 1) := by decide +kernel
theorem dX12_terms_1 : decode cX12_terms 1 = .ok (.iload_n 2, 1) := by decide +kernel
theorem dX12_terms_2 : decode cX12_terms 2 = .ok (.invokestatic 162, 3) := by decide +kernel
theorem dX12_terms_5 : decode cX12_terms 5 = .ok (.ifCond .ne 9, 3) := by decide +kernel
theorem dX12_terms_8 : decode cX12_terms 8 = .ok (.aload_n 0, 1) := by decide +kernel
theorem dX12_terms_9 : decode cX12_terms 9 = .ok (.iconst (-1), 1) := by decide +kernel
theorem dX12_terms_10 : decode cX12_terms 10 = .ok (.invokevirtual 109, 3) := by decide +kernel
theorem dX12_terms_13 : decode cX12_terms 13 = .ok (.ireturn, 1) := by decide +kernel
theorem dX12_terms_14 : decode cX12_terms 14 = .ok (.aload_n 0, 1) := by decide +kernel
theorem dX12_terms_15 : decode cX12_terms 15 = .ok (.getfield 28, 3) := by decide +kernel
theorem dX12_terms_18 : decode cX12_terms 18 = .ok (.iload_n 1, 1) := by decide +kernel
theorem dX12_terms_19 : decode cX12_terms 19 = .ok (.invokestatic 166, 3) := by decide +kernel
theorem dX12_terms_22 : decode cX12_terms 22 = .ok (.iaload, 1) := by decide +kernel
theorem dX12_terms_23 : decode cX12_terms 23 = .ok (.istore_n 3, 1) := by decide +kernel
theorem dX12_terms_24 : decode cX12_terms 24 = .ok (.aload_n 0, 1) := by decide +kernel
theorem dX12_terms_25 : decode cX12_terms 25 = .ok (.getfield 28, 3) := by decide +kernel
theorem dX12_terms_28 : decode cX12_terms 28 = .ok (.iload_n 1, 1) := by decide +kernel
theorem dX12_terms_29 : decode cX12_terms 29 = .ok (.invokestatic 166, 3) := by decide +kernel
theorem dX12_terms_32 : decode cX12_terms 32 = .ok (.iload_n 2, 1) := by decide +kernel
theorem dX12_terms_33 : decode cX12_terms 33 = .ok (.iastore, 1) := by decide +kernel
theorem dX12_terms_34 : decode cX12_terms 34 = .ok (.aload_n 0, 1) := by decide +kernel
theorem dX12_terms_35 : decode cX12_terms 35 = .ok (.iload_n 3, 1) := by decide +kernel
theorem dX12_terms_36 : decode cX12_terms 36 = .ok (.invokevirtual 112, 3) := by decide +kernel
theorem dX12_terms_39 : decode cX12_terms 39 = .ok (.ireturn, 1) := by decide +kernel
theorem dX12_row_0 : decode cX12_row 0 = .ok (.aload_n 0, 1) := by decide +kernel
theorem dX12_row_1 : decode cX12_row 1 = .ok (.getfield 169, 3) := by decide +kernel
theorem dX12_row_4 : decode cX12_row 4 = .ok (.istore_n 1, 1) := by decide +kernel
theorem dX12_row_5 : decode cX12_row 5 = .ok (.aload_n 0, 1) := by decide +kernel
theorem dX12_row_6 : decode cX12_row 6 = .ok (.iconst 0, 1) := by decide +kernel
theorem dX12_row_7 : decode cX12_row 7 = .ok (.putfield 169, 3) := by decide +kernel
theorem dX12_row_10 : decode cX12_row 10 = .ok (.iload_n 1, 1) := by decide +kernel
theorem dX12_row_11 : decode cX12_row 11 = .ok (.ifCond .ne 10, 3) := by decide +kernel
theorem dX12_row_14 : decode cX12_row 14 = .ok (.aload_n 0, 1) := by decide +kernel
theorem dX12_row_15 : decode cX12_row 15 = .ok (.bipush (-6), 2) := by decide +kernel
theorem dX12_row_17 : decode cX12_row 17 = .ok (.invokevirtual 109, 3) := by decide +kernel
theorem dX12_row_20 : decode cX12_row 20 = .ok (.ireturn, 1) := by decide +kernel
theorem dX12_row_21 : decode cX12_row 21 = .ok (.iconst 0, 1) := by decide +kernel
theorem dX12_row_22 : decode cX12_row 22 = .ok (.istore_n 2, 1) := by decide +kernel
theorem dX12_row_23 : decode cX12_row 23 = .ok (.aload_n 0, 1) := by decide +kernel
theorem dX12_row_24 : decode cX12_row 24 = .ok (.iload_n 1, 1) := by decide +kernel
theorem dX12_row_25 : decode cX12_row 25 = .ok (.iconst 3, 1) := by decide +kernel
theorem dX12_row_26 : decode cX12_row 26 = .ok (.irem, 1) := by decide +kernel
theorem dX12_row_27 : decode cX12_row 27 = .ok (.ifCond .ne 7, 3) := by decide +kernel
theorem dX12_row_30 : decode cX12_row 30 = .ok (.iconst 0, 1) := by decide +kernel
theorem dX12_row_31 : decode cX12_row 31 = .ok (.goto 4, 3) := by decide +kernel
theorem dX12_row_34 : decode cX12_row 34 = .ok (.iconst 1, 1) := by decide +kernel
theorem dX12_row_35 : decode cX12_row 35 = .ok (.putfield 172, 3) := by decide +kernel
theorem dX12_row_38 : decode cX12_row 38 = .ok (.iconst 0, 1) := by decide +kernel
theorem dX12_row_39 : decode cX12_row 39 = .ok (.istore_n 3, 1) := by decide +kernel
theorem dX12_row_40 : decode cX12_row 40 = .ok (.iload_n 3, 1) := by decide +kernel
theorem dX12_row_41 : decode cX12_row 41 = .ok (.iconst 3, 1) := by decide +kernel
theorem dX12_row_42 : decode cX12_row 42 = .ok (.iadd, 1) := by decide +kernel
theorem dX12_row_43 : decode cX12_row 43 = .ok (.iload_n 1, 1) := by decide +kernel
theorem dX12_row_44 : decode cX12_row 44 = .ok (.if_icmp .gt 116, 3) := by decide +kernel
theorem dX12_row_47 : decode cX12_row 47 = .ok (.aload_n 0, 1) := by decide +kernel
theorem dX12_row_48 : decode cX12_row 48 = .ok (.invokevirtual 115, 3) := by decide +kernel
theorem dX12_row_51 : decode cX12_row 51 = .ok (.bipush 9, 2) := by decide +kernel
theorem dX12_row_53 : decode cX12_row 53 = .ok (.if_icmp .ge 35, 3) := by decide +kernel
theorem dX12_row_56 : decode cX12_row 56 = .ok (.aload_n 0, 1) := by decide +kernel
theorem dX12_row_57 : decode cX12_row 57 = .ok (.getfield 45, 3) := by decide +kernel
theorem dX12_row_60 : decode cX12_row 60 = .ok (.iload_n 3, 1) := by decide +kernel
theorem dX12_row_61 : decode cX12_row 61 = .ok (.baload, 1) := by decide +kernel
theorem dX12_row_62 : decode cX12_row 62 = .ok (.aload_n 0, 1) := by decide +kernel
theorem dX12_row_63 : decode cX12_row 63 = .ok (.getfield 45, 3) := by decide +kernel
theorem dX12_row_66 : decode cX12_row 66 = .ok (.iload_n 3, 1) := by decide +kernel
theorem dX12_row_67 : decode cX12_row 67 = .ok (.iconst 1, 1) := by decide +kernel
theorem dX12_row_68 : decode cX12_row 68 = .ok (.iadd, 1) := by decide +kernel
theorem dX12_row_69 : decode cX12_row 69 = .ok (.baload, 1) := by decide +kernel
theorem dX12_row_70 : decode cX12_row 70 = .ok (.aload_n 0, 1) := by decide +kernel
theorem dX12_row_71 : decode cX12_row 71 = .ok (.getfield 45, 3) := by decide +kernel
theorem dX12_row_74 : decode cX12_row 74 = .ok (.iload_n 3, 1) := by decide +kernel
theorem dX12_row_75 : decode cX12_row 75 = .ok (.iconst 2, 1) := by decide +kernel
theorem dX12_row_76 : decode cX12_row 76 = .ok (.iadd, 1) := by decide +kernel
theorem dX12_row_77 : decode cX12_row 77 = .ok (.baload, 1) := by decide +kernel
theorem dX12_row_78 : decode cX12_row 78 = .ok (.invokestatic 127, 3) := by decide +kernel
theorem dX12_row_81 : decode cX12_row 81 = .ok (.ifCond .eq 7, 3) := by decide +kernel
theorem dX12_row_84 : decode cX12_row 84 = .ok (.iconst 1, 1) := by decide +kernel
theorem dX12_row_85 : decode cX12_row 85 = .ok (.goto 4, 3) := by decide +kernel
theorem dX12_row_88 : decode cX12_row 88 = .ok (.iconst 0, 1) := by decide +kernel
theorem dX12_row_89 : decode cX12_row 89 = .ok (.istore 4, 2) := by decide +kernel
theorem dX12_row_91 : decode cX12_row 91 = .ok (.iload 4, 2) := by decide +kernel
theorem dX12_row_93 : decode cX12_row 93 = .ok (.ifCond .eq 29, 3) := by decide +kernel
theorem dX12_row_96 : decode cX12_row 96 = .ok (.aload_n 0, 1) := by decide +kernel
theorem dX12_row_97 : decode cX12_row 97 = .ok (.aload_n 0, 1) := by decide +kernel
theorem dX12_row_98 : decode cX12_row 98 = .ok (.getfield 45, 3) := by decide +kernel
theorem dX12_row_101 : decode cX12_row 101 = .ok (.iload_n 3, 1) := by decide +kernel
theorem dX12_row_102 : decode cX12_row 102 = .ok (.baload, 1) := by decide +kernel
theorem dX12_row_103 : decode cX12_row 103 = .ok (.aload_n 0, 1) := by decide +kernel
theorem dX12_row_104 : decode cX12_row 104 = .ok (.getfield 45, 3) := by decide +kernel
theorem dX12_row_107 : decode cX12_row 107 = .ok (.iload_n 3, 1) := by decide +kernel
theorem dX12_row_108 : decode cX12_row 108 = .ok (.iconst 1, 1) := by decide +kernel
theorem dX12_row_109 : decode cX12_row 109 = .ok (.iadd, 1) := by decide +kernel
theorem dX12_row_110 : decode cX12_row 110 = .ok (.baload, 1) := by decide +kernel
theorem dX12_row_111 : decode cX12_row 111 = .ok (.aload_n 0, 1) := by decide +kernel
theorem dX12_row_112 : decode cX12_row 112 = .ok (.getfield 45, 3) := by decide +kernel
theorem dX12_row_115 : decode cX12_row 115 = .ok (.iload_n 3, 1) := by decide +kernel
theorem dX12_row_116 : decode cX12_row 116 = .ok (.iconst 2, 1) := by decide +kernel
theorem dX12_row_117 : decode cX12_row 117 = .ok (.iadd, 1) := by decide +kernel
theorem dX12_row_118 : decode cX12_row 118 = .ok (.baload, 1) := by decide +kernel
theorem dX12_row_119 : decode cX12_row 119 = .ok (.invokevirtual 130, 3) := by decide +kernel
theorem dX12_row_122 : decode cX12_row 122 = .ok (.iload_n 2, 1) := by decide +kernel
theorem dX12_row_123 : decode cX12_row 123 = .ok (.iload 4, 2) := by decide +kernel
theorem dX12_row_125 : decode cX12_row 125 = .ok (.ifCond .eq 7, 3) := by decide +kernel
theorem dX12_row_128 : decode cX12_row 128 = .ok (.iconst 1, 1) := by decide +kernel
theorem dX12_row_129 : decode cX12_row 129 = .ok (.goto 4, 3) := by decide +kernel
theorem dX12_row_132 : decode cX12_row 132 = .ok (.iconst 0, 1) := by decide +kernel
theorem dX12_row_133 : decode cX12_row 133 = .ok (.iadd, 1) := by decide +kernel
theorem dX12_row_134 : decode cX12_row 134 = .ok (.istore_n 2, 1) := by decide +kernel
theorem dX12_row_135 : decode cX12_row 135 = .ok (.aload_n 0, 1) := by decide +kernel
theorem dX12_row_136 : decode cX12_row 136 = .ok (.dup, 1) := by decide +kernel
theorem dX12_row_137 : decode cX12_row 137 = .ok (.getfield 172, 3) := by decide +kernel
theorem dX12_row_140 : decode cX12_row 140 = .ok (.iload 4, 2) := by decide +kernel
theorem dX12_row_142 : decode cX12_row 142 = .ok (.ifCond .eq 7, 3) := by decide +kernel
theorem dX12_row_145 : decode cX12_row 145 = .ok (.iconst 0, 1) := by decide +kernel
theorem dX12_row_146 : decode cX12_row 146 = .ok (.goto 4, 3) := by decide +kernel
theorem dX12_row_149 : decode cX12_row 149 = .ok (.iconst 1, 1) := by decide +kernel
theorem dX12_row_150 : decode cX12_row 150 = .ok (.iadd, 1) := by decide +kernel
theorem dX12_row_151 : decode cX12_row 151 = .ok (.putfield 172, 3) := by decide +kernel
theorem dX12_row_154 : decode cX12_row 154 = .ok (.iinc 3 3, 3) := by decide +kernel
theorem dX12_row_157 : decode cX12_row 157 = .ok (.goto (-117), 3) := by decide +kernel
theorem dX12_row_160 : decode cX12_row 160 = .ok (.aload_n 0, 1) := by decide +kernel
theorem dX12_row_161 : decode cX12_row 161 = .ok (.iload_n 2, 1) := by decide +kernel
theorem dX12_row_162 : decode cX12_row 162 = .ok (.invokevirtual 112, 3) := by decide +kernel
theorem dX12_row_165 : decode cX12_row 165 = .ok (.ireturn, 1) := by decide +kernel
theorem dX12_fluff_0 : decode cX12_fluff 0 = .ok (.aload_n 0, 1) := by decide +kernel
theorem dX12_fluff_1 : decode cX12_fluff 1 = .ok (.getfield 172, 3) := by decide +kernel
theorem dX12_fluff_4 : decode cX12_fluff 4 = .ok (.ireturn, 1) := by decide +kernel
theorem dX12_feed_0 : decode cX12_feed 0 = .ok (.aload_n 0, 1) := by decide +kernel
theorem dX12_feed_1 : decode cX12_feed 1 = .ok (.getfield 169, 3) := by decide +kernel
theorem dX12_feed_4 : decode cX12_feed 4 = .ok (.bipush 20, 2) := by decide +kernel
theorem dX12_feed_6 : decode cX12_feed 6 = .ok (.iadd, 1) := by decide +kernel
theorem dX12_feed_7 : decode cX12_feed 7 = .ok (.sipush 400, 3) := by decide +kernel
theorem dX12_feed_10 : decode cX12_feed 10 = .ok (.if_icmp .le 5, 3) := by decide +kernel
theorem dX12_feed_13 : decode cX12_feed 13 = .ok (.iconst (-1), 1) := by decide +kernel
theorem dX12_feed_14 : decode cX12_feed 14 = .ok (.ireturn, 1) := by decide +kernel
theorem dX12_feed_15 : decode cX12_feed 15 = .ok (.aload_n 0, 1) := by decide +kernel
theorem dX12_feed_16 : decode cX12_feed 16 = .ok (.getfield 48, 3) := by decide +kernel
theorem dX12_feed_19 : decode cX12_feed 19 = .ok (.iconst 0, 1) := by decide +kernel
theorem dX12_feed_20 : decode cX12_feed 20 = .ok (.iload_n 1, 1) := by decide +kernel
theorem dX12_feed_21 : decode cX12_feed 21 = .ok (.iastore, 1) := by decide +kernel
theorem dX12_feed_22 : decode cX12_feed 22 = .ok (.aload_n 0, 1) := by decide +kernel
theorem dX12_feed_23 : decode cX12_feed 23 = .ok (.getfield 48, 3) := by decide +kernel
theorem dX12_feed_26 : decode cX12_feed 26 = .ok (.iconst 1, 1) := by decide +kernel
theorem dX12_feed_27 : decode cX12_feed 27 = .ok (.iload_n 2, 1) := by decide +kernel
theorem dX12_feed_28 : decode cX12_feed 28 = .ok (.iastore, 1) := by decide +kernel
theorem dX12_feed_29 : decode cX12_feed 29 = .ok (.aload_n 0, 1) := by decide +kernel
theorem dX12_feed_30 : decode cX12_feed 30 = .ok (.getfield 48, 3) := by decide +kernel
theorem dX12_feed_33 : decode cX12_feed 33 = .ok (.iconst 2, 1) := by decide +kernel
theorem dX12_feed_34 : decode cX12_feed 34 = .ok (.iload_n 3, 1) := by decide +kernel
theorem dX12_feed_35 : decode cX12_feed 35 = .ok (.iastore, 1) := by decide +kernel
theorem dX12_feed_36 : decode cX12_feed 36 = .ok (.aload_n 0, 1) := by decide +kernel
theorem dX12_feed_37 : decode cX12_feed 37 = .ok (.getfield 48, 3) := by decide +kernel
theorem dX12_feed_40 : decode cX12_feed 40 = .ok (.iconst 3, 1) := by decide +kernel
theorem dX12_feed_41 : decode cX12_feed 41 = .ok (.iload 4, 2) := by decide +kernel
theorem dX12_feed_43 : decode cX12_feed 43 = .ok (.iastore, 1) := by decide +kernel
theorem dX12_feed_44 : decode cX12_feed 44 = .ok (.aload_n 0, 1) := by decide +kernel
theorem dX12_feed_45 : decode cX12_feed 45 = .ok (.getfield 48, 3) := by decide +kernel
theorem dX12_feed_48 : decode cX12_feed 48 = .ok (.iconst 4, 1) := by decide +kernel
theorem dX12_feed_49 : decode cX12_feed 49 = .ok (.iload 5, 2) := by decide +kernel
theorem dX12_feed_51 : decode cX12_feed 51 = .ok (.iastore, 1) := by decide +kernel
theorem dX12_feed_52 : decode cX12_feed 52 = .ok (.iconst 0, 1) := by decide +kernel
theorem dX12_feed_53 : decode cX12_feed 53 = .ok (.istore 6, 2) := by decide +kernel
theorem dX12_feed_55 : decode cX12_feed 55 = .ok (.iload 6, 2) := by decide +kernel
theorem dX12_feed_57 : decode cX12_feed 57 = .ok (.bipush 20, 2) := by decide +kernel
theorem dX12_feed_59 : decode cX12_feed 59 = .ok (.if_icmp .ge 42, 3) := by decide +kernel
theorem dX12_feed_62 : decode cX12_feed 62 = .ok (.aload_n 0, 1) := by decide +kernel
theorem dX12_feed_63 : decode cX12_feed 63 = .ok (.getfield 45, 3) := by decide +kernel
theorem dX12_feed_66 : decode cX12_feed 66 = .ok (.aload_n 0, 1) := by decide +kernel
theorem dX12_feed_67 : decode cX12_feed 67 = .ok (.getfield 169, 3) := by decide +kernel
theorem dX12_feed_70 : decode cX12_feed 70 = .ok (.iload 6, 2) := by decide +kernel
theorem dX12_feed_72 : decode cX12_feed 72 = .ok (.iadd, 1) := by decide +kernel
theorem dX12_feed_73 : decode cX12_feed 73 = .ok (.aload_n 0, 1) := by decide +kernel
theorem dX12_feed_74 : decode cX12_feed 74 = .ok (.getfield 48, 3) := by decide +kernel
theorem dX12_feed_77 : decode cX12_feed 77 = .ok (.iload 6, 2) := by decide +kernel
theorem dX12_feed_79 : decode cX12_feed 79 = .ok (.iconst 4, 1) := by decide +kernel
theorem dX12_feed_80 : decode cX12_feed 80 = .ok (.idiv, 1) := by decide +kernel
theorem dX12_feed_81 : decode cX12_feed 81 = .ok (.iaload, 1) := by decide +kernel
theorem dX12_feed_82 : decode cX12_feed 82 = .ok (.bipush 24, 2) := by decide +kernel
theorem dX12_feed_84 : decode cX12_feed 84 = .ok (.bipush 8, 2) := by decide +kernel
theorem dX12_feed_86 : decode cX12_feed 86 = .ok (.iload 6, 2) := by decide +kernel
theorem dX12_feed_88 : decode cX12_feed 88 = .ok (.iconst 4, 1) := by decide +kernel
theorem dX12_feed_89 : decode cX12_feed 89 = .ok (.irem, 1) := by decide +kernel
theorem dX12_feed_90 : decode cX12_feed 90 = .ok (.imul, 1) := by decide +kernel
theorem dX12_feed_91 : decode cX12_feed 91 = .ok (.isub, 1) := by decide +kernel
theorem dX12_feed_92 : decode cX12_feed 92 = .ok (.ishr, 1) := by decide +kernel
theorem dX12_feed_93 : decode cX12_feed 93 = .ok (.i2b, 1) := by decide +kernel
theorem dX12_feed_94 : decode cX12_feed 94 = .ok (.bastore, 1) := by decide +kernel
theorem dX12_feed_95 : decode cX12_feed 95 = .ok (.iinc 6 1, 3) := by decide +kernel
theorem dX12_feed_98 : decode cX12_feed 98 = .ok (.goto (-43), 3) := by decide +kernel
theorem dX12_feed_101 : decode cX12_feed 101 = .ok (.aload_n 0, 1) := by decide +kernel
theorem dX12_feed_102 : decode cX12_feed 102 = .ok (.dup, 1) := by decide +kernel
theorem dX12_feed_103 : decode cX12_feed 103 = .ok (.getfield 169, 3) := by decide +kernel
theorem dX12_feed_106 : decode cX12_feed 106 = .ok (.bipush 20, 2) := by decide +kernel
theorem dX12_feed_108 : decode cX12_feed 108 = .ok (.iadd, 1) := by decide +kernel
theorem dX12_feed_109 : decode cX12_feed 109 = .ok (.putfield 169, 3) := by decide +kernel
theorem dX12_feed_112 : decode cX12_feed 112 = .ok (.aload_n 0, 1) := by decide +kernel
theorem dX12_feed_113 : decode cX12_feed 113 = .ok (.getfield 169, 3) := by decide +kernel
theorem dX12_feed_116 : decode cX12_feed 116 = .ok (.ireturn, 1) := by decide +kernel
theorem dX12_end_0 : decode cX12_end 0 = .ok (.iload_n 1, 1) := by decide +kernel
theorem dX12_end_1 : decode cX12_end 1 = .ok (.iconst 0, 1) := by decide +kernel
theorem dX12_end_2 : decode cX12_end 2 = .ok (.aload_n 0, 1) := by decide +kernel
theorem dX12_end_3 : decode cX12_end 3 = .ok (.getfield 169, 3) := by decide +kernel
theorem dX12_end_6 : decode cX12_end 6 = .ok (.invokestatic 18, 3) := by decide +kernel
theorem dX12_end_9 : decode cX12_end 9 = .ok (.ifCond .ne 5, 3) := by decide +kernel
theorem dX12_end_12 : decode cX12_end 12 = .ok (.iconst (-1), 1) := by decide +kernel
theorem dX12_end_13 : decode cX12_end 13 = .ok (.ireturn, 1) := by decide +kernel
theorem dX12_end_14 : decode cX12_end 14 = .ok (.aload_n 0, 1) := by decide +kernel
theorem dX12_end_15 : decode cX12_end 15 = .ok (.iload_n 1, 1) := by decide +kernel
theorem dX12_end_16 : decode cX12_end 16 = .ok (.putfield 169, 3) := by decide +kernel
theorem dX12_end_19 : decode cX12_end 19 = .ok (.iload_n 1, 1) := by decide +kernel
theorem dX12_end_20 : decode cX12_end 20 = .ok (.ireturn, 1) := by decide +kernel
theorem dX12_isSmall_0 : decode cX12_isSmall 0 = .ok (.iload_n 0, 1) := by decide +kernel
theorem dX12_isSmall_1 : decode cX12_isSmall 1 = .ok (.bipush 97, 2) := by decide +kernel
theorem dX12_isSmall_3 : decode cX12_isSmall 3 = .ok (.if_icmp .lt 13, 3) := by decide +kernel
theorem dX12_isSmall_6 : decode cX12_isSmall 6 = .ok (.iload_n 0, 1) := by decide +kernel
theorem dX12_isSmall_7 : decode cX12_isSmall 7 = .ok (.bipush 122, 2) := by decide +kernel
theorem dX12_isSmall_9 : decode cX12_isSmall 9 = .ok (.if_icmp .gt 7, 3) := by decide +kernel
theorem dX12_isSmall_12 : decode cX12_isSmall 12 = .ok (.iconst 1, 1) := by decide +kernel
theorem dX12_isSmall_13 : decode cX12_isSmall 13 = .ok (.goto 4, 3) := by decide +kernel
theorem dX12_isSmall_16 : decode cX12_isSmall 16 = .ok (.iconst 0, 1) := by decide +kernel
theorem dX12_isSmall_17 : decode cX12_isSmall 17 = .ok (.ireturn, 1) := by decide +kernel
theorem dX12_isDigit_0 : decode cX12_isDigit 0 = .ok (.iload_n 0, 1) := by decide +kernel
theorem dX12_isDigit_1 : decode cX12_isDigit 1 = .ok (.bipush 48, 2) := by decide +kernel
theorem dX12_isDigit_3 : decode cX12_isDigit 3 = .ok (.if_icmp .lt 13, 3) := by decide +kernel
theorem dX12_isDigit_6 : decode cX12_isDigit 6 = .ok (.iload_n 0, 1) := by decide +kernel
theorem dX12_isDigit_7 : decode cX12_isDigit 7 = .ok (.bipush 57, 2) := by decide +kernel
theorem dX12_isDigit_9 : decode cX12_isDigit 9 = .ok (.if_icmp .gt 7, 3) := by decide +kernel
theorem dX12_isDigit_12 : decode cX12_isDigit 12 = .ok (.iconst 1, 1) := by decide +kernel
theorem dX12_isDigit_13 : decode cX12_isDigit 13 = .ok (.goto 4, 3) := by decide +kernel
theorem dX12_isDigit_16 : decode cX12_isDigit 16 = .ok (.iconst 0, 1) := by decide +kernel
theorem dX12_isDigit_17 : decode cX12_isDigit 17 = .ok (.ireturn, 1) := by decide +kernel
theorem dX12_wordOf_0 : decode cX12_wordOf 0 = .ok (.iconst 1, 1) := by decide +kernel
theorem dX12_wordOf_1 : decode cX12_wordOf 1 = .ok (.istore_n 3, 1) := by decide +kernel
theorem dX12_wordOf_2 : decode cX12_wordOf 2 = .ok (.iconst 0, 1) := by decide +kernel
theorem dX12_wordOf_3 : decode cX12_wordOf 3 = .ok (.istore 4, 2) := by decide +kernel
theorem dX12_wordOf_5 : decode cX12_wordOf 5 = .ok (.iload 4, 2) := by decide +kernel
theorem dX12_wordOf_7 : decode cX12_wordOf 7 = .ok (.aload_n 0, 1) := by decide +kernel
theorem dX12_wordOf_8 : decode cX12_wordOf 8 = .ok (.getfield 41, 3) := by decide +kernel
theorem dX12_wordOf_11 : decode cX12_wordOf 11 = .ok (.arraylength, 1) := by decide +kernel
theorem dX12_wordOf_12 : decode cX12_wordOf 12 = .ok (.if_icmp .ge 114, 3) := by decide +kernel
theorem dX12_wordOf_15 : decode cX12_wordOf 15 = .ok (.iconst 0, 1) := by decide +kernel
theorem dX12_wordOf_16 : decode cX12_wordOf 16 = .ok (.istore 5, 2) := by decide +kernel
theorem dX12_wordOf_18 : decode cX12_wordOf 18 = .ok (.aload_n 0, 1) := by decide +kernel
theorem dX12_wordOf_19 : decode cX12_wordOf 19 = .ok (.getfield 41, 3) := by decide +kernel
theorem dX12_wordOf_22 : decode cX12_wordOf 22 = .ok (.iload 4, 2) := by decide +kernel
theorem dX12_wordOf_24 : decode cX12_wordOf 24 = .ok (.iload 5, 2) := by decide +kernel
theorem dX12_wordOf_26 : decode cX12_wordOf 26 = .ok (.iadd, 1) := by decide +kernel
theorem dX12_wordOf_27 : decode cX12_wordOf 27 = .ok (.baload, 1) := by decide +kernel
theorem dX12_wordOf_28 : decode cX12_wordOf 28 = .ok (.bipush 32, 2) := by decide +kernel
theorem dX12_wordOf_30 : decode cX12_wordOf 30 = .ok (.if_icmp .eq 9, 3) := by decide +kernel
theorem dX12_wordOf_33 : decode cX12_wordOf 33 = .ok (.iinc 5 1, 3) := by decide +kernel
theorem dX12_wordOf_36 : decode cX12_wordOf 36 = .ok (.goto (-18), 3) := by decide +kernel
theorem dX12_wordOf_39 : decode cX12_wordOf 39 = .ok (.iload 5, 2) := by decide +kernel
theorem dX12_wordOf_41 : decode cX12_wordOf 41 = .ok (.iload_n 2, 1) := by decide +kernel
theorem dX12_wordOf_42 : decode cX12_wordOf 42 = .ok (.iload_n 1, 1) := by decide +kernel
theorem dX12_wordOf_43 : decode cX12_wordOf 43 = .ok (.isub, 1) := by decide +kernel
theorem dX12_wordOf_44 : decode cX12_wordOf 44 = .ok (.if_icmp .ne 7, 3) := by decide +kernel
theorem dX12_wordOf_47 : decode cX12_wordOf 47 = .ok (.iconst 1, 1) := by decide +kernel
theorem dX12_wordOf_48 : decode cX12_wordOf 48 = .ok (.goto 4, 3) := by decide +kernel
theorem dX12_wordOf_51 : decode cX12_wordOf 51 = .ok (.iconst 0, 1) := by decide +kernel
theorem dX12_wordOf_52 : decode cX12_wordOf 52 = .ok (.istore 6, 2) := by decide +kernel
theorem dX12_wordOf_54 : decode cX12_wordOf 54 = .ok (.iconst 0, 1) := by decide +kernel
theorem dX12_wordOf_55 : decode cX12_wordOf 55 = .ok (.istore 7, 2) := by decide +kernel
theorem dX12_wordOf_57 : decode cX12_wordOf 57 = .ok (.iload 7, 2) := by decide +kernel
theorem dX12_wordOf_59 : decode cX12_wordOf 59 = .ok (.iload 5, 2) := by decide +kernel
theorem dX12_wordOf_61 : decode cX12_wordOf 61 = .ok (.if_icmp .ge 43, 3) := by decide +kernel
theorem dX12_wordOf_64 : decode cX12_wordOf 64 = .ok (.iload 6, 2) := by decide +kernel
theorem dX12_wordOf_66 : decode cX12_wordOf 66 = .ok (.ifCond .eq 38, 3) := by decide +kernel
theorem dX12_wordOf_69 : decode cX12_wordOf 69 = .ok (.aload_n 0, 1) := by decide +kernel
theorem dX12_wordOf_70 : decode cX12_wordOf 70 = .ok (.getfield 41, 3) := by decide +kernel
theorem dX12_wordOf_73 : decode cX12_wordOf 73 = .ok (.iload 4, 2) := by decide +kernel
theorem dX12_wordOf_75 : decode cX12_wordOf 75 = .ok (.iload 7, 2) := by decide +kernel
theorem dX12_wordOf_77 : decode cX12_wordOf 77 = .ok (.iadd, 1) := by decide +kernel
theorem dX12_wordOf_78 : decode cX12_wordOf 78 = .ok (.baload, 1) := by decide +kernel
theorem dX12_wordOf_79 : decode cX12_wordOf 79 = .ok (.aload_n 0, 1) := by decide +kernel
theorem dX12_wordOf_80 : decode cX12_wordOf 80 = .ok (.getfield 45, 3) := by decide +kernel
theorem dX12_wordOf_83 : decode cX12_wordOf 83 = .ok (.iload_n 1, 1) := by decide +kernel
theorem dX12_wordOf_84 : decode cX12_wordOf 84 = .ok (.iload 7, 2) := by decide +kernel
theorem dX12_wordOf_86 : decode cX12_wordOf 86 = .ok (.iadd, 1) := by decide +kernel
theorem dX12_wordOf_87 : decode cX12_wordOf 87 = .ok (.baload, 1) := by decide +kernel
theorem dX12_wordOf_88 : decode cX12_wordOf 88 = .ok (.if_icmp .ne 7, 3) := by decide +kernel
theorem dX12_wordOf_91 : decode cX12_wordOf 91 = .ok (.iconst 1, 1) := by decide +kernel
theorem dX12_wordOf_92 : decode cX12_wordOf 92 = .ok (.goto 4, 3) := by decide +kernel
theorem dX12_wordOf_95 : decode cX12_wordOf 95 = .ok (.iconst 0, 1) := by decide +kernel
theorem dX12_wordOf_96 : decode cX12_wordOf 96 = .ok (.istore 6, 2) := by decide +kernel
theorem dX12_wordOf_98 : decode cX12_wordOf 98 = .ok (.iinc 7 1, 3) := by decide +kernel
theorem dX12_wordOf_101 : decode cX12_wordOf 101 = .ok (.goto (-44), 3) := by decide +kernel
theorem dX12_wordOf_104 : decode cX12_wordOf 104 = .ok (.iload 6, 2) := by decide +kernel
theorem dX12_wordOf_106 : decode cX12_wordOf 106 = .ok (.ifCond .eq 5, 3) := by decide +kernel
theorem dX12_wordOf_109 : decode cX12_wordOf 109 = .ok (.iload_n 3, 1) := by decide +kernel
theorem dX12_wordOf_110 : decode cX12_wordOf 110 = .ok (.ireturn, 1) := by decide +kernel
theorem dX12_wordOf_111 : decode cX12_wordOf 111 = .ok (.iload 4, 2) := by decide +kernel
theorem dX12_wordOf_113 : decode cX12_wordOf 113 = .ok (.iload 5, 2) := by decide +kernel
theorem dX12_wordOf_115 : decode cX12_wordOf 115 = .ok (.iconst 1, 1) := by decide +kernel
theorem dX12_wordOf_116 : decode cX12_wordOf 116 = .ok (.iadd, 1) := by decide +kernel
theorem dX12_wordOf_117 : decode cX12_wordOf 117 = .ok (.iadd, 1) := by decide +kernel
theorem dX12_wordOf_118 : decode cX12_wordOf 118 = .ok (.istore 4, 2) := by decide +kernel
theorem dX12_wordOf_120 : decode cX12_wordOf 120 = .ok (.iinc 3 1, 3) := by decide +kernel
theorem dX12_wordOf_123 : decode cX12_wordOf 123 = .ok (.goto (-118), 3) := by decide +kernel
theorem dX12_wordOf_126 : decode cX12_wordOf 126 = .ok (.iconst 0, 1) := by decide +kernel
theorem dX12_wordOf_127 : decode cX12_wordOf 127 = .ok (.ireturn, 1) := by decide +kernel
theorem dX12_splits_0 : decode cX12_splits 0 = .ok (.aload_n 0, 1) := by decide +kernel
theorem dX12_splits_1 : decode cX12_splits 1 = .ok (.iconst 0, 1) := by decide +kernel
theorem dX12_splits_2 : decode cX12_splits 2 = .ok (.putfield 175, 3) := by decide +kernel
theorem dX12_splits_5 : decode cX12_splits 5 = .ok (.iconst 0, 1) := by decide +kernel
theorem dX12_splits_6 : decode cX12_splits 6 = .ok (.istore_n 2, 1) := by decide +kernel
theorem dX12_splits_7 : decode cX12_splits 7 = .ok (.iload_n 2, 1) := by decide +kernel
theorem dX12_splits_8 : decode cX12_splits 8 = .ok (.iload_n 1, 1) := by decide +kernel
theorem dX12_splits_9 : decode cX12_splits 9 = .ok (.if_icmp .ge 254, 3) := by decide +kernel
theorem dX12_splits_12 : decode cX12_splits 12 = .ok (.aload_n 0, 1) := by decide +kernel
theorem dX12_splits_13 : decode cX12_splits 13 = .ok (.getfield 45, 3) := by decide +kernel
theorem dX12_splits_16 : decode cX12_splits 16 = .ok (.iload_n 2, 1) := by decide +kernel
theorem dX12_splits_17 : decode cX12_splits 17 = .ok (.baload, 1) := by decide +kernel
theorem dX12_splits_18 : decode cX12_splits 18 = .ok (.istore_n 3, 1) := by decide +kernel
theorem dX12_splits_19 : decode cX12_splits 19 = .ok (.iload_n 3, 1) := by decide +kernel
theorem dX12_splits_20 : decode cX12_splits 20 = .ok (.bipush 32, 2) := by decide +kernel
theorem dX12_splits_22 : decode cX12_splits 22 = .ok (.if_icmp .ne 9, 3) := by decide +kernel
theorem dX12_splits_25 : decode cX12_splits 25 = .ok (.iinc 2 1, 3) := by decide +kernel
theorem dX12_splits_28 : decode cX12_splits 28 = .ok (.goto (-21), 3) := by decide +kernel
theorem dX12_splits_31 : decode cX12_splits 31 = .ok (.iload_n 2, 1) := by decide +kernel
theorem dX12_splits_32 : decode cX12_splits 32 = .ok (.iconst 1, 1) := by decide +kernel
theorem dX12_splits_33 : decode cX12_splits 33 = .ok (.iadd, 1) := by decide +kernel
theorem dX12_splits_34 : decode cX12_splits 34 = .ok (.istore 4, 2) := by decide +kernel
theorem dX12_splits_36 : decode cX12_splits 36 = .ok (.iload_n 3, 1) := by decide +kernel
theorem dX12_splits_37 : decode cX12_splits 37 = .ok (.invokestatic 178, 3) := by decide +kernel
theorem dX12_splits_40 : decode cX12_splits 40 = .ok (.ifCond .eq 28, 3) := by decide +kernel
theorem dX12_splits_43 : decode cX12_splits 43 = .ok (.iload 4, 2) := by decide +kernel
theorem dX12_splits_45 : decode cX12_splits 45 = .ok (.iload_n 1, 1) := by decide +kernel
theorem dX12_splits_46 : decode cX12_splits 46 = .ok (.if_icmp .ge 22, 3) := by decide +kernel
theorem dX12_splits_49 : decode cX12_splits 49 = .ok (.aload_n 0, 1) := by decide +kernel
theorem dX12_splits_50 : decode cX12_splits 50 = .ok (.getfield 45, 3) := by decide +kernel
theorem dX12_splits_53 : decode cX12_splits 53 = .ok (.iload 4, 2) := by decide +kernel
theorem dX12_splits_55 : decode cX12_splits 55 = .ok (.baload, 1) := by decide +kernel
theorem dX12_splits_56 : decode cX12_splits 56 = .ok (.invokestatic 178, 3) := by decide +kernel
theorem dX12_splits_59 : decode cX12_splits 59 = .ok (.ifCond .eq 9, 3) := by decide +kernel
theorem dX12_splits_62 : decode cX12_splits 62 = .ok (.iinc 4 1, 3) := by decide +kernel
theorem dX12_splits_65 : decode cX12_splits 65 = .ok (.goto (-22), 3) := by decide +kernel
theorem dX12_splits_68 : decode cX12_splits 68 = .ok (.iload_n 3, 1) := by decide +kernel
theorem dX12_splits_69 : decode cX12_splits 69 = .ok (.invokestatic 181, 3) := by decide +kernel
theorem dX12_splits_72 : decode cX12_splits 72 = .ok (.ifCond .eq 28, 3) := by decide +kernel
theorem dX12_splits_75 : decode cX12_splits 75 = .ok (.iload 4, 2) := by decide +kernel
theorem dX12_splits_77 : decode cX12_splits 77 = .ok (.iload_n 1, 1) := by decide +kernel
theorem dX12_splits_78 : decode cX12_splits 78 = .ok (.if_icmp .ge 22, 3) := by decide +kernel
theorem dX12_splits_81 : decode cX12_splits 81 = .ok (.aload_n 0, 1) := by decide +kernel
theorem dX12_splits_82 : decode cX12_splits 82 = .ok (.getfield 45, 3) := by decide +kernel
theorem dX12_splits_85 : decode cX12_splits 85 = .ok (.iload 4, 2) := by decide +kernel
theorem dX12_splits_87 : decode cX12_splits 87 = .ok (.baload, 1) := by decide +kernel
theorem dX12_splits_88 : decode cX12_splits 88 = .ok (.invokestatic 181, 3) := by decide +kernel
theorem dX12_splits_91 : decode cX12_splits 91 = .ok (.ifCond .eq 9, 3) := by decide +kernel
theorem dX12_splits_94 : decode cX12_splits 94 = .ok (.iinc 4 1, 3) := by decide +kernel
theorem dX12_splits_97 : decode cX12_splits 97 = .ok (.goto (-22), 3) := by decide +kernel
theorem dX12_splits_100 : decode cX12_splits 100 = .ok (.aload_n 0, 1) := by decide +kernel
theorem dX12_splits_101 : decode cX12_splits 101 = .ok (.getfield 60, 3) := by decide +kernel
theorem dX12_splits_104 : decode cX12_splits 104 = .ok (.aload_n 0, 1) := by decide +kernel
theorem dX12_splits_105 : decode cX12_splits 105 = .ok (.getfield 175, 3) := by decide +kernel
theorem dX12_splits_108 : decode cX12_splits 108 = .ok (.iload_n 2, 1) := by decide +kernel
theorem dX12_splits_109 : decode cX12_splits 109 = .ok (.iastore, 1) := by decide +kernel
theorem dX12_splits_110 : decode cX12_splits 110 = .ok (.aload_n 0, 1) := by decide +kernel
theorem dX12_splits_111 : decode cX12_splits 111 = .ok (.getfield 57, 3) := by decide +kernel
theorem dX12_splits_114 : decode cX12_splits 114 = .ok (.aload_n 0, 1) := by decide +kernel
theorem dX12_splits_115 : decode cX12_splits 115 = .ok (.getfield 175, 3) := by decide +kernel
theorem dX12_splits_118 : decode cX12_splits 118 = .ok (.iconst 0, 1) := by decide +kernel
theorem dX12_splits_119 : decode cX12_splits 119 = .ok (.iastore, 1) := by decide +kernel
theorem dX12_splits_120 : decode cX12_splits 120 = .ok (.aload_n 0, 1) := by decide +kernel
theorem dX12_splits_121 : decode cX12_splits 121 = .ok (.getfield 54, 3) := by decide +kernel
theorem dX12_splits_124 : decode cX12_splits 124 = .ok (.aload_n 0, 1) := by decide +kernel
theorem dX12_splits_125 : decode cX12_splits 125 = .ok (.getfield 175, 3) := by decide +kernel
theorem dX12_splits_128 : decode cX12_splits 128 = .ok (.iload_n 3, 1) := by decide +kernel
theorem dX12_splits_129 : decode cX12_splits 129 = .ok (.invokestatic 178, 3) := by decide +kernel
theorem dX12_splits_132 : decode cX12_splits 132 = .ok (.ifCond .eq 13, 3) := by decide +kernel
theorem dX12_splits_135 : decode cX12_splits 135 = .ok (.aload_n 0, 1) := by decide +kernel
theorem dX12_splits_136 : decode cX12_splits 136 = .ok (.iload_n 2, 1) := by decide +kernel
theorem dX12_splits_137 : decode cX12_splits 137 = .ok (.iload 4, 2) := by decide +kernel
theorem dX12_splits_139 : decode cX12_splits 139 = .ok (.invokevirtual 184, 3) := by decide +kernel
theorem dX12_splits_142 : decode cX12_splits 142 = .ok (.goto 23, 3) := by decide +kernel
theorem dX12_splits_145 : decode cX12_splits 145 = .ok (.iload_n 3, 1) := by decide +kernel
theorem dX12_splits_146 : decode cX12_splits 146 = .ok (.invokestatic 181, 3) := by decide +kernel
theorem dX12_splits_149 : decode cX12_splits 149 = .ok (.ifCond .eq 8, 3) := by decide +kernel
theorem dX12_splits_152 : decode cX12_splits 152 = .ok (.bipush 50, 2) := by decide +kernel
theorem dX12_splits_154 : decode cX12_splits 154 = .ok (.goto 11, 3) := by decide +kernel
theorem dX12_splits_157 : decode cX12_splits 157 = .ok (.bipush 100, 2) := by decide +kernel
theorem dX12_splits_159 : decode cX12_splits 159 = .ok (.iload_n 3, 1) := by decide +kernel
theorem dX12_splits_160 : decode cX12_splits 160 = .ok (.sipush 255, 3) := by decide +kernel
theorem dX12_splits_163 : decode cX12_splits 163 = .ok (.iand, 1) := by decide +kernel
theorem dX12_splits_164 : decode cX12_splits 164 = .ok (.iadd, 1) := by decide +kernel
theorem dX12_splits_165 : decode cX12_splits 165 = .ok (.iastore, 1) := by decide +kernel
theorem dX12_splits_166 : decode cX12_splits 166 = .ok (.iload_n 2, 1) := by decide +kernel
theorem dX12_splits_167 : decode cX12_splits 167 = .ok (.istore 5, 2) := by decide +kernel
theorem dX12_splits_169 : decode cX12_splits 169 = .ok (.iload 5, 2) := by decide +kernel
theorem dX12_splits_171 : decode cX12_splits 171 = .ok (.iload 4, 2) := by decide +kernel
theorem dX12_splits_173 : decode cX12_splits 173 = .ok (.if_icmp .ge 74, 3) := by decide +kernel
theorem dX12_splits_176 : decode cX12_splits 176 = .ok (.iload_n 3, 1) := by decide +kernel
theorem dX12_splits_177 : decode cX12_splits 177 = .ok (.invokestatic 181, 3) := by decide +kernel
theorem dX12_splits_180 : decode cX12_splits 180 = .ok (.ifCond .eq 67, 3) := by decide +kernel
theorem dX12_splits_183 : decode cX12_splits 183 = .ok (.aload_n 0, 1) := by decide +kernel
theorem dX12_splits_184 : decode cX12_splits 184 = .ok (.getfield 57, 3) := by decide +kernel
theorem dX12_splits_187 : decode cX12_splits 187 = .ok (.aload_n 0, 1) := by decide +kernel
theorem dX12_splits_188 : decode cX12_splits 188 = .ok (.getfield 175, 3) := by decide +kernel
theorem dX12_splits_191 : decode cX12_splits 191 = .ok (.aload_n 0, 1) := by decide +kernel
theorem dX12_splits_192 : decode cX12_splits 192 = .ok (.getfield 57, 3) := by decide +kernel
theorem dX12_splits_195 : decode cX12_splits 195 = .ok (.aload_n 0, 1) := by decide +kernel
theorem dX12_splits_196 : decode cX12_splits 196 = .ok (.getfield 175, 3) := by decide +kernel
theorem dX12_splits_199 : decode cX12_splits 199 = .ok (.iaload, 1) := by decide +kernel
theorem dX12_splits_200 : decode cX12_splits 200 = .ok (.ldc 188, 2) := by decide +kernel
theorem dX12_splits_202 : decode cX12_splits 202 = .ok (.if_icmp .le 15, 3) := by decide +kernel
theorem dX12_splits_205 : decode cX12_splits 205 = .ok (.aload_n 0, 1) := by decide +kernel
theorem dX12_splits_206 : decode cX12_splits 206 = .ok (.getfield 57, 3) := by decide +kernel
theorem dX12_splits_209 : decode cX12_splits 209 = .ok (.aload_n 0, 1) := by decide +kernel
theorem dX12_splits_210 : decode cX12_splits 210 = .ok (.getfield 175, 3) := by decide +kernel
theorem dX12_splits_213 : decode cX12_splits 213 = .ok (.iaload, 1) := by decide +kernel
theorem dX12_splits_214 : decode cX12_splits 214 = .ok (.goto 26, 3) := by decide +kernel
theorem dX12_splits_217 : decode cX12_splits 217 = .ok (.bipush 10, 2) := by decide +kernel
theorem dX12_splits_219 : decode cX12_splits 219 = .ok (.aload_n 0, 1) := by decide +kernel
theorem dX12_splits_220 : decode cX12_splits 220 = .ok (.getfield 57, 3) := by decide +kernel
theorem dX12_splits_223 : decode cX12_splits 223 = .ok (.aload_n 0, 1) := by decide +kernel
theorem dX12_splits_224 : decode cX12_splits 224 = .ok (.getfield 175, 3) := by decide +kernel
theorem dX12_splits_227 : decode cX12_splits 227 = .ok (.iaload, 1) := by decide +kernel
theorem dX12_splits_228 : decode cX12_splits 228 = .ok (.imul, 1) := by decide +kernel
theorem dX12_splits_229 : decode cX12_splits 229 = .ok (.aload_n 0, 1) := by decide +kernel
theorem dX12_splits_230 : decode cX12_splits 230 = .ok (.getfield 45, 3) := by decide +kernel
theorem dX12_splits_233 : decode cX12_splits 233 = .ok (.iload 5, 2) := by decide +kernel
theorem dX12_splits_235 : decode cX12_splits 235 = .ok (.baload, 1) := by decide +kernel
theorem dX12_splits_236 : decode cX12_splits 236 = .ok (.iadd, 1) := by decide +kernel
theorem dX12_splits_237 : decode cX12_splits 237 = .ok (.bipush 48, 2) := by decide +kernel
theorem dX12_splits_239 : decode cX12_splits 239 = .ok (.isub, 1) := by decide +kernel
theorem dX12_splits_240 : decode cX12_splits 240 = .ok (.iastore, 1) := by decide +kernel
theorem dX12_splits_241 : decode cX12_splits 241 = .ok (.iinc 5 1, 3) := by decide +kernel
theorem dX12_splits_244 : decode cX12_splits 244 = .ok (.goto (-75), 3) := by decide +kernel
theorem dX12_splits_247 : decode cX12_splits 247 = .ok (.aload_n 0, 1) := by decide +kernel
theorem dX12_splits_248 : decode cX12_splits 248 = .ok (.dup, 1) := by decide +kernel
theorem dX12_splits_249 : decode cX12_splits 249 = .ok (.getfield 175, 3) := by decide +kernel
theorem dX12_splits_252 : decode cX12_splits 252 = .ok (.iconst 1, 1) := by decide +kernel
theorem dX12_splits_253 : decode cX12_splits 253 = .ok (.iadd, 1) := by decide +kernel
theorem dX12_splits_254 : decode cX12_splits 254 = .ok (.putfield 175, 3) := by decide +kernel
theorem dX12_splits_257 : decode cX12_splits 257 = .ok (.iload 4, 2) := by decide +kernel
theorem dX12_splits_259 : decode cX12_splits 259 = .ok (.istore_n 2, 1) := by decide +kernel
theorem dX12_splits_260 : decode cX12_splits 260 = .ok (.goto (-253), 3) := by decide +kernel
theorem dX12_splits_263 : decode cX12_splits 263 = .ok (.aload_n 0, 1) := by decide +kernel
theorem dX12_splits_264 : decode cX12_splits 264 = .ok (.getfield 60, 3) := by decide +kernel
theorem dX12_splits_267 : decode cX12_splits 267 = .ok (.aload_n 0, 1) := by decide +kernel
theorem dX12_splits_268 : decode cX12_splits 268 = .ok (.getfield 175, 3) := by decide +kernel
theorem dX12_splits_271 : decode cX12_splits 271 = .ok (.iload_n 1, 1) := by decide +kernel
theorem dX12_splits_272 : decode cX12_splits 272 = .ok (.iastore, 1) := by decide +kernel
theorem dX12_splits_273 : decode cX12_splits 273 = .ok (.aload_n 0, 1) := by decide +kernel
theorem dX12_splits_274 : decode cX12_splits 274 = .ok (.getfield 54, 3) := by decide +kernel
theorem dX12_splits_277 : decode cX12_splits 277 = .ok (.aload_n 0, 1) := by decide +kernel
theorem dX12_splits_278 : decode cX12_splits 278 = .ok (.getfield 175, 3) := by decide +kernel
theorem dX12_splits_281 : decode cX12_splits 281 = .ok (.iconst 0, 1) := by decide +kernel
theorem dX12_splits_282 : decode cX12_splits 282 = .ok (.iastore, 1) := by decide +kernel
theorem dX12_splits_283 : decode cX12_splits 283 = .ok (.aload_n 0, 1) := by decide +kernel
theorem dX12_splits_284 : decode cX12_splits 284 = .ok (.getfield 57, 3) := by decide +kernel
theorem dX12_splits_287 : decode cX12_splits 287 = .ok (.aload_n 0, 1) := by decide +kernel
theorem dX12_splits_288 : decode cX12_splits 288 = .ok (.getfield 175, 3) := by decide +kernel
theorem dX12_splits_291 : decode cX12_splits 291 = .ok (.iconst 0, 1) := by decide +kernel
theorem dX12_splits_292 : decode cX12_splits 292 = .ok (.iastore, 1) := by decide +kernel
theorem dX12_splits_293 : decode cX12_splits 293 = .ok (.return_, 1) := by decide +kernel
theorem dX12_fine_0 : decode cX12_fine 0 = .ok (.aload_n 0, 1) := by decide +kernel
theorem dX12_fine_1 : decode cX12_fine 1 = .ok (.getfield 189, 3) := by decide +kernel
theorem dX12_fine_4 : decode cX12_fine 4 = .ok (.iconst (-1), 1) := by decide +kernel
theorem dX12_fine_5 : decode cX12_fine 5 = .ok (.if_icmp .ne 7, 3) := by decide +kernel
theorem dX12_fine_8 : decode cX12_fine 8 = .ok (.iconst 1, 1) := by decide +kernel
theorem dX12_fine_9 : decode cX12_fine 9 = .ok (.goto 4, 3) := by decide +kernel
theorem dX12_fine_12 : decode cX12_fine 12 = .ok (.iconst 0, 1) := by decide +kernel
theorem dX12_fine_13 : decode cX12_fine 13 = .ok (.ireturn, 1) := by decide +kernel
theorem dX12_faults_0 : decode cX12_faults 0 = .ok (.aload_n 0, 1) := by decide +kernel
theorem dX12_faults_1 : decode cX12_faults 1 = .ok (.invokevirtual 192, 3) := by decide +kernel
theorem dX12_faults_4 : decode cX12_faults 4 = .ok (.ifCond .eq 16, 3) := by decide +kernel
theorem dX12_faults_7 : decode cX12_faults 7 = .ok (.aload_n 0, 1) := by decide +kernel
theorem dX12_faults_8 : decode cX12_faults 8 = .ok (.aload_n 0, 1) := by decide +kernel
theorem dX12_faults_9 : decode cX12_faults 9 = .ok (.getfield 60, 3) := by decide +kernel
theorem dX12_faults_12 : decode cX12_faults 12 = .ok (.aload_n 0, 1) := by decide +kernel
theorem dX12_faults_13 : decode cX12_faults 13 = .ok (.getfield 196, 3) := by decide +kernel
theorem dX12_faults_16 : decode cX12_faults 16 = .ok (.iaload, 1) := by decide +kernel
theorem dX12_faults_17 : decode cX12_faults 17 = .ok (.putfield 189, 3) := by decide +kernel
theorem dX12_faults_20 : decode cX12_faults 20 = .ok (.return_, 1) := by decide +kernel
theorem dX12_takes0_0 : decode cX12_takes0 0 = .ok (.aload_n 0, 1) := by decide +kernel
theorem dX12_takes0_1 : decode cX12_takes0 1 = .ok (.invokevirtual 192, 3) := by decide +kernel
theorem dX12_takes0_4 : decode cX12_takes0 4 = .ok (.ifCond .eq 20, 3) := by decide +kernel
theorem dX12_takes0_7 : decode cX12_takes0 7 = .ok (.aload_n 0, 1) := by decide +kernel
theorem dX12_takes0_8 : decode cX12_takes0 8 = .ok (.getfield 54, 3) := by decide +kernel
theorem dX12_takes0_11 : decode cX12_takes0 11 = .ok (.aload_n 0, 1) := by decide +kernel
theorem dX12_takes0_12 : decode cX12_takes0 12 = .ok (.getfield 196, 3) := by decide +kernel
theorem dX12_takes0_15 : decode cX12_takes0 15 = .ok (.iaload, 1) := by decide +kernel
theorem dX12_takes0_16 : decode cX12_takes0 16 = .ok (.iload_n 1, 1) := by decide +kernel
theorem dX12_takes0_17 : decode cX12_takes0 17 = .ok (.if_icmp .ne 7, 3) := by decide +kernel
theorem dX12_takes0_20 : decode cX12_takes0 20 = .ok (.iconst 1, 1) := by decide +kernel
theorem dX12_takes0_21 : decode cX12_takes0 21 = .ok (.goto 4, 3) := by decide +kernel
theorem dX12_takes0_24 : decode cX12_takes0 24 = .ok (.iconst 0, 1) := by decide +kernel
theorem dX12_takes0_25 : decode cX12_takes0 25 = .ok (.istore_n 2, 1) := by decide +kernel
theorem dX12_takes0_26 : decode cX12_takes0 26 = .ok (.iload_n 2, 1) := by decide +kernel
theorem dX12_takes0_27 : decode cX12_takes0 27 = .ok (.ifCond .eq 13, 3) := by decide +kernel
theorem dX12_takes0_30 : decode cX12_takes0 30 = .ok (.aload_n 0, 1) := by decide +kernel
theorem dX12_takes0_31 : decode cX12_takes0 31 = .ok (.dup, 1) := by decide +kernel
theorem dX12_takes0_32 : decode cX12_takes0 32 = .ok (.getfield 196, 3) := by decide +kernel
theorem dX12_takes0_35 : decode cX12_takes0 35 = .ok (.iconst 1, 1) := by decide +kernel
theorem dX12_takes0_36 : decode cX12_takes0 36 = .ok (.iadd, 1) := by decide +kernel
theorem dX12_takes0_37 : decode cX12_takes0 37 = .ok (.putfield 196, 3) := by decide +kernel
theorem dX12_takes0_40 : decode cX12_takes0 40 = .ok (.iload_n 2, 1) := by decide +kernel
theorem dX12_takes0_41 : decode cX12_takes0 41 = .ok (.ireturn, 1) := by decide +kernel
theorem dX12_must_0 : decode cX12_must 0 = .ok (.aload_n 0, 1) := by decide +kernel
theorem dX12_must_1 : decode cX12_must 1 = .ok (.iload_n 1, 1) := by decide +kernel
theorem dX12_must_2 : decode cX12_must 2 = .ok (.invokevirtual 199, 3) := by decide +kernel
theorem dX12_must_5 : decode cX12_must 5 = .ok (.ifCond .ne 7, 3) := by decide +kernel
theorem dX12_must_8 : decode cX12_must 8 = .ok (.aload_n 0, 1) := by decide +kernel
theorem dX12_must_9 : decode cX12_must 9 = .ok (.invokevirtual 202, 3) := by decide +kernel
theorem dX12_must_12 : decode cX12_must 12 = .ok (.return_, 1) := by decide +kernel
theorem dX12_leaf_0 : decode cX12_leaf 0 = .ok (.aload_n 0, 1) := by decide +kernel
theorem dX12_leaf_1 : decode cX12_leaf 1 = .ok (.getfield 205, 3) := by decide +kernel
theorem dX12_leaf_4 : decode cX12_leaf 4 = .ok (.bipush 50, 2) := by decide +kernel
theorem dX12_leaf_6 : decode cX12_leaf 6 = .ok (.if_icmp .ne 7, 3) := by decide +kernel
theorem dX12_leaf_9 : decode cX12_leaf 9 = .ok (.aload_n 0, 1) := by decide +kernel
theorem dX12_leaf_10 : decode cX12_leaf 10 = .ok (.invokevirtual 202, 3) := by decide +kernel
theorem dX12_leaf_13 : decode cX12_leaf 13 = .ok (.aload_n 0, 1) := by decide +kernel
theorem dX12_leaf_14 : decode cX12_leaf 14 = .ok (.dup, 1) := by decide +kernel
theorem dX12_leaf_15 : decode cX12_leaf 15 = .ok (.getfield 205, 3) := by decide +kernel
theorem dX12_leaf_18 : decode cX12_leaf 18 = .ok (.iconst 1, 1) := by decide +kernel
theorem dX12_leaf_19 : decode cX12_leaf 19 = .ok (.iadd, 1) := by decide +kernel
theorem dX12_leaf_20 : decode cX12_leaf 20 = .ok (.putfield 205, 3) := by decide +kernel
theorem dX12_leaf_23 : decode cX12_leaf 23 = .ok (.aload_n 0, 1) := by decide +kernel
theorem dX12_leaf_24 : decode cX12_leaf 24 = .ok (.invokevirtual 192, 3) := by decide +kernel
theorem dX12_leaf_27 : decode cX12_leaf 27 = .ok (.ifCond .eq 13, 3) := by decide +kernel
theorem dX12_leaf_30 : decode cX12_leaf 30 = .ok (.aload_n 0, 1) := by decide +kernel
theorem dX12_leaf_31 : decode cX12_leaf 31 = .ok (.dup, 1) := by decide +kernel
theorem dX12_leaf_32 : decode cX12_leaf 32 = .ok (.getfield 196, 3) := by decide +kernel
theorem dX12_leaf_35 : decode cX12_leaf 35 = .ok (.iconst 1, 1) := by decide +kernel
theorem dX12_leaf_36 : decode cX12_leaf 36 = .ok (.iadd, 1) := by decide +kernel
theorem dX12_leaf_37 : decode cX12_leaf 37 = .ok (.putfield 196, 3) := by decide +kernel
theorem dX12_leaf_40 : decode cX12_leaf 40 = .ok (.return_, 1) := by decide +kernel
theorem dX12_sign_0 : decode cX12_sign 0 = .ok (.bipush 100, 2) := by decide +kernel
theorem dX12_sign_2 : decode cX12_sign 2 = .ok (.iload_n 0, 1) := by decide +kernel
theorem dX12_sign_3 : decode cX12_sign 3 = .ok (.iadd, 1) := by decide +kernel
theorem dX12_sign_4 : decode cX12_sign 4 = .ok (.ireturn, 1) := by decide +kernel
theorem dX12_mustNumber_0 : decode cX12_mustNumber 0 = .ok (.aload_n 0, 1) := by decide +kernel
theorem dX12_mustNumber_1 : decode cX12_mustNumber 1 = .ok (.invokevirtual 192, 3) := by decide +kernel
theorem dX12_mustNumber_4 : decode cX12_mustNumber 4 = .ok (.ifCond .eq 38, 3) := by decide +kernel
theorem dX12_mustNumber_7 : decode cX12_mustNumber 7 = .ok (.aload_n 0, 1) := by decide +kernel
theorem dX12_mustNumber_8 : decode cX12_mustNumber 8 = .ok (.getfield 54, 3) := by decide +kernel
theorem dX12_mustNumber_11 : decode cX12_mustNumber 11 = .ok (.aload_n 0, 1) := by decide +kernel
theorem dX12_mustNumber_12 : decode cX12_mustNumber 12 = .ok (.getfield 196, 3) := by decide +kernel
theorem dX12_mustNumber_15 : decode cX12_mustNumber 15 = .ok (.iaload, 1) := by decide +kernel
theorem dX12_mustNumber_16 : decode cX12_mustNumber 16 = .ok (.bipush 50, 2) := by decide +kernel
theorem dX12_mustNumber_18 : decode cX12_mustNumber 18 = .ok (.if_icmp .ne 20, 3) := by decide +kernel
theorem dX12_mustNumber_21 : decode cX12_mustNumber 21 = .ok (.aload_n 0, 1) := by decide +kernel
theorem dX12_mustNumber_22 : decode cX12_mustNumber 22 = .ok (.getfield 57, 3) := by decide +kernel
theorem dX12_mustNumber_25 : decode cX12_mustNumber 25 = .ok (.aload_n 0, 1) := by decide +kernel
theorem dX12_mustNumber_26 : decode cX12_mustNumber 26 = .ok (.getfield 196, 3) := by decide +kernel
theorem dX12_mustNumber_29 : decode cX12_mustNumber 29 = .ok (.iaload, 1) := by decide +kernel
theorem dX12_mustNumber_30 : decode cX12_mustNumber 30 = .ok (.iload_n 1, 1) := by decide +kernel
theorem dX12_mustNumber_31 : decode cX12_mustNumber 31 = .ok (.iload_n 2, 1) := by decide +kernel
theorem dX12_mustNumber_32 : decode cX12_mustNumber 32 = .ok (.invokestatic 18, 3) := by decide +kernel
theorem dX12_mustNumber_35 : decode cX12_mustNumber 35 = .ok (.ifCond .ne 7, 3) := by decide +kernel
theorem dX12_mustNumber_38 : decode cX12_mustNumber 38 = .ok (.aload_n 0, 1) := by decide +kernel
theorem dX12_mustNumber_39 : decode cX12_mustNumber 39 = .ok (.invokevirtual 202, 3) := by decide +kernel
theorem dX12_mustNumber_42 : decode cX12_mustNumber 42 = .ok (.aload_n 0, 1) := by decide +kernel
theorem dX12_mustNumber_43 : decode cX12_mustNumber 43 = .ok (.invokevirtual 192, 3) := by decide +kernel
theorem dX12_mustNumber_46 : decode cX12_mustNumber 46 = .ok (.ifCond .eq 13, 3) := by decide +kernel
theorem dX12_mustNumber_49 : decode cX12_mustNumber 49 = .ok (.aload_n 0, 1) := by decide +kernel
theorem dX12_mustNumber_50 : decode cX12_mustNumber 50 = .ok (.dup, 1) := by decide +kernel
theorem dX12_mustNumber_51 : decode cX12_mustNumber 51 = .ok (.getfield 196, 3) := by decide +kernel
theorem dX12_mustNumber_54 : decode cX12_mustNumber 54 = .ok (.iconst 1, 1) := by decide +kernel
theorem dX12_mustNumber_55 : decode cX12_mustNumber 55 = .ok (.iadd, 1) := by decide +kernel
theorem dX12_mustNumber_56 : decode cX12_mustNumber 56 = .ok (.putfield 196, 3) := by decide +kernel
theorem dX12_mustNumber_59 : decode cX12_mustNumber 59 = .ok (.return_, 1) := by decide +kernel
theorem dX12_readClause_0 : decode cX12_readClause 0 = .ok (.aload_n 0, 1) := by decide +kernel
theorem dX12_readClause_1 : decode cX12_readClause 1 = .ok (.iconst 1, 1) := by decide +kernel
theorem dX12_readClause_2 : decode cX12_readClause 2 = .ok (.invokevirtual 199, 3) := by decide +kernel
theorem dX12_readClause_5 : decode cX12_readClause 5 = .ok (.ifCond .ne 11, 3) := by decide +kernel
theorem dX12_readClause_8 : decode cX12_readClause 8 = .ok (.aload_n 0, 1) := by decide +kernel
theorem dX12_readClause_9 : decode cX12_readClause 9 = .ok (.iconst 2, 1) := by decide +kernel
theorem dX12_readClause_10 : decode cX12_readClause 10 = .ok (.invokevirtual 199, 3) := by decide +kernel
theorem dX12_readClause_13 : decode cX12_readClause 13 = .ok (.ifCond .eq 11, 3) := by decide +kernel
theorem dX12_readClause_16 : decode cX12_readClause 16 = .ok (.aload_n 0, 1) := by decide +kernel
theorem dX12_readClause_17 : decode cX12_readClause 17 = .ok (.iconst 0, 1) := by decide +kernel
theorem dX12_readClause_18 : decode cX12_readClause 18 = .ok (.invokevirtual 208, 3) := by decide +kernel
theorem dX12_readClause_21 : decode cX12_readClause 21 = .ok (.goto 8, 3) := by decide +kernel
theorem dX12_readClause_24 : decode cX12_readClause 24 = .ok (.aload_n 0, 1) := by decide +kernel
theorem dX12_readClause_25 : decode cX12_readClause 25 = .ok (.iconst 3, 1) := by decide +kernel
theorem dX12_readClause_26 : decode cX12_readClause 26 = .ok (.invokevirtual 211, 3) := by decide +kernel
theorem dX12_readClause_29 : decode cX12_readClause 29 = .ok (.aload_n 0, 1) := by decide +kernel
theorem dX12_readClause_30 : decode cX12_readClause 30 = .ok (.iconst 4, 1) := by decide +kernel
theorem dX12_readClause_31 : decode cX12_readClause 31 = .ok (.invokevirtual 199, 3) := by decide +kernel
theorem dX12_readClause_34 : decode cX12_readClause 34 = .ok (.ifCond .eq 8, 3) := by decide +kernel
theorem dX12_readClause_37 : decode cX12_readClause 37 = .ok (.aload_n 0, 1) := by decide +kernel
theorem dX12_readClause_38 : decode cX12_readClause 38 = .ok (.iconst 0, 1) := by decide +kernel
theorem dX12_readClause_39 : decode cX12_readClause 39 = .ok (.invokevirtual 214, 3) := by decide +kernel
theorem dX12_readClause_42 : decode cX12_readClause 42 = .ok (.return_, 1) := by decide +kernel
theorem dX12_readMore_0 : decode cX12_readMore 0 = .ok (.aload_n 0, 1) := by decide +kernel
theorem dX12_readMore_1 : decode cX12_readMore 1 = .ok (.iload_n 1, 1) := by decide +kernel
theorem dX12_readMore_2 : decode cX12_readMore 2 = .ok (.invokevirtual 211, 3) := by decide +kernel
theorem dX12_readMore_5 : decode cX12_readMore 5 = .ok (.aload_n 0, 1) := by decide +kernel
theorem dX12_readMore_6 : decode cX12_readMore 6 = .ok (.iconst 0, 1) := by decide +kernel
theorem dX12_readMore_7 : decode cX12_readMore 7 = .ok (.invokevirtual 208, 3) := by decide +kernel
theorem dX12_readMore_10 : decode cX12_readMore 10 = .ok (.return_, 1) := by decide +kernel
theorem dX12_readOrder_0 : decode cX12_readOrder 0 = .ok (.aload_n 0, 1) := by decide +kernel
theorem dX12_readOrder_1 : decode cX12_readOrder 1 = .ok (.bipush 21, 2) := by decide +kernel
theorem dX12_readOrder_3 : decode cX12_readOrder 3 = .ok (.invokevirtual 199, 3) := by decide +kernel
theorem dX12_readOrder_6 : decode cX12_readOrder 6 = .ok (.ifCond .eq 23, 3) := by decide +kernel
theorem dX12_readOrder_9 : decode cX12_readOrder 9 = .ok (.aload_n 0, 1) := by decide +kernel
theorem dX12_readOrder_10 : decode cX12_readOrder 10 = .ok (.iconst 0, 1) := by decide +kernel
theorem dX12_readOrder_11 : decode cX12_readOrder 11 = .ok (.invokevirtual 208, 3) := by decide +kernel
theorem dX12_readOrder_14 : decode cX12_readOrder 14 = .ok (.aload_n 0, 1) := by decide +kernel
theorem dX12_readOrder_15 : decode cX12_readOrder 15 = .ok (.bipush 22, 2) := by decide +kernel
theorem dX12_readOrder_17 : decode cX12_readOrder 17 = .ok (.invokevirtual 217, 3) := by decide +kernel
theorem dX12_readOrder_20 : decode cX12_readOrder 20 = .ok (.aload_n 0, 1) := by decide +kernel
theorem dX12_readOrder_21 : decode cX12_readOrder 21 = .ok (.bipush 23, 2) := by decide +kernel
theorem dX12_readOrder_23 : decode cX12_readOrder 23 = .ok (.invokevirtual 217, 3) := by decide +kernel
theorem dX12_readOrder_26 : decode cX12_readOrder 26 = .ok (.goto 35, 3) := by decide +kernel
theorem dX12_readOrder_29 : decode cX12_readOrder 29 = .ok (.aload_n 0, 1) := by decide +kernel
theorem dX12_readOrder_30 : decode cX12_readOrder 30 = .ok (.bipush 24, 2) := by decide +kernel
theorem dX12_readOrder_32 : decode cX12_readOrder 32 = .ok (.invokevirtual 199, 3) := by decide +kernel
theorem dX12_readOrder_35 : decode cX12_readOrder 35 = .ok (.ifCond .eq 11, 3) := by decide +kernel
theorem dX12_readOrder_38 : decode cX12_readOrder 38 = .ok (.aload_n 0, 1) := by decide +kernel
theorem dX12_readOrder_39 : decode cX12_readOrder 39 = .ok (.iconst 0, 1) := by decide +kernel
theorem dX12_readOrder_40 : decode cX12_readOrder 40 = .ok (.invokevirtual 208, 3) := by decide +kernel
theorem dX12_readOrder_43 : decode cX12_readOrder 43 = .ok (.goto 18, 3) := by decide +kernel
theorem dX12_readOrder_46 : decode cX12_readOrder 46 = .ok (.aload_n 0, 1) := by decide +kernel
theorem dX12_readOrder_47 : decode cX12_readOrder 47 = .ok (.bipush 25, 2) := by decide +kernel
theorem dX12_readOrder_49 : decode cX12_readOrder 49 = .ok (.invokevirtual 199, 3) := by decide +kernel
theorem dX12_readOrder_52 : decode cX12_readOrder 52 = .ok (.ifCond .ne 9, 3) := by decide +kernel
theorem dX12_readOrder_55 : decode cX12_readOrder 55 = .ok (.aload_n 0, 1) := by decide +kernel
theorem dX12_readOrder_56 : decode cX12_readOrder 56 = .ok (.bipush 26, 2) := by decide +kernel
theorem dX12_readOrder_58 : decode cX12_readOrder 58 = .ok (.invokevirtual 211, 3) := by decide +kernel
theorem dX12_readOrder_61 : decode cX12_readOrder 61 = .ok (.aload_n 0, 1) := by decide +kernel
theorem dX12_readOrder_62 : decode cX12_readOrder 62 = .ok (.bipush 27, 2) := by decide +kernel
theorem dX12_readOrder_64 : decode cX12_readOrder 64 = .ok (.invokevirtual 199, 3) := by decide +kernel
theorem dX12_readOrder_67 : decode cX12_readOrder 67 = .ok (.ifCond .eq 10, 3) := by decide +kernel
theorem dX12_readOrder_70 : decode cX12_readOrder 70 = .ok (.aload_n 0, 1) := by decide +kernel
theorem dX12_readOrder_71 : decode cX12_readOrder 71 = .ok (.iconst 1, 1) := by decide +kernel
theorem dX12_readOrder_72 : decode cX12_readOrder 72 = .ok (.bipush 20, 2) := by decide +kernel
theorem dX12_readOrder_74 : decode cX12_readOrder 74 = .ok (.invokevirtual 220, 3) := by decide +kernel
theorem dX12_readOrder_77 : decode cX12_readOrder 77 = .ok (.aload_n 0, 1) := by decide +kernel
theorem dX12_readOrder_78 : decode cX12_readOrder 78 = .ok (.iconst 4, 1) := by decide +kernel
theorem dX12_readOrder_79 : decode cX12_readOrder 79 = .ok (.invokevirtual 199, 3) := by decide +kernel
theorem dX12_readOrder_82 : decode cX12_readOrder 82 = .ok (.ifCond .eq 8, 3) := by decide +kernel
theorem dX12_readOrder_85 : decode cX12_readOrder 85 = .ok (.aload_n 0, 1) := by decide +kernel
theorem dX12_readOrder_86 : decode cX12_readOrder 86 = .ok (.iconst 0, 1) := by decide +kernel
theorem dX12_readOrder_87 : decode cX12_readOrder 87 = .ok (.invokevirtual 214, 3) := by decide +kernel
theorem dX12_readOrder_90 : decode cX12_readOrder 90 = .ok (.return_, 1) := by decide +kernel
theorem dX12_readOne_0 : decode cX12_readOne 0 = .ok (.aload_n 0, 1) := by decide +kernel
theorem dX12_readOne_1 : decode cX12_readOne 1 = .ok (.getfield 224, 3) := by decide +kernel
theorem dX12_readOne_4 : decode cX12_readOne 4 = .ok (.ifCond .eq 10, 3) := by decide +kernel
theorem dX12_readOne_7 : decode cX12_readOne 7 = .ok (.aload_n 0, 1) := by decide +kernel
theorem dX12_readOne_8 : decode cX12_readOne 8 = .ok (.invokevirtual 228, 3) := by decide +kernel
theorem dX12_readOne_11 : decode cX12_readOne 11 = .ok (.goto 7, 3) := by decide +kernel
theorem dX12_readOne_14 : decode cX12_readOne 14 = .ok (.aload_n 0, 1) := by decide +kernel
theorem dX12_readOne_15 : decode cX12_readOne 15 = .ok (.invokevirtual 231, 3) := by decide +kernel
theorem dX12_readOne_18 : decode cX12_readOne 18 = .ok (.return_, 1) := by decide +kernel
theorem dX12_readTest_0 : decode cX12_readTest 0 = .ok (.aload_n 0, 1) := by decide +kernel
theorem dX12_readTest_1 : decode cX12_readTest 1 = .ok (.iload_n 1, 1) := by decide +kernel
theorem dX12_readTest_2 : decode cX12_readTest 2 = .ok (.invokevirtual 234, 3) := by decide +kernel
theorem dX12_readTest_5 : decode cX12_readTest 5 = .ok (.aload_n 0, 1) := by decide +kernel
theorem dX12_readTest_6 : decode cX12_readTest 6 = .ok (.iconst 5, 1) := by decide +kernel
theorem dX12_readTest_7 : decode cX12_readTest 7 = .ok (.invokevirtual 199, 3) := by decide +kernel
theorem dX12_readTest_10 : decode cX12_readTest 10 = .ok (.ifCond .eq 11, 3) := by decide +kernel
theorem dX12_readTest_13 : decode cX12_readTest 13 = .ok (.aload_n 0, 1) := by decide +kernel
theorem dX12_readTest_14 : decode cX12_readTest 14 = .ok (.iload_n 1, 1) := by decide +kernel
theorem dX12_readTest_15 : decode cX12_readTest 15 = .ok (.invokevirtual 234, 3) := by decide +kernel
theorem dX12_readTest_18 : decode cX12_readTest 18 = .ok (.goto (-13), 3) := by decide +kernel
theorem dX12_readTest_21 : decode cX12_readTest 21 = .ok (.return_, 1) := by decide +kernel
theorem dX12_readBoth_0 : decode cX12_readBoth 0 = .ok (.aload_n 0, 1) := by decide +kernel
theorem dX12_readBoth_1 : decode cX12_readBoth 1 = .ok (.iload_n 1, 1) := by decide +kernel
theorem dX12_readBoth_2 : decode cX12_readBoth 2 = .ok (.invokevirtual 237, 3) := by decide +kernel
theorem dX12_readBoth_5 : decode cX12_readBoth 5 = .ok (.aload_n 0, 1) := by decide +kernel
theorem dX12_readBoth_6 : decode cX12_readBoth 6 = .ok (.bipush 6, 2) := by decide +kernel
theorem dX12_readBoth_8 : decode cX12_readBoth 8 = .ok (.invokevirtual 199, 3) := by decide +kernel
theorem dX12_readBoth_11 : decode cX12_readBoth 11 = .ok (.ifCond .eq 11, 3) := by decide +kernel
theorem dX12_readBoth_14 : decode cX12_readBoth 14 = .ok (.aload_n 0, 1) := by decide +kernel
theorem dX12_readBoth_15 : decode cX12_readBoth 15 = .ok (.iload_n 1, 1) := by decide +kernel
theorem dX12_readBoth_16 : decode cX12_readBoth 16 = .ok (.invokevirtual 237, 3) := by decide +kernel
theorem dX12_readBoth_19 : decode cX12_readBoth 19 = .ok (.goto (-14), 3) := by decide +kernel
theorem dX12_readBoth_22 : decode cX12_readBoth 22 = .ok (.return_, 1) := by decide +kernel
theorem dX12_readPlain_0 : decode cX12_readPlain 0 = .ok (.iconst 1, 1) := by decide +kernel
theorem dX12_readPlain_1 : decode cX12_readPlain 1 = .ok (.istore_n 2, 1) := by decide +kernel
theorem dX12_readPlain_2 : decode cX12_readPlain 2 = .ok (.iload_n 2, 1) := by decide +kernel
theorem dX12_readPlain_3 : decode cX12_readPlain 3 = .ok (.ifCond .eq 13, 3) := by decide +kernel
theorem dX12_readPlain_6 : decode cX12_readPlain 6 = .ok (.aload_n 0, 1) := by decide +kernel
theorem dX12_readPlain_7 : decode cX12_readPlain 7 = .ok (.bipush 7, 2) := by decide +kernel
theorem dX12_readPlain_9 : decode cX12_readPlain 9 = .ok (.invokevirtual 199, 3) := by decide +kernel
theorem dX12_readPlain_12 : decode cX12_readPlain 12 = .ok (.istore_n 2, 1) := by decide +kernel
theorem dX12_readPlain_13 : decode cX12_readPlain 13 = .ok (.goto (-11), 3) := by decide +kernel
theorem dX12_readPlain_16 : decode cX12_readPlain 16 = .ok (.aload_n 0, 1) := by decide +kernel
theorem dX12_readPlain_17 : decode cX12_readPlain 17 = .ok (.invokevirtual 192, 3) := by decide +kernel
theorem dX12_readPlain_20 : decode cX12_readPlain 20 = .ok (.ifCond .ne 4, 3) := by decide +kernel
theorem dX12_readPlain_23 : decode cX12_readPlain 23 = .ok (.return_, 1) := by decide +kernel
theorem dX12_readPlain_24 : decode cX12_readPlain 24 = .ok (.aload_n 0, 1) := by decide +kernel
theorem dX12_readPlain_25 : decode cX12_readPlain 25 = .ok (.getfield 54, 3) := by decide +kernel
theorem dX12_readPlain_28 : decode cX12_readPlain 28 = .ok (.aload_n 0, 1) := by decide +kernel
theorem dX12_readPlain_29 : decode cX12_readPlain 29 = .ok (.getfield 196, 3) := by decide +kernel
theorem dX12_readPlain_32 : decode cX12_readPlain 32 = .ok (.iaload, 1) := by decide +kernel
theorem dX12_readPlain_33 : decode cX12_readPlain 33 = .ok (.istore_n 3, 1) := by decide +kernel
theorem dX12_readPlain_34 : decode cX12_readPlain 34 = .ok (.iload_n 3, 1) := by decide +kernel
theorem dX12_readPlain_35 : decode cX12_readPlain 35 = .ok (.bipush 40, 2) := by decide +kernel
theorem dX12_readPlain_37 : decode cX12_readPlain 37 = .ok (.invokestatic 240, 3) := by decide +kernel
theorem dX12_readPlain_40 : decode cX12_readPlain 40 = .ok (.if_icmp .ne 50, 3) := by decide +kernel
theorem dX12_readPlain_43 : decode cX12_readPlain 43 = .ok (.iload_n 1, 1) := by decide +kernel
theorem dX12_readPlain_44 : decode cX12_readPlain 44 = .ok (.bipush 8, 2) := by decide +kernel
theorem dX12_readPlain_46 : decode cX12_readPlain 46 = .ok (.if_icmp .ne 7, 3) := by decide +kernel
theorem dX12_readPlain_49 : decode cX12_readPlain 49 = .ok (.aload_n 0, 1) := by decide +kernel
theorem dX12_readPlain_50 : decode cX12_readPlain 50 = .ok (.invokevirtual 202, 3) := by decide +kernel
theorem dX12_readPlain_53 : decode cX12_readPlain 53 = .ok (.aload_n 0, 1) := by decide +kernel
theorem dX12_readPlain_54 : decode cX12_readPlain 54 = .ok (.invokevirtual 192, 3) := by decide +kernel
theorem dX12_readPlain_57 : decode cX12_readPlain 57 = .ok (.ifCond .ne 4, 3) := by decide +kernel
theorem dX12_readPlain_60 : decode cX12_readPlain 60 = .ok (.return_, 1) := by decide +kernel
theorem dX12_readPlain_61 : decode cX12_readPlain 61 = .ok (.aload_n 0, 1) := by decide +kernel
theorem dX12_readPlain_62 : decode cX12_readPlain 62 = .ok (.dup, 1) := by decide +kernel
theorem dX12_readPlain_63 : decode cX12_readPlain 63 = .ok (.getfield 196, 3) := by decide +kernel
theorem dX12_readPlain_66 : decode cX12_readPlain 66 = .ok (.iconst 1, 1) := by decide +kernel
theorem dX12_readPlain_67 : decode cX12_readPlain 67 = .ok (.iadd, 1) := by decide +kernel
theorem dX12_readPlain_68 : decode cX12_readPlain 68 = .ok (.putfield 196, 3) := by decide +kernel
theorem dX12_readPlain_71 : decode cX12_readPlain 71 = .ok (.aload_n 0, 1) := by decide +kernel
theorem dX12_readPlain_72 : decode cX12_readPlain 72 = .ok (.iload_n 1, 1) := by decide +kernel
theorem dX12_readPlain_73 : decode cX12_readPlain 73 = .ok (.iconst 1, 1) := by decide +kernel
theorem dX12_readPlain_74 : decode cX12_readPlain 74 = .ok (.iadd, 1) := by decide +kernel
theorem dX12_readPlain_75 : decode cX12_readPlain 75 = .ok (.invokevirtual 214, 3) := by decide +kernel
theorem dX12_readPlain_78 : decode cX12_readPlain 78 = .ok (.aload_n 0, 1) := by decide +kernel
theorem dX12_readPlain_79 : decode cX12_readPlain 79 = .ok (.bipush 41, 2) := by decide +kernel
theorem dX12_readPlain_81 : decode cX12_readPlain 81 = .ok (.invokestatic 240, 3) := by decide +kernel
theorem dX12_readPlain_84 : decode cX12_readPlain 84 = .ok (.invokevirtual 211, 3) := by decide +kernel
theorem dX12_readPlain_87 : decode cX12_readPlain 87 = .ok (.goto 46, 3) := by decide +kernel
theorem dX12_readPlain_90 : decode cX12_readPlain 90 = .ok (.aload_n 0, 1) := by decide +kernel
theorem dX12_readPlain_91 : decode cX12_readPlain 91 = .ok (.iload_n 1, 1) := by decide +kernel
theorem dX12_readPlain_92 : decode cX12_readPlain 92 = .ok (.invokevirtual 208, 3) := by decide +kernel
theorem dX12_readPlain_95 : decode cX12_readPlain 95 = .ok (.aload_n 0, 1) := by decide +kernel
theorem dX12_readPlain_96 : decode cX12_readPlain 96 = .ok (.bipush 60, 2) := by decide +kernel
theorem dX12_readPlain_98 : decode cX12_readPlain 98 = .ok (.invokestatic 240, 3) := by decide +kernel
theorem dX12_readPlain_101 : decode cX12_readPlain 101 = .ok (.invokevirtual 199, 3) := by decide +kernel
theorem dX12_readPlain_104 : decode cX12_readPlain 104 = .ok (.ifCond .ne 24, 3) := by decide +kernel
theorem dX12_readPlain_107 : decode cX12_readPlain 107 = .ok (.aload_n 0, 1) := by decide +kernel
theorem dX12_readPlain_108 : decode cX12_readPlain 108 = .ok (.bipush 62, 2) := by decide +kernel
theorem dX12_readPlain_110 : decode cX12_readPlain 110 = .ok (.invokestatic 240, 3) := by decide +kernel
theorem dX12_readPlain_113 : decode cX12_readPlain 113 = .ok (.invokevirtual 199, 3) := by decide +kernel
theorem dX12_readPlain_116 : decode cX12_readPlain 116 = .ok (.ifCond .ne 12, 3) := by decide +kernel
theorem dX12_readPlain_119 : decode cX12_readPlain 119 = .ok (.aload_n 0, 1) := by decide +kernel
theorem dX12_readPlain_120 : decode cX12_readPlain 120 = .ok (.bipush 61, 2) := by decide +kernel
theorem dX12_readPlain_122 : decode cX12_readPlain 122 = .ok (.invokestatic 240, 3) := by decide +kernel
theorem dX12_readPlain_125 : decode cX12_readPlain 125 = .ok (.invokevirtual 211, 3) := by decide +kernel
theorem dX12_readPlain_128 : decode cX12_readPlain 128 = .ok (.aload_n 0, 1) := by decide +kernel
theorem dX12_readPlain_129 : decode cX12_readPlain 129 = .ok (.iload_n 1, 1) := by decide +kernel
theorem dX12_readPlain_130 : decode cX12_readPlain 130 = .ok (.invokevirtual 208, 3) := by decide +kernel
theorem dX12_readPlain_133 : decode cX12_readPlain 133 = .ok (.return_, 1) := by decide +kernel
theorem dX12_readSum_0 : decode cX12_readSum 0 = .ok (.aload_n 0, 1) := by decide +kernel
theorem dX12_readSum_1 : decode cX12_readSum 1 = .ok (.iload_n 1, 1) := by decide +kernel
theorem dX12_readSum_2 : decode cX12_readSum 2 = .ok (.invokevirtual 244, 3) := by decide +kernel
theorem dX12_readSum_5 : decode cX12_readSum 5 = .ok (.aload_n 0, 1) := by decide +kernel
theorem dX12_readSum_6 : decode cX12_readSum 6 = .ok (.bipush 43, 2) := by decide +kernel
theorem dX12_readSum_8 : decode cX12_readSum 8 = .ok (.invokestatic 240, 3) := by decide +kernel
theorem dX12_readSum_11 : decode cX12_readSum 11 = .ok (.invokevirtual 199, 3) := by decide +kernel
theorem dX12_readSum_14 : decode cX12_readSum 14 = .ok (.ifCond .ne 15, 3) := by decide +kernel
theorem dX12_readSum_17 : decode cX12_readSum 17 = .ok (.aload_n 0, 1) := by decide +kernel
theorem dX12_readSum_18 : decode cX12_readSum 18 = .ok (.bipush 45, 2) := by decide +kernel
theorem dX12_readSum_20 : decode cX12_readSum 20 = .ok (.invokestatic 240, 3) := by decide +kernel
theorem dX12_readSum_23 : decode cX12_readSum 23 = .ok (.invokevirtual 199, 3) := by decide +kernel
theorem dX12_readSum_26 : decode cX12_readSum 26 = .ok (.ifCond .eq 11, 3) := by decide +kernel
theorem dX12_readSum_29 : decode cX12_readSum 29 = .ok (.aload_n 0, 1) := by decide +kernel
theorem dX12_readSum_30 : decode cX12_readSum 30 = .ok (.iload_n 1, 1) := by decide +kernel
theorem dX12_readSum_31 : decode cX12_readSum 31 = .ok (.invokevirtual 244, 3) := by decide +kernel
theorem dX12_readSum_34 : decode cX12_readSum 34 = .ok (.goto (-29), 3) := by decide +kernel
theorem dX12_readSum_37 : decode cX12_readSum 37 = .ok (.return_, 1) := by decide +kernel
theorem dX12_readTerm_0 : decode cX12_readTerm 0 = .ok (.aload_n 0, 1) := by decide +kernel
theorem dX12_readTerm_1 : decode cX12_readTerm 1 = .ok (.iload_n 1, 1) := by decide +kernel
theorem dX12_readTerm_2 : decode cX12_readTerm 2 = .ok (.invokevirtual 247, 3) := by decide +kernel
theorem dX12_readTerm_5 : decode cX12_readTerm 5 = .ok (.aload_n 0, 1) := by decide +kernel
theorem dX12_readTerm_6 : decode cX12_readTerm 6 = .ok (.bipush 42, 2) := by decide +kernel
theorem dX12_readTerm_8 : decode cX12_readTerm 8 = .ok (.invokestatic 240, 3) := by decide +kernel
theorem dX12_readTerm_11 : decode cX12_readTerm 11 = .ok (.invokevirtual 199, 3) := by decide +kernel
theorem dX12_readTerm_14 : decode cX12_readTerm 14 = .ok (.ifCond .ne 27, 3) := by decide +kernel
theorem dX12_readTerm_17 : decode cX12_readTerm 17 = .ok (.aload_n 0, 1) := by decide +kernel
theorem dX12_readTerm_18 : decode cX12_readTerm 18 = .ok (.bipush 47, 2) := by decide +kernel
theorem dX12_readTerm_20 : decode cX12_readTerm 20 = .ok (.invokestatic 240, 3) := by decide +kernel
theorem dX12_readTerm_23 : decode cX12_readTerm 23 = .ok (.invokevirtual 199, 3) := by decide +kernel
theorem dX12_readTerm_26 : decode cX12_readTerm 26 = .ok (.ifCond .ne 15, 3) := by decide +kernel
theorem dX12_readTerm_29 : decode cX12_readTerm 29 = .ok (.aload_n 0, 1) := by decide +kernel
theorem dX12_readTerm_30 : decode cX12_readTerm 30 = .ok (.bipush 37, 2) := by decide +kernel
theorem dX12_readTerm_32 : decode cX12_readTerm 32 = .ok (.invokestatic 240, 3) := by decide +kernel
theorem dX12_readTerm_35 : decode cX12_readTerm 35 = .ok (.invokevirtual 199, 3) := by decide +kernel
theorem dX12_readTerm_38 : decode cX12_readTerm 38 = .ok (.ifCond .eq 11, 3) := by decide +kernel
theorem dX12_readTerm_41 : decode cX12_readTerm 41 = .ok (.aload_n 0, 1) := by decide +kernel
theorem dX12_readTerm_42 : decode cX12_readTerm 42 = .ok (.iload_n 1, 1) := by decide +kernel
theorem dX12_readTerm_43 : decode cX12_readTerm 43 = .ok (.invokevirtual 247, 3) := by decide +kernel
theorem dX12_readTerm_46 : decode cX12_readTerm 46 = .ok (.goto (-41), 3) := by decide +kernel
theorem dX12_readTerm_49 : decode cX12_readTerm 49 = .ok (.return_, 1) := by decide +kernel
theorem dX12_readPart_0 : decode cX12_readPart 0 = .ok (.aload_n 0, 1) := by decide +kernel
theorem dX12_readPart_1 : decode cX12_readPart 1 = .ok (.invokevirtual 192, 3) := by decide +kernel
theorem dX12_readPart_4 : decode cX12_readPart 4 = .ok (.ifCond .ne 4, 3) := by decide +kernel
theorem dX12_readPart_7 : decode cX12_readPart 7 = .ok (.return_, 1) := by decide +kernel
theorem dX12_readPart_8 : decode cX12_readPart 8 = .ok (.aload_n 0, 1) := by decide +kernel
theorem dX12_readPart_9 : decode cX12_readPart 9 = .ok (.getfield 54, 3) := by decide +kernel
theorem dX12_readPart_12 : decode cX12_readPart 12 = .ok (.aload_n 0, 1) := by decide +kernel
theorem dX12_readPart_13 : decode cX12_readPart 13 = .ok (.getfield 196, 3) := by decide +kernel
theorem dX12_readPart_16 : decode cX12_readPart 16 = .ok (.iaload, 1) := by decide +kernel
theorem dX12_readPart_17 : decode cX12_readPart 17 = .ok (.istore_n 2, 1) := by decide +kernel
theorem dX12_readPart_18 : decode cX12_readPart 18 = .ok (.iload_n 2, 1) := by decide +kernel
theorem dX12_readPart_19 : decode cX12_readPart 19 = .ok (.bipush 91, 2) := by decide +kernel
theorem dX12_readPart_21 : decode cX12_readPart 21 = .ok (.invokestatic 240, 3) := by decide +kernel
theorem dX12_readPart_24 : decode cX12_readPart 24 = .ok (.if_icmp .ne 50, 3) := by decide +kernel
theorem dX12_readPart_27 : decode cX12_readPart 27 = .ok (.iload_n 1, 1) := by decide +kernel
theorem dX12_readPart_28 : decode cX12_readPart 28 = .ok (.bipush 8, 2) := by decide +kernel
theorem dX12_readPart_30 : decode cX12_readPart 30 = .ok (.if_icmp .ne 7, 3) := by decide +kernel
theorem dX12_readPart_33 : decode cX12_readPart 33 = .ok (.aload_n 0, 1) := by decide +kernel
theorem dX12_readPart_34 : decode cX12_readPart 34 = .ok (.invokevirtual 202, 3) := by decide +kernel
theorem dX12_readPart_37 : decode cX12_readPart 37 = .ok (.aload_n 0, 1) := by decide +kernel
theorem dX12_readPart_38 : decode cX12_readPart 38 = .ok (.invokevirtual 192, 3) := by decide +kernel
theorem dX12_readPart_41 : decode cX12_readPart 41 = .ok (.ifCond .ne 4, 3) := by decide +kernel
theorem dX12_readPart_44 : decode cX12_readPart 44 = .ok (.return_, 1) := by decide +kernel
theorem dX12_readPart_45 : decode cX12_readPart 45 = .ok (.aload_n 0, 1) := by decide +kernel
theorem dX12_readPart_46 : decode cX12_readPart 46 = .ok (.dup, 1) := by decide +kernel
theorem dX12_readPart_47 : decode cX12_readPart 47 = .ok (.getfield 196, 3) := by decide +kernel
theorem dX12_readPart_50 : decode cX12_readPart 50 = .ok (.iconst 1, 1) := by decide +kernel
theorem dX12_readPart_51 : decode cX12_readPart 51 = .ok (.iadd, 1) := by decide +kernel
theorem dX12_readPart_52 : decode cX12_readPart 52 = .ok (.putfield 196, 3) := by decide +kernel
theorem dX12_readPart_55 : decode cX12_readPart 55 = .ok (.aload_n 0, 1) := by decide +kernel
theorem dX12_readPart_56 : decode cX12_readPart 56 = .ok (.iload_n 1, 1) := by decide +kernel
theorem dX12_readPart_57 : decode cX12_readPart 57 = .ok (.iconst 1, 1) := by decide +kernel
theorem dX12_readPart_58 : decode cX12_readPart 58 = .ok (.iadd, 1) := by decide +kernel
theorem dX12_readPart_59 : decode cX12_readPart 59 = .ok (.invokevirtual 208, 3) := by decide +kernel
theorem dX12_readPart_62 : decode cX12_readPart 62 = .ok (.aload_n 0, 1) := by decide +kernel
theorem dX12_readPart_63 : decode cX12_readPart 63 = .ok (.bipush 93, 2) := by decide +kernel
theorem dX12_readPart_65 : decode cX12_readPart 65 = .ok (.invokestatic 240, 3) := by decide +kernel
theorem dX12_readPart_68 : decode cX12_readPart 68 = .ok (.invokevirtual 211, 3) := by decide +kernel
theorem dX12_readPart_71 : decode cX12_readPart 71 = .ok (.goto 77, 3) := by decide +kernel
theorem dX12_readPart_74 : decode cX12_readPart 74 = .ok (.iload_n 2, 1) := by decide +kernel
theorem dX12_readPart_75 : decode cX12_readPart 75 = .ok (.bipush 50, 2) := by decide +kernel
theorem dX12_readPart_77 : decode cX12_readPart 77 = .ok (.if_icmp .ne 18, 3) := by decide +kernel
theorem dX12_readPart_80 : decode cX12_readPart 80 = .ok (.aload_n 0, 1) := by decide +kernel
theorem dX12_readPart_81 : decode cX12_readPart 81 = .ok (.getfield 57, 3) := by decide +kernel
theorem dX12_readPart_84 : decode cX12_readPart 84 = .ok (.aload_n 0, 1) := by decide +kernel
theorem dX12_readPart_85 : decode cX12_readPart 85 = .ok (.getfield 196, 3) := by decide +kernel
theorem dX12_readPart_88 : decode cX12_readPart 88 = .ok (.iaload, 1) := by decide +kernel
theorem dX12_readPart_89 : decode cX12_readPart 89 = .ok (.sipush 1000, 3) := by decide +kernel
theorem dX12_readPart_92 : decode cX12_readPart 92 = .ok (.if_icmp .le 19, 3) := by decide +kernel
theorem dX12_readPart_95 : decode cX12_readPart 95 = .ok (.iload_n 2, 1) := by decide +kernel
theorem dX12_readPart_96 : decode cX12_readPart 96 = .ok (.aload_n 0, 1) := by decide +kernel
theorem dX12_readPart_97 : decode cX12_readPart 97 = .ok (.getfield 250, 3) := by decide +kernel
theorem dX12_readPart_100 : decode cX12_readPart 100 = .ok (.if_icmp .lt 44, 3) := by decide +kernel
theorem dX12_readPart_103 : decode cX12_readPart 103 = .ok (.iload_n 2, 1) := by decide +kernel
theorem dX12_readPart_104 : decode cX12_readPart 104 = .ok (.aload_n 0, 1) := by decide +kernel
theorem dX12_readPart_105 : decode cX12_readPart 105 = .ok (.getfield 253, 3) := by decide +kernel
theorem dX12_readPart_108 : decode cX12_readPart 108 = .ok (.if_icmp .gt 36, 3) := by decide +kernel
theorem dX12_readPart_111 : decode cX12_readPart 111 = .ok (.aload_n 0, 1) := by decide +kernel
theorem dX12_readPart_112 : decode cX12_readPart 112 = .ok (.invokevirtual 256, 3) := by decide +kernel
theorem dX12_readPart_115 : decode cX12_readPart 115 = .ok (.aload_n 0, 1) := by decide +kernel
theorem dX12_readPart_116 : decode cX12_readPart 116 = .ok (.getfield 224, 3) := by decide +kernel
theorem dX12_readPart_119 : decode cX12_readPart 119 = .ok (.ifCond .eq 29, 3) := by decide +kernel
theorem dX12_readPart_122 : decode cX12_readPart 122 = .ok (.iload_n 2, 1) := by decide +kernel
theorem dX12_readPart_123 : decode cX12_readPart 123 = .ok (.bipush 14, 2) := by decide +kernel
theorem dX12_readPart_125 : decode cX12_readPart 125 = .ok (.if_icmp .eq 9, 3) := by decide +kernel
theorem dX12_readPart_128 : decode cX12_readPart 128 = .ok (.iload_n 2, 1) := by decide +kernel
theorem dX12_readPart_129 : decode cX12_readPart 129 = .ok (.bipush 20, 2) := by decide +kernel
theorem dX12_readPart_131 : decode cX12_readPart 131 = .ok (.if_icmp .ne 17, 3) := by decide +kernel
theorem dX12_readPart_134 : decode cX12_readPart 134 = .ok (.aload_n 0, 1) := by decide +kernel
theorem dX12_readPart_135 : decode cX12_readPart 135 = .ok (.iconst 0, 1) := by decide +kernel
theorem dX12_readPart_136 : decode cX12_readPart 136 = .ok (.bipush 8, 2) := by decide +kernel
theorem dX12_readPart_138 : decode cX12_readPart 138 = .ok (.invokevirtual 220, 3) := by decide +kernel
theorem dX12_readPart_141 : decode cX12_readPart 141 = .ok (.goto 7, 3) := by decide +kernel
theorem dX12_readPart_144 : decode cX12_readPart 144 = .ok (.aload_n 0, 1) := by decide +kernel
theorem dX12_readPart_145 : decode cX12_readPart 145 = .ok (.invokevirtual 202, 3) := by decide +kernel
theorem dX12_readPart_148 : decode cX12_readPart 148 = .ok (.return_, 1) := by decide +kernel
end
section
theorem dX12_reads_0 : decode cX12_reads 0 = .ok (.aload_n 0, 1) := by decide +kernel
theorem dX12_reads_1 : decode cX12_reads 1 = .ok (.aload_n 0, 1) := by decide +kernel
theorem dX12_reads_2 : decode cX12_reads 2 = .ok (.getfield 169, 3) := by decide +kernel
theorem dX12_reads_5 : decode cX12_reads 5 = .ok (.invokevirtual 259, 3) := by decide +kernel
theorem dX12_reads_8 : decode cX12_reads 8 = .ok (.aload_n 0, 1) := by decide +kernel
theorem dX12_reads_9 : decode cX12_reads 9 = .ok (.iconst 0, 1) := by decide +kernel
theorem dX12_reads_10 : decode cX12_reads 10 = .ok (.putfield 169, 3) := by decide +kernel
theorem dX12_reads_13 : decode cX12_reads 13 = .ok (.aload_n 0, 1) := by decide +kernel
theorem dX12_reads_14 : decode cX12_reads 14 = .ok (.iconst 0, 1) := by decide +kernel
theorem dX12_reads_15 : decode cX12_reads 15 = .ok (.putfield 196, 3) := by decide +kernel
theorem dX12_reads_18 : decode cX12_reads 18 = .ok (.aload_n 0, 1) := by decide +kernel
theorem dX12_reads_19 : decode cX12_reads 19 = .ok (.iconst 0, 1) := by decide +kernel
theorem dX12_reads_20 : decode cX12_reads 20 = .ok (.putfield 205, 3) := by decide +kernel
theorem dX12_reads_23 : decode cX12_reads 23 = .ok (.aload_n 0, 1) := by decide +kernel
theorem dX12_reads_24 : decode cX12_reads 24 = .ok (.iconst (-1), 1) := by decide +kernel
theorem dX12_reads_25 : decode cX12_reads 25 = .ok (.putfield 189, 3) := by decide +kernel
theorem dX12_reads_28 : decode cX12_reads 28 = .ok (.aload_n 0, 1) := by decide +kernel
theorem dX12_reads_29 : decode cX12_reads 29 = .ok (.invokevirtual 262, 3) := by decide +kernel
theorem dX12_reads_32 : decode cX12_reads 32 = .ok (.iconst 1, 1) := by decide +kernel
theorem dX12_reads_33 : decode cX12_reads 33 = .ok (.istore_n 1, 1) := by decide +kernel
theorem dX12_reads_34 : decode cX12_reads 34 = .ok (.aload_n 0, 1) := by decide +kernel
theorem dX12_reads_35 : decode cX12_reads 35 = .ok (.bipush 59, 2) := by decide +kernel
theorem dX12_reads_37 : decode cX12_reads 37 = .ok (.invokestatic 240, 3) := by decide +kernel
theorem dX12_reads_40 : decode cX12_reads 40 = .ok (.invokevirtual 199, 3) := by decide +kernel
theorem dX12_reads_43 : decode cX12_reads 43 = .ok (.ifCond .eq 30, 3) := by decide +kernel
theorem dX12_reads_46 : decode cX12_reads 46 = .ok (.iload_n 1, 1) := by decide +kernel
theorem dX12_reads_47 : decode cX12_reads 47 = .ok (.bipush 12, 2) := by decide +kernel
theorem dX12_reads_49 : decode cX12_reads 49 = .ok (.if_icmp .ne 7, 3) := by decide +kernel
theorem dX12_reads_52 : decode cX12_reads 52 = .ok (.aload_n 0, 1) := by decide +kernel
theorem dX12_reads_53 : decode cX12_reads 53 = .ok (.invokevirtual 202, 3) := by decide +kernel
theorem dX12_reads_56 : decode cX12_reads 56 = .ok (.aload_n 0, 1) := by decide +kernel
theorem dX12_reads_57 : decode cX12_reads 57 = .ok (.invokevirtual 192, 3) := by decide +kernel
theorem dX12_reads_60 : decode cX12_reads 60 = .ok (.ifCond .eq 7, 3) := by decide +kernel
theorem dX12_reads_63 : decode cX12_reads 63 = .ok (.aload_n 0, 1) := by decide +kernel
theorem dX12_reads_64 : decode cX12_reads 64 = .ok (.invokevirtual 262, 3) := by decide +kernel
theorem dX12_reads_67 : decode cX12_reads 67 = .ok (.iinc 1 1, 3) := by decide +kernel
theorem dX12_reads_70 : decode cX12_reads 70 = .ok (.goto (-36), 3) := by decide +kernel
theorem dX12_reads_73 : decode cX12_reads 73 = .ok (.aload_n 0, 1) := by decide +kernel
theorem dX12_reads_74 : decode cX12_reads 74 = .ok (.invokevirtual 192, 3) := by decide +kernel
theorem dX12_reads_77 : decode cX12_reads 77 = .ok (.ifCond .eq 18, 3) := by decide +kernel
theorem dX12_reads_80 : decode cX12_reads 80 = .ok (.aload_n 0, 1) := by decide +kernel
theorem dX12_reads_81 : decode cX12_reads 81 = .ok (.getfield 196, 3) := by decide +kernel
theorem dX12_reads_84 : decode cX12_reads 84 = .ok (.aload_n 0, 1) := by decide +kernel
theorem dX12_reads_85 : decode cX12_reads 85 = .ok (.getfield 175, 3) := by decide +kernel
theorem dX12_reads_88 : decode cX12_reads 88 = .ok (.if_icmp .ge 7, 3) := by decide +kernel
theorem dX12_reads_91 : decode cX12_reads 91 = .ok (.aload_n 0, 1) := by decide +kernel
theorem dX12_reads_92 : decode cX12_reads 92 = .ok (.invokevirtual 202, 3) := by decide +kernel
theorem dX12_reads_95 : decode cX12_reads 95 = .ok (.aload_n 0, 1) := by decide +kernel
theorem dX12_reads_96 : decode cX12_reads 96 = .ok (.aload_n 0, 1) := by decide +kernel
theorem dX12_reads_97 : decode cX12_reads 97 = .ok (.getfield 189, 3) := by decide +kernel
theorem dX12_reads_100 : decode cX12_reads 100 = .ok (.putfield 51, 3) := by decide +kernel
theorem dX12_reads_103 : decode cX12_reads 103 = .ok (.aload_n 0, 1) := by decide +kernel
theorem dX12_reads_104 : decode cX12_reads 104 = .ok (.invokevirtual 192, 3) := by decide +kernel
theorem dX12_reads_107 : decode cX12_reads 107 = .ok (.ireturn, 1) := by decide +kernel
theorem dX12_readsAs_0 : decode cX12_readsAs 0 = .ok (.aload_n 0, 1) := by decide +kernel
theorem dX12_readsAs_1 : decode cX12_readsAs 1 = .ok (.iload_n 1, 1) := by decide +kernel
theorem dX12_readsAs_2 : decode cX12_readsAs 2 = .ok (.putfield 224, 3) := by decide +kernel
theorem dX12_readsAs_5 : decode cX12_readsAs 5 = .ok (.aload_n 0, 1) := by decide +kernel
theorem dX12_readsAs_6 : decode cX12_readsAs 6 = .ok (.iload_n 1, 1) := by decide +kernel
theorem dX12_readsAs_7 : decode cX12_readsAs 7 = .ok (.ifCond .eq 8, 3) := by decide +kernel
theorem dX12_readsAs_10 : decode cX12_readsAs 10 = .ok (.bipush 14, 2) := by decide +kernel
theorem dX12_readsAs_12 : decode cX12_readsAs 12 = .ok (.goto 5, 3) := by decide +kernel
theorem dX12_readsAs_15 : decode cX12_readsAs 15 = .ok (.bipush 8, 2) := by decide +kernel
theorem dX12_readsAs_17 : decode cX12_readsAs 17 = .ok (.putfield 250, 3) := by decide +kernel
theorem dX12_readsAs_20 : decode cX12_readsAs 20 = .ok (.aload_n 0, 1) := by decide +kernel
theorem dX12_readsAs_21 : decode cX12_readsAs 21 = .ok (.iload_n 1, 1) := by decide +kernel
theorem dX12_readsAs_22 : decode cX12_readsAs 22 = .ok (.ifCond .eq 8, 3) := by decide +kernel
theorem dX12_readsAs_25 : decode cX12_readsAs 25 = .ok (.bipush 20, 2) := by decide +kernel
theorem dX12_readsAs_27 : decode cX12_readsAs 27 = .ok (.goto 5, 3) := by decide +kernel
theorem dX12_readsAs_30 : decode cX12_readsAs 30 = .ok (.bipush 15, 2) := by decide +kernel
theorem dX12_readsAs_32 : decode cX12_readsAs 32 = .ok (.putfield 253, 3) := by decide +kernel
theorem dX12_readsAs_35 : decode cX12_readsAs 35 = .ok (.aload_n 0, 1) := by decide +kernel
theorem dX12_readsAs_36 : decode cX12_readsAs 36 = .ok (.invokevirtual 265, 3) := by decide +kernel
theorem dX12_readsAs_39 : decode cX12_readsAs 39 = .ok (.ireturn, 1) := by decide +kernel
theorem dX12_lays_0 : decode cX12_lays 0 = .ok (.aload_n 0, 1) := by decide +kernel
theorem dX12_lays_1 : decode cX12_lays 1 = .ok (.getfield 28, 3) := by decide +kernel
theorem dX12_lays_4 : decode cX12_lays 4 = .ok (.bipush 73, 2) := by decide +kernel
theorem dX12_lays_6 : decode cX12_lays 6 = .ok (.iload_n 1, 1) := by decide +kernel
theorem dX12_lays_7 : decode cX12_lays 7 = .ok (.iadd, 1) := by decide +kernel
theorem dX12_lays_8 : decode cX12_lays 8 = .ok (.aload_n 0, 1) := by decide +kernel
theorem dX12_lays_9 : decode cX12_lays 9 = .ok (.getfield 175, 3) := by decide +kernel
theorem dX12_lays_12 : decode cX12_lays 12 = .ok (.iastore, 1) := by decide +kernel
theorem dX12_lays_13 : decode cX12_lays 13 = .ok (.iconst 0, 1) := by decide +kernel
theorem dX12_lays_14 : decode cX12_lays 14 = .ok (.istore_n 2, 1) := by decide +kernel
theorem dX12_lays_15 : decode cX12_lays 15 = .ok (.iload_n 2, 1) := by decide +kernel
theorem dX12_lays_16 : decode cX12_lays 16 = .ok (.aload_n 0, 1) := by decide +kernel
theorem dX12_lays_17 : decode cX12_lays 17 = .ok (.getfield 175, 3) := by decide +kernel
theorem dX12_lays_20 : decode cX12_lays 20 = .ok (.if_icmp .ge 52, 3) := by decide +kernel
theorem dX12_lays_23 : decode cX12_lays 23 = .ok (.aload_n 0, 1) := by decide +kernel
theorem dX12_lays_24 : decode cX12_lays 24 = .ok (.getfield 28, 3) := by decide +kernel
theorem dX12_lays_27 : decode cX12_lays 27 = .ok (.bipush 80, 2) := by decide +kernel
theorem dX12_lays_29 : decode cX12_lays 29 = .ok (.sipush 400, 3) := by decide +kernel
theorem dX12_lays_32 : decode cX12_lays 32 = .ok (.iload_n 1, 1) := by decide +kernel
theorem dX12_lays_33 : decode cX12_lays 33 = .ok (.imul, 1) := by decide +kernel
theorem dX12_lays_34 : decode cX12_lays 34 = .ok (.iadd, 1) := by decide +kernel
theorem dX12_lays_35 : decode cX12_lays 35 = .ok (.iload_n 2, 1) := by decide +kernel
theorem dX12_lays_36 : decode cX12_lays 36 = .ok (.iadd, 1) := by decide +kernel
theorem dX12_lays_37 : decode cX12_lays 37 = .ok (.aload_n 0, 1) := by decide +kernel
theorem dX12_lays_38 : decode cX12_lays 38 = .ok (.getfield 54, 3) := by decide +kernel
theorem dX12_lays_41 : decode cX12_lays 41 = .ok (.iload_n 2, 1) := by decide +kernel
theorem dX12_lays_42 : decode cX12_lays 42 = .ok (.iaload, 1) := by decide +kernel
theorem dX12_lays_43 : decode cX12_lays 43 = .ok (.iastore, 1) := by decide +kernel
theorem dX12_lays_44 : decode cX12_lays 44 = .ok (.aload_n 0, 1) := by decide +kernel
theorem dX12_lays_45 : decode cX12_lays 45 = .ok (.getfield 28, 3) := by decide +kernel
theorem dX12_lays_48 : decode cX12_lays 48 = .ok (.sipush 2880, 3) := by decide +kernel
theorem dX12_lays_51 : decode cX12_lays 51 = .ok (.sipush 400, 3) := by decide +kernel
theorem dX12_lays_54 : decode cX12_lays 54 = .ok (.iload_n 1, 1) := by decide +kernel
theorem dX12_lays_55 : decode cX12_lays 55 = .ok (.imul, 1) := by decide +kernel
theorem dX12_lays_56 : decode cX12_lays 56 = .ok (.iadd, 1) := by decide +kernel
theorem dX12_lays_57 : decode cX12_lays 57 = .ok (.iload_n 2, 1) := by decide +kernel
theorem dX12_lays_58 : decode cX12_lays 58 = .ok (.iadd, 1) := by decide +kernel
theorem dX12_lays_59 : decode cX12_lays 59 = .ok (.aload_n 0, 1) := by decide +kernel
theorem dX12_lays_60 : decode cX12_lays 60 = .ok (.getfield 57, 3) := by decide +kernel
theorem dX12_lays_63 : decode cX12_lays 63 = .ok (.iload_n 2, 1) := by decide +kernel
theorem dX12_lays_64 : decode cX12_lays 64 = .ok (.iaload, 1) := by decide +kernel
theorem dX12_lays_65 : decode cX12_lays 65 = .ok (.iastore, 1) := by decide +kernel
theorem dX12_lays_66 : decode cX12_lays 66 = .ok (.iinc 2 1, 3) := by decide +kernel
theorem dX12_lays_69 : decode cX12_lays 69 = .ok (.goto (-54), 3) := by decide +kernel
theorem dX12_lays_72 : decode cX12_lays 72 = .ok (.return_, 1) := by decide +kernel
theorem dX12_law_0 : decode cX12_law 0 = .ok (.aload_n 0, 1) := by decide +kernel
theorem dX12_law_1 : decode cX12_law 1 = .ok (.getfield 28, 3) := by decide +kernel
theorem dX12_law_4 : decode cX12_law 4 = .ok (.bipush 71, 2) := by decide +kernel
theorem dX12_law_6 : decode cX12_law 6 = .ok (.iaload, 1) := by decide +kernel
theorem dX12_law_7 : decode cX12_law 7 = .ok (.bipush 6, 2) := by decide +kernel
theorem dX12_law_9 : decode cX12_law 9 = .ok (.if_icmp .ne 15, 3) := by decide +kernel
theorem dX12_law_12 : decode cX12_law 12 = .ok (.aload_n 0, 1) := by decide +kernel
theorem dX12_law_13 : decode cX12_law 13 = .ok (.iconst 0, 1) := by decide +kernel
theorem dX12_law_14 : decode cX12_law 14 = .ok (.putfield 169, 3) := by decide +kernel
theorem dX12_law_17 : decode cX12_law 17 = .ok (.aload_n 0, 1) := by decide +kernel
theorem dX12_law_18 : decode cX12_law 18 = .ok (.bipush (-5), 2) := by decide +kernel
theorem dX12_law_20 : decode cX12_law 20 = .ok (.invokevirtual 109, 3) := by decide +kernel
theorem dX12_law_23 : decode cX12_law 23 = .ok (.ireturn, 1) := by decide +kernel
theorem dX12_law_24 : decode cX12_law 24 = .ok (.aload_n 0, 1) := by decide +kernel
theorem dX12_law_25 : decode cX12_law 25 = .ok (.iconst 0, 1) := by decide +kernel
theorem dX12_law_26 : decode cX12_law 26 = .ok (.invokevirtual 268, 3) := by decide +kernel
theorem dX12_law_29 : decode cX12_law 29 = .ok (.ifCond .ne 10, 3) := by decide +kernel
theorem dX12_law_32 : decode cX12_law 32 = .ok (.aload_n 0, 1) := by decide +kernel
theorem dX12_law_33 : decode cX12_law 33 = .ok (.bipush (-6), 2) := by decide +kernel
theorem dX12_law_35 : decode cX12_law 35 = .ok (.invokevirtual 109, 3) := by decide +kernel
theorem dX12_law_38 : decode cX12_law 38 = .ok (.ireturn, 1) := by decide +kernel
theorem dX12_law_39 : decode cX12_law 39 = .ok (.aload_n 0, 1) := by decide +kernel
theorem dX12_law_40 : decode cX12_law 40 = .ok (.aload_n 0, 1) := by decide +kernel
theorem dX12_law_41 : decode cX12_law 41 = .ok (.getfield 28, 3) := by decide +kernel
theorem dX12_law_44 : decode cX12_law 44 = .ok (.bipush 71, 2) := by decide +kernel
theorem dX12_law_46 : decode cX12_law 46 = .ok (.iaload, 1) := by decide +kernel
theorem dX12_law_47 : decode cX12_law 47 = .ok (.invokevirtual 272, 3) := by decide +kernel
theorem dX12_law_50 : decode cX12_law 50 = .ok (.aload_n 0, 1) := by decide +kernel
theorem dX12_law_51 : decode cX12_law 51 = .ok (.getfield 28, 3) := by decide +kernel
theorem dX12_law_54 : decode cX12_law 54 = .ok (.bipush 71, 2) := by decide +kernel
theorem dX12_law_56 : decode cX12_law 56 = .ok (.dup2, 1) := by decide +kernel
theorem dX12_law_57 : decode cX12_law 57 = .ok (.iaload, 1) := by decide +kernel
theorem dX12_law_58 : decode cX12_law 58 = .ok (.iconst 1, 1) := by decide +kernel
theorem dX12_law_59 : decode cX12_law 59 = .ok (.iadd, 1) := by decide +kernel
theorem dX12_law_60 : decode cX12_law 60 = .ok (.iastore, 1) := by decide +kernel
theorem dX12_law_61 : decode cX12_law 61 = .ok (.aload_n 0, 1) := by decide +kernel
theorem dX12_law_62 : decode cX12_law 62 = .ok (.aload_n 0, 1) := by decide +kernel
theorem dX12_law_63 : decode cX12_law 63 = .ok (.getfield 28, 3) := by decide +kernel
theorem dX12_law_66 : decode cX12_law 66 = .ok (.bipush 71, 2) := by decide +kernel
theorem dX12_law_68 : decode cX12_law 68 = .ok (.iaload, 1) := by decide +kernel
theorem dX12_law_69 : decode cX12_law 69 = .ok (.iconst 1, 1) := by decide +kernel
theorem dX12_law_70 : decode cX12_law 70 = .ok (.isub, 1) := by decide +kernel
theorem dX12_law_71 : decode cX12_law 71 = .ok (.invokevirtual 14, 3) := by decide +kernel
theorem dX12_law_74 : decode cX12_law 74 = .ok (.ireturn, 1) := by decide +kernel
theorem dX12_fault_0 : decode cX12_fault 0 = .ok (.aload_n 0, 1) := by decide +kernel
theorem dX12_fault_1 : decode cX12_fault 1 = .ok (.getfield 51, 3) := by decide +kernel
theorem dX12_fault_4 : decode cX12_fault 4 = .ok (.ireturn, 1) := by decide +kernel
theorem dX12_isLaw_0 : decode cX12_isLaw 0 = .ok (.iload_n 1, 1) := by decide +kernel
theorem dX12_isLaw_1 : decode cX12_isLaw 1 = .ok (.iconst (-1), 1) := by decide +kernel
theorem dX12_isLaw_2 : decode cX12_isLaw 2 = .ok (.aload_n 0, 1) := by decide +kernel
theorem dX12_isLaw_3 : decode cX12_isLaw 3 = .ok (.getfield 28, 3) := by decide +kernel
theorem dX12_isLaw_6 : decode cX12_isLaw 6 = .ok (.bipush 71, 2) := by decide +kernel
theorem dX12_isLaw_8 : decode cX12_isLaw 8 = .ok (.iaload, 1) := by decide +kernel
theorem dX12_isLaw_9 : decode cX12_isLaw 9 = .ok (.iconst 1, 1) := by decide +kernel
theorem dX12_isLaw_10 : decode cX12_isLaw 10 = .ok (.isub, 1) := by decide +kernel
theorem dX12_isLaw_11 : decode cX12_isLaw 11 = .ok (.invokestatic 18, 3) := by decide +kernel
theorem dX12_isLaw_14 : decode cX12_isLaw 14 = .ok (.ireturn, 1) := by decide +kernel
theorem dX12_force_0 : decode cX12_force 0 = .ok (.aload_n 0, 1) := by decide +kernel
theorem dX12_force_1 : decode cX12_force 1 = .ok (.iload_n 1, 1) := by decide +kernel
theorem dX12_force_2 : decode cX12_force 2 = .ok (.invokevirtual 275, 3) := by decide +kernel
theorem dX12_force_5 : decode cX12_force 5 = .ok (.ifCond .ne 10, 3) := by decide +kernel
theorem dX12_force_8 : decode cX12_force 8 = .ok (.aload_n 0, 1) := by decide +kernel
theorem dX12_force_9 : decode cX12_force 9 = .ok (.bipush (-2), 2) := by decide +kernel
theorem dX12_force_11 : decode cX12_force 11 = .ok (.invokevirtual 109, 3) := by decide +kernel
theorem dX12_force_14 : decode cX12_force 14 = .ok (.ireturn, 1) := by decide +kernel
theorem dX12_force_15 : decode cX12_force 15 = .ok (.aload_n 0, 1) := by decide +kernel
theorem dX12_force_16 : decode cX12_force 16 = .ok (.getfield 28, 3) := by decide +kernel
theorem dX12_force_19 : decode cX12_force 19 = .ok (.bipush 72, 2) := by decide +kernel
theorem dX12_force_21 : decode cX12_force 21 = .ok (.iaload, 1) := by decide +kernel
theorem dX12_force_22 : decode cX12_force 22 = .ok (.istore_n 2, 1) := by decide +kernel
theorem dX12_force_23 : decode cX12_force 23 = .ok (.aload_n 0, 1) := by decide +kernel
theorem dX12_force_24 : decode cX12_force 24 = .ok (.getfield 28, 3) := by decide +kernel
theorem dX12_force_27 : decode cX12_force 27 = .ok (.bipush 72, 2) := by decide +kernel
theorem dX12_force_29 : decode cX12_force 29 = .ok (.iload_n 1, 1) := by decide +kernel
theorem dX12_force_30 : decode cX12_force 30 = .ok (.iastore, 1) := by decide +kernel
theorem dX12_force_31 : decode cX12_force 31 = .ok (.aload_n 0, 1) := by decide +kernel
theorem dX12_force_32 : decode cX12_force 32 = .ok (.iload_n 2, 1) := by decide +kernel
theorem dX12_force_33 : decode cX12_force 33 = .ok (.invokevirtual 14, 3) := by decide +kernel
theorem dX12_force_36 : decode cX12_force 36 = .ok (.ireturn, 1) := by decide +kernel
theorem dX12_codeAt_0 : decode cX12_codeAt 0 = .ok (.iload_n 1, 1) := by decide +kernel
theorem dX12_codeAt_1 : decode cX12_codeAt 1 = .ok (.aload_n 0, 1) := by decide +kernel
theorem dX12_codeAt_2 : decode cX12_codeAt 2 = .ok (.getfield 278, 3) := by decide +kernel
theorem dX12_codeAt_5 : decode cX12_codeAt 5 = .ok (.if_icmp .ge 15, 3) := by decide +kernel
theorem dX12_codeAt_8 : decode cX12_codeAt 8 = .ok (.aload_n 0, 1) := by decide +kernel
theorem dX12_codeAt_9 : decode cX12_codeAt 9 = .ok (.getfield 28, 3) := by decide +kernel
theorem dX12_codeAt_12 : decode cX12_codeAt 12 = .ok (.bipush 80, 2) := by decide +kernel
theorem dX12_codeAt_14 : decode cX12_codeAt 14 = .ok (.iload_n 1, 1) := by decide +kernel
theorem dX12_codeAt_15 : decode cX12_codeAt 15 = .ok (.iadd, 1) := by decide +kernel
theorem dX12_codeAt_16 : decode cX12_codeAt 16 = .ok (.iaload, 1) := by decide +kernel
theorem dX12_codeAt_17 : decode cX12_codeAt 17 = .ok (.goto 4, 3) := by decide +kernel
theorem dX12_codeAt_20 : decode cX12_codeAt 20 = .ok (.iconst 0, 1) := by decide +kernel
theorem dX12_codeAt_21 : decode cX12_codeAt 21 = .ok (.ireturn, 1) := by decide +kernel
theorem dX12_passes0_0 : decode cX12_passes0 0 = .ok (.aload_n 0, 1) := by decide +kernel
theorem dX12_passes0_1 : decode cX12_passes0 1 = .ok (.aload_n 0, 1) := by decide +kernel
theorem dX12_passes0_2 : decode cX12_passes0 2 = .ok (.getfield 281, 3) := by decide +kernel
theorem dX12_passes0_5 : decode cX12_passes0 5 = .ok (.invokevirtual 284, 3) := by decide +kernel
theorem dX12_passes0_8 : decode cX12_passes0 8 = .ok (.iload_n 1, 1) := by decide +kernel
theorem dX12_passes0_9 : decode cX12_passes0 9 = .ok (.if_icmp .ne 7, 3) := by decide +kernel
theorem dX12_passes0_12 : decode cX12_passes0 12 = .ok (.iconst 1, 1) := by decide +kernel
theorem dX12_passes0_13 : decode cX12_passes0 13 = .ok (.goto 4, 3) := by decide +kernel
theorem dX12_passes0_16 : decode cX12_passes0 16 = .ok (.iconst 0, 1) := by decide +kernel
theorem dX12_passes0_17 : decode cX12_passes0 17 = .ok (.istore_n 2, 1) := by decide +kernel
theorem dX12_passes0_18 : decode cX12_passes0 18 = .ok (.iload_n 2, 1) := by decide +kernel
theorem dX12_passes0_19 : decode cX12_passes0 19 = .ok (.ifCond .eq 13, 3) := by decide +kernel
theorem dX12_passes0_22 : decode cX12_passes0 22 = .ok (.aload_n 0, 1) := by decide +kernel
theorem dX12_passes0_23 : decode cX12_passes0 23 = .ok (.dup, 1) := by decide +kernel
theorem dX12_passes0_24 : decode cX12_passes0 24 = .ok (.getfield 281, 3) := by decide +kernel
theorem dX12_passes0_27 : decode cX12_passes0 27 = .ok (.iconst 1, 1) := by decide +kernel
theorem dX12_passes0_28 : decode cX12_passes0 28 = .ok (.iadd, 1) := by decide +kernel
theorem dX12_passes0_29 : decode cX12_passes0 29 = .ok (.putfield 281, 3) := by decide +kernel
theorem dX12_passes0_32 : decode cX12_passes0 32 = .ok (.iload_n 2, 1) := by decide +kernel
theorem dX12_passes0_33 : decode cX12_passes0 33 = .ok (.ireturn, 1) := by decide +kernel
theorem dX12_bounded_0 : decode cX12_bounded 0 = .ok (.iload_n 3, 1) := by decide +kernel
theorem dX12_bounded_1 : decode cX12_bounded 1 = .ok (.ifCond .eq 24, 3) := by decide +kernel
theorem dX12_bounded_4 : decode cX12_bounded 4 = .ok (.lload_n 1, 1) := by decide +kernel
theorem dX12_bounded_5 : decode cX12_bounded 5 = .ok (.ldc2_w 287, 3) := by decide +kernel
theorem dX12_bounded_8 : decode cX12_bounded 8 = .ok (.lcmp, 1) := by decide +kernel
theorem dX12_bounded_9 : decode cX12_bounded 9 = .ok (.ifCond .gt 11, 3) := by decide +kernel
theorem dX12_bounded_12 : decode cX12_bounded 12 = .ok (.lload_n 1, 1) := by decide +kernel
theorem dX12_bounded_13 : decode cX12_bounded 13 = .ok (.ldc2_w 289, 3) := by decide +kernel
theorem dX12_bounded_16 : decode cX12_bounded 16 = .ok (.lcmp, 1) := by decide +kernel
theorem dX12_bounded_17 : decode cX12_bounded 17 = .ok (.ifCond .ge 8, 3) := by decide +kernel
theorem dX12_bounded_20 : decode cX12_bounded 20 = .ok (.aload_n 0, 1) := by decide +kernel
theorem dX12_bounded_21 : decode cX12_bounded 21 = .ok (.iconst 1, 1) := by decide +kernel
theorem dX12_bounded_22 : decode cX12_bounded 22 = .ok (.putfield 291, 3) := by decide +kernel
theorem dX12_bounded_25 : decode cX12_bounded 25 = .ok (.aload_n 0, 1) := by decide +kernel
theorem dX12_bounded_26 : decode cX12_bounded 26 = .ok (.getfield 291, 3) := by decide +kernel
theorem dX12_bounded_29 : decode cX12_bounded 29 = .ok (.ifCond .eq 7, 3) := by decide +kernel
theorem dX12_bounded_32 : decode cX12_bounded 32 = .ok (.lconst 0, 1) := by decide +kernel
theorem dX12_bounded_33 : decode cX12_bounded 33 = .ok (.goto 4, 3) := by decide +kernel
theorem dX12_bounded_36 : decode cX12_bounded 36 = .ok (.lload_n 1, 1) := by decide +kernel
theorem dX12_bounded_37 : decode cX12_bounded 37 = .ok (.lreturn, 1) := by decide +kernel
theorem dX12_sumOf_0 : decode cX12_sumOf 0 = .ok (.aload_n 0, 1) := by decide +kernel
theorem dX12_sumOf_1 : decode cX12_sumOf 1 = .ok (.iload_n 1, 1) := by decide +kernel
theorem dX12_sumOf_2 : decode cX12_sumOf 2 = .ok (.invokevirtual 294, 3) := by decide +kernel
theorem dX12_sumOf_5 : decode cX12_sumOf 5 = .ok (.lstore_n 2, 1) := by decide +kernel
theorem dX12_sumOf_6 : decode cX12_sumOf 6 = .ok (.aload_n 0, 1) := by decide +kernel
theorem dX12_sumOf_7 : decode cX12_sumOf 7 = .ok (.aload_n 0, 1) := by decide +kernel
theorem dX12_sumOf_8 : decode cX12_sumOf 8 = .ok (.getfield 281, 3) := by decide +kernel
theorem dX12_sumOf_11 : decode cX12_sumOf 11 = .ok (.invokevirtual 284, 3) := by decide +kernel
theorem dX12_sumOf_14 : decode cX12_sumOf 14 = .ok (.bipush 43, 2) := by decide +kernel
theorem dX12_sumOf_16 : decode cX12_sumOf 16 = .ok (.invokestatic 240, 3) := by decide +kernel
theorem dX12_sumOf_19 : decode cX12_sumOf 19 = .ok (.if_icmp .eq 19, 3) := by decide +kernel
theorem dX12_sumOf_22 : decode cX12_sumOf 22 = .ok (.aload_n 0, 1) := by decide +kernel
theorem dX12_sumOf_23 : decode cX12_sumOf 23 = .ok (.aload_n 0, 1) := by decide +kernel
theorem dX12_sumOf_24 : decode cX12_sumOf 24 = .ok (.getfield 281, 3) := by decide +kernel
theorem dX12_sumOf_27 : decode cX12_sumOf 27 = .ok (.invokevirtual 284, 3) := by decide +kernel
theorem dX12_sumOf_30 : decode cX12_sumOf 30 = .ok (.bipush 45, 2) := by decide +kernel
theorem dX12_sumOf_32 : decode cX12_sumOf 32 = .ok (.invokestatic 240, 3) := by decide +kernel
theorem dX12_sumOf_35 : decode cX12_sumOf 35 = .ok (.if_icmp .ne 68, 3) := by decide +kernel
theorem dX12_sumOf_38 : decode cX12_sumOf 38 = .ok (.aload_n 0, 1) := by decide +kernel
theorem dX12_sumOf_39 : decode cX12_sumOf 39 = .ok (.aload_n 0, 1) := by decide +kernel
theorem dX12_sumOf_40 : decode cX12_sumOf 40 = .ok (.getfield 281, 3) := by decide +kernel
theorem dX12_sumOf_43 : decode cX12_sumOf 43 = .ok (.invokevirtual 284, 3) := by decide +kernel
theorem dX12_sumOf_46 : decode cX12_sumOf 46 = .ok (.bipush 43, 2) := by decide +kernel
theorem dX12_sumOf_48 : decode cX12_sumOf 48 = .ok (.invokestatic 240, 3) := by decide +kernel
theorem dX12_sumOf_51 : decode cX12_sumOf 51 = .ok (.if_icmp .ne 7, 3) := by decide +kernel
theorem dX12_sumOf_54 : decode cX12_sumOf 54 = .ok (.iconst 1, 1) := by decide +kernel
theorem dX12_sumOf_55 : decode cX12_sumOf 55 = .ok (.goto 4, 3) := by decide +kernel
theorem dX12_sumOf_58 : decode cX12_sumOf 58 = .ok (.iconst 0, 1) := by decide +kernel
theorem dX12_sumOf_59 : decode cX12_sumOf 59 = .ok (.istore 4, 2) := by decide +kernel
theorem dX12_sumOf_61 : decode cX12_sumOf 61 = .ok (.aload_n 0, 1) := by decide +kernel
theorem dX12_sumOf_62 : decode cX12_sumOf 62 = .ok (.dup, 1) := by decide +kernel
theorem dX12_sumOf_63 : decode cX12_sumOf 63 = .ok (.getfield 281, 3) := by decide +kernel
theorem dX12_sumOf_66 : decode cX12_sumOf 66 = .ok (.iconst 1, 1) := by decide +kernel
theorem dX12_sumOf_67 : decode cX12_sumOf 67 = .ok (.iadd, 1) := by decide +kernel
theorem dX12_sumOf_68 : decode cX12_sumOf 68 = .ok (.putfield 281, 3) := by decide +kernel
theorem dX12_sumOf_71 : decode cX12_sumOf 71 = .ok (.aload_n 0, 1) := by decide +kernel
theorem dX12_sumOf_72 : decode cX12_sumOf 72 = .ok (.iload_n 1, 1) := by decide +kernel
theorem dX12_sumOf_73 : decode cX12_sumOf 73 = .ok (.invokevirtual 294, 3) := by decide +kernel
theorem dX12_sumOf_76 : decode cX12_sumOf 76 = .ok (.lstore 5, 2) := by decide +kernel
theorem dX12_sumOf_78 : decode cX12_sumOf 78 = .ok (.aload_n 0, 1) := by decide +kernel
theorem dX12_sumOf_79 : decode cX12_sumOf 79 = .ok (.iload 4, 2) := by decide +kernel
theorem dX12_sumOf_81 : decode cX12_sumOf 81 = .ok (.ifCond .eq 10, 3) := by decide +kernel
theorem dX12_sumOf_84 : decode cX12_sumOf 84 = .ok (.lload_n 2, 1) := by decide +kernel
theorem dX12_sumOf_85 : decode cX12_sumOf 85 = .ok (.lload 5, 2) := by decide +kernel
theorem dX12_sumOf_87 : decode cX12_sumOf 87 = .ok (.ladd, 1) := by decide +kernel
theorem dX12_sumOf_88 : decode cX12_sumOf 88 = .ok (.goto 7, 3) := by decide +kernel
theorem dX12_sumOf_91 : decode cX12_sumOf 91 = .ok (.lload_n 2, 1) := by decide +kernel
theorem dX12_sumOf_92 : decode cX12_sumOf 92 = .ok (.lload 5, 2) := by decide +kernel
theorem dX12_sumOf_94 : decode cX12_sumOf 94 = .ok (.lsub, 1) := by decide +kernel
theorem dX12_sumOf_95 : decode cX12_sumOf 95 = .ok (.iload_n 1, 1) := by decide +kernel
theorem dX12_sumOf_96 : decode cX12_sumOf 96 = .ok (.invokevirtual 298, 3) := by decide +kernel
theorem dX12_sumOf_99 : decode cX12_sumOf 99 = .ok (.lstore_n 2, 1) := by decide +kernel
theorem dX12_sumOf_100 : decode cX12_sumOf 100 = .ok (.goto (-94), 3) := by decide +kernel
theorem dX12_sumOf_103 : decode cX12_sumOf 103 = .ok (.lload_n 2, 1) := by decide +kernel
theorem dX12_sumOf_104 : decode cX12_sumOf 104 = .ok (.lreturn, 1) := by decide +kernel
theorem dX12_termOf_0 : decode cX12_termOf 0 = .ok (.aload_n 0, 1) := by decide +kernel
theorem dX12_termOf_1 : decode cX12_termOf 1 = .ok (.iload_n 1, 1) := by decide +kernel
theorem dX12_termOf_2 : decode cX12_termOf 2 = .ok (.invokevirtual 302, 3) := by decide +kernel
theorem dX12_termOf_5 : decode cX12_termOf 5 = .ok (.lstore_n 2, 1) := by decide +kernel
theorem dX12_termOf_6 : decode cX12_termOf 6 = .ok (.aload_n 0, 1) := by decide +kernel
theorem dX12_termOf_7 : decode cX12_termOf 7 = .ok (.aload_n 0, 1) := by decide +kernel
theorem dX12_termOf_8 : decode cX12_termOf 8 = .ok (.getfield 281, 3) := by decide +kernel
theorem dX12_termOf_11 : decode cX12_termOf 11 = .ok (.invokevirtual 284, 3) := by decide +kernel
theorem dX12_termOf_14 : decode cX12_termOf 14 = .ok (.bipush 42, 2) := by decide +kernel
theorem dX12_termOf_16 : decode cX12_termOf 16 = .ok (.invokestatic 240, 3) := by decide +kernel
theorem dX12_termOf_19 : decode cX12_termOf 19 = .ok (.if_icmp .eq 35, 3) := by decide +kernel
theorem dX12_termOf_22 : decode cX12_termOf 22 = .ok (.aload_n 0, 1) := by decide +kernel
theorem dX12_termOf_23 : decode cX12_termOf 23 = .ok (.aload_n 0, 1) := by decide +kernel
theorem dX12_termOf_24 : decode cX12_termOf 24 = .ok (.getfield 281, 3) := by decide +kernel
theorem dX12_termOf_27 : decode cX12_termOf 27 = .ok (.invokevirtual 284, 3) := by decide +kernel
theorem dX12_termOf_30 : decode cX12_termOf 30 = .ok (.bipush 47, 2) := by decide +kernel
theorem dX12_termOf_32 : decode cX12_termOf 32 = .ok (.invokestatic 240, 3) := by decide +kernel
theorem dX12_termOf_35 : decode cX12_termOf 35 = .ok (.if_icmp .eq 19, 3) := by decide +kernel
theorem dX12_termOf_38 : decode cX12_termOf 38 = .ok (.aload_n 0, 1) := by decide +kernel
theorem dX12_termOf_39 : decode cX12_termOf 39 = .ok (.aload_n 0, 1) := by decide +kernel
theorem dX12_termOf_40 : decode cX12_termOf 40 = .ok (.getfield 281, 3) := by decide +kernel
theorem dX12_termOf_43 : decode cX12_termOf 43 = .ok (.invokevirtual 284, 3) := by decide +kernel
theorem dX12_termOf_46 : decode cX12_termOf 46 = .ok (.bipush 37, 2) := by decide +kernel
theorem dX12_termOf_48 : decode cX12_termOf 48 = .ok (.invokestatic 240, 3) := by decide +kernel
theorem dX12_termOf_51 : decode cX12_termOf 51 = .ok (.if_icmp .ne 117, 3) := by decide +kernel
theorem dX12_termOf_54 : decode cX12_termOf 54 = .ok (.aload_n 0, 1) := by decide +kernel
theorem dX12_termOf_55 : decode cX12_termOf 55 = .ok (.aload_n 0, 1) := by decide +kernel
theorem dX12_termOf_56 : decode cX12_termOf 56 = .ok (.getfield 281, 3) := by decide +kernel
theorem dX12_termOf_59 : decode cX12_termOf 59 = .ok (.invokevirtual 284, 3) := by decide +kernel
theorem dX12_termOf_62 : decode cX12_termOf 62 = .ok (.istore 4, 2) := by decide +kernel
theorem dX12_termOf_64 : decode cX12_termOf 64 = .ok (.aload_n 0, 1) := by decide +kernel
theorem dX12_termOf_65 : decode cX12_termOf 65 = .ok (.dup, 1) := by decide +kernel
theorem dX12_termOf_66 : decode cX12_termOf 66 = .ok (.getfield 281, 3) := by decide +kernel
theorem dX12_termOf_69 : decode cX12_termOf 69 = .ok (.iconst 1, 1) := by decide +kernel
theorem dX12_termOf_70 : decode cX12_termOf 70 = .ok (.iadd, 1) := by decide +kernel
theorem dX12_termOf_71 : decode cX12_termOf 71 = .ok (.putfield 281, 3) := by decide +kernel
theorem dX12_termOf_74 : decode cX12_termOf 74 = .ok (.aload_n 0, 1) := by decide +kernel
theorem dX12_termOf_75 : decode cX12_termOf 75 = .ok (.iload_n 1, 1) := by decide +kernel
theorem dX12_termOf_76 : decode cX12_termOf 76 = .ok (.invokevirtual 302, 3) := by decide +kernel
theorem dX12_termOf_79 : decode cX12_termOf 79 = .ok (.lstore 5, 2) := by decide +kernel
theorem dX12_termOf_81 : decode cX12_termOf 81 = .ok (.iload 4, 2) := by decide +kernel
theorem dX12_termOf_83 : decode cX12_termOf 83 = .ok (.bipush 42, 2) := by decide +kernel
theorem dX12_termOf_85 : decode cX12_termOf 85 = .ok (.invokestatic 240, 3) := by decide +kernel
theorem dX12_termOf_88 : decode cX12_termOf 88 = .ok (.if_icmp .eq 33, 3) := by decide +kernel
theorem dX12_termOf_91 : decode cX12_termOf 91 = .ok (.lload 5, 2) := by decide +kernel
theorem dX12_termOf_93 : decode cX12_termOf 93 = .ok (.lconst 0, 1) := by decide +kernel
theorem dX12_termOf_94 : decode cX12_termOf 94 = .ok (.lcmp, 1) := by decide +kernel
theorem dX12_termOf_95 : decode cX12_termOf 95 = .ok (.ifCond .ne 26, 3) := by decide +kernel
theorem dX12_termOf_98 : decode cX12_termOf 98 = .ok (.aload_n 0, 1) := by decide +kernel
theorem dX12_termOf_99 : decode cX12_termOf 99 = .ok (.aload_n 0, 1) := by decide +kernel
theorem dX12_termOf_100 : decode cX12_termOf 100 = .ok (.getfield 291, 3) := by decide +kernel
theorem dX12_termOf_103 : decode cX12_termOf 103 = .ok (.ifCond .ne 7, 3) := by decide +kernel
theorem dX12_termOf_106 : decode cX12_termOf 106 = .ok (.iload_n 1, 1) := by decide +kernel
theorem dX12_termOf_107 : decode cX12_termOf 107 = .ok (.ifCond .eq 7, 3) := by decide +kernel
theorem dX12_termOf_110 : decode cX12_termOf 110 = .ok (.iconst 1, 1) := by decide +kernel
theorem dX12_termOf_111 : decode cX12_termOf 111 = .ok (.goto 4, 3) := by decide +kernel
theorem dX12_termOf_114 : decode cX12_termOf 114 = .ok (.iconst 0, 1) := by decide +kernel
theorem dX12_termOf_115 : decode cX12_termOf 115 = .ok (.putfield 291, 3) := by decide +kernel
theorem dX12_termOf_118 : decode cX12_termOf 118 = .ok (.lconst 1, 1) := by decide +kernel
theorem dX12_termOf_119 : decode cX12_termOf 119 = .ok (.lstore 5, 2) := by decide +kernel
theorem dX12_termOf_121 : decode cX12_termOf 121 = .ok (.aload_n 0, 1) := by decide +kernel
theorem dX12_termOf_122 : decode cX12_termOf 122 = .ok (.iload 4, 2) := by decide +kernel
theorem dX12_termOf_124 : decode cX12_termOf 124 = .ok (.bipush 42, 2) := by decide +kernel
theorem dX12_termOf_126 : decode cX12_termOf 126 = .ok (.invokestatic 240, 3) := by decide +kernel
theorem dX12_termOf_129 : decode cX12_termOf 129 = .ok (.if_icmp .ne 10, 3) := by decide +kernel
theorem dX12_termOf_132 : decode cX12_termOf 132 = .ok (.lload_n 2, 1) := by decide +kernel
theorem dX12_termOf_133 : decode cX12_termOf 133 = .ok (.lload 5, 2) := by decide +kernel
theorem dX12_termOf_135 : decode cX12_termOf 135 = .ok (.lmul, 1) := by decide +kernel
theorem dX12_termOf_136 : decode cX12_termOf 136 = .ok (.goto 24, 3) := by decide +kernel
theorem dX12_termOf_139 : decode cX12_termOf 139 = .ok (.iload 4, 2) := by decide +kernel
theorem dX12_termOf_141 : decode cX12_termOf 141 = .ok (.bipush 47, 2) := by decide +kernel
theorem dX12_termOf_143 : decode cX12_termOf 143 = .ok (.invokestatic 240, 3) := by decide +kernel
theorem dX12_termOf_146 : decode cX12_termOf 146 = .ok (.if_icmp .ne 10, 3) := by decide +kernel
theorem dX12_termOf_149 : decode cX12_termOf 149 = .ok (.lload_n 2, 1) := by decide +kernel
theorem dX12_termOf_150 : decode cX12_termOf 150 = .ok (.lload 5, 2) := by decide +kernel
theorem dX12_termOf_152 : decode cX12_termOf 152 = .ok (.ldiv, 1) := by decide +kernel
theorem dX12_termOf_153 : decode cX12_termOf 153 = .ok (.goto 7, 3) := by decide +kernel
theorem dX12_termOf_156 : decode cX12_termOf 156 = .ok (.lload_n 2, 1) := by decide +kernel
theorem dX12_termOf_157 : decode cX12_termOf 157 = .ok (.lload 5, 2) := by decide +kernel
theorem dX12_termOf_159 : decode cX12_termOf 159 = .ok (.lrem, 1) := by decide +kernel
theorem dX12_termOf_160 : decode cX12_termOf 160 = .ok (.iload_n 1, 1) := by decide +kernel
theorem dX12_termOf_161 : decode cX12_termOf 161 = .ok (.invokevirtual 298, 3) := by decide +kernel
theorem dX12_termOf_164 : decode cX12_termOf 164 = .ok (.lstore_n 2, 1) := by decide +kernel
theorem dX12_termOf_165 : decode cX12_termOf 165 = .ok (.goto (-159), 3) := by decide +kernel
theorem dX12_termOf_168 : decode cX12_termOf 168 = .ok (.lload_n 2, 1) := by decide +kernel
theorem dX12_termOf_169 : decode cX12_termOf 169 = .ok (.lreturn, 1) := by decide +kernel
theorem dX12_partOf_0 : decode cX12_partOf 0 = .ok (.aload_n 0, 1) := by decide +kernel
theorem dX12_partOf_1 : decode cX12_partOf 1 = .ok (.bipush 91, 2) := by decide +kernel
theorem dX12_partOf_3 : decode cX12_partOf 3 = .ok (.invokestatic 240, 3) := by decide +kernel
theorem dX12_partOf_6 : decode cX12_partOf 6 = .ok (.invokevirtual 305, 3) := by decide +kernel
theorem dX12_partOf_9 : decode cX12_partOf 9 = .ok (.ifCond .eq 21, 3) := by decide +kernel
theorem dX12_partOf_12 : decode cX12_partOf 12 = .ok (.aload_n 0, 1) := by decide +kernel
theorem dX12_partOf_13 : decode cX12_partOf 13 = .ok (.iload_n 1, 1) := by decide +kernel
theorem dX12_partOf_14 : decode cX12_partOf 14 = .ok (.invokevirtual 308, 3) := by decide +kernel
theorem dX12_partOf_17 : decode cX12_partOf 17 = .ok (.lstore_n 2, 1) := by decide +kernel
theorem dX12_partOf_18 : decode cX12_partOf 18 = .ok (.aload_n 0, 1) := by decide +kernel
theorem dX12_partOf_19 : decode cX12_partOf 19 = .ok (.dup, 1) := by decide +kernel
theorem dX12_partOf_20 : decode cX12_partOf 20 = .ok (.getfield 281, 3) := by decide +kernel
theorem dX12_partOf_23 : decode cX12_partOf 23 = .ok (.iconst 1, 1) := by decide +kernel
theorem dX12_partOf_24 : decode cX12_partOf 24 = .ok (.iadd, 1) := by decide +kernel
theorem dX12_partOf_25 : decode cX12_partOf 25 = .ok (.putfield 281, 3) := by decide +kernel
theorem dX12_partOf_28 : decode cX12_partOf 28 = .ok (.lload_n 2, 1) := by decide +kernel
theorem dX12_partOf_29 : decode cX12_partOf 29 = .ok (.lreturn, 1) := by decide +kernel
theorem dX12_partOf_30 : decode cX12_partOf 30 = .ok (.aload_n 0, 1) := by decide +kernel
theorem dX12_partOf_31 : decode cX12_partOf 31 = .ok (.aload_n 0, 1) := by decide +kernel
theorem dX12_partOf_32 : decode cX12_partOf 32 = .ok (.getfield 281, 3) := by decide +kernel
theorem dX12_partOf_35 : decode cX12_partOf 35 = .ok (.invokevirtual 284, 3) := by decide +kernel
theorem dX12_partOf_38 : decode cX12_partOf 38 = .ok (.istore_n 2, 1) := by decide +kernel
theorem dX12_partOf_39 : decode cX12_partOf 39 = .ok (.iconst 0, 1) := by decide +kernel
theorem dX12_partOf_40 : decode cX12_partOf 40 = .ok (.istore_n 3, 1) := by decide +kernel
theorem dX12_partOf_41 : decode cX12_partOf 41 = .ok (.aload_n 0, 1) := by decide +kernel
theorem dX12_partOf_42 : decode cX12_partOf 42 = .ok (.dup, 1) := by decide +kernel
theorem dX12_partOf_43 : decode cX12_partOf 43 = .ok (.getfield 281, 3) := by decide +kernel
theorem dX12_partOf_46 : decode cX12_partOf 46 = .ok (.iconst 1, 1) := by decide +kernel
theorem dX12_partOf_47 : decode cX12_partOf 47 = .ok (.iadd, 1) := by decide +kernel
theorem dX12_partOf_48 : decode cX12_partOf 48 = .ok (.putfield 281, 3) := by decide +kernel
theorem dX12_partOf_51 : decode cX12_partOf 51 = .ok (.aload_n 0, 1) := by decide +kernel
theorem dX12_partOf_52 : decode cX12_partOf 52 = .ok (.getfield 311, 3) := by decide +kernel
theorem dX12_partOf_55 : decode cX12_partOf 55 = .ok (.ifCond .eq 39, 3) := by decide +kernel
theorem dX12_partOf_58 : decode cX12_partOf 58 = .ok (.iload_n 2, 1) := by decide +kernel
theorem dX12_partOf_59 : decode cX12_partOf 59 = .ok (.bipush 14, 2) := by decide +kernel
theorem dX12_partOf_61 : decode cX12_partOf 61 = .ok (.if_icmp .eq 9, 3) := by decide +kernel
theorem dX12_partOf_64 : decode cX12_partOf 64 = .ok (.iload_n 2, 1) := by decide +kernel
theorem dX12_partOf_65 : decode cX12_partOf 65 = .ok (.bipush 20, 2) := by decide +kernel
theorem dX12_partOf_67 : decode cX12_partOf 67 = .ok (.if_icmp .ne 27, 3) := by decide +kernel
theorem dX12_partOf_70 : decode cX12_partOf 70 = .ok (.aload_n 0, 1) := by decide +kernel
theorem dX12_partOf_71 : decode cX12_partOf 71 = .ok (.getfield 28, 3) := by decide +kernel
theorem dX12_partOf_74 : decode cX12_partOf 74 = .ok (.sipush 2880, 3) := by decide +kernel
theorem dX12_partOf_77 : decode cX12_partOf 77 = .ok (.aload_n 0, 1) := by decide +kernel
theorem dX12_partOf_78 : decode cX12_partOf 78 = .ok (.getfield 281, 3) := by decide +kernel
theorem dX12_partOf_81 : decode cX12_partOf 81 = .ok (.iadd, 1) := by decide +kernel
theorem dX12_partOf_82 : decode cX12_partOf 82 = .ok (.iaload, 1) := by decide +kernel
theorem dX12_partOf_83 : decode cX12_partOf 83 = .ok (.istore_n 3, 1) := by decide +kernel
theorem dX12_partOf_84 : decode cX12_partOf 84 = .ok (.aload_n 0, 1) := by decide +kernel
theorem dX12_partOf_85 : decode cX12_partOf 85 = .ok (.dup, 1) := by decide +kernel
theorem dX12_partOf_86 : decode cX12_partOf 86 = .ok (.getfield 281, 3) := by decide +kernel
theorem dX12_partOf_89 : decode cX12_partOf 89 = .ok (.iconst 1, 1) := by decide +kernel
theorem dX12_partOf_90 : decode cX12_partOf 90 = .ok (.iadd, 1) := by decide +kernel
theorem dX12_partOf_91 : decode cX12_partOf 91 = .ok (.putfield 281, 3) := by decide +kernel
theorem dX12_partOf_94 : decode cX12_partOf 94 = .ok (.iload_n 1, 1) := by decide +kernel
theorem dX12_partOf_95 : decode cX12_partOf 95 = .ok (.ifCond .eq 10, 3) := by decide +kernel
theorem dX12_partOf_98 : decode cX12_partOf 98 = .ok (.aload_n 0, 1) := by decide +kernel
theorem dX12_partOf_99 : decode cX12_partOf 99 = .ok (.getfield 291, 3) := by decide +kernel
theorem dX12_partOf_102 : decode cX12_partOf 102 = .ok (.ifCond .eq 5, 3) := by decide +kernel
theorem dX12_partOf_105 : decode cX12_partOf 105 = .ok (.lconst 0, 1) := by decide +kernel
theorem dX12_partOf_106 : decode cX12_partOf 106 = .ok (.lreturn, 1) := by decide +kernel
theorem dX12_partOf_107 : decode cX12_partOf 107 = .ok (.iload_n 2, 1) := by decide +kernel
theorem dX12_partOf_108 : decode cX12_partOf 108 = .ok (.bipush 50, 2) := by decide +kernel
theorem dX12_partOf_110 : decode cX12_partOf 110 = .ok (.if_icmp .ne 20, 3) := by decide +kernel
theorem dX12_partOf_113 : decode cX12_partOf 113 = .ok (.aload_n 0, 1) := by decide +kernel
theorem dX12_partOf_114 : decode cX12_partOf 114 = .ok (.getfield 28, 3) := by decide +kernel
theorem dX12_partOf_117 : decode cX12_partOf 117 = .ok (.sipush 2880, 3) := by decide +kernel
theorem dX12_partOf_120 : decode cX12_partOf 120 = .ok (.aload_n 0, 1) := by decide +kernel
theorem dX12_partOf_121 : decode cX12_partOf 121 = .ok (.getfield 281, 3) := by decide +kernel
theorem dX12_partOf_124 : decode cX12_partOf 124 = .ok (.iadd, 1) := by decide +kernel
theorem dX12_partOf_125 : decode cX12_partOf 125 = .ok (.iconst 1, 1) := by decide +kernel
theorem dX12_partOf_126 : decode cX12_partOf 126 = .ok (.isub, 1) := by decide +kernel
theorem dX12_partOf_127 : decode cX12_partOf 127 = .ok (.iaload, 1) := by decide +kernel
theorem dX12_partOf_128 : decode cX12_partOf 128 = .ok (.i2l, 1) := by decide +kernel
theorem dX12_partOf_129 : decode cX12_partOf 129 = .ok (.lreturn, 1) := by decide +kernel
theorem dX12_partOf_130 : decode cX12_partOf 130 = .ok (.aload_n 0, 1) := by decide +kernel
theorem dX12_partOf_131 : decode cX12_partOf 131 = .ok (.getfield 311, 3) := by decide +kernel
theorem dX12_partOf_134 : decode cX12_partOf 134 = .ok (.ifCond .eq 13, 3) := by decide +kernel
theorem dX12_partOf_137 : decode cX12_partOf 137 = .ok (.aload_n 0, 1) := by decide +kernel
theorem dX12_partOf_138 : decode cX12_partOf 138 = .ok (.iload_n 2, 1) := by decide +kernel
theorem dX12_partOf_139 : decode cX12_partOf 139 = .ok (.iload_n 3, 1) := by decide +kernel
theorem dX12_partOf_140 : decode cX12_partOf 140 = .ok (.invokevirtual 314, 3) := by decide +kernel
theorem dX12_partOf_143 : decode cX12_partOf 143 = .ok (.i2l, 1) := by decide +kernel
theorem dX12_partOf_144 : decode cX12_partOf 144 = .ok (.goto 13, 3) := by decide +kernel
theorem dX12_partOf_147 : decode cX12_partOf 147 = .ok (.aload_n 0, 1) := by decide +kernel
theorem dX12_partOf_148 : decode cX12_partOf 148 = .ok (.getfield 63, 3) := by decide +kernel
theorem dX12_partOf_151 : decode cX12_partOf 151 = .ok (.iload_n 2, 1) := by decide +kernel
theorem dX12_partOf_152 : decode cX12_partOf 152 = .ok (.bipush 8, 2) := by decide +kernel
theorem dX12_partOf_154 : decode cX12_partOf 154 = .ok (.isub, 1) := by decide +kernel
theorem dX12_partOf_155 : decode cX12_partOf 155 = .ok (.iaload, 1) := by decide +kernel
theorem dX12_partOf_156 : decode cX12_partOf 156 = .ok (.i2l, 1) := by decide +kernel
theorem dX12_partOf_157 : decode cX12_partOf 157 = .ok (.lreturn, 1) := by decide +kernel
theorem dX12_orderValue_0 : decode cX12_orderValue 0 = .ok (.iload_n 1, 1) := by decide +kernel
theorem dX12_orderValue_1 : decode cX12_orderValue 1 = .ok (.tableswitch 113 14 20 #[43, 90, 98, 103, 108, 113, 64], 43) := by decide +kernel
theorem dX12_orderValue_44 : decode cX12_orderValue 44 = .ok (.aload_n 0, 1) := by decide +kernel
theorem dX12_orderValue_45 : decode cX12_orderValue 45 = .ok (.iload_n 2, 1) := by decide +kernel
theorem dX12_orderValue_46 : decode cX12_orderValue 46 = .ok (.invokevirtual 134, 3) := by decide +kernel
theorem dX12_orderValue_49 : decode cX12_orderValue 49 = .ok (.ifCond .eq 14, 3) := by decide +kernel
theorem dX12_orderValue_52 : decode cX12_orderValue 52 = .ok (.aload_n 0, 1) := by decide +kernel
theorem dX12_orderValue_53 : decode cX12_orderValue 53 = .ok (.getfield 28, 3) := by decide +kernel
theorem dX12_orderValue_56 : decode cX12_orderValue 56 = .ok (.iconst 0, 1) := by decide +kernel
theorem dX12_orderValue_57 : decode cX12_orderValue 57 = .ok (.iload_n 2, 1) := by decide +kernel
theorem dX12_orderValue_58 : decode cX12_orderValue 58 = .ok (.iadd, 1) := by decide +kernel
theorem dX12_orderValue_59 : decode cX12_orderValue 59 = .ok (.iaload, 1) := by decide +kernel
theorem dX12_orderValue_60 : decode cX12_orderValue 60 = .ok (.goto 4, 3) := by decide +kernel
theorem dX12_orderValue_63 : decode cX12_orderValue 63 = .ok (.iconst (-1), 1) := by decide +kernel
theorem dX12_orderValue_64 : decode cX12_orderValue 64 = .ok (.ireturn, 1) := by decide +kernel
theorem dX12_orderValue_65 : decode cX12_orderValue 65 = .ok (.aload_n 0, 1) := by decide +kernel
theorem dX12_orderValue_66 : decode cX12_orderValue 66 = .ok (.iload_n 2, 1) := by decide +kernel
theorem dX12_orderValue_67 : decode cX12_orderValue 67 = .ok (.invokevirtual 134, 3) := by decide +kernel
theorem dX12_orderValue_70 : decode cX12_orderValue 70 = .ok (.ifCond .ne 7, 3) := by decide +kernel
theorem dX12_orderValue_73 : decode cX12_orderValue 73 = .ok (.iconst (-1), 1) := by decide +kernel
theorem dX12_orderValue_74 : decode cX12_orderValue 74 = .ok (.goto 16, 3) := by decide +kernel
theorem dX12_orderValue_77 : decode cX12_orderValue 77 = .ok (.aload_n 0, 1) := by decide +kernel
theorem dX12_orderValue_78 : decode cX12_orderValue 78 = .ok (.iload_n 2, 1) := by decide +kernel
theorem dX12_orderValue_79 : decode cX12_orderValue 79 = .ok (.invokevirtual 137, 3) := by decide +kernel
theorem dX12_orderValue_82 : decode cX12_orderValue 82 = .ok (.ifCond .eq 7, 3) := by decide +kernel
theorem dX12_orderValue_85 : decode cX12_orderValue 85 = .ok (.iconst 1, 1) := by decide +kernel
theorem dX12_orderValue_86 : decode cX12_orderValue 86 = .ok (.goto 4, 3) := by decide +kernel
theorem dX12_orderValue_89 : decode cX12_orderValue 89 = .ok (.iconst 0, 1) := by decide +kernel
theorem dX12_orderValue_90 : decode cX12_orderValue 90 = .ok (.ireturn, 1) := by decide +kernel
theorem dX12_orderValue_91 : decode cX12_orderValue 91 = .ok (.aload_n 0, 1) := by decide +kernel
theorem dX12_orderValue_92 : decode cX12_orderValue 92 = .ok (.getfield 28, 3) := by decide +kernel
theorem dX12_orderValue_95 : decode cX12_orderValue 95 = .ok (.bipush 28, 2) := by decide +kernel
theorem dX12_orderValue_97 : decode cX12_orderValue 97 = .ok (.iaload, 1) := by decide +kernel
theorem dX12_orderValue_98 : decode cX12_orderValue 98 = .ok (.ireturn, 1) := by decide +kernel
theorem dX12_orderValue_99 : decode cX12_orderValue 99 = .ok (.aload_n 0, 1) := by decide +kernel
theorem dX12_orderValue_100 : decode cX12_orderValue 100 = .ok (.getfield 317, 3) := by decide +kernel
theorem dX12_orderValue_103 : decode cX12_orderValue 103 = .ok (.ireturn, 1) := by decide +kernel
theorem dX12_orderValue_104 : decode cX12_orderValue 104 = .ok (.aload_n 0, 1) := by decide +kernel
theorem dX12_orderValue_105 : decode cX12_orderValue 105 = .ok (.getfield 320, 3) := by decide +kernel
theorem dX12_orderValue_108 : decode cX12_orderValue 108 = .ok (.ireturn, 1) := by decide +kernel
theorem dX12_orderValue_109 : decode cX12_orderValue 109 = .ok (.aload_n 0, 1) := by decide +kernel
theorem dX12_orderValue_110 : decode cX12_orderValue 110 = .ok (.invokevirtual 323, 3) := by decide +kernel
theorem dX12_orderValue_113 : decode cX12_orderValue 113 = .ok (.ireturn, 1) := by decide +kernel
theorem dX12_orderValue_114 : decode cX12_orderValue 114 = .ok (.aload_n 0, 1) := by decide +kernel
theorem dX12_orderValue_115 : decode cX12_orderValue 115 = .ok (.getfield 28, 3) := by decide +kernel
theorem dX12_orderValue_118 : decode cX12_orderValue 118 = .ok (.bipush 27, 2) := by decide +kernel
theorem dX12_orderValue_120 : decode cX12_orderValue 120 = .ok (.iaload, 1) := by decide +kernel
theorem dX12_orderValue_121 : decode cX12_orderValue 121 = .ok (.ireturn, 1) := by decide +kernel
theorem dX12_testOf_0 : decode cX12_testOf 0 = .ok (.aload_n 0, 1) := by decide +kernel
theorem dX12_testOf_1 : decode cX12_testOf 1 = .ok (.iload_n 1, 1) := by decide +kernel
theorem dX12_testOf_2 : decode cX12_testOf 2 = .ok (.invokevirtual 326, 3) := by decide +kernel
theorem dX12_testOf_5 : decode cX12_testOf 5 = .ok (.istore_n 2, 1) := by decide +kernel
theorem dX12_testOf_6 : decode cX12_testOf 6 = .ok (.aload_n 0, 1) := by decide +kernel
theorem dX12_testOf_7 : decode cX12_testOf 7 = .ok (.iconst 5, 1) := by decide +kernel
theorem dX12_testOf_8 : decode cX12_testOf 8 = .ok (.invokevirtual 305, 3) := by decide +kernel
theorem dX12_testOf_11 : decode cX12_testOf 11 = .ok (.ifCond .eq 38, 3) := by decide +kernel
theorem dX12_testOf_14 : decode cX12_testOf 14 = .ok (.aload_n 0, 1) := by decide +kernel
theorem dX12_testOf_15 : decode cX12_testOf 15 = .ok (.iload_n 1, 1) := by decide +kernel
theorem dX12_testOf_16 : decode cX12_testOf 16 = .ok (.ifCond .eq 11, 3) := by decide +kernel
theorem dX12_testOf_19 : decode cX12_testOf 19 = .ok (.iload_n 2, 1) := by decide +kernel
theorem dX12_testOf_20 : decode cX12_testOf 20 = .ok (.ifCond .ne 7, 3) := by decide +kernel
theorem dX12_testOf_23 : decode cX12_testOf 23 = .ok (.iconst 1, 1) := by decide +kernel
theorem dX12_testOf_24 : decode cX12_testOf 24 = .ok (.goto 4, 3) := by decide +kernel
theorem dX12_testOf_27 : decode cX12_testOf 27 = .ok (.iconst 0, 1) := by decide +kernel
theorem dX12_testOf_28 : decode cX12_testOf 28 = .ok (.invokevirtual 326, 3) := by decide +kernel
theorem dX12_testOf_31 : decode cX12_testOf 31 = .ok (.istore_n 3, 1) := by decide +kernel
theorem dX12_testOf_32 : decode cX12_testOf 32 = .ok (.iload_n 2, 1) := by decide +kernel
theorem dX12_testOf_33 : decode cX12_testOf 33 = .ok (.ifCond .ne 7, 3) := by decide +kernel
theorem dX12_testOf_36 : decode cX12_testOf 36 = .ok (.iload_n 3, 1) := by decide +kernel
theorem dX12_testOf_37 : decode cX12_testOf 37 = .ok (.ifCond .eq 7, 3) := by decide +kernel
theorem dX12_testOf_40 : decode cX12_testOf 40 = .ok (.iconst 1, 1) := by decide +kernel
theorem dX12_testOf_41 : decode cX12_testOf 41 = .ok (.goto 4, 3) := by decide +kernel
theorem dX12_testOf_44 : decode cX12_testOf 44 = .ok (.iconst 0, 1) := by decide +kernel
theorem dX12_testOf_45 : decode cX12_testOf 45 = .ok (.istore_n 2, 1) := by decide +kernel
theorem dX12_testOf_46 : decode cX12_testOf 46 = .ok (.goto (-40), 3) := by decide +kernel
theorem dX12_testOf_49 : decode cX12_testOf 49 = .ok (.iload_n 2, 1) := by decide +kernel
theorem dX12_testOf_50 : decode cX12_testOf 50 = .ok (.ireturn, 1) := by decide +kernel
theorem dX12_bothOf_0 : decode cX12_bothOf 0 = .ok (.aload_n 0, 1) := by decide +kernel
theorem dX12_bothOf_1 : decode cX12_bothOf 1 = .ok (.iload_n 1, 1) := by decide +kernel
theorem dX12_bothOf_2 : decode cX12_bothOf 2 = .ok (.invokevirtual 329, 3) := by decide +kernel
theorem dX12_bothOf_5 : decode cX12_bothOf 5 = .ok (.istore_n 2, 1) := by decide +kernel
theorem dX12_bothOf_6 : decode cX12_bothOf 6 = .ok (.aload_n 0, 1) := by decide +kernel
theorem dX12_bothOf_7 : decode cX12_bothOf 7 = .ok (.bipush 6, 2) := by decide +kernel
theorem dX12_bothOf_9 : decode cX12_bothOf 9 = .ok (.invokevirtual 305, 3) := by decide +kernel
theorem dX12_bothOf_12 : decode cX12_bothOf 12 = .ok (.ifCond .eq 38, 3) := by decide +kernel
theorem dX12_bothOf_15 : decode cX12_bothOf 15 = .ok (.aload_n 0, 1) := by decide +kernel
theorem dX12_bothOf_16 : decode cX12_bothOf 16 = .ok (.iload_n 1, 1) := by decide +kernel
theorem dX12_bothOf_17 : decode cX12_bothOf 17 = .ok (.ifCond .eq 11, 3) := by decide +kernel
theorem dX12_bothOf_20 : decode cX12_bothOf 20 = .ok (.iload_n 2, 1) := by decide +kernel
theorem dX12_bothOf_21 : decode cX12_bothOf 21 = .ok (.ifCond .eq 7, 3) := by decide +kernel
theorem dX12_bothOf_24 : decode cX12_bothOf 24 = .ok (.iconst 1, 1) := by decide +kernel
theorem dX12_bothOf_25 : decode cX12_bothOf 25 = .ok (.goto 4, 3) := by decide +kernel
theorem dX12_bothOf_28 : decode cX12_bothOf 28 = .ok (.iconst 0, 1) := by decide +kernel
theorem dX12_bothOf_29 : decode cX12_bothOf 29 = .ok (.invokevirtual 329, 3) := by decide +kernel
theorem dX12_bothOf_32 : decode cX12_bothOf 32 = .ok (.istore_n 3, 1) := by decide +kernel
theorem dX12_bothOf_33 : decode cX12_bothOf 33 = .ok (.iload_n 2, 1) := by decide +kernel
theorem dX12_bothOf_34 : decode cX12_bothOf 34 = .ok (.ifCond .eq 11, 3) := by decide +kernel
theorem dX12_bothOf_37 : decode cX12_bothOf 37 = .ok (.iload_n 3, 1) := by decide +kernel
theorem dX12_bothOf_38 : decode cX12_bothOf 38 = .ok (.ifCond .eq 7, 3) := by decide +kernel
theorem dX12_bothOf_41 : decode cX12_bothOf 41 = .ok (.iconst 1, 1) := by decide +kernel
theorem dX12_bothOf_42 : decode cX12_bothOf 42 = .ok (.goto 4, 3) := by decide +kernel
theorem dX12_bothOf_45 : decode cX12_bothOf 45 = .ok (.iconst 0, 1) := by decide +kernel
theorem dX12_bothOf_46 : decode cX12_bothOf 46 = .ok (.istore_n 2, 1) := by decide +kernel
theorem dX12_bothOf_47 : decode cX12_bothOf 47 = .ok (.goto (-41), 3) := by decide +kernel
theorem dX12_bothOf_50 : decode cX12_bothOf 50 = .ok (.iload_n 2, 1) := by decide +kernel
theorem dX12_bothOf_51 : decode cX12_bothOf 51 = .ok (.ireturn, 1) := by decide +kernel
theorem dX12_plainOf_0 : decode cX12_plainOf 0 = .ok (.iconst 0, 1) := by decide +kernel
theorem dX12_plainOf_1 : decode cX12_plainOf 1 = .ok (.istore_n 2, 1) := by decide +kernel
theorem dX12_plainOf_2 : decode cX12_plainOf 2 = .ok (.aload_n 0, 1) := by decide +kernel
theorem dX12_plainOf_3 : decode cX12_plainOf 3 = .ok (.bipush 7, 2) := by decide +kernel
theorem dX12_plainOf_5 : decode cX12_plainOf 5 = .ok (.invokevirtual 305, 3) := by decide +kernel
theorem dX12_plainOf_8 : decode cX12_plainOf 8 = .ok (.ifCond .eq 16, 3) := by decide +kernel
theorem dX12_plainOf_11 : decode cX12_plainOf 11 = .ok (.iload_n 2, 1) := by decide +kernel
theorem dX12_plainOf_12 : decode cX12_plainOf 12 = .ok (.ifCond .ne 7, 3) := by decide +kernel
theorem dX12_plainOf_15 : decode cX12_plainOf 15 = .ok (.iconst 1, 1) := by decide +kernel
theorem dX12_plainOf_16 : decode cX12_plainOf 16 = .ok (.goto 4, 3) := by decide +kernel
theorem dX12_plainOf_19 : decode cX12_plainOf 19 = .ok (.iconst 0, 1) := by decide +kernel
theorem dX12_plainOf_20 : decode cX12_plainOf 20 = .ok (.istore_n 2, 1) := by decide +kernel
theorem dX12_plainOf_21 : decode cX12_plainOf 21 = .ok (.goto (-19), 3) := by decide +kernel
theorem dX12_plainOf_24 : decode cX12_plainOf 24 = .ok (.aload_n 0, 1) := by decide +kernel
theorem dX12_plainOf_25 : decode cX12_plainOf 25 = .ok (.iload_n 1, 1) := by decide +kernel
theorem dX12_plainOf_26 : decode cX12_plainOf 26 = .ok (.invokevirtual 332, 3) := by decide +kernel
theorem dX12_plainOf_29 : decode cX12_plainOf 29 = .ok (.iload_n 2, 1) := by decide +kernel
theorem dX12_plainOf_30 : decode cX12_plainOf 30 = .ok (.if_icmp .eq 7, 3) := by decide +kernel
theorem dX12_plainOf_33 : decode cX12_plainOf 33 = .ok (.iconst 1, 1) := by decide +kernel
theorem dX12_plainOf_34 : decode cX12_plainOf 34 = .ok (.goto 4, 3) := by decide +kernel
theorem dX12_plainOf_37 : decode cX12_plainOf 37 = .ok (.iconst 0, 1) := by decide +kernel
theorem dX12_plainOf_38 : decode cX12_plainOf 38 = .ok (.ireturn, 1) := by decide +kernel
theorem dX12_positiveOf_0 : decode cX12_positiveOf 0 = .ok (.aload_n 0, 1) := by decide +kernel
theorem dX12_positiveOf_1 : decode cX12_positiveOf 1 = .ok (.bipush 40, 2) := by decide +kernel
theorem dX12_positiveOf_3 : decode cX12_positiveOf 3 = .ok (.invokestatic 240, 3) := by decide +kernel
theorem dX12_positiveOf_6 : decode cX12_positiveOf 6 = .ok (.invokevirtual 305, 3) := by decide +kernel
theorem dX12_positiveOf_9 : decode cX12_positiveOf 9 = .ok (.ifCond .eq 21, 3) := by decide +kernel
theorem dX12_positiveOf_12 : decode cX12_positiveOf 12 = .ok (.aload_n 0, 1) := by decide +kernel
theorem dX12_positiveOf_13 : decode cX12_positiveOf 13 = .ok (.iload_n 1, 1) := by decide +kernel
theorem dX12_positiveOf_14 : decode cX12_positiveOf 14 = .ok (.invokevirtual 335, 3) := by decide +kernel
theorem dX12_positiveOf_17 : decode cX12_positiveOf 17 = .ok (.istore_n 2, 1) := by decide +kernel
theorem dX12_positiveOf_18 : decode cX12_positiveOf 18 = .ok (.aload_n 0, 1) := by decide +kernel
theorem dX12_positiveOf_19 : decode cX12_positiveOf 19 = .ok (.dup, 1) := by decide +kernel
theorem dX12_positiveOf_20 : decode cX12_positiveOf 20 = .ok (.getfield 281, 3) := by decide +kernel
theorem dX12_positiveOf_23 : decode cX12_positiveOf 23 = .ok (.iconst 1, 1) := by decide +kernel
theorem dX12_positiveOf_24 : decode cX12_positiveOf 24 = .ok (.iadd, 1) := by decide +kernel
theorem dX12_positiveOf_25 : decode cX12_positiveOf 25 = .ok (.putfield 281, 3) := by decide +kernel
theorem dX12_positiveOf_28 : decode cX12_positiveOf 28 = .ok (.iload_n 2, 1) := by decide +kernel
theorem dX12_positiveOf_29 : decode cX12_positiveOf 29 = .ok (.ireturn, 1) := by decide +kernel
theorem dX12_positiveOf_30 : decode cX12_positiveOf 30 = .ok (.aload_n 0, 1) := by decide +kernel
theorem dX12_positiveOf_31 : decode cX12_positiveOf 31 = .ok (.iload_n 1, 1) := by decide +kernel
theorem dX12_positiveOf_32 : decode cX12_positiveOf 32 = .ok (.invokevirtual 308, 3) := by decide +kernel
theorem dX12_positiveOf_35 : decode cX12_positiveOf 35 = .ok (.lstore_n 2, 1) := by decide +kernel
theorem dX12_positiveOf_36 : decode cX12_positiveOf 36 = .ok (.aload_n 0, 1) := by decide +kernel
theorem dX12_positiveOf_37 : decode cX12_positiveOf 37 = .ok (.aload_n 0, 1) := by decide +kernel
theorem dX12_positiveOf_38 : decode cX12_positiveOf 38 = .ok (.getfield 281, 3) := by decide +kernel
theorem dX12_positiveOf_41 : decode cX12_positiveOf 41 = .ok (.invokevirtual 284, 3) := by decide +kernel
theorem dX12_positiveOf_44 : decode cX12_positiveOf 44 = .ok (.istore 4, 2) := by decide +kernel
theorem dX12_positiveOf_46 : decode cX12_positiveOf 46 = .ok (.aload_n 0, 1) := by decide +kernel
theorem dX12_positiveOf_47 : decode cX12_positiveOf 47 = .ok (.dup, 1) := by decide +kernel
theorem dX12_positiveOf_48 : decode cX12_positiveOf 48 = .ok (.getfield 281, 3) := by decide +kernel
theorem dX12_positiveOf_51 : decode cX12_positiveOf 51 = .ok (.iconst 1, 1) := by decide +kernel
theorem dX12_positiveOf_52 : decode cX12_positiveOf 52 = .ok (.iadd, 1) := by decide +kernel
theorem dX12_positiveOf_53 : decode cX12_positiveOf 53 = .ok (.putfield 281, 3) := by decide +kernel
theorem dX12_positiveOf_56 : decode cX12_positiveOf 56 = .ok (.aload_n 0, 1) := by decide +kernel
theorem dX12_positiveOf_57 : decode cX12_positiveOf 57 = .ok (.iload_n 1, 1) := by decide +kernel
theorem dX12_positiveOf_58 : decode cX12_positiveOf 58 = .ok (.invokevirtual 308, 3) := by decide +kernel
theorem dX12_positiveOf_61 : decode cX12_positiveOf 61 = .ok (.lstore 5, 2) := by decide +kernel
theorem dX12_positiveOf_63 : decode cX12_positiveOf 63 = .ok (.iload_n 1, 1) := by decide +kernel
theorem dX12_positiveOf_64 : decode cX12_positiveOf 64 = .ok (.ifCond .eq 61, 3) := by decide +kernel
theorem dX12_positiveOf_67 : decode cX12_positiveOf 67 = .ok (.aload_n 0, 1) := by decide +kernel
theorem dX12_positiveOf_68 : decode cX12_positiveOf 68 = .ok (.getfield 291, 3) := by decide +kernel
theorem dX12_positiveOf_71 : decode cX12_positiveOf 71 = .ok (.ifCond .ne 54, 3) := by decide +kernel
theorem dX12_positiveOf_74 : decode cX12_positiveOf 74 = .ok (.iload 4, 2) := by decide +kernel
theorem dX12_positiveOf_76 : decode cX12_positiveOf 76 = .ok (.bipush 60, 2) := by decide +kernel
theorem dX12_positiveOf_78 : decode cX12_positiveOf 78 = .ok (.invokestatic 240, 3) := by decide +kernel
theorem dX12_positiveOf_81 : decode cX12_positiveOf 81 = .ok (.if_icmp .ne 13, 3) := by decide +kernel
theorem dX12_positiveOf_84 : decode cX12_positiveOf 84 = .ok (.lload_n 2, 1) := by decide +kernel
theorem dX12_positiveOf_85 : decode cX12_positiveOf 85 = .ok (.lload 5, 2) := by decide +kernel
theorem dX12_positiveOf_87 : decode cX12_positiveOf 87 = .ok (.lcmp, 1) := by decide +kernel
theorem dX12_positiveOf_88 : decode cX12_positiveOf 88 = .ok (.ifCond .ge 37, 3) := by decide +kernel
theorem dX12_positiveOf_91 : decode cX12_positiveOf 91 = .ok (.goto 30, 3) := by decide +kernel
theorem dX12_positiveOf_94 : decode cX12_positiveOf 94 = .ok (.iload 4, 2) := by decide +kernel
theorem dX12_positiveOf_96 : decode cX12_positiveOf 96 = .ok (.bipush 62, 2) := by decide +kernel
theorem dX12_positiveOf_98 : decode cX12_positiveOf 98 = .ok (.invokestatic 240, 3) := by decide +kernel
theorem dX12_positiveOf_101 : decode cX12_positiveOf 101 = .ok (.if_icmp .ne 13, 3) := by decide +kernel
theorem dX12_positiveOf_104 : decode cX12_positiveOf 104 = .ok (.lload_n 2, 1) := by decide +kernel
theorem dX12_positiveOf_105 : decode cX12_positiveOf 105 = .ok (.lload 5, 2) := by decide +kernel
theorem dX12_positiveOf_107 : decode cX12_positiveOf 107 = .ok (.lcmp, 1) := by decide +kernel
theorem dX12_positiveOf_108 : decode cX12_positiveOf 108 = .ok (.ifCond .le 17, 3) := by decide +kernel
theorem dX12_positiveOf_111 : decode cX12_positiveOf 111 = .ok (.goto 10, 3) := by decide +kernel
theorem dX12_positiveOf_114 : decode cX12_positiveOf 114 = .ok (.lload_n 2, 1) := by decide +kernel
theorem dX12_positiveOf_115 : decode cX12_positiveOf 115 = .ok (.lload 5, 2) := by decide +kernel
theorem dX12_positiveOf_117 : decode cX12_positiveOf 117 = .ok (.lcmp, 1) := by decide +kernel
theorem dX12_positiveOf_118 : decode cX12_positiveOf 118 = .ok (.ifCond .ne 7, 3) := by decide +kernel
theorem dX12_positiveOf_121 : decode cX12_positiveOf 121 = .ok (.iconst 1, 1) := by decide +kernel
theorem dX12_positiveOf_122 : decode cX12_positiveOf 122 = .ok (.goto 4, 3) := by decide +kernel
theorem dX12_positiveOf_125 : decode cX12_positiveOf 125 = .ok (.iconst 0, 1) := by decide +kernel
theorem dX12_positiveOf_126 : decode cX12_positiveOf 126 = .ok (.ireturn, 1) := by decide +kernel
theorem dX12_setsAsked_0 : decode cX12_setsAsked 0 = .ok (.aload_n 0, 1) := by decide +kernel
theorem dX12_setsAsked_1 : decode cX12_setsAsked 1 = .ok (.getfield 63, 3) := by decide +kernel
theorem dX12_setsAsked_4 : decode cX12_setsAsked 4 = .ok (.iconst 0, 1) := by decide +kernel
theorem dX12_setsAsked_5 : decode cX12_setsAsked 5 = .ok (.iload_n 1, 1) := by decide +kernel
theorem dX12_setsAsked_6 : decode cX12_setsAsked 6 = .ok (.iastore, 1) := by decide +kernel
theorem dX12_setsAsked_7 : decode cX12_setsAsked 7 = .ok (.aload_n 0, 1) := by decide +kernel
theorem dX12_setsAsked_8 : decode cX12_setsAsked 8 = .ok (.getfield 63, 3) := by decide +kernel
theorem dX12_setsAsked_11 : decode cX12_setsAsked 11 = .ok (.iconst 1, 1) := by decide +kernel
theorem dX12_setsAsked_12 : decode cX12_setsAsked 12 = .ok (.aload_n 0, 1) := by decide +kernel
theorem dX12_setsAsked_13 : decode cX12_setsAsked 13 = .ok (.getfield 28, 3) := by decide +kernel
theorem dX12_setsAsked_16 : decode cX12_setsAsked 16 = .ok (.bipush 29, 2) := by decide +kernel
theorem dX12_setsAsked_18 : decode cX12_setsAsked 18 = .ok (.iload_n 1, 1) := by decide +kernel
theorem dX12_setsAsked_19 : decode cX12_setsAsked 19 = .ok (.iadd, 1) := by decide +kernel
theorem dX12_setsAsked_20 : decode cX12_setsAsked 20 = .ok (.iaload, 1) := by decide +kernel
theorem dX12_setsAsked_21 : decode cX12_setsAsked 21 = .ok (.iastore, 1) := by decide +kernel
theorem dX12_setsAsked_22 : decode cX12_setsAsked 22 = .ok (.aload_n 0, 1) := by decide +kernel
theorem dX12_setsAsked_23 : decode cX12_setsAsked 23 = .ok (.getfield 63, 3) := by decide +kernel
theorem dX12_setsAsked_26 : decode cX12_setsAsked 26 = .ok (.iconst 2, 1) := by decide +kernel
theorem dX12_setsAsked_27 : decode cX12_setsAsked 27 = .ok (.aload_n 0, 1) := by decide +kernel
theorem dX12_setsAsked_28 : decode cX12_setsAsked 28 = .ok (.getfield 28, 3) := by decide +kernel
theorem dX12_setsAsked_31 : decode cX12_setsAsked 31 = .ok (.bipush 38, 2) := by decide +kernel
theorem dX12_setsAsked_33 : decode cX12_setsAsked 33 = .ok (.iload_n 1, 1) := by decide +kernel
theorem dX12_setsAsked_34 : decode cX12_setsAsked 34 = .ok (.iadd, 1) := by decide +kernel
theorem dX12_setsAsked_35 : decode cX12_setsAsked 35 = .ok (.iaload, 1) := by decide +kernel
theorem dX12_setsAsked_36 : decode cX12_setsAsked 36 = .ok (.iastore, 1) := by decide +kernel
theorem dX12_setsAsked_37 : decode cX12_setsAsked 37 = .ok (.aload_n 0, 1) := by decide +kernel
theorem dX12_setsAsked_38 : decode cX12_setsAsked 38 = .ok (.getfield 63, 3) := by decide +kernel
theorem dX12_setsAsked_41 : decode cX12_setsAsked 41 = .ok (.iconst 3, 1) := by decide +kernel
theorem dX12_setsAsked_42 : decode cX12_setsAsked 42 = .ok (.iload_n 2, 1) := by decide +kernel
theorem dX12_setsAsked_43 : decode cX12_setsAsked 43 = .ok (.iastore, 1) := by decide +kernel
theorem dX12_setsAsked_44 : decode cX12_setsAsked 44 = .ok (.aload_n 0, 1) := by decide +kernel
theorem dX12_setsAsked_45 : decode cX12_setsAsked 45 = .ok (.getfield 63, 3) := by decide +kernel
theorem dX12_setsAsked_48 : decode cX12_setsAsked 48 = .ok (.iconst 4, 1) := by decide +kernel
theorem dX12_setsAsked_49 : decode cX12_setsAsked 49 = .ok (.iload_n 3, 1) := by decide +kernel
theorem dX12_setsAsked_50 : decode cX12_setsAsked 50 = .ok (.iastore, 1) := by decide +kernel
theorem dX12_setsAsked_51 : decode cX12_setsAsked 51 = .ok (.aload_n 0, 1) := by decide +kernel
theorem dX12_setsAsked_52 : decode cX12_setsAsked 52 = .ok (.getfield 63, 3) := by decide +kernel
theorem dX12_setsAsked_55 : decode cX12_setsAsked 55 = .ok (.iconst 5, 1) := by decide +kernel
theorem dX12_setsAsked_56 : decode cX12_setsAsked 56 = .ok (.aload_n 0, 1) := by decide +kernel
theorem dX12_setsAsked_57 : decode cX12_setsAsked 57 = .ok (.getfield 28, 3) := by decide +kernel
theorem dX12_setsAsked_60 : decode cX12_setsAsked 60 = .ok (.bipush 66, 2) := by decide +kernel
theorem dX12_setsAsked_62 : decode cX12_setsAsked 62 = .ok (.iaload, 1) := by decide +kernel
theorem dX12_setsAsked_63 : decode cX12_setsAsked 63 = .ok (.iastore, 1) := by decide +kernel
theorem dX12_setsAsked_64 : decode cX12_setsAsked 64 = .ok (.aload_n 0, 1) := by decide +kernel
theorem dX12_setsAsked_65 : decode cX12_setsAsked 65 = .ok (.getfield 63, 3) := by decide +kernel
theorem dX12_setsAsked_68 : decode cX12_setsAsked 68 = .ok (.bipush 6, 2) := by decide +kernel
theorem dX12_setsAsked_70 : decode cX12_setsAsked 70 = .ok (.aload_n 0, 1) := by decide +kernel
theorem dX12_setsAsked_71 : decode cX12_setsAsked 71 = .ok (.getfield 28, 3) := by decide +kernel
theorem dX12_setsAsked_74 : decode cX12_setsAsked 74 = .ok (.iconst 0, 1) := by decide +kernel
theorem dX12_setsAsked_75 : decode cX12_setsAsked 75 = .ok (.iload_n 1, 1) := by decide +kernel
theorem dX12_setsAsked_76 : decode cX12_setsAsked 76 = .ok (.iadd, 1) := by decide +kernel
theorem dX12_setsAsked_77 : decode cX12_setsAsked 77 = .ok (.iaload, 1) := by decide +kernel
theorem dX12_setsAsked_78 : decode cX12_setsAsked 78 = .ok (.iastore, 1) := by decide +kernel
theorem dX12_setsAsked_79 : decode cX12_setsAsked 79 = .ok (.aload_n 0, 1) := by decide +kernel
theorem dX12_setsAsked_80 : decode cX12_setsAsked 80 = .ok (.getfield 63, 3) := by decide +kernel
theorem dX12_setsAsked_83 : decode cX12_setsAsked 83 = .ok (.bipush 7, 2) := by decide +kernel
theorem dX12_setsAsked_85 : decode cX12_setsAsked 85 = .ok (.aload_n 0, 1) := by decide +kernel
theorem dX12_setsAsked_86 : decode cX12_setsAsked 86 = .ok (.getfield 28, 3) := by decide +kernel
theorem dX12_setsAsked_89 : decode cX12_setsAsked 89 = .ok (.bipush 28, 2) := by decide +kernel
theorem dX12_setsAsked_91 : decode cX12_setsAsked 91 = .ok (.iaload, 1) := by decide +kernel
theorem dX12_setsAsked_92 : decode cX12_setsAsked 92 = .ok (.iastore, 1) := by decide +kernel
theorem dX12_setsAsked_93 : decode cX12_setsAsked 93 = .ok (.return_, 1) := by decide +kernel
theorem dX12_tells_0 : decode cX12_tells 0 = .ok (.aload_n 0, 1) := by decide +kernel
theorem dX12_tells_1 : decode cX12_tells 1 = .ok (.getfield 28, 3) := by decide +kernel
theorem dX12_tells_4 : decode cX12_tells 4 = .ok (.bipush 72, 2) := by decide +kernel
theorem dX12_tells_6 : decode cX12_tells 6 = .ok (.iaload, 1) := by decide +kernel
theorem dX12_tells_7 : decode cX12_tells 7 = .ok (.iconst (-1), 1) := by decide +kernel
theorem dX12_tells_8 : decode cX12_tells 8 = .ok (.if_icmp .ne 6, 3) := by decide +kernel
theorem dX12_tells_11 : decode cX12_tells 11 = .ok (.iload 6, 2) := by decide +kernel
theorem dX12_tells_13 : decode cX12_tells 13 = .ok (.ireturn, 1) := by decide +kernel
theorem dX12_tells_14 : decode cX12_tells 14 = .ok (.aload_n 0, 1) := by decide +kernel
theorem dX12_tells_15 : decode cX12_tells 15 = .ok (.iload_n 2, 1) := by decide +kernel
theorem dX12_tells_16 : decode cX12_tells 16 = .ok (.iload_n 3, 1) := by decide +kernel
theorem dX12_tells_17 : decode cX12_tells 17 = .ok (.iload 4, 2) := by decide +kernel
theorem dX12_tells_19 : decode cX12_tells 19 = .ok (.invokevirtual 338, 3) := by decide +kernel
theorem dX12_tells_22 : decode cX12_tells 22 = .ok (.aload_n 0, 1) := by decide +kernel
theorem dX12_tells_23 : decode cX12_tells 23 = .ok (.iconst 0, 1) := by decide +kernel
theorem dX12_tells_24 : decode cX12_tells 24 = .ok (.putfield 311, 3) := by decide +kernel
theorem dX12_tells_27 : decode cX12_tells 27 = .ok (.iload 6, 2) := by decide +kernel
theorem dX12_tells_29 : decode cX12_tells 29 = .ok (.i2l, 1) := by decide +kernel
theorem dX12_tells_30 : decode cX12_tells 30 = .ok (.lstore 7, 2) := by decide +kernel
theorem dX12_tells_32 : decode cX12_tells 32 = .ok (.aload_n 0, 1) := by decide +kernel
theorem dX12_tells_33 : decode cX12_tells 33 = .ok (.sipush 400, 3) := by decide +kernel
theorem dX12_tells_36 : decode cX12_tells 36 = .ok (.aload_n 0, 1) := by decide +kernel
theorem dX12_tells_37 : decode cX12_tells 37 = .ok (.getfield 28, 3) := by decide +kernel
theorem dX12_tells_40 : decode cX12_tells 40 = .ok (.bipush 72, 2) := by decide +kernel
theorem dX12_tells_42 : decode cX12_tells 42 = .ok (.iaload, 1) := by decide +kernel
theorem dX12_tells_43 : decode cX12_tells 43 = .ok (.imul, 1) := by decide +kernel
theorem dX12_tells_44 : decode cX12_tells 44 = .ok (.putfield 281, 3) := by decide +kernel
theorem dX12_tells_47 : decode cX12_tells 47 = .ok (.aload_n 0, 1) := by decide +kernel
theorem dX12_tells_48 : decode cX12_tells 48 = .ok (.aload_n 0, 1) := by decide +kernel
theorem dX12_tells_49 : decode cX12_tells 49 = .ok (.getfield 281, 3) := by decide +kernel
theorem dX12_tells_52 : decode cX12_tells 52 = .ok (.aload_n 0, 1) := by decide +kernel
theorem dX12_tells_53 : decode cX12_tells 53 = .ok (.getfield 28, 3) := by decide +kernel
theorem dX12_tells_56 : decode cX12_tells 56 = .ok (.bipush 73, 2) := by decide +kernel
theorem dX12_tells_58 : decode cX12_tells 58 = .ok (.aload_n 0, 1) := by decide +kernel
theorem dX12_tells_59 : decode cX12_tells 59 = .ok (.getfield 28, 3) := by decide +kernel
theorem dX12_tells_62 : decode cX12_tells 62 = .ok (.bipush 72, 2) := by decide +kernel
theorem dX12_tells_64 : decode cX12_tells 64 = .ok (.iaload, 1) := by decide +kernel
theorem dX12_tells_65 : decode cX12_tells 65 = .ok (.iadd, 1) := by decide +kernel
theorem dX12_tells_66 : decode cX12_tells 66 = .ok (.iaload, 1) := by decide +kernel
theorem dX12_tells_67 : decode cX12_tells 67 = .ok (.iadd, 1) := by decide +kernel
theorem dX12_tells_68 : decode cX12_tells 68 = .ok (.putfield 278, 3) := by decide +kernel
theorem dX12_tells_71 : decode cX12_tells 71 = .ok (.aload_n 0, 1) := by decide +kernel
theorem dX12_tells_72 : decode cX12_tells 72 = .ok (.getfield 281, 3) := by decide +kernel
theorem dX12_tells_75 : decode cX12_tells 75 = .ok (.aload_n 0, 1) := by decide +kernel
theorem dX12_tells_76 : decode cX12_tells 76 = .ok (.getfield 278, 3) := by decide +kernel
theorem dX12_tells_79 : decode cX12_tells 79 = .ok (.if_icmp .ge 145, 3) := by decide +kernel
theorem dX12_tells_82 : decode cX12_tells 82 = .ok (.aload_n 0, 1) := by decide +kernel
theorem dX12_tells_83 : decode cX12_tells 83 = .ok (.aload_n 0, 1) := by decide +kernel
theorem dX12_tells_84 : decode cX12_tells 84 = .ok (.getfield 281, 3) := by decide +kernel
theorem dX12_tells_87 : decode cX12_tells 87 = .ok (.invokevirtual 284, 3) := by decide +kernel
theorem dX12_tells_90 : decode cX12_tells 90 = .ok (.istore 9, 2) := by decide +kernel
theorem dX12_tells_92 : decode cX12_tells 92 = .ok (.aload_n 0, 1) := by decide +kernel
theorem dX12_tells_93 : decode cX12_tells 93 = .ok (.iconst 0, 1) := by decide +kernel
theorem dX12_tells_94 : decode cX12_tells 94 = .ok (.putfield 291, 3) := by decide +kernel
theorem dX12_tells_97 : decode cX12_tells 97 = .ok (.aload_n 0, 1) := by decide +kernel
theorem dX12_tells_98 : decode cX12_tells 98 = .ok (.dup, 1) := by decide +kernel
theorem dX12_tells_99 : decode cX12_tells 99 = .ok (.getfield 281, 3) := by decide +kernel
theorem dX12_tells_102 : decode cX12_tells 102 = .ok (.iconst 1, 1) := by decide +kernel
theorem dX12_tells_103 : decode cX12_tells 103 = .ok (.iadd, 1) := by decide +kernel
theorem dX12_tells_104 : decode cX12_tells 104 = .ok (.putfield 281, 3) := by decide +kernel
theorem dX12_tells_107 : decode cX12_tells 107 = .ok (.iload 9, 2) := by decide +kernel
theorem dX12_tells_109 : decode cX12_tells 109 = .ok (.iconst 3, 1) := by decide +kernel
theorem dX12_tells_110 : decode cX12_tells 110 = .ok (.if_icmp .ne 7, 3) := by decide +kernel
theorem dX12_tells_113 : decode cX12_tells 113 = .ok (.lconst 1, 1) := by decide +kernel
theorem dX12_tells_114 : decode cX12_tells 114 = .ok (.goto 8, 3) := by decide +kernel
theorem dX12_tells_117 : decode cX12_tells 117 = .ok (.aload_n 0, 1) := by decide +kernel
theorem dX12_tells_118 : decode cX12_tells 118 = .ok (.iconst 1, 1) := by decide +kernel
theorem dX12_tells_119 : decode cX12_tells 119 = .ok (.invokevirtual 308, 3) := by decide +kernel
theorem dX12_tells_122 : decode cX12_tells 122 = .ok (.lstore 10, 2) := by decide +kernel
theorem dX12_tells_124 : decode cX12_tells 124 = .ok (.aload_n 0, 1) := by decide +kernel
theorem dX12_tells_125 : decode cX12_tells 125 = .ok (.getfield 291, 3) := by decide +kernel
theorem dX12_tells_128 : decode cX12_tells 128 = .ok (.istore 12, 2) := by decide +kernel
theorem dX12_tells_130 : decode cX12_tells 130 = .ok (.aload_n 0, 1) := by decide +kernel
theorem dX12_tells_131 : decode cX12_tells 131 = .ok (.iconst 0, 1) := by decide +kernel
theorem dX12_tells_132 : decode cX12_tells 132 = .ok (.putfield 291, 3) := by decide +kernel
theorem dX12_tells_135 : decode cX12_tells 135 = .ok (.aload_n 0, 1) := by decide +kernel
theorem dX12_tells_136 : decode cX12_tells 136 = .ok (.iconst 4, 1) := by decide +kernel
theorem dX12_tells_137 : decode cX12_tells 137 = .ok (.invokevirtual 305, 3) := by decide +kernel
theorem dX12_tells_140 : decode cX12_tells 140 = .ok (.ifCond .eq 11, 3) := by decide +kernel
theorem dX12_tells_143 : decode cX12_tells 143 = .ok (.aload_n 0, 1) := by decide +kernel
theorem dX12_tells_144 : decode cX12_tells 144 = .ok (.iconst 1, 1) := by decide +kernel
theorem dX12_tells_145 : decode cX12_tells 145 = .ok (.invokevirtual 335, 3) := by decide +kernel
theorem dX12_tells_148 : decode cX12_tells 148 = .ok (.ifCond .eq 7, 3) := by decide +kernel
theorem dX12_tells_151 : decode cX12_tells 151 = .ok (.iconst 1, 1) := by decide +kernel
theorem dX12_tells_152 : decode cX12_tells 152 = .ok (.goto 4, 3) := by decide +kernel
theorem dX12_tells_155 : decode cX12_tells 155 = .ok (.iconst 0, 1) := by decide +kernel
theorem dX12_tells_156 : decode cX12_tells 156 = .ok (.istore 13, 2) := by decide +kernel
theorem dX12_tells_158 : decode cX12_tells 158 = .ok (.iload 9, 2) := by decide +kernel
theorem dX12_tells_160 : decode cX12_tells 160 = .ok (.iload_n 1, 1) := by decide +kernel
theorem dX12_tells_161 : decode cX12_tells 161 = .ok (.if_icmp .ne 50, 3) := by decide +kernel
theorem dX12_tells_164 : decode cX12_tells 164 = .ok (.iload 13, 2) := by decide +kernel
theorem dX12_tells_166 : decode cX12_tells 166 = .ok (.ifCond .eq 45, 3) := by decide +kernel
theorem dX12_tells_169 : decode cX12_tells 169 = .ok (.aload_n 0, 1) := by decide +kernel
theorem dX12_tells_170 : decode cX12_tells 170 = .ok (.getfield 291, 3) := by decide +kernel
theorem dX12_tells_173 : decode cX12_tells 173 = .ok (.ifCond .ne 38, 3) := by decide +kernel
theorem dX12_tells_176 : decode cX12_tells 176 = .ok (.iload 12, 2) := by decide +kernel
theorem dX12_tells_178 : decode cX12_tells 178 = .ok (.ifCond .ne 33, 3) := by decide +kernel
theorem dX12_tells_181 : decode cX12_tells 181 = .ok (.lload 10, 2) := by decide +kernel
theorem dX12_tells_183 : decode cX12_tells 183 = .ok (.lconst 0, 1) := by decide +kernel
theorem dX12_tells_184 : decode cX12_tells 184 = .ok (.lcmp, 1) := by decide +kernel
theorem dX12_tells_185 : decode cX12_tells 185 = .ok (.ifCond .ge 7, 3) := by decide +kernel
theorem dX12_tells_188 : decode cX12_tells 188 = .ok (.lconst 0, 1) := by decide +kernel
theorem dX12_tells_189 : decode cX12_tells 189 = .ok (.goto 20, 3) := by decide +kernel
theorem dX12_tells_192 : decode cX12_tells 192 = .ok (.lload 10, 2) := by decide +kernel
theorem dX12_tells_194 : decode cX12_tells 194 = .ok (.iload 5, 2) := by decide +kernel
theorem dX12_tells_196 : decode cX12_tells 196 = .ok (.i2l, 1) := by decide +kernel
theorem dX12_tells_197 : decode cX12_tells 197 = .ok (.lcmp, 1) := by decide +kernel
theorem dX12_tells_198 : decode cX12_tells 198 = .ok (.ifCond .le 9, 3) := by decide +kernel
theorem dX12_tells_201 : decode cX12_tells 201 = .ok (.iload 5, 2) := by decide +kernel
theorem dX12_tells_203 : decode cX12_tells 203 = .ok (.i2l, 1) := by decide +kernel
theorem dX12_tells_204 : decode cX12_tells 204 = .ok (.goto 5, 3) := by decide +kernel
theorem dX12_tells_207 : decode cX12_tells 207 = .ok (.lload 10, 2) := by decide +kernel
theorem dX12_tells_209 : decode cX12_tells 209 = .ok (.lstore 7, 2) := by decide +kernel
theorem dX12_tells_211 : decode cX12_tells 211 = .ok (.aload_n 0, 1) := by decide +kernel
theorem dX12_tells_212 : decode cX12_tells 212 = .ok (.dup, 1) := by decide +kernel
theorem dX12_tells_213 : decode cX12_tells 213 = .ok (.getfield 281, 3) := by decide +kernel
theorem dX12_tells_216 : decode cX12_tells 216 = .ok (.iconst 1, 1) := by decide +kernel
theorem dX12_tells_217 : decode cX12_tells 217 = .ok (.iadd, 1) := by decide +kernel
theorem dX12_tells_218 : decode cX12_tells 218 = .ok (.putfield 281, 3) := by decide +kernel
theorem dX12_tells_221 : decode cX12_tells 221 = .ok (.goto (-150), 3) := by decide +kernel
theorem dX12_tells_224 : decode cX12_tells 224 = .ok (.lload 7, 2) := by decide +kernel
theorem dX12_tells_226 : decode cX12_tells 226 = .ok (.l2i, 1) := by decide +kernel
theorem dX12_tells_227 : decode cX12_tells 227 = .ok (.ireturn, 1) := by decide +kernel
theorem dX12_costsAt_0 : decode cX12_costsAt 0 = .ok (.aload_n 0, 1) := by decide +kernel
theorem dX12_costsAt_1 : decode cX12_costsAt 1 = .ok (.iconst 1, 1) := by decide +kernel
theorem dX12_costsAt_2 : decode cX12_costsAt 2 = .ok (.iload_n 1, 1) := by decide +kernel
theorem dX12_costsAt_3 : decode cX12_costsAt 3 = .ok (.iload_n 2, 1) := by decide +kernel
theorem dX12_costsAt_4 : decode cX12_costsAt 4 = .ok (.iload_n 3, 1) := by decide +kernel
theorem dX12_costsAt_5 : decode cX12_costsAt 5 = .ok (.bipush 99, 2) := by decide +kernel
theorem dX12_costsAt_7 : decode cX12_costsAt 7 = .ok (.aload_n 0, 1) := by decide +kernel
theorem dX12_costsAt_8 : decode cX12_costsAt 8 = .ok (.getfield 28, 3) := by decide +kernel
theorem dX12_costsAt_11 : decode cX12_costsAt 11 = .ok (.bipush 29, 2) := by decide +kernel
theorem dX12_costsAt_13 : decode cX12_costsAt 13 = .ok (.iload_n 1, 1) := by decide +kernel
theorem dX12_costsAt_14 : decode cX12_costsAt 14 = .ok (.iadd, 1) := by decide +kernel
theorem dX12_costsAt_15 : decode cX12_costsAt 15 = .ok (.iaload, 1) := by decide +kernel
theorem dX12_costsAt_16 : decode cX12_costsAt 16 = .ok (.invokevirtual 341, 3) := by decide +kernel
theorem dX12_costsAt_19 : decode cX12_costsAt 19 = .ok (.ireturn, 1) := by decide +kernel
theorem dX12_isBarred_0 : decode cX12_isBarred 0 = .ok (.aload_n 0, 1) := by decide +kernel
theorem dX12_isBarred_1 : decode cX12_isBarred 1 = .ok (.iconst 3, 1) := by decide +kernel
theorem dX12_isBarred_2 : decode cX12_isBarred 2 = .ok (.iload_n 1, 1) := by decide +kernel
theorem dX12_isBarred_3 : decode cX12_isBarred 3 = .ok (.iload_n 2, 1) := by decide +kernel
theorem dX12_isBarred_4 : decode cX12_isBarred 4 = .ok (.iload_n 3, 1) := by decide +kernel
theorem dX12_isBarred_5 : decode cX12_isBarred 5 = .ok (.iconst 1, 1) := by decide +kernel
theorem dX12_isBarred_6 : decode cX12_isBarred 6 = .ok (.iconst 0, 1) := by decide +kernel
theorem dX12_isBarred_7 : decode cX12_isBarred 7 = .ok (.invokevirtual 341, 3) := by decide +kernel
theorem dX12_isBarred_10 : decode cX12_isBarred 10 = .ok (.iconst 1, 1) := by decide +kernel
theorem dX12_isBarred_11 : decode cX12_isBarred 11 = .ok (.if_icmp .ne 7, 3) := by decide +kernel
theorem dX12_isBarred_14 : decode cX12_isBarred 14 = .ok (.iconst 1, 1) := by decide +kernel
theorem dX12_isBarred_15 : decode cX12_isBarred 15 = .ok (.goto 4, 3) := by decide +kernel
theorem dX12_isBarred_18 : decode cX12_isBarred 18 = .ok (.iconst 0, 1) := by decide +kernel
theorem dX12_isBarred_19 : decode cX12_isBarred 19 = .ok (.ireturn, 1) := by decide +kernel
theorem dX12_wearsNow_0 : decode cX12_wearsNow 0 = .ok (.aload_n 0, 1) := by decide +kernel
theorem dX12_wearsNow_1 : decode cX12_wearsNow 1 = .ok (.iconst 2, 1) := by decide +kernel
theorem dX12_wearsNow_2 : decode cX12_wearsNow 2 = .ok (.iload_n 1, 1) := by decide +kernel
theorem dX12_wearsNow_3 : decode cX12_wearsNow 3 = .ok (.aload_n 0, 1) := by decide +kernel
theorem dX12_wearsNow_4 : decode cX12_wearsNow 4 = .ok (.getfield 28, 3) := by decide +kernel
theorem dX12_wearsNow_7 : decode cX12_wearsNow 7 = .ok (.bipush 9, 2) := by decide +kernel
theorem dX12_wearsNow_9 : decode cX12_wearsNow 9 = .ok (.iload_n 1, 1) := by decide +kernel
theorem dX12_wearsNow_10 : decode cX12_wearsNow 10 = .ok (.iadd, 1) := by decide +kernel
theorem dX12_wearsNow_11 : decode cX12_wearsNow 11 = .ok (.iaload, 1) := by decide +kernel
theorem dX12_wearsNow_12 : decode cX12_wearsNow 12 = .ok (.aload_n 0, 1) := by decide +kernel
theorem dX12_wearsNow_13 : decode cX12_wearsNow 13 = .ok (.getfield 28, 3) := by decide +kernel
theorem dX12_wearsNow_16 : decode cX12_wearsNow 16 = .ok (.bipush 18, 2) := by decide +kernel
theorem dX12_wearsNow_18 : decode cX12_wearsNow 18 = .ok (.iload_n 1, 1) := by decide +kernel
theorem dX12_wearsNow_19 : decode cX12_wearsNow 19 = .ok (.iadd, 1) := by decide +kernel
theorem dX12_wearsNow_20 : decode cX12_wearsNow 20 = .ok (.iaload, 1) := by decide +kernel
theorem dX12_wearsNow_21 : decode cX12_wearsNow 21 = .ok (.bipush 9, 2) := by decide +kernel
theorem dX12_wearsNow_23 : decode cX12_wearsNow 23 = .ok (.iconst 1, 1) := by decide +kernel
theorem dX12_wearsNow_24 : decode cX12_wearsNow 24 = .ok (.invokevirtual 341, 3) := by decide +kernel
theorem dX12_wearsNow_27 : decode cX12_wearsNow 27 = .ok (.ireturn, 1) := by decide +kernel
theorem dX12_turnsSquare_0 : decode cX12_turnsSquare 0 = .ok (.iload_n 3, 1) := by decide +kernel
theorem dX12_turnsSquare_1 : decode cX12_turnsSquare 1 = .ok (.istore 4, 2) := by decide +kernel
theorem dX12_turnsSquare_3 : decode cX12_turnsSquare 3 = .ok (.iload 4, 2) := by decide +kernel
theorem dX12_turnsSquare_5 : decode cX12_turnsSquare 5 = .ok (.iload_n 3, 1) := by decide +kernel
theorem dX12_turnsSquare_6 : decode cX12_turnsSquare 6 = .ok (.iload_n 1, 1) := by decide +kernel
theorem dX12_turnsSquare_7 : decode cX12_turnsSquare 7 = .ok (.iadd, 1) := by decide +kernel
theorem dX12_turnsSquare_8 : decode cX12_turnsSquare 8 = .ok (.if_icmp .ge 26, 3) := by decide +kernel
theorem dX12_turnsSquare_11 : decode cX12_turnsSquare 11 = .ok (.aload_n 0, 1) := by decide +kernel
theorem dX12_turnsSquare_12 : decode cX12_turnsSquare 12 = .ok (.getfield 66, 3) := by decide +kernel
theorem dX12_turnsSquare_15 : decode cX12_turnsSquare 15 = .ok (.iload 4, 2) := by decide +kernel
theorem dX12_turnsSquare_17 : decode cX12_turnsSquare 17 = .ok (.dup2, 1) := by decide +kernel
theorem dX12_turnsSquare_18 : decode cX12_turnsSquare 18 = .ok (.iaload, 1) := by decide +kernel
theorem dX12_turnsSquare_19 : decode cX12_turnsSquare 19 = .ok (.iconst 1, 1) := by decide +kernel
theorem dX12_turnsSquare_20 : decode cX12_turnsSquare 20 = .ok (.iload_n 1, 1) := by decide +kernel
theorem dX12_turnsSquare_21 : decode cX12_turnsSquare 21 = .ok (.ishl, 1) := by decide +kernel
theorem dX12_turnsSquare_22 : decode cX12_turnsSquare 22 = .ok (.iconst 1, 1) := by decide +kernel
theorem dX12_turnsSquare_23 : decode cX12_turnsSquare 23 = .ok (.isub, 1) := by decide +kernel
theorem dX12_turnsSquare_24 : decode cX12_turnsSquare 24 = .ok (.iload_n 2, 1) := by decide +kernel
theorem dX12_turnsSquare_25 : decode cX12_turnsSquare 25 = .ok (.ishl, 1) := by decide +kernel
theorem dX12_turnsSquare_26 : decode cX12_turnsSquare 26 = .ok (.ixor, 1) := by decide +kernel
theorem dX12_turnsSquare_27 : decode cX12_turnsSquare 27 = .ok (.iastore, 1) := by decide +kernel
theorem dX12_turnsSquare_28 : decode cX12_turnsSquare 28 = .ok (.iinc 4 1, 3) := by decide +kernel
theorem dX12_turnsSquare_31 : decode cX12_turnsSquare 31 = .ok (.goto (-28), 3) := by decide +kernel
theorem dX12_turnsSquare_34 : decode cX12_turnsSquare 34 = .ok (.return_, 1) := by decide +kernel
theorem dX12_laysCovered_0 : decode cX12_laysCovered 0 = .ok (.iconst 0, 1) := by decide +kernel
theorem dX12_laysCovered_1 : decode cX12_laysCovered 1 = .ok (.istore_n 1, 1) := by decide +kernel
theorem dX12_laysCovered_2 : decode cX12_laysCovered 2 = .ok (.iload_n 1, 1) := by decide +kernel
theorem dX12_laysCovered_3 : decode cX12_laysCovered 3 = .ok (.bipush 12, 2) := by decide +kernel
theorem dX12_laysCovered_5 : decode cX12_laysCovered 5 = .ok (.if_icmp .ge 16, 3) := by decide +kernel
theorem dX12_laysCovered_8 : decode cX12_laysCovered 8 = .ok (.aload_n 0, 1) := by decide +kernel
theorem dX12_laysCovered_9 : decode cX12_laysCovered 9 = .ok (.getfield 66, 3) := by decide +kernel
theorem dX12_laysCovered_12 : decode cX12_laysCovered 12 = .ok (.iload_n 1, 1) := by decide +kernel
theorem dX12_laysCovered_13 : decode cX12_laysCovered 13 = .ok (.iconst 0, 1) := by decide +kernel
theorem dX12_laysCovered_14 : decode cX12_laysCovered 14 = .ok (.iastore, 1) := by decide +kernel
theorem dX12_laysCovered_15 : decode cX12_laysCovered 15 = .ok (.iinc 1 1, 3) := by decide +kernel
theorem dX12_laysCovered_18 : decode cX12_laysCovered 18 = .ok (.goto (-16), 3) := by decide +kernel
theorem dX12_laysCovered_21 : decode cX12_laysCovered 21 = .ok (.iconst 0, 1) := by decide +kernel
theorem dX12_laysCovered_22 : decode cX12_laysCovered 22 = .ok (.istore_n 1, 1) := by decide +kernel
theorem dX12_laysCovered_23 : decode cX12_laysCovered 23 = .ok (.iload_n 1, 1) := by decide +kernel
theorem dX12_laysCovered_24 : decode cX12_laysCovered 24 = .ok (.aload_n 0, 1) := by decide +kernel
theorem dX12_laysCovered_25 : decode cX12_laysCovered 25 = .ok (.invokevirtual 115, 3) := by decide +kernel
theorem dX12_laysCovered_28 : decode cX12_laysCovered 28 = .ok (.if_icmp .ge 48, 3) := by decide +kernel
theorem dX12_laysCovered_31 : decode cX12_laysCovered 31 = .ok (.aload_n 0, 1) := by decide +kernel
theorem dX12_laysCovered_32 : decode cX12_laysCovered 32 = .ok (.iload_n 1, 1) := by decide +kernel
theorem dX12_laysCovered_33 : decode cX12_laysCovered 33 = .ok (.invokevirtual 137, 3) := by decide +kernel
theorem dX12_laysCovered_36 : decode cX12_laysCovered 36 = .ok (.ifCond .eq 34, 3) := by decide +kernel
theorem dX12_laysCovered_39 : decode cX12_laysCovered 39 = .ok (.aload_n 0, 1) := by decide +kernel
theorem dX12_laysCovered_40 : decode cX12_laysCovered 40 = .ok (.aload_n 0, 1) := by decide +kernel
theorem dX12_laysCovered_41 : decode cX12_laysCovered 41 = .ok (.getfield 28, 3) := by decide +kernel
theorem dX12_laysCovered_44 : decode cX12_laysCovered 44 = .ok (.bipush 29, 2) := by decide +kernel
theorem dX12_laysCovered_46 : decode cX12_laysCovered 46 = .ok (.iload_n 1, 1) := by decide +kernel
theorem dX12_laysCovered_47 : decode cX12_laysCovered 47 = .ok (.iadd, 1) := by decide +kernel
theorem dX12_laysCovered_48 : decode cX12_laysCovered 48 = .ok (.iaload, 1) := by decide +kernel
theorem dX12_laysCovered_49 : decode cX12_laysCovered 49 = .ok (.aload_n 0, 1) := by decide +kernel
theorem dX12_laysCovered_50 : decode cX12_laysCovered 50 = .ok (.getfield 28, 3) := by decide +kernel
theorem dX12_laysCovered_53 : decode cX12_laysCovered 53 = .ok (.bipush 9, 2) := by decide +kernel
theorem dX12_laysCovered_55 : decode cX12_laysCovered 55 = .ok (.iload_n 1, 1) := by decide +kernel
theorem dX12_laysCovered_56 : decode cX12_laysCovered 56 = .ok (.iadd, 1) := by decide +kernel
theorem dX12_laysCovered_57 : decode cX12_laysCovered 57 = .ok (.iaload, 1) := by decide +kernel
theorem dX12_laysCovered_58 : decode cX12_laysCovered 58 = .ok (.aload_n 0, 1) := by decide +kernel
theorem dX12_laysCovered_59 : decode cX12_laysCovered 59 = .ok (.getfield 28, 3) := by decide +kernel
theorem dX12_laysCovered_62 : decode cX12_laysCovered 62 = .ok (.bipush 18, 2) := by decide +kernel
theorem dX12_laysCovered_64 : decode cX12_laysCovered 64 = .ok (.iload_n 1, 1) := by decide +kernel
theorem dX12_laysCovered_65 : decode cX12_laysCovered 65 = .ok (.iadd, 1) := by decide +kernel
theorem dX12_laysCovered_66 : decode cX12_laysCovered 66 = .ok (.iaload, 1) := by decide +kernel
theorem dX12_laysCovered_67 : decode cX12_laysCovered 67 = .ok (.invokevirtual 345, 3) := by decide +kernel
theorem dX12_laysCovered_70 : decode cX12_laysCovered 70 = .ok (.iinc 1 1, 3) := by decide +kernel
theorem dX12_laysCovered_73 : decode cX12_laysCovered 73 = .ok (.goto (-50), 3) := by decide +kernel
theorem dX12_laysCovered_76 : decode cX12_laysCovered 76 = .ok (.return_, 1) := by decide +kernel
theorem dX12_isFree_0 : decode cX12_isFree 0 = .ok (.iload_n 2, 1) := by decide +kernel
theorem dX12_isFree_1 : decode cX12_isFree 1 = .ok (.iload_n 1, 1) := by decide +kernel
theorem dX12_isFree_2 : decode cX12_isFree 2 = .ok (.iadd, 1) := by decide +kernel
theorem dX12_isFree_3 : decode cX12_isFree 3 = .ok (.iload 4, 2) := by decide +kernel
theorem dX12_isFree_5 : decode cX12_isFree 5 = .ok (.if_icmp .gt 15, 3) := by decide +kernel
theorem dX12_isFree_8 : decode cX12_isFree 8 = .ok (.iload_n 3, 1) := by decide +kernel
theorem dX12_isFree_9 : decode cX12_isFree 9 = .ok (.iload_n 1, 1) := by decide +kernel
theorem dX12_isFree_10 : decode cX12_isFree 10 = .ok (.iadd, 1) := by decide +kernel
theorem dX12_isFree_11 : decode cX12_isFree 11 = .ok (.iload 5, 2) := by decide +kernel
theorem dX12_isFree_13 : decode cX12_isFree 13 = .ok (.if_icmp .gt 7, 3) := by decide +kernel
theorem dX12_isFree_16 : decode cX12_isFree 16 = .ok (.iconst 1, 1) := by decide +kernel
theorem dX12_isFree_17 : decode cX12_isFree 17 = .ok (.goto 4, 3) := by decide +kernel
theorem dX12_isFree_20 : decode cX12_isFree 20 = .ok (.iconst 0, 1) := by decide +kernel
theorem dX12_isFree_21 : decode cX12_isFree 21 = .ok (.istore 6, 2) := by decide +kernel
theorem dX12_isFree_23 : decode cX12_isFree 23 = .ok (.iload_n 3, 1) := by decide +kernel
theorem dX12_isFree_24 : decode cX12_isFree 24 = .ok (.istore 7, 2) := by decide +kernel
theorem dX12_isFree_26 : decode cX12_isFree 26 = .ok (.iload 7, 2) := by decide +kernel
theorem dX12_isFree_28 : decode cX12_isFree 28 = .ok (.iload_n 3, 1) := by decide +kernel
theorem dX12_isFree_29 : decode cX12_isFree 29 = .ok (.iload_n 1, 1) := by decide +kernel
theorem dX12_isFree_30 : decode cX12_isFree 30 = .ok (.iadd, 1) := by decide +kernel
theorem dX12_isFree_31 : decode cX12_isFree 31 = .ok (.if_icmp .ge 39, 3) := by decide +kernel
theorem dX12_isFree_34 : decode cX12_isFree 34 = .ok (.iload 6, 2) := by decide +kernel
theorem dX12_isFree_36 : decode cX12_isFree 36 = .ok (.ifCond .eq 34, 3) := by decide +kernel
theorem dX12_isFree_39 : decode cX12_isFree 39 = .ok (.aload_n 0, 1) := by decide +kernel
theorem dX12_isFree_40 : decode cX12_isFree 40 = .ok (.getfield 66, 3) := by decide +kernel
theorem dX12_isFree_43 : decode cX12_isFree 43 = .ok (.iload 7, 2) := by decide +kernel
theorem dX12_isFree_45 : decode cX12_isFree 45 = .ok (.iaload, 1) := by decide +kernel
theorem dX12_isFree_46 : decode cX12_isFree 46 = .ok (.iconst 1, 1) := by decide +kernel
theorem dX12_isFree_47 : decode cX12_isFree 47 = .ok (.iload_n 1, 1) := by decide +kernel
theorem dX12_isFree_48 : decode cX12_isFree 48 = .ok (.ishl, 1) := by decide +kernel
theorem dX12_isFree_49 : decode cX12_isFree 49 = .ok (.iconst 1, 1) := by decide +kernel
theorem dX12_isFree_50 : decode cX12_isFree 50 = .ok (.isub, 1) := by decide +kernel
theorem dX12_isFree_51 : decode cX12_isFree 51 = .ok (.iload_n 2, 1) := by decide +kernel
theorem dX12_isFree_52 : decode cX12_isFree 52 = .ok (.ishl, 1) := by decide +kernel
theorem dX12_isFree_53 : decode cX12_isFree 53 = .ok (.iand, 1) := by decide +kernel
theorem dX12_isFree_54 : decode cX12_isFree 54 = .ok (.ifCond .ne 7, 3) := by decide +kernel
theorem dX12_isFree_57 : decode cX12_isFree 57 = .ok (.iconst 1, 1) := by decide +kernel
theorem dX12_isFree_58 : decode cX12_isFree 58 = .ok (.goto 4, 3) := by decide +kernel
theorem dX12_isFree_61 : decode cX12_isFree 61 = .ok (.iconst 0, 1) := by decide +kernel
theorem dX12_isFree_62 : decode cX12_isFree 62 = .ok (.istore 6, 2) := by decide +kernel
theorem dX12_isFree_64 : decode cX12_isFree 64 = .ok (.iinc 7 1, 3) := by decide +kernel
theorem dX12_isFree_67 : decode cX12_isFree 67 = .ok (.goto (-41), 3) := by decide +kernel
theorem dX12_isFree_70 : decode cX12_isFree 70 = .ok (.iload 6, 2) := by decide +kernel
theorem dX12_isFree_72 : decode cX12_isFree 72 = .ok (.ireturn, 1) := by decide +kernel
theorem dX12_firstBare_0 : decode cX12_firstBare 0 = .ok (.iconst 0, 1) := by decide +kernel
theorem dX12_firstBare_1 : decode cX12_firstBare 1 = .ok (.istore_n 3, 1) := by decide +kernel
theorem dX12_firstBare_2 : decode cX12_firstBare 2 = .ok (.iload_n 3, 1) := by decide +kernel
theorem dX12_firstBare_3 : decode cX12_firstBare 3 = .ok (.iload_n 2, 1) := by decide +kernel
theorem dX12_firstBare_4 : decode cX12_firstBare 4 = .ok (.if_icmp .ge 46, 3) := by decide +kernel
theorem dX12_firstBare_7 : decode cX12_firstBare 7 = .ok (.iconst 0, 1) := by decide +kernel
theorem dX12_firstBare_8 : decode cX12_firstBare 8 = .ok (.istore 4, 2) := by decide +kernel
theorem dX12_firstBare_10 : decode cX12_firstBare 10 = .ok (.iload 4, 2) := by decide +kernel
theorem dX12_firstBare_12 : decode cX12_firstBare 12 = .ok (.iload_n 1, 1) := by decide +kernel
theorem dX12_firstBare_13 : decode cX12_firstBare 13 = .ok (.if_icmp .ge 31, 3) := by decide +kernel
theorem dX12_firstBare_16 : decode cX12_firstBare 16 = .ok (.aload_n 0, 1) := by decide +kernel
theorem dX12_firstBare_17 : decode cX12_firstBare 17 = .ok (.getfield 66, 3) := by decide +kernel
theorem dX12_firstBare_20 : decode cX12_firstBare 20 = .ok (.iload_n 3, 1) := by decide +kernel
theorem dX12_firstBare_21 : decode cX12_firstBare 21 = .ok (.iaload, 1) := by decide +kernel
theorem dX12_firstBare_22 : decode cX12_firstBare 22 = .ok (.iload 4, 2) := by decide +kernel
theorem dX12_firstBare_24 : decode cX12_firstBare 24 = .ok (.invokestatic 348, 3) := by decide +kernel
theorem dX12_firstBare_27 : decode cX12_firstBare 27 = .ok (.ifCond .ne 11, 3) := by decide +kernel
theorem dX12_firstBare_30 : decode cX12_firstBare 30 = .ok (.bipush 12, 2) := by decide +kernel
theorem dX12_firstBare_32 : decode cX12_firstBare 32 = .ok (.iload_n 3, 1) := by decide +kernel
theorem dX12_firstBare_33 : decode cX12_firstBare 33 = .ok (.imul, 1) := by decide +kernel
theorem dX12_firstBare_34 : decode cX12_firstBare 34 = .ok (.iload 4, 2) := by decide +kernel
theorem dX12_firstBare_36 : decode cX12_firstBare 36 = .ok (.iadd, 1) := by decide +kernel
theorem dX12_firstBare_37 : decode cX12_firstBare 37 = .ok (.ireturn, 1) := by decide +kernel
theorem dX12_firstBare_38 : decode cX12_firstBare 38 = .ok (.iinc 4 1, 3) := by decide +kernel
theorem dX12_firstBare_41 : decode cX12_firstBare 41 = .ok (.goto (-31), 3) := by decide +kernel
theorem dX12_firstBare_44 : decode cX12_firstBare 44 = .ok (.iinc 3 1, 3) := by decide +kernel
theorem dX12_firstBare_47 : decode cX12_firstBare 47 = .ok (.goto (-45), 3) := by decide +kernel
theorem dX12_firstBare_50 : decode cX12_firstBare 50 = .ok (.iconst (-1), 1) := by decide +kernel
theorem dX12_firstBare_51 : decode cX12_firstBare 51 = .ok (.ireturn, 1) := by decide +kernel
theorem dX12_bareMany_0 : decode cX12_bareMany 0 = .ok (.aload_n 0, 1) := by decide +kernel
theorem dX12_bareMany_1 : decode cX12_bareMany 1 = .ok (.getfield 28, 3) := by decide +kernel
theorem dX12_bareMany_4 : decode cX12_bareMany 4 = .ok (.bipush 67, 2) := by decide +kernel
theorem dX12_bareMany_6 : decode cX12_bareMany 6 = .ok (.iaload, 1) := by decide +kernel
theorem dX12_bareMany_7 : decode cX12_bareMany 7 = .ok (.aload_n 0, 1) := by decide +kernel
theorem dX12_bareMany_8 : decode cX12_bareMany 8 = .ok (.getfield 28, 3) := by decide +kernel
theorem dX12_bareMany_11 : decode cX12_bareMany 11 = .ok (.bipush 68, 2) := by decide +kernel
theorem dX12_bareMany_13 : decode cX12_bareMany 13 = .ok (.iaload, 1) := by decide +kernel
theorem dX12_bareMany_14 : decode cX12_bareMany 14 = .ok (.imul, 1) := by decide +kernel
theorem dX12_bareMany_15 : decode cX12_bareMany 15 = .ok (.istore_n 1, 1) := by decide +kernel
theorem dX12_bareMany_16 : decode cX12_bareMany 16 = .ok (.iconst 0, 1) := by decide +kernel
theorem dX12_bareMany_17 : decode cX12_bareMany 17 = .ok (.istore_n 2, 1) := by decide +kernel
theorem dX12_bareMany_18 : decode cX12_bareMany 18 = .ok (.iload_n 2, 1) := by decide +kernel
theorem dX12_bareMany_19 : decode cX12_bareMany 19 = .ok (.aload_n 0, 1) := by decide +kernel
theorem dX12_bareMany_20 : decode cX12_bareMany 20 = .ok (.invokevirtual 115, 3) := by decide +kernel
theorem dX12_bareMany_23 : decode cX12_bareMany 23 = .ok (.if_icmp .ge 43, 3) := by decide +kernel
theorem dX12_bareMany_26 : decode cX12_bareMany 26 = .ok (.iload_n 1, 1) := by decide +kernel
theorem dX12_bareMany_27 : decode cX12_bareMany 27 = .ok (.aload_n 0, 1) := by decide +kernel
theorem dX12_bareMany_28 : decode cX12_bareMany 28 = .ok (.iload_n 2, 1) := by decide +kernel
theorem dX12_bareMany_29 : decode cX12_bareMany 29 = .ok (.invokevirtual 137, 3) := by decide +kernel
theorem dX12_bareMany_32 : decode cX12_bareMany 32 = .ok (.ifCond .eq 25, 3) := by decide +kernel
theorem dX12_bareMany_35 : decode cX12_bareMany 35 = .ok (.aload_n 0, 1) := by decide +kernel
theorem dX12_bareMany_36 : decode cX12_bareMany 36 = .ok (.getfield 28, 3) := by decide +kernel
theorem dX12_bareMany_39 : decode cX12_bareMany 39 = .ok (.bipush 29, 2) := by decide +kernel
theorem dX12_bareMany_41 : decode cX12_bareMany 41 = .ok (.iload_n 2, 1) := by decide +kernel
theorem dX12_bareMany_42 : decode cX12_bareMany 42 = .ok (.iadd, 1) := by decide +kernel
theorem dX12_bareMany_43 : decode cX12_bareMany 43 = .ok (.iaload, 1) := by decide +kernel
theorem dX12_bareMany_44 : decode cX12_bareMany 44 = .ok (.aload_n 0, 1) := by decide +kernel
theorem dX12_bareMany_45 : decode cX12_bareMany 45 = .ok (.getfield 28, 3) := by decide +kernel
theorem dX12_bareMany_48 : decode cX12_bareMany 48 = .ok (.bipush 29, 2) := by decide +kernel
theorem dX12_bareMany_50 : decode cX12_bareMany 50 = .ok (.iload_n 2, 1) := by decide +kernel
theorem dX12_bareMany_51 : decode cX12_bareMany 51 = .ok (.iadd, 1) := by decide +kernel
theorem dX12_bareMany_52 : decode cX12_bareMany 52 = .ok (.iaload, 1) := by decide +kernel
theorem dX12_bareMany_53 : decode cX12_bareMany 53 = .ok (.imul, 1) := by decide +kernel
theorem dX12_bareMany_54 : decode cX12_bareMany 54 = .ok (.goto 4, 3) := by decide +kernel
theorem dX12_bareMany_57 : decode cX12_bareMany 57 = .ok (.iconst 0, 1) := by decide +kernel
theorem dX12_bareMany_58 : decode cX12_bareMany 58 = .ok (.isub, 1) := by decide +kernel
theorem dX12_bareMany_59 : decode cX12_bareMany 59 = .ok (.istore_n 1, 1) := by decide +kernel
theorem dX12_bareMany_60 : decode cX12_bareMany 60 = .ok (.iinc 2 1, 3) := by decide +kernel
theorem dX12_bareMany_63 : decode cX12_bareMany 63 = .ok (.goto (-45), 3) := by decide +kernel
theorem dX12_bareMany_66 : decode cX12_bareMany 66 = .ok (.iload_n 1, 1) := by decide +kernel
theorem dX12_bareMany_67 : decode cX12_bareMany 67 = .ok (.ireturn, 1) := by decide +kernel
theorem dX12_bare_0 : decode cX12_bare 0 = .ok (.iload_n 1, 1) := by decide +kernel
theorem dX12_bare_1 : decode cX12_bare 1 = .ok (.iconst 0, 1) := by decide +kernel
theorem dX12_bare_2 : decode cX12_bare 2 = .ok (.iconst 2, 1) := by decide +kernel
theorem dX12_bare_3 : decode cX12_bare 3 = .ok (.invokestatic 18, 3) := by decide +kernel
theorem dX12_bare_6 : decode cX12_bare 6 = .ok (.ifCond .ne 5, 3) := by decide +kernel
theorem dX12_bare_9 : decode cX12_bare 9 = .ok (.iconst (-1), 1) := by decide +kernel
theorem dX12_bare_10 : decode cX12_bare 10 = .ok (.ireturn, 1) := by decide +kernel
theorem dX12_bare_11 : decode cX12_bare 11 = .ok (.iload_n 1, 1) := by decide +kernel
theorem dX12_bare_12 : decode cX12_bare 12 = .ok (.ifCond .ne 8, 3) := by decide +kernel
theorem dX12_bare_15 : decode cX12_bare 15 = .ok (.aload_n 0, 1) := by decide +kernel
theorem dX12_bare_16 : decode cX12_bare 16 = .ok (.invokevirtual 323, 3) := by decide +kernel
theorem dX12_bare_19 : decode cX12_bare 19 = .ok (.ireturn, 1) := by decide +kernel
theorem dX12_bare_20 : decode cX12_bare 20 = .ok (.aload_n 0, 1) := by decide +kernel
theorem dX12_bare_21 : decode cX12_bare 21 = .ok (.invokevirtual 351, 3) := by decide +kernel
theorem dX12_bare_24 : decode cX12_bare 24 = .ok (.aload_n 0, 1) := by decide +kernel
theorem dX12_bare_25 : decode cX12_bare 25 = .ok (.aload_n 0, 1) := by decide +kernel
theorem dX12_bare_26 : decode cX12_bare 26 = .ok (.getfield 28, 3) := by decide +kernel
theorem dX12_bare_29 : decode cX12_bare 29 = .ok (.bipush 67, 2) := by decide +kernel
theorem dX12_bare_31 : decode cX12_bare 31 = .ok (.iaload, 1) := by decide +kernel
theorem dX12_bare_32 : decode cX12_bare 32 = .ok (.aload_n 0, 1) := by decide +kernel
theorem dX12_bare_33 : decode cX12_bare 33 = .ok (.getfield 28, 3) := by decide +kernel
theorem dX12_bare_36 : decode cX12_bare 36 = .ok (.bipush 68, 2) := by decide +kernel
theorem dX12_bare_38 : decode cX12_bare 38 = .ok (.iaload, 1) := by decide +kernel
theorem dX12_bare_39 : decode cX12_bare 39 = .ok (.invokevirtual 354, 3) := by decide +kernel
theorem dX12_bare_42 : decode cX12_bare 42 = .ok (.istore_n 2, 1) := by decide +kernel
theorem dX12_bare_43 : decode cX12_bare 43 = .ok (.iload_n 2, 1) := by decide +kernel
theorem dX12_bare_44 : decode cX12_bare 44 = .ok (.iconst (-1), 1) := by decide +kernel
theorem dX12_bare_45 : decode cX12_bare 45 = .ok (.if_icmp .ne 7, 3) := by decide +kernel
theorem dX12_bare_48 : decode cX12_bare 48 = .ok (.iconst (-1), 1) := by decide +kernel
theorem dX12_bare_49 : decode cX12_bare 49 = .ok (.goto 19, 3) := by decide +kernel
theorem dX12_bare_52 : decode cX12_bare 52 = .ok (.iload_n 1, 1) := by decide +kernel
theorem dX12_bare_53 : decode cX12_bare 53 = .ok (.iconst 1, 1) := by decide +kernel
theorem dX12_bare_54 : decode cX12_bare 54 = .ok (.if_icmp .ne 10, 3) := by decide +kernel
theorem dX12_bare_57 : decode cX12_bare 57 = .ok (.iload_n 2, 1) := by decide +kernel
theorem dX12_bare_58 : decode cX12_bare 58 = .ok (.bipush 12, 2) := by decide +kernel
theorem dX12_bare_60 : decode cX12_bare 60 = .ok (.irem, 1) := by decide +kernel
theorem dX12_bare_61 : decode cX12_bare 61 = .ok (.goto 7, 3) := by decide +kernel
theorem dX12_bare_64 : decode cX12_bare 64 = .ok (.iload_n 2, 1) := by decide +kernel
theorem dX12_bare_65 : decode cX12_bare 65 = .ok (.bipush 12, 2) := by decide +kernel
theorem dX12_bare_67 : decode cX12_bare 67 = .ok (.idiv, 1) := by decide +kernel
theorem dX12_bare_68 : decode cX12_bare 68 = .ok (.ireturn, 1) := by decide +kernel
theorem dX12_canLay_0 : decode cX12_canLay 0 = .ok (.aload_n 0, 1) := by decide +kernel
theorem dX12_canLay_1 : decode cX12_canLay 1 = .ok (.iload_n 1, 1) := by decide +kernel
theorem dX12_canLay_2 : decode cX12_canLay 2 = .ok (.invokevirtual 137, 3) := by decide +kernel
theorem dX12_canLay_5 : decode cX12_canLay 5 = .ok (.ifCond .ne 11, 3) := by decide +kernel
theorem dX12_canLay_8 : decode cX12_canLay 8 = .ok (.aload_n 0, 1) := by decide +kernel
theorem dX12_canLay_9 : decode cX12_canLay 9 = .ok (.iload_n 1, 1) := by decide +kernel
theorem dX12_canLay_10 : decode cX12_canLay 10 = .ok (.invokevirtual 357, 3) := by decide +kernel
theorem dX12_canLay_13 : decode cX12_canLay 13 = .ok (.ifCond .ne 5, 3) := by decide +kernel
theorem dX12_canLay_16 : decode cX12_canLay 16 = .ok (.iconst 0, 1) := by decide +kernel
theorem dX12_canLay_17 : decode cX12_canLay 17 = .ok (.ireturn, 1) := by decide +kernel
theorem dX12_canLay_18 : decode cX12_canLay 18 = .ok (.aload_n 0, 1) := by decide +kernel
theorem dX12_canLay_19 : decode cX12_canLay 19 = .ok (.invokevirtual 351, 3) := by decide +kernel
theorem dX12_canLay_22 : decode cX12_canLay 22 = .ok (.aload_n 0, 1) := by decide +kernel
theorem dX12_canLay_23 : decode cX12_canLay 23 = .ok (.aload_n 0, 1) := by decide +kernel
theorem dX12_canLay_24 : decode cX12_canLay 24 = .ok (.getfield 28, 3) := by decide +kernel
theorem dX12_canLay_27 : decode cX12_canLay 27 = .ok (.bipush 29, 2) := by decide +kernel
theorem dX12_canLay_29 : decode cX12_canLay 29 = .ok (.iload_n 1, 1) := by decide +kernel
theorem dX12_canLay_30 : decode cX12_canLay 30 = .ok (.iadd, 1) := by decide +kernel
theorem dX12_canLay_31 : decode cX12_canLay 31 = .ok (.iaload, 1) := by decide +kernel
theorem dX12_canLay_32 : decode cX12_canLay 32 = .ok (.iload_n 2, 1) := by decide +kernel
theorem dX12_canLay_33 : decode cX12_canLay 33 = .ok (.iload_n 3, 1) := by decide +kernel
theorem dX12_canLay_34 : decode cX12_canLay 34 = .ok (.aload_n 0, 1) := by decide +kernel
theorem dX12_canLay_35 : decode cX12_canLay 35 = .ok (.getfield 28, 3) := by decide +kernel
theorem dX12_canLay_38 : decode cX12_canLay 38 = .ok (.bipush 67, 2) := by decide +kernel
theorem dX12_canLay_40 : decode cX12_canLay 40 = .ok (.iaload, 1) := by decide +kernel
theorem dX12_canLay_41 : decode cX12_canLay 41 = .ok (.aload_n 0, 1) := by decide +kernel
theorem dX12_canLay_42 : decode cX12_canLay 42 = .ok (.getfield 28, 3) := by decide +kernel
theorem dX12_canLay_45 : decode cX12_canLay 45 = .ok (.bipush 68, 2) := by decide +kernel
theorem dX12_canLay_47 : decode cX12_canLay 47 = .ok (.iaload, 1) := by decide +kernel
theorem dX12_canLay_48 : decode cX12_canLay 48 = .ok (.invokevirtual 360, 3) := by decide +kernel
theorem dX12_canLay_51 : decode cX12_canLay 51 = .ok (.ifCond .eq 17, 3) := by decide +kernel
theorem dX12_canLay_54 : decode cX12_canLay 54 = .ok (.aload_n 0, 1) := by decide +kernel
theorem dX12_canLay_55 : decode cX12_canLay 55 = .ok (.iload_n 1, 1) := by decide +kernel
theorem dX12_canLay_56 : decode cX12_canLay 56 = .ok (.iload_n 2, 1) := by decide +kernel
theorem dX12_canLay_57 : decode cX12_canLay 57 = .ok (.iload_n 3, 1) := by decide +kernel
theorem dX12_canLay_58 : decode cX12_canLay 58 = .ok (.invokevirtual 156, 3) := by decide +kernel
theorem dX12_canLay_61 : decode cX12_canLay 61 = .ok (.ifCond .ne 7, 3) := by decide +kernel
theorem dX12_canLay_64 : decode cX12_canLay 64 = .ok (.iconst 1, 1) := by decide +kernel
theorem dX12_canLay_65 : decode cX12_canLay 65 = .ok (.goto 4, 3) := by decide +kernel
theorem dX12_canLay_68 : decode cX12_canLay 68 = .ok (.iconst 0, 1) := by decide +kernel
theorem dX12_canLay_69 : decode cX12_canLay 69 = .ok (.ireturn, 1) := by decide +kernel
theorem dX12_laysAt_0 : decode cX12_laysAt 0 = .ok (.aload_n 0, 1) := by decide +kernel
theorem dX12_laysAt_1 : decode cX12_laysAt 1 = .ok (.iload_n 1, 1) := by decide +kernel
theorem dX12_laysAt_2 : decode cX12_laysAt 2 = .ok (.iload_n 2, 1) := by decide +kernel
theorem dX12_laysAt_3 : decode cX12_laysAt 3 = .ok (.iload_n 3, 1) := by decide +kernel
theorem dX12_laysAt_4 : decode cX12_laysAt 4 = .ok (.invokevirtual 152, 3) := by decide +kernel
theorem dX12_laysAt_7 : decode cX12_laysAt 7 = .ok (.istore 4, 2) := by decide +kernel
theorem dX12_laysAt_9 : decode cX12_laysAt 9 = .ok (.aload_n 0, 1) := by decide +kernel
theorem dX12_laysAt_10 : decode cX12_laysAt 10 = .ok (.getfield 28, 3) := by decide +kernel
theorem dX12_laysAt_13 : decode cX12_laysAt 13 = .ok (.bipush 9, 2) := by decide +kernel
theorem dX12_laysAt_15 : decode cX12_laysAt 15 = .ok (.iload_n 1, 1) := by decide +kernel
theorem dX12_laysAt_16 : decode cX12_laysAt 16 = .ok (.iadd, 1) := by decide +kernel
theorem dX12_laysAt_17 : decode cX12_laysAt 17 = .ok (.iload_n 2, 1) := by decide +kernel
theorem dX12_laysAt_18 : decode cX12_laysAt 18 = .ok (.iastore, 1) := by decide +kernel
theorem dX12_laysAt_19 : decode cX12_laysAt 19 = .ok (.aload_n 0, 1) := by decide +kernel
theorem dX12_laysAt_20 : decode cX12_laysAt 20 = .ok (.getfield 28, 3) := by decide +kernel
theorem dX12_laysAt_23 : decode cX12_laysAt 23 = .ok (.bipush 18, 2) := by decide +kernel
theorem dX12_laysAt_25 : decode cX12_laysAt 25 = .ok (.iload_n 1, 1) := by decide +kernel
theorem dX12_laysAt_26 : decode cX12_laysAt 26 = .ok (.iadd, 1) := by decide +kernel
theorem dX12_laysAt_27 : decode cX12_laysAt 27 = .ok (.iload_n 3, 1) := by decide +kernel
theorem dX12_laysAt_28 : decode cX12_laysAt 28 = .ok (.iastore, 1) := by decide +kernel
theorem dX12_laysAt_29 : decode cX12_laysAt 29 = .ok (.aload_n 0, 1) := by decide +kernel
theorem dX12_laysAt_30 : decode cX12_laysAt 30 = .ok (.getfield 28, 3) := by decide +kernel
theorem dX12_laysAt_33 : decode cX12_laysAt 33 = .ok (.bipush 27, 2) := by decide +kernel
theorem dX12_laysAt_35 : decode cX12_laysAt 35 = .ok (.sipush 9999, 3) := by decide +kernel
theorem dX12_laysAt_38 : decode cX12_laysAt 38 = .ok (.aload_n 0, 1) := by decide +kernel
theorem dX12_laysAt_39 : decode cX12_laysAt 39 = .ok (.getfield 28, 3) := by decide +kernel
theorem dX12_laysAt_42 : decode cX12_laysAt 42 = .ok (.bipush 27, 2) := by decide +kernel
theorem dX12_laysAt_44 : decode cX12_laysAt 44 = .ok (.iaload, 1) := by decide +kernel
theorem dX12_laysAt_45 : decode cX12_laysAt 45 = .ok (.iload 4, 2) := by decide +kernel
theorem dX12_laysAt_47 : decode cX12_laysAt 47 = .ok (.iadd, 1) := by decide +kernel
theorem dX12_laysAt_48 : decode cX12_laysAt 48 = .ok (.invokestatic 364, 3) := by decide +kernel
theorem dX12_laysAt_51 : decode cX12_laysAt 51 = .ok (.iastore, 1) := by decide +kernel
theorem dX12_laysAt_52 : decode cX12_laysAt 52 = .ok (.iload 4, 2) := by decide +kernel
theorem dX12_laysAt_54 : decode cX12_laysAt 54 = .ok (.ireturn, 1) := by decide +kernel
theorem dX12_yearPasses_0 : decode cX12_yearPasses 0 = .ok (.iconst 0, 1) := by decide +kernel
theorem dX12_yearPasses_1 : decode cX12_yearPasses 1 = .ok (.istore_n 1, 1) := by decide +kernel
theorem dX12_yearPasses_2 : decode cX12_yearPasses 2 = .ok (.iconst 0, 1) := by decide +kernel
theorem dX12_yearPasses_3 : decode cX12_yearPasses 3 = .ok (.istore_n 2, 1) := by decide +kernel
theorem dX12_yearPasses_4 : decode cX12_yearPasses 4 = .ok (.iload_n 2, 1) := by decide +kernel
theorem dX12_yearPasses_5 : decode cX12_yearPasses 5 = .ok (.aload_n 0, 1) := by decide +kernel
theorem dX12_yearPasses_6 : decode cX12_yearPasses 6 = .ok (.invokevirtual 115, 3) := by decide +kernel
theorem dX12_yearPasses_9 : decode cX12_yearPasses 9 = .ok (.if_icmp .ge 32, 3) := by decide +kernel
theorem dX12_yearPasses_12 : decode cX12_yearPasses 12 = .ok (.aload_n 0, 1) := by decide +kernel
theorem dX12_yearPasses_13 : decode cX12_yearPasses 13 = .ok (.getfield 69, 3) := by decide +kernel
theorem dX12_yearPasses_16 : decode cX12_yearPasses 16 = .ok (.iload_n 2, 1) := by decide +kernel
theorem dX12_yearPasses_17 : decode cX12_yearPasses 17 = .ok (.aload_n 0, 1) := by decide +kernel
theorem dX12_yearPasses_18 : decode cX12_yearPasses 18 = .ok (.iload_n 2, 1) := by decide +kernel
theorem dX12_yearPasses_19 : decode cX12_yearPasses 19 = .ok (.invokevirtual 137, 3) := by decide +kernel
theorem dX12_yearPasses_22 : decode cX12_yearPasses 22 = .ok (.ifCond .eq 11, 3) := by decide +kernel
theorem dX12_yearPasses_25 : decode cX12_yearPasses 25 = .ok (.aload_n 0, 1) := by decide +kernel
theorem dX12_yearPasses_26 : decode cX12_yearPasses 26 = .ok (.iload_n 2, 1) := by decide +kernel
theorem dX12_yearPasses_27 : decode cX12_yearPasses 27 = .ok (.invokevirtual 140, 3) := by decide +kernel
theorem dX12_yearPasses_30 : decode cX12_yearPasses 30 = .ok (.goto 4, 3) := by decide +kernel
theorem dX12_yearPasses_33 : decode cX12_yearPasses 33 = .ok (.iconst 0, 1) := by decide +kernel
theorem dX12_yearPasses_34 : decode cX12_yearPasses 34 = .ok (.iastore, 1) := by decide +kernel
theorem dX12_yearPasses_35 : decode cX12_yearPasses 35 = .ok (.iinc 2 1, 3) := by decide +kernel
theorem dX12_yearPasses_38 : decode cX12_yearPasses 38 = .ok (.goto (-34), 3) := by decide +kernel
theorem dX12_yearPasses_41 : decode cX12_yearPasses 41 = .ok (.iconst 0, 1) := by decide +kernel
theorem dX12_yearPasses_42 : decode cX12_yearPasses 42 = .ok (.istore_n 2, 1) := by decide +kernel
theorem dX12_yearPasses_43 : decode cX12_yearPasses 43 = .ok (.iload_n 2, 1) := by decide +kernel
theorem dX12_yearPasses_44 : decode cX12_yearPasses 44 = .ok (.aload_n 0, 1) := by decide +kernel
theorem dX12_yearPasses_45 : decode cX12_yearPasses 45 = .ok (.invokevirtual 115, 3) := by decide +kernel
theorem dX12_yearPasses_48 : decode cX12_yearPasses 48 = .ok (.if_icmp .ge 66, 3) := by decide +kernel
theorem dX12_yearPasses_51 : decode cX12_yearPasses 51 = .ok (.aload_n 0, 1) := by decide +kernel
theorem dX12_yearPasses_52 : decode cX12_yearPasses 52 = .ok (.iload_n 2, 1) := by decide +kernel
theorem dX12_yearPasses_53 : decode cX12_yearPasses 53 = .ok (.invokevirtual 137, 3) := by decide +kernel
theorem dX12_yearPasses_56 : decode cX12_yearPasses 56 = .ok (.ifCond .ne 6, 3) := by decide +kernel
theorem dX12_yearPasses_59 : decode cX12_yearPasses 59 = .ok (.goto 49, 3) := by decide +kernel
theorem dX12_yearPasses_62 : decode cX12_yearPasses 62 = .ok (.aload_n 0, 1) := by decide +kernel
theorem dX12_yearPasses_63 : decode cX12_yearPasses 63 = .ok (.getfield 28, 3) := by decide +kernel
theorem dX12_yearPasses_66 : decode cX12_yearPasses 66 = .ok (.iconst 0, 1) := by decide +kernel
theorem dX12_yearPasses_67 : decode cX12_yearPasses 67 = .ok (.iload_n 2, 1) := by decide +kernel
theorem dX12_yearPasses_68 : decode cX12_yearPasses 68 = .ok (.iadd, 1) := by decide +kernel
theorem dX12_yearPasses_69 : decode cX12_yearPasses 69 = .ok (.iconst 0, 1) := by decide +kernel
theorem dX12_yearPasses_70 : decode cX12_yearPasses 70 = .ok (.aload_n 0, 1) := by decide +kernel
theorem dX12_yearPasses_71 : decode cX12_yearPasses 71 = .ok (.getfield 28, 3) := by decide +kernel
theorem dX12_yearPasses_74 : decode cX12_yearPasses 74 = .ok (.iconst 0, 1) := by decide +kernel
theorem dX12_yearPasses_75 : decode cX12_yearPasses 75 = .ok (.iload_n 2, 1) := by decide +kernel
theorem dX12_yearPasses_76 : decode cX12_yearPasses 76 = .ok (.iadd, 1) := by decide +kernel
theorem dX12_yearPasses_77 : decode cX12_yearPasses 77 = .ok (.iaload, 1) := by decide +kernel
theorem dX12_yearPasses_78 : decode cX12_yearPasses 78 = .ok (.aload_n 0, 1) := by decide +kernel
theorem dX12_yearPasses_79 : decode cX12_yearPasses 79 = .ok (.getfield 69, 3) := by decide +kernel
theorem dX12_yearPasses_82 : decode cX12_yearPasses 82 = .ok (.iload_n 2, 1) := by decide +kernel
theorem dX12_yearPasses_83 : decode cX12_yearPasses 83 = .ok (.iaload, 1) := by decide +kernel
theorem dX12_yearPasses_84 : decode cX12_yearPasses 84 = .ok (.isub, 1) := by decide +kernel
theorem dX12_yearPasses_85 : decode cX12_yearPasses 85 = .ok (.invokestatic 367, 3) := by decide +kernel
theorem dX12_yearPasses_88 : decode cX12_yearPasses 88 = .ok (.iastore, 1) := by decide +kernel
theorem dX12_yearPasses_89 : decode cX12_yearPasses 89 = .ok (.aload_n 0, 1) := by decide +kernel
theorem dX12_yearPasses_90 : decode cX12_yearPasses 90 = .ok (.iload_n 2, 1) := by decide +kernel
theorem dX12_yearPasses_91 : decode cX12_yearPasses 91 = .ok (.invokevirtual 357, 3) := by decide +kernel
theorem dX12_yearPasses_94 : decode cX12_yearPasses 94 = .ok (.ifCond .eq 6, 3) := by decide +kernel
theorem dX12_yearPasses_97 : decode cX12_yearPasses 97 = .ok (.goto 11, 3) := by decide +kernel
theorem dX12_yearPasses_100 : decode cX12_yearPasses 100 = .ok (.aload_n 0, 1) := by decide +kernel
theorem dX12_yearPasses_101 : decode cX12_yearPasses 101 = .ok (.iload_n 2, 1) := by decide +kernel
theorem dX12_yearPasses_102 : decode cX12_yearPasses 102 = .ok (.invokevirtual 123, 3) := by decide +kernel
theorem dX12_yearPasses_105 : decode cX12_yearPasses 105 = .ok (.iinc 1 1, 3) := by decide +kernel
theorem dX12_yearPasses_108 : decode cX12_yearPasses 108 = .ok (.iinc 2 1, 3) := by decide +kernel
theorem dX12_yearPasses_111 : decode cX12_yearPasses 111 = .ok (.goto (-68), 3) := by decide +kernel
theorem dX12_yearPasses_114 : decode cX12_yearPasses 114 = .ok (.aload_n 0, 1) := by decide +kernel
theorem dX12_yearPasses_115 : decode cX12_yearPasses 115 = .ok (.getfield 28, 3) := by decide +kernel
theorem dX12_yearPasses_118 : decode cX12_yearPasses 118 = .ok (.bipush 28, 2) := by decide +kernel
theorem dX12_yearPasses_120 : decode cX12_yearPasses 120 = .ok (.dup2, 1) := by decide +kernel
theorem dX12_yearPasses_121 : decode cX12_yearPasses 121 = .ok (.iaload, 1) := by decide +kernel
theorem dX12_yearPasses_122 : decode cX12_yearPasses 122 = .ok (.iconst 1, 1) := by decide +kernel
theorem dX12_yearPasses_123 : decode cX12_yearPasses 123 = .ok (.iadd, 1) := by decide +kernel
theorem dX12_yearPasses_124 : decode cX12_yearPasses 124 = .ok (.iastore, 1) := by decide +kernel
theorem dX12_yearPasses_125 : decode cX12_yearPasses 125 = .ok (.iload_n 1, 1) := by decide +kernel
theorem dX12_yearPasses_126 : decode cX12_yearPasses 126 = .ok (.ireturn, 1) := by decide +kernel
theorem dX12_keeps_0 : decode cX12_keeps 0 = .ok (.bipush 30, 2) := by decide +kernel
theorem dX12_keeps_2 : decode cX12_keeps 2 = .ok (.istore_n 2, 1) := by decide +kernel
theorem dX12_keeps_3 : decode cX12_keeps 3 = .ok (.aload_n 0, 1) := by decide +kernel
theorem dX12_keeps_4 : decode cX12_keeps 4 = .ok (.getfield 11, 3) := by decide +kernel
theorem dX12_keeps_7 : decode cX12_keeps 7 = .ok (.bipush 16, 2) := by decide +kernel
theorem dX12_keeps_9 : decode cX12_keeps 9 = .ok (.if_icmp .ne 43, 3) := by decide +kernel
theorem dX12_keeps_12 : decode cX12_keeps 12 = .ok (.iconst 0, 1) := by decide +kernel
theorem dX12_keeps_13 : decode cX12_keeps 13 = .ok (.istore_n 3, 1) := by decide +kernel
theorem dX12_keeps_14 : decode cX12_keeps 14 = .ok (.iload_n 3, 1) := by decide +kernel
theorem dX12_keeps_15 : decode cX12_keeps 15 = .ok (.bipush 15, 2) := by decide +kernel
theorem dX12_keeps_17 : decode cX12_keeps 17 = .ok (.iload_n 2, 1) := by decide +kernel
theorem dX12_keeps_18 : decode cX12_keeps 18 = .ok (.imul, 1) := by decide +kernel
theorem dX12_keeps_19 : decode cX12_keeps 19 = .ok (.if_icmp .ge 23, 3) := by decide +kernel
theorem dX12_keeps_22 : decode cX12_keeps 22 = .ok (.aload_n 0, 1) := by decide +kernel
theorem dX12_keeps_23 : decode cX12_keeps 23 = .ok (.getfield 72, 3) := by decide +kernel
theorem dX12_keeps_26 : decode cX12_keeps 26 = .ok (.iload_n 3, 1) := by decide +kernel
theorem dX12_keeps_27 : decode cX12_keeps 27 = .ok (.aload_n 0, 1) := by decide +kernel
theorem dX12_keeps_28 : decode cX12_keeps 28 = .ok (.getfield 72, 3) := by decide +kernel
theorem dX12_keeps_31 : decode cX12_keeps 31 = .ok (.iload_n 3, 1) := by decide +kernel
theorem dX12_keeps_32 : decode cX12_keeps 32 = .ok (.iload_n 2, 1) := by decide +kernel
theorem dX12_keeps_33 : decode cX12_keeps 33 = .ok (.iadd, 1) := by decide +kernel
theorem dX12_keeps_34 : decode cX12_keeps 34 = .ok (.iaload, 1) := by decide +kernel
theorem dX12_keeps_35 : decode cX12_keeps 35 = .ok (.iastore, 1) := by decide +kernel
theorem dX12_keeps_36 : decode cX12_keeps 36 = .ok (.iinc 3 1, 3) := by decide +kernel
theorem dX12_keeps_39 : decode cX12_keeps 39 = .ok (.goto (-25), 3) := by decide +kernel
theorem dX12_keeps_42 : decode cX12_keeps 42 = .ok (.aload_n 0, 1) := by decide +kernel
theorem dX12_keeps_43 : decode cX12_keeps 43 = .ok (.dup, 1) := by decide +kernel
theorem dX12_keeps_44 : decode cX12_keeps 44 = .ok (.getfield 11, 3) := by decide +kernel
theorem dX12_keeps_47 : decode cX12_keeps 47 = .ok (.iconst 1, 1) := by decide +kernel
theorem dX12_keeps_48 : decode cX12_keeps 48 = .ok (.isub, 1) := by decide +kernel
theorem dX12_keeps_49 : decode cX12_keeps 49 = .ok (.putfield 11, 3) := by decide +kernel
theorem dX12_keeps_52 : decode cX12_keeps 52 = .ok (.iconst 0, 1) := by decide +kernel
theorem dX12_keeps_53 : decode cX12_keeps 53 = .ok (.istore_n 3, 1) := by decide +kernel
theorem dX12_keeps_54 : decode cX12_keeps 54 = .ok (.iload_n 3, 1) := by decide +kernel
theorem dX12_keeps_55 : decode cX12_keeps 55 = .ok (.bipush 29, 2) := by decide +kernel
theorem dX12_keeps_57 : decode cX12_keeps 57 = .ok (.if_icmp .ge 28, 3) := by decide +kernel
theorem dX12_keeps_60 : decode cX12_keeps 60 = .ok (.aload_n 0, 1) := by decide +kernel
theorem dX12_keeps_61 : decode cX12_keeps 61 = .ok (.getfield 72, 3) := by decide +kernel
theorem dX12_keeps_64 : decode cX12_keeps 64 = .ok (.iload_n 2, 1) := by decide +kernel
theorem dX12_keeps_65 : decode cX12_keeps 65 = .ok (.aload_n 0, 1) := by decide +kernel
theorem dX12_keeps_66 : decode cX12_keeps 66 = .ok (.getfield 11, 3) := by decide +kernel
theorem dX12_keeps_69 : decode cX12_keeps 69 = .ok (.imul, 1) := by decide +kernel
theorem dX12_keeps_70 : decode cX12_keeps 70 = .ok (.iload_n 3, 1) := by decide +kernel
theorem dX12_keeps_71 : decode cX12_keeps 71 = .ok (.iadd, 1) := by decide +kernel
theorem dX12_keeps_72 : decode cX12_keeps 72 = .ok (.aload_n 0, 1) := by decide +kernel
theorem dX12_keeps_73 : decode cX12_keeps 73 = .ok (.getfield 28, 3) := by decide +kernel
theorem dX12_keeps_76 : decode cX12_keeps 76 = .ok (.iload_n 3, 1) := by decide +kernel
theorem dX12_keeps_77 : decode cX12_keeps 77 = .ok (.iaload, 1) := by decide +kernel
theorem dX12_keeps_78 : decode cX12_keeps 78 = .ok (.iastore, 1) := by decide +kernel
theorem dX12_keeps_79 : decode cX12_keeps 79 = .ok (.iinc 3 1, 3) := by decide +kernel
theorem dX12_keeps_82 : decode cX12_keeps 82 = .ok (.goto (-28), 3) := by decide +kernel
theorem dX12_keeps_85 : decode cX12_keeps 85 = .ok (.aload_n 0, 1) := by decide +kernel
theorem dX12_keeps_86 : decode cX12_keeps 86 = .ok (.getfield 72, 3) := by decide +kernel
theorem dX12_keeps_89 : decode cX12_keeps 89 = .ok (.iload_n 2, 1) := by decide +kernel
theorem dX12_keeps_90 : decode cX12_keeps 90 = .ok (.aload_n 0, 1) := by decide +kernel
theorem dX12_keeps_91 : decode cX12_keeps 91 = .ok (.getfield 11, 3) := by decide +kernel
theorem dX12_keeps_94 : decode cX12_keeps 94 = .ok (.imul, 1) := by decide +kernel
theorem dX12_keeps_95 : decode cX12_keeps 95 = .ok (.bipush 29, 2) := by decide +kernel
theorem dX12_keeps_97 : decode cX12_keeps 97 = .ok (.iadd, 1) := by decide +kernel
theorem dX12_keeps_98 : decode cX12_keeps 98 = .ok (.iload_n 1, 1) := by decide +kernel
theorem dX12_keeps_99 : decode cX12_keeps 99 = .ok (.iastore, 1) := by decide +kernel
theorem dX12_keeps_100 : decode cX12_keeps 100 = .ok (.aload_n 0, 1) := by decide +kernel
theorem dX12_keeps_101 : decode cX12_keeps 101 = .ok (.dup, 1) := by decide +kernel
theorem dX12_keeps_102 : decode cX12_keeps 102 = .ok (.getfield 11, 3) := by decide +kernel
theorem dX12_keeps_105 : decode cX12_keeps 105 = .ok (.iconst 1, 1) := by decide +kernel
theorem dX12_keeps_106 : decode cX12_keeps 106 = .ok (.iadd, 1) := by decide +kernel
theorem dX12_keeps_107 : decode cX12_keeps 107 = .ok (.putfield 11, 3) := by decide +kernel
theorem dX12_keeps_110 : decode cX12_keeps 110 = .ok (.return_, 1) := by decide +kernel
theorem dX12_undo_0 : decode cX12_undo 0 = .ok (.aload_n 0, 1) := by decide +kernel
theorem dX12_undo_1 : decode cX12_undo 1 = .ok (.getfield 11, 3) := by decide +kernel
theorem dX12_undo_4 : decode cX12_undo 4 = .ok (.ifCond .ne 10, 3) := by decide +kernel
theorem dX12_undo_7 : decode cX12_undo 7 = .ok (.aload_n 0, 1) := by decide +kernel
theorem dX12_undo_8 : decode cX12_undo 8 = .ok (.bipush (-3), 2) := by decide +kernel
theorem dX12_undo_10 : decode cX12_undo 10 = .ok (.invokevirtual 109, 3) := by decide +kernel
theorem dX12_undo_13 : decode cX12_undo 13 = .ok (.ireturn, 1) := by decide +kernel
theorem dX12_undo_14 : decode cX12_undo 14 = .ok (.aload_n 0, 1) := by decide +kernel
theorem dX12_undo_15 : decode cX12_undo 15 = .ok (.dup, 1) := by decide +kernel
theorem dX12_undo_16 : decode cX12_undo 16 = .ok (.getfield 11, 3) := by decide +kernel
theorem dX12_undo_19 : decode cX12_undo 19 = .ok (.iconst 1, 1) := by decide +kernel
theorem dX12_undo_20 : decode cX12_undo 20 = .ok (.isub, 1) := by decide +kernel
theorem dX12_undo_21 : decode cX12_undo 21 = .ok (.putfield 11, 3) := by decide +kernel
theorem dX12_undo_24 : decode cX12_undo 24 = .ok (.bipush 30, 2) := by decide +kernel
theorem dX12_undo_26 : decode cX12_undo 26 = .ok (.aload_n 0, 1) := by decide +kernel
theorem dX12_undo_27 : decode cX12_undo 27 = .ok (.getfield 11, 3) := by decide +kernel
theorem dX12_undo_30 : decode cX12_undo 30 = .ok (.imul, 1) := by decide +kernel
theorem dX12_undo_31 : decode cX12_undo 31 = .ok (.istore_n 1, 1) := by decide +kernel
theorem dX12_undo_32 : decode cX12_undo 32 = .ok (.iconst 0, 1) := by decide +kernel
theorem dX12_undo_33 : decode cX12_undo 33 = .ok (.istore_n 2, 1) := by decide +kernel
theorem dX12_undo_34 : decode cX12_undo 34 = .ok (.iload_n 2, 1) := by decide +kernel
theorem dX12_undo_35 : decode cX12_undo 35 = .ok (.bipush 29, 2) := by decide +kernel
theorem dX12_undo_37 : decode cX12_undo 37 = .ok (.if_icmp .ge 23, 3) := by decide +kernel
theorem dX12_undo_40 : decode cX12_undo 40 = .ok (.aload_n 0, 1) := by decide +kernel
theorem dX12_undo_41 : decode cX12_undo 41 = .ok (.getfield 28, 3) := by decide +kernel
theorem dX12_undo_44 : decode cX12_undo 44 = .ok (.iload_n 2, 1) := by decide +kernel
theorem dX12_undo_45 : decode cX12_undo 45 = .ok (.aload_n 0, 1) := by decide +kernel
theorem dX12_undo_46 : decode cX12_undo 46 = .ok (.getfield 72, 3) := by decide +kernel
theorem dX12_undo_49 : decode cX12_undo 49 = .ok (.iload_n 1, 1) := by decide +kernel
theorem dX12_undo_50 : decode cX12_undo 50 = .ok (.iload_n 2, 1) := by decide +kernel
theorem dX12_undo_51 : decode cX12_undo 51 = .ok (.iadd, 1) := by decide +kernel
theorem dX12_undo_52 : decode cX12_undo 52 = .ok (.iaload, 1) := by decide +kernel
theorem dX12_undo_53 : decode cX12_undo 53 = .ok (.iastore, 1) := by decide +kernel
theorem dX12_undo_54 : decode cX12_undo 54 = .ok (.iinc 2 1, 3) := by decide +kernel
theorem dX12_undo_57 : decode cX12_undo 57 = .ok (.goto (-23), 3) := by decide +kernel
theorem dX12_undo_60 : decode cX12_undo 60 = .ok (.aload_n 0, 1) := by decide +kernel
theorem dX12_undo_61 : decode cX12_undo 61 = .ok (.aload_n 0, 1) := by decide +kernel
theorem dX12_undo_62 : decode cX12_undo 62 = .ok (.getfield 72, 3) := by decide +kernel
theorem dX12_undo_65 : decode cX12_undo 65 = .ok (.iload_n 1, 1) := by decide +kernel
theorem dX12_undo_66 : decode cX12_undo 66 = .ok (.bipush 29, 2) := by decide +kernel
theorem dX12_undo_68 : decode cX12_undo 68 = .ok (.iadd, 1) := by decide +kernel
theorem dX12_undo_69 : decode cX12_undo 69 = .ok (.iaload, 1) := by decide +kernel
theorem dX12_undo_70 : decode cX12_undo 70 = .ok (.invokevirtual 14, 3) := by decide +kernel
theorem dX12_undo_73 : decode cX12_undo 73 = .ok (.ireturn, 1) := by decide +kernel
theorem dX12_goodOr_0 : decode cX12_goodOr 0 = .ok (.iload_n 1, 1) := by decide +kernel
theorem dX12_goodOr_1 : decode cX12_goodOr 1 = .ok (.ifCond .ge 11, 3) := by decide +kernel
theorem dX12_goodOr_4 : decode cX12_goodOr 4 = .ok (.aload_n 0, 1) := by decide +kernel
theorem dX12_goodOr_5 : decode cX12_goodOr 5 = .ok (.iload_n 1, 1) := by decide +kernel
theorem dX12_goodOr_6 : decode cX12_goodOr 6 = .ok (.invokevirtual 109, 3) := by decide +kernel
theorem dX12_goodOr_9 : decode cX12_goodOr 9 = .ok (.goto 8, 3) := by decide +kernel
theorem dX12_goodOr_12 : decode cX12_goodOr 12 = .ok (.aload_n 0, 1) := by decide +kernel
theorem dX12_goodOr_13 : decode cX12_goodOr 13 = .ok (.iload_n 1, 1) := by decide +kernel
theorem dX12_goodOr_14 : decode cX12_goodOr 14 = .ok (.invokevirtual 14, 3) := by decide +kernel
theorem dX12_goodOr_17 : decode cX12_goodOr 17 = .ok (.ireturn, 1) := by decide +kernel
theorem dX12_laysKept_0 : decode cX12_laysKept 0 = .ok (.iload_n 2, 1) := by decide +kernel
theorem dX12_laysKept_1 : decode cX12_laysKept 1 = .ok (.invokestatic 149, 3) := by decide +kernel
theorem dX12_laysKept_4 : decode cX12_laysKept 4 = .ok (.ifCond .eq 10, 3) := by decide +kernel
theorem dX12_laysKept_7 : decode cX12_laysKept 7 = .ok (.iload_n 3, 1) := by decide +kernel
theorem dX12_laysKept_8 : decode cX12_laysKept 8 = .ok (.invokestatic 149, 3) := by decide +kernel
theorem dX12_laysKept_11 : decode cX12_laysKept 11 = .ok (.ifCond .ne 5, 3) := by decide +kernel
theorem dX12_laysKept_14 : decode cX12_laysKept 14 = .ok (.iconst (-1), 1) := by decide +kernel
theorem dX12_laysKept_15 : decode cX12_laysKept 15 = .ok (.ireturn, 1) := by decide +kernel
theorem dX12_laysKept_16 : decode cX12_laysKept 16 = .ok (.aload_n 0, 1) := by decide +kernel
theorem dX12_laysKept_17 : decode cX12_laysKept 17 = .ok (.iload_n 1, 1) := by decide +kernel
theorem dX12_laysKept_18 : decode cX12_laysKept 18 = .ok (.invokevirtual 134, 3) := by decide +kernel
theorem dX12_laysKept_21 : decode cX12_laysKept 21 = .ok (.ifCond .ne 6, 3) := by decide +kernel
theorem dX12_laysKept_24 : decode cX12_laysKept 24 = .ok (.bipush (-2), 2) := by decide +kernel
theorem dX12_laysKept_26 : decode cX12_laysKept 26 = .ok (.ireturn, 1) := by decide +kernel
theorem dX12_laysKept_27 : decode cX12_laysKept 27 = .ok (.aload_n 0, 1) := by decide +kernel
theorem dX12_laysKept_28 : decode cX12_laysKept 28 = .ok (.iload_n 1, 1) := by decide +kernel
theorem dX12_laysKept_29 : decode cX12_laysKept 29 = .ok (.iload_n 2, 1) := by decide +kernel
theorem dX12_laysKept_30 : decode cX12_laysKept 30 = .ok (.iload_n 3, 1) := by decide +kernel
theorem dX12_laysKept_31 : decode cX12_laysKept 31 = .ok (.invokevirtual 159, 3) := by decide +kernel
theorem dX12_laysKept_34 : decode cX12_laysKept 34 = .ok (.ifCond .ne 6, 3) := by decide +kernel
theorem dX12_laysKept_37 : decode cX12_laysKept 37 = .ok (.bipush (-3), 2) := by decide +kernel
theorem dX12_laysKept_39 : decode cX12_laysKept 39 = .ok (.ireturn, 1) := by decide +kernel
theorem dX12_laysKept_40 : decode cX12_laysKept 40 = .ok (.aload_n 0, 1) := by decide +kernel
theorem dX12_laysKept_41 : decode cX12_laysKept 41 = .ok (.iconst 0, 1) := by decide +kernel
theorem dX12_laysKept_42 : decode cX12_laysKept 42 = .ok (.invokevirtual 370, 3) := by decide +kernel
theorem dX12_laysKept_45 : decode cX12_laysKept 45 = .ok (.aload_n 0, 1) := by decide +kernel
theorem dX12_laysKept_46 : decode cX12_laysKept 46 = .ok (.iload_n 1, 1) := by decide +kernel
theorem dX12_laysKept_47 : decode cX12_laysKept 47 = .ok (.iload_n 2, 1) := by decide +kernel
theorem dX12_laysKept_48 : decode cX12_laysKept 48 = .ok (.iload_n 3, 1) := by decide +kernel
theorem dX12_laysKept_49 : decode cX12_laysKept 49 = .ok (.invokevirtual 373, 3) := by decide +kernel
theorem dX12_laysKept_52 : decode cX12_laysKept 52 = .ok (.ireturn, 1) := by decide +kernel
theorem dX12_rollsKept_0 : decode cX12_rollsKept 0 = .ok (.aload_n 0, 1) := by decide +kernel
theorem dX12_rollsKept_1 : decode cX12_rollsKept 1 = .ok (.iload_n 1, 1) := by decide +kernel
theorem dX12_rollsKept_2 : decode cX12_rollsKept 2 = .ok (.invokevirtual 134, 3) := by decide +kernel
theorem dX12_rollsKept_5 : decode cX12_rollsKept 5 = .ok (.ifCond .ne 6, 3) := by decide +kernel
theorem dX12_rollsKept_8 : decode cX12_rollsKept 8 = .ok (.bipush (-2), 2) := by decide +kernel
theorem dX12_rollsKept_10 : decode cX12_rollsKept 10 = .ok (.ireturn, 1) := by decide +kernel
theorem dX12_rollsKept_11 : decode cX12_rollsKept 11 = .ok (.aload_n 0, 1) := by decide +kernel
theorem dX12_rollsKept_12 : decode cX12_rollsKept 12 = .ok (.iload_n 1, 1) := by decide +kernel
theorem dX12_rollsKept_13 : decode cX12_rollsKept 13 = .ok (.invokevirtual 137, 3) := by decide +kernel
theorem dX12_rollsKept_16 : decode cX12_rollsKept 16 = .ok (.ifCond .ne 6, 3) := by decide +kernel
theorem dX12_rollsKept_19 : decode cX12_rollsKept 19 = .ok (.bipush (-3), 2) := by decide +kernel
theorem dX12_rollsKept_21 : decode cX12_rollsKept 21 = .ok (.ireturn, 1) := by decide +kernel
theorem dX12_rollsKept_22 : decode cX12_rollsKept 22 = .ok (.aload_n 0, 1) := by decide +kernel
theorem dX12_rollsKept_23 : decode cX12_rollsKept 23 = .ok (.iconst 1, 1) := by decide +kernel
theorem dX12_rollsKept_24 : decode cX12_rollsKept 24 = .ok (.invokevirtual 370, 3) := by decide +kernel
theorem dX12_rollsKept_27 : decode cX12_rollsKept 27 = .ok (.aload_n 0, 1) := by decide +kernel
theorem dX12_rollsKept_28 : decode cX12_rollsKept 28 = .ok (.iload_n 1, 1) := by decide +kernel
theorem dX12_rollsKept_29 : decode cX12_rollsKept 29 = .ok (.invokevirtual 123, 3) := by decide +kernel
theorem dX12_rollsKept_32 : decode cX12_rollsKept 32 = .ok (.aload_n 0, 1) := by decide +kernel
theorem dX12_rollsKept_33 : decode cX12_rollsKept 33 = .ok (.invokevirtual 323, 3) := by decide +kernel
theorem dX12_rollsKept_36 : decode cX12_rollsKept 36 = .ok (.ireturn, 1) := by decide +kernel
theorem dX12_mirrorsKept_0 : decode cX12_mirrorsKept 0 = .ok (.aload_n 0, 1) := by decide +kernel
theorem dX12_mirrorsKept_1 : decode cX12_mirrorsKept 1 = .ok (.iconst 2, 1) := by decide +kernel
theorem dX12_mirrorsKept_2 : decode cX12_mirrorsKept 2 = .ok (.invokevirtual 370, 3) := by decide +kernel
theorem dX12_mirrorsKept_5 : decode cX12_mirrorsKept 5 = .ok (.iconst 0, 1) := by decide +kernel
theorem dX12_mirrorsKept_6 : decode cX12_mirrorsKept 6 = .ok (.istore_n 1, 1) := by decide +kernel
theorem dX12_mirrorsKept_7 : decode cX12_mirrorsKept 7 = .ok (.iload_n 1, 1) := by decide +kernel
theorem dX12_mirrorsKept_8 : decode cX12_mirrorsKept 8 = .ok (.aload_n 0, 1) := by decide +kernel
theorem dX12_mirrorsKept_9 : decode cX12_mirrorsKept 9 = .ok (.invokevirtual 115, 3) := by decide +kernel
theorem dX12_mirrorsKept_12 : decode cX12_mirrorsKept 12 = .ok (.if_icmp .ge 57, 3) := by decide +kernel
theorem dX12_mirrorsKept_15 : decode cX12_mirrorsKept 15 = .ok (.aload_n 0, 1) := by decide +kernel
theorem dX12_mirrorsKept_16 : decode cX12_mirrorsKept 16 = .ok (.getfield 28, 3) := by decide +kernel
theorem dX12_mirrorsKept_19 : decode cX12_mirrorsKept 19 = .ok (.bipush 9, 2) := by decide +kernel
theorem dX12_mirrorsKept_21 : decode cX12_mirrorsKept 21 = .ok (.iload_n 1, 1) := by decide +kernel
theorem dX12_mirrorsKept_22 : decode cX12_mirrorsKept 22 = .ok (.iadd, 1) := by decide +kernel
theorem dX12_mirrorsKept_23 : decode cX12_mirrorsKept 23 = .ok (.aload_n 0, 1) := by decide +kernel
theorem dX12_mirrorsKept_24 : decode cX12_mirrorsKept 24 = .ok (.iload_n 1, 1) := by decide +kernel
theorem dX12_mirrorsKept_25 : decode cX12_mirrorsKept 25 = .ok (.invokevirtual 137, 3) := by decide +kernel
theorem dX12_mirrorsKept_28 : decode cX12_mirrorsKept 28 = .ok (.ifCond .eq 33, 3) := by decide +kernel
theorem dX12_mirrorsKept_31 : decode cX12_mirrorsKept 31 = .ok (.aload_n 0, 1) := by decide +kernel
theorem dX12_mirrorsKept_32 : decode cX12_mirrorsKept 32 = .ok (.getfield 28, 3) := by decide +kernel
theorem dX12_mirrorsKept_35 : decode cX12_mirrorsKept 35 = .ok (.bipush 67, 2) := by decide +kernel
theorem dX12_mirrorsKept_37 : decode cX12_mirrorsKept 37 = .ok (.iaload, 1) := by decide +kernel
theorem dX12_mirrorsKept_38 : decode cX12_mirrorsKept 38 = .ok (.aload_n 0, 1) := by decide +kernel
theorem dX12_mirrorsKept_39 : decode cX12_mirrorsKept 39 = .ok (.getfield 28, 3) := by decide +kernel
theorem dX12_mirrorsKept_42 : decode cX12_mirrorsKept 42 = .ok (.bipush 9, 2) := by decide +kernel
theorem dX12_mirrorsKept_44 : decode cX12_mirrorsKept 44 = .ok (.iload_n 1, 1) := by decide +kernel
theorem dX12_mirrorsKept_45 : decode cX12_mirrorsKept 45 = .ok (.iadd, 1) := by decide +kernel
theorem dX12_mirrorsKept_46 : decode cX12_mirrorsKept 46 = .ok (.iaload, 1) := by decide +kernel
theorem dX12_mirrorsKept_47 : decode cX12_mirrorsKept 47 = .ok (.isub, 1) := by decide +kernel
theorem dX12_mirrorsKept_48 : decode cX12_mirrorsKept 48 = .ok (.aload_n 0, 1) := by decide +kernel
theorem dX12_mirrorsKept_49 : decode cX12_mirrorsKept 49 = .ok (.getfield 28, 3) := by decide +kernel
theorem dX12_mirrorsKept_52 : decode cX12_mirrorsKept 52 = .ok (.bipush 29, 2) := by decide +kernel
theorem dX12_mirrorsKept_54 : decode cX12_mirrorsKept 54 = .ok (.iload_n 1, 1) := by decide +kernel
theorem dX12_mirrorsKept_55 : decode cX12_mirrorsKept 55 = .ok (.iadd, 1) := by decide +kernel
theorem dX12_mirrorsKept_56 : decode cX12_mirrorsKept 56 = .ok (.iaload, 1) := by decide +kernel
theorem dX12_mirrorsKept_57 : decode cX12_mirrorsKept 57 = .ok (.isub, 1) := by decide +kernel
theorem dX12_mirrorsKept_58 : decode cX12_mirrorsKept 58 = .ok (.goto 4, 3) := by decide +kernel
theorem dX12_mirrorsKept_61 : decode cX12_mirrorsKept 61 = .ok (.iconst (-1), 1) := by decide +kernel
theorem dX12_mirrorsKept_62 : decode cX12_mirrorsKept 62 = .ok (.iastore, 1) := by decide +kernel
theorem dX12_mirrorsKept_63 : decode cX12_mirrorsKept 63 = .ok (.iinc 1 1, 3) := by decide +kernel
theorem dX12_mirrorsKept_66 : decode cX12_mirrorsKept 66 = .ok (.goto (-59), 3) := by decide +kernel
theorem dX12_mirrorsKept_69 : decode cX12_mirrorsKept 69 = .ok (.aload_n 0, 1) := by decide +kernel
theorem dX12_mirrorsKept_70 : decode cX12_mirrorsKept 70 = .ok (.invokevirtual 143, 3) := by decide +kernel
theorem dX12_mirrorsKept_73 : decode cX12_mirrorsKept 73 = .ok (.ireturn, 1) := by decide +kernel
theorem dX12_passesKept_0 : decode cX12_passesKept 0 = .ok (.aload_n 0, 1) := by decide +kernel
theorem dX12_passesKept_1 : decode cX12_passesKept 1 = .ok (.getfield 28, 3) := by decide +kernel
theorem dX12_passesKept_4 : decode cX12_passesKept 4 = .ok (.bipush 28, 2) := by decide +kernel
theorem dX12_passesKept_6 : decode cX12_passesKept 6 = .ok (.iaload, 1) := by decide +kernel
theorem dX12_passesKept_7 : decode cX12_passesKept 7 = .ok (.sipush 999, 3) := by decide +kernel
theorem dX12_passesKept_10 : decode cX12_passesKept 10 = .ok (.if_icmp .ne 6, 3) := by decide +kernel
theorem dX12_passesKept_13 : decode cX12_passesKept 13 = .ok (.bipush (-3), 2) := by decide +kernel
theorem dX12_passesKept_15 : decode cX12_passesKept 15 = .ok (.ireturn, 1) := by decide +kernel
theorem dX12_passesKept_16 : decode cX12_passesKept 16 = .ok (.aload_n 0, 1) := by decide +kernel
theorem dX12_passesKept_17 : decode cX12_passesKept 17 = .ok (.iconst 3, 1) := by decide +kernel
theorem dX12_passesKept_18 : decode cX12_passesKept 18 = .ok (.invokevirtual 370, 3) := by decide +kernel
theorem dX12_passesKept_21 : decode cX12_passesKept 21 = .ok (.aload_n 0, 1) := by decide +kernel
theorem dX12_passesKept_22 : decode cX12_passesKept 22 = .ok (.invokevirtual 376, 3) := by decide +kernel
theorem dX12_passesKept_25 : decode cX12_passesKept 25 = .ok (.ireturn, 1) := by decide +kernel
theorem dX12_lay_0 : decode cX12_lay 0 = .ok (.aload_n 0, 1) := by decide +kernel
theorem dX12_lay_1 : decode cX12_lay 1 = .ok (.aload_n 0, 1) := by decide +kernel
theorem dX12_lay_2 : decode cX12_lay 2 = .ok (.iload_n 1, 1) := by decide +kernel
theorem dX12_lay_3 : decode cX12_lay 3 = .ok (.iload_n 2, 1) := by decide +kernel
theorem dX12_lay_4 : decode cX12_lay 4 = .ok (.iload_n 3, 1) := by decide +kernel
theorem dX12_lay_5 : decode cX12_lay 5 = .ok (.invokevirtual 379, 3) := by decide +kernel
theorem dX12_lay_8 : decode cX12_lay 8 = .ok (.invokevirtual 382, 3) := by decide +kernel
theorem dX12_lay_11 : decode cX12_lay 11 = .ok (.ireturn, 1) := by decide +kernel
theorem dX12_roll_0 : decode cX12_roll 0 = .ok (.aload_n 0, 1) := by decide +kernel
theorem dX12_roll_1 : decode cX12_roll 1 = .ok (.aload_n 0, 1) := by decide +kernel
theorem dX12_roll_2 : decode cX12_roll 2 = .ok (.iload_n 1, 1) := by decide +kernel
theorem dX12_roll_3 : decode cX12_roll 3 = .ok (.invokevirtual 385, 3) := by decide +kernel
theorem dX12_roll_6 : decode cX12_roll 6 = .ok (.invokevirtual 382, 3) := by decide +kernel
theorem dX12_roll_9 : decode cX12_roll 9 = .ok (.ireturn, 1) := by decide +kernel
theorem dX12_mirror_0 : decode cX12_mirror 0 = .ok (.aload_n 0, 1) := by decide +kernel
theorem dX12_mirror_1 : decode cX12_mirror 1 = .ok (.aload_n 0, 1) := by decide +kernel
theorem dX12_mirror_2 : decode cX12_mirror 2 = .ok (.invokevirtual 388, 3) := by decide +kernel
theorem dX12_mirror_5 : decode cX12_mirror 5 = .ok (.invokevirtual 382, 3) := by decide +kernel
theorem dX12_mirror_8 : decode cX12_mirror 8 = .ok (.ireturn, 1) := by decide +kernel
theorem dX12_pass_0 : decode cX12_pass 0 = .ok (.aload_n 0, 1) := by decide +kernel
theorem dX12_pass_1 : decode cX12_pass 1 = .ok (.aload_n 0, 1) := by decide +kernel
theorem dX12_pass_2 : decode cX12_pass 2 = .ok (.invokevirtual 391, 3) := by decide +kernel
theorem dX12_pass_5 : decode cX12_pass 5 = .ok (.invokevirtual 382, 3) := by decide +kernel
theorem dX12_pass_8 : decode cX12_pass 8 = .ok (.ireturn, 1) := by decide +kernel
theorem dX12_priceAt_0 : decode cX12_priceAt 0 = .ok (.aload_n 0, 1) := by decide +kernel
theorem dX12_priceAt_1 : decode cX12_priceAt 1 = .ok (.getfield 78, 3) := by decide +kernel
theorem dX12_priceAt_4 : decode cX12_priceAt 4 = .ok (.sipush 144, 3) := by decide +kernel
theorem dX12_priceAt_7 : decode cX12_priceAt 7 = .ok (.iload_n 1, 1) := by decide +kernel
theorem dX12_priceAt_8 : decode cX12_priceAt 8 = .ok (.imul, 1) := by decide +kernel
theorem dX12_priceAt_9 : decode cX12_priceAt 9 = .ok (.iload_n 2, 1) := by decide +kernel
theorem dX12_priceAt_10 : decode cX12_priceAt 10 = .ok (.iadd, 1) := by decide +kernel
theorem dX12_priceAt_11 : decode cX12_priceAt 11 = .ok (.iaload, 1) := by decide +kernel
theorem dX12_priceAt_12 : decode cX12_priceAt 12 = .ok (.ireturn, 1) := by decide +kernel
theorem dX12_laysPrices_0 : decode cX12_laysPrices 0 = .ok (.iconst 0, 1) := by decide +kernel
theorem dX12_laysPrices_1 : decode cX12_laysPrices 1 = .ok (.istore_n 2, 1) := by decide +kernel
theorem dX12_laysPrices_2 : decode cX12_laysPrices 2 = .ok (.iload_n 2, 1) := by decide +kernel
theorem dX12_laysPrices_3 : decode cX12_laysPrices 3 = .ok (.aload_n 0, 1) := by decide +kernel
theorem dX12_laysPrices_4 : decode cX12_laysPrices 4 = .ok (.invokevirtual 115, 3) := by decide +kernel
theorem dX12_laysPrices_7 : decode cX12_laysPrices 7 = .ok (.if_icmp .ge 81, 3) := by decide +kernel
theorem dX12_laysPrices_10 : decode cX12_laysPrices 10 = .ok (.iconst 0, 1) := by decide +kernel
theorem dX12_laysPrices_11 : decode cX12_laysPrices 11 = .ok (.istore_n 3, 1) := by decide +kernel
theorem dX12_laysPrices_12 : decode cX12_laysPrices 12 = .ok (.iload_n 3, 1) := by decide +kernel
theorem dX12_laysPrices_13 : decode cX12_laysPrices 13 = .ok (.sipush 144, 3) := by decide +kernel
theorem dX12_laysPrices_16 : decode cX12_laysPrices 16 = .ok (.if_icmp .ge 66, 3) := by decide +kernel
theorem dX12_laysPrices_19 : decode cX12_laysPrices 19 = .ok (.iload_n 1, 1) := by decide +kernel
theorem dX12_laysPrices_20 : decode cX12_laysPrices 20 = .ok (.iload_n 2, 1) := by decide +kernel
theorem dX12_laysPrices_21 : decode cX12_laysPrices 21 = .ok (.invokestatic 348, 3) := by decide +kernel
theorem dX12_laysPrices_24 : decode cX12_laysPrices 24 = .ok (.ifCond .eq 58, 3) := by decide +kernel
theorem dX12_laysPrices_27 : decode cX12_laysPrices 27 = .ok (.iload_n 3, 1) := by decide +kernel
theorem dX12_laysPrices_28 : decode cX12_laysPrices 28 = .ok (.bipush 12, 2) := by decide +kernel
theorem dX12_laysPrices_30 : decode cX12_laysPrices 30 = .ok (.irem, 1) := by decide +kernel
theorem dX12_laysPrices_31 : decode cX12_laysPrices 31 = .ok (.istore 4, 2) := by decide +kernel
theorem dX12_laysPrices_33 : decode cX12_laysPrices 33 = .ok (.iload_n 3, 1) := by decide +kernel
theorem dX12_laysPrices_34 : decode cX12_laysPrices 34 = .ok (.bipush 12, 2) := by decide +kernel
theorem dX12_laysPrices_36 : decode cX12_laysPrices 36 = .ok (.idiv, 1) := by decide +kernel
theorem dX12_laysPrices_37 : decode cX12_laysPrices 37 = .ok (.istore 5, 2) := by decide +kernel
theorem dX12_laysPrices_39 : decode cX12_laysPrices 39 = .ok (.aload_n 0, 1) := by decide +kernel
theorem dX12_laysPrices_40 : decode cX12_laysPrices 40 = .ok (.getfield 78, 3) := by decide +kernel
theorem dX12_laysPrices_43 : decode cX12_laysPrices 43 = .ok (.sipush 144, 3) := by decide +kernel
theorem dX12_laysPrices_46 : decode cX12_laysPrices 46 = .ok (.iload_n 2, 1) := by decide +kernel
theorem dX12_laysPrices_47 : decode cX12_laysPrices 47 = .ok (.imul, 1) := by decide +kernel
theorem dX12_laysPrices_48 : decode cX12_laysPrices 48 = .ok (.iload_n 3, 1) := by decide +kernel
theorem dX12_laysPrices_49 : decode cX12_laysPrices 49 = .ok (.iadd, 1) := by decide +kernel
theorem dX12_laysPrices_50 : decode cX12_laysPrices 50 = .ok (.aload_n 0, 1) := by decide +kernel
theorem dX12_laysPrices_51 : decode cX12_laysPrices 51 = .ok (.iload_n 2, 1) := by decide +kernel
theorem dX12_laysPrices_52 : decode cX12_laysPrices 52 = .ok (.iload 4, 2) := by decide +kernel
theorem dX12_laysPrices_54 : decode cX12_laysPrices 54 = .ok (.iload 5, 2) := by decide +kernel
theorem dX12_laysPrices_56 : decode cX12_laysPrices 56 = .ok (.invokevirtual 156, 3) := by decide +kernel
theorem dX12_laysPrices_59 : decode cX12_laysPrices 59 = .ok (.ifCond .eq 7, 3) := by decide +kernel
theorem dX12_laysPrices_62 : decode cX12_laysPrices 62 = .ok (.iconst (-1), 1) := by decide +kernel
theorem dX12_laysPrices_63 : decode cX12_laysPrices 63 = .ok (.goto 12, 3) := by decide +kernel
theorem dX12_laysPrices_66 : decode cX12_laysPrices 66 = .ok (.aload_n 0, 1) := by decide +kernel
theorem dX12_laysPrices_67 : decode cX12_laysPrices 67 = .ok (.iload_n 2, 1) := by decide +kernel
theorem dX12_laysPrices_68 : decode cX12_laysPrices 68 = .ok (.iload 4, 2) := by decide +kernel
theorem dX12_laysPrices_70 : decode cX12_laysPrices 70 = .ok (.iload 5, 2) := by decide +kernel
theorem dX12_laysPrices_72 : decode cX12_laysPrices 72 = .ok (.invokevirtual 152, 3) := by decide +kernel
theorem dX12_laysPrices_75 : decode cX12_laysPrices 75 = .ok (.iastore, 1) := by decide +kernel
theorem dX12_laysPrices_76 : decode cX12_laysPrices 76 = .ok (.iinc 3 1, 3) := by decide +kernel
theorem dX12_laysPrices_79 : decode cX12_laysPrices 79 = .ok (.goto (-67), 3) := by decide +kernel
theorem dX12_laysPrices_82 : decode cX12_laysPrices 82 = .ok (.iinc 2 1, 3) := by decide +kernel
theorem dX12_laysPrices_85 : decode cX12_laysPrices 85 = .ok (.goto (-83), 3) := by decide +kernel
theorem dX12_laysPrices_88 : decode cX12_laysPrices 88 = .ok (.return_, 1) := by decide +kernel
theorem dX12_rolledWhole_0 : decode cX12_rolledWhole 0 = .ok (.iconst 0, 1) := by decide +kernel
theorem dX12_rolledWhole_1 : decode cX12_rolledWhole 1 = .ok (.istore_n 1, 1) := by decide +kernel
theorem dX12_rolledWhole_2 : decode cX12_rolledWhole 2 = .ok (.iconst 0, 1) := by decide +kernel
theorem dX12_rolledWhole_3 : decode cX12_rolledWhole 3 = .ok (.istore_n 2, 1) := by decide +kernel
theorem dX12_rolledWhole_4 : decode cX12_rolledWhole 4 = .ok (.iload_n 2, 1) := by decide +kernel
theorem dX12_rolledWhole_5 : decode cX12_rolledWhole 5 = .ok (.aload_n 0, 1) := by decide +kernel
theorem dX12_rolledWhole_6 : decode cX12_rolledWhole 6 = .ok (.invokevirtual 115, 3) := by decide +kernel
theorem dX12_rolledWhole_9 : decode cX12_rolledWhole 9 = .ok (.if_icmp .ge 35, 3) := by decide +kernel
theorem dX12_rolledWhole_12 : decode cX12_rolledWhole 12 = .ok (.iload_n 1, 1) := by decide +kernel
theorem dX12_rolledWhole_13 : decode cX12_rolledWhole 13 = .ok (.aload_n 0, 1) := by decide +kernel
theorem dX12_rolledWhole_14 : decode cX12_rolledWhole 14 = .ok (.iload_n 2, 1) := by decide +kernel
theorem dX12_rolledWhole_15 : decode cX12_rolledWhole 15 = .ok (.invokevirtual 137, 3) := by decide +kernel
theorem dX12_rolledWhole_18 : decode cX12_rolledWhole 18 = .ok (.ifCond .ne 17, 3) := by decide +kernel
theorem dX12_rolledWhole_21 : decode cX12_rolledWhole 21 = .ok (.aload_n 0, 1) := by decide +kernel
theorem dX12_rolledWhole_22 : decode cX12_rolledWhole 22 = .ok (.iload_n 2, 1) := by decide +kernel
theorem dX12_rolledWhole_23 : decode cX12_rolledWhole 23 = .ok (.invokevirtual 357, 3) := by decide +kernel
theorem dX12_rolledWhole_26 : decode cX12_rolledWhole 26 = .ok (.ifCond .eq 9, 3) := by decide +kernel
theorem dX12_rolledWhole_29 : decode cX12_rolledWhole 29 = .ok (.iconst 1, 1) := by decide +kernel
theorem dX12_rolledWhole_30 : decode cX12_rolledWhole 30 = .ok (.iload_n 2, 1) := by decide +kernel
theorem dX12_rolledWhole_31 : decode cX12_rolledWhole 31 = .ok (.ishl, 1) := by decide +kernel
theorem dX12_rolledWhole_32 : decode cX12_rolledWhole 32 = .ok (.goto 4, 3) := by decide +kernel
theorem dX12_rolledWhole_35 : decode cX12_rolledWhole 35 = .ok (.iconst 0, 1) := by decide +kernel
theorem dX12_rolledWhole_36 : decode cX12_rolledWhole 36 = .ok (.ior, 1) := by decide +kernel
theorem dX12_rolledWhole_37 : decode cX12_rolledWhole 37 = .ok (.istore_n 1, 1) := by decide +kernel
theorem dX12_rolledWhole_38 : decode cX12_rolledWhole 38 = .ok (.iinc 2 1, 3) := by decide +kernel
theorem dX12_rolledWhole_41 : decode cX12_rolledWhole 41 = .ok (.goto (-37), 3) := by decide +kernel
theorem dX12_rolledWhole_44 : decode cX12_rolledWhole 44 = .ok (.iload_n 1, 1) := by decide +kernel
theorem dX12_rolledWhole_45 : decode cX12_rolledWhole 45 = .ok (.ireturn, 1) := by decide +kernel
theorem dX12_carpetBehind_0 : decode cX12_carpetBehind 0 = .ok (.aload_n 0, 1) := by decide +kernel
theorem dX12_carpetBehind_1 : decode cX12_carpetBehind 1 = .ok (.iload_n 2, 1) := by decide +kernel
theorem dX12_carpetBehind_2 : decode cX12_carpetBehind 2 = .ok (.iload_n 3, 1) := by decide +kernel
theorem dX12_carpetBehind_3 : decode cX12_carpetBehind 3 = .ok (.invokevirtual 394, 3) := by decide +kernel
theorem dX12_carpetBehind_6 : decode cX12_carpetBehind 6 = .ok (.istore 4, 2) := by decide +kernel
theorem dX12_carpetBehind_8 : decode cX12_carpetBehind 8 = .ok (.iconst 0, 1) := by decide +kernel
theorem dX12_carpetBehind_9 : decode cX12_carpetBehind 9 = .ok (.istore 5, 2) := by decide +kernel
theorem dX12_carpetBehind_11 : decode cX12_carpetBehind 11 = .ok (.iload 5, 2) := by decide +kernel
theorem dX12_carpetBehind_13 : decode cX12_carpetBehind 13 = .ok (.iload_n 1, 1) := by decide +kernel
theorem dX12_carpetBehind_14 : decode cX12_carpetBehind 14 = .ok (.if_icmp .ge 98, 3) := by decide +kernel
theorem dX12_carpetBehind_17 : decode cX12_carpetBehind 17 = .ok (.aload_n 0, 1) := by decide +kernel
theorem dX12_carpetBehind_18 : decode cX12_carpetBehind 18 = .ok (.getfield 28, 3) := by decide +kernel
theorem dX12_carpetBehind_21 : decode cX12_carpetBehind 21 = .ok (.bipush 29, 2) := by decide +kernel
theorem dX12_carpetBehind_23 : decode cX12_carpetBehind 23 = .ok (.aload_n 0, 1) := by decide +kernel
theorem dX12_carpetBehind_24 : decode cX12_carpetBehind 24 = .ok (.getfield 81, 3) := by decide +kernel
theorem dX12_carpetBehind_27 : decode cX12_carpetBehind 27 = .ok (.iload 5, 2) := by decide +kernel
theorem dX12_carpetBehind_29 : decode cX12_carpetBehind 29 = .ok (.iaload, 1) := by decide +kernel
theorem dX12_carpetBehind_30 : decode cX12_carpetBehind 30 = .ok (.iadd, 1) := by decide +kernel
theorem dX12_carpetBehind_31 : decode cX12_carpetBehind 31 = .ok (.iaload, 1) := by decide +kernel
theorem dX12_carpetBehind_32 : decode cX12_carpetBehind 32 = .ok (.istore 6, 2) := by decide +kernel
theorem dX12_carpetBehind_34 : decode cX12_carpetBehind 34 = .ok (.iload_n 2, 1) := by decide +kernel
theorem dX12_carpetBehind_35 : decode cX12_carpetBehind 35 = .ok (.aload_n 0, 1) := by decide +kernel
theorem dX12_carpetBehind_36 : decode cX12_carpetBehind 36 = .ok (.getfield 84, 3) := by decide +kernel
theorem dX12_carpetBehind_39 : decode cX12_carpetBehind 39 = .ok (.iload 5, 2) := by decide +kernel
theorem dX12_carpetBehind_41 : decode cX12_carpetBehind 41 = .ok (.iaload, 1) := by decide +kernel
theorem dX12_carpetBehind_42 : decode cX12_carpetBehind 42 = .ok (.bipush 12, 2) := by decide +kernel
theorem dX12_carpetBehind_44 : decode cX12_carpetBehind 44 = .ok (.irem, 1) := by decide +kernel
theorem dX12_carpetBehind_45 : decode cX12_carpetBehind 45 = .ok (.isub, 1) := by decide +kernel
theorem dX12_carpetBehind_46 : decode cX12_carpetBehind 46 = .ok (.iconst 0, 1) := by decide +kernel
theorem dX12_carpetBehind_47 : decode cX12_carpetBehind 47 = .ok (.iload 6, 2) := by decide +kernel
theorem dX12_carpetBehind_49 : decode cX12_carpetBehind 49 = .ok (.iconst 1, 1) := by decide +kernel
theorem dX12_carpetBehind_50 : decode cX12_carpetBehind 50 = .ok (.isub, 1) := by decide +kernel
theorem dX12_carpetBehind_51 : decode cX12_carpetBehind 51 = .ok (.invokestatic 18, 3) := by decide +kernel
theorem dX12_carpetBehind_54 : decode cX12_carpetBehind 54 = .ok (.ifCond .eq 30, 3) := by decide +kernel
theorem dX12_carpetBehind_57 : decode cX12_carpetBehind 57 = .ok (.iload_n 3, 1) := by decide +kernel
theorem dX12_carpetBehind_58 : decode cX12_carpetBehind 58 = .ok (.aload_n 0, 1) := by decide +kernel
theorem dX12_carpetBehind_59 : decode cX12_carpetBehind 59 = .ok (.getfield 84, 3) := by decide +kernel
theorem dX12_carpetBehind_62 : decode cX12_carpetBehind 62 = .ok (.iload 5, 2) := by decide +kernel
theorem dX12_carpetBehind_64 : decode cX12_carpetBehind 64 = .ok (.iaload, 1) := by decide +kernel
theorem dX12_carpetBehind_65 : decode cX12_carpetBehind 65 = .ok (.bipush 12, 2) := by decide +kernel
theorem dX12_carpetBehind_67 : decode cX12_carpetBehind 67 = .ok (.idiv, 1) := by decide +kernel
theorem dX12_carpetBehind_68 : decode cX12_carpetBehind 68 = .ok (.isub, 1) := by decide +kernel
theorem dX12_carpetBehind_69 : decode cX12_carpetBehind 69 = .ok (.iconst 0, 1) := by decide +kernel
theorem dX12_carpetBehind_70 : decode cX12_carpetBehind 70 = .ok (.iload 6, 2) := by decide +kernel
theorem dX12_carpetBehind_72 : decode cX12_carpetBehind 72 = .ok (.iconst 1, 1) := by decide +kernel
theorem dX12_carpetBehind_73 : decode cX12_carpetBehind 73 = .ok (.isub, 1) := by decide +kernel
theorem dX12_carpetBehind_74 : decode cX12_carpetBehind 74 = .ok (.invokestatic 18, 3) := by decide +kernel
theorem dX12_carpetBehind_77 : decode cX12_carpetBehind 77 = .ok (.ifCond .eq 7, 3) := by decide +kernel
theorem dX12_carpetBehind_80 : decode cX12_carpetBehind 80 = .ok (.iconst 1, 1) := by decide +kernel
theorem dX12_carpetBehind_81 : decode cX12_carpetBehind 81 = .ok (.goto 4, 3) := by decide +kernel
theorem dX12_carpetBehind_84 : decode cX12_carpetBehind 84 = .ok (.iconst 0, 1) := by decide +kernel
theorem dX12_carpetBehind_85 : decode cX12_carpetBehind 85 = .ok (.istore 7, 2) := by decide +kernel
theorem dX12_carpetBehind_87 : decode cX12_carpetBehind 87 = .ok (.iload 7, 2) := by decide +kernel
theorem dX12_carpetBehind_89 : decode cX12_carpetBehind 89 = .ok (.ifCond .eq 13, 3) := by decide +kernel
theorem dX12_carpetBehind_92 : decode cX12_carpetBehind 92 = .ok (.aload_n 0, 1) := by decide +kernel
theorem dX12_carpetBehind_93 : decode cX12_carpetBehind 93 = .ok (.getfield 81, 3) := by decide +kernel
theorem dX12_carpetBehind_96 : decode cX12_carpetBehind 96 = .ok (.iload 5, 2) := by decide +kernel
theorem dX12_carpetBehind_98 : decode cX12_carpetBehind 98 = .ok (.iaload, 1) := by decide +kernel
theorem dX12_carpetBehind_99 : decode cX12_carpetBehind 99 = .ok (.goto 5, 3) := by decide +kernel
theorem dX12_carpetBehind_102 : decode cX12_carpetBehind 102 = .ok (.iload 4, 2) := by decide +kernel
theorem dX12_carpetBehind_104 : decode cX12_carpetBehind 104 = .ok (.istore 4, 2) := by decide +kernel
theorem dX12_carpetBehind_106 : decode cX12_carpetBehind 106 = .ok (.iinc 5 1, 3) := by decide +kernel
theorem dX12_carpetBehind_109 : decode cX12_carpetBehind 109 = .ok (.goto (-98), 3) := by decide +kernel
theorem dX12_carpetBehind_112 : decode cX12_carpetBehind 112 = .ok (.iload 4, 2) := by decide +kernel
theorem dX12_carpetBehind_114 : decode cX12_carpetBehind 114 = .ok (.ireturn, 1) := by decide +kernel
theorem dX12_isSeenSo_0 : decode cX12_isSeenSo 0 = .ok (.iconst 1, 1) := by decide +kernel
theorem dX12_isSeenSo_1 : decode cX12_isSeenSo 1 = .ok (.istore_n 2, 1) := by decide +kernel
theorem dX12_isSeenSo_2 : decode cX12_isSeenSo 2 = .ok (.iconst 0, 1) := by decide +kernel
theorem dX12_isSeenSo_3 : decode cX12_isSeenSo 3 = .ok (.istore_n 3, 1) := by decide +kernel
theorem dX12_isSeenSo_4 : decode cX12_isSeenSo 4 = .ok (.iload_n 3, 1) := by decide +kernel
theorem dX12_isSeenSo_5 : decode cX12_isSeenSo 5 = .ok (.aload_n 0, 1) := by decide +kernel
theorem dX12_isSeenSo_6 : decode cX12_isSeenSo 6 = .ok (.getfield 28, 3) := by decide +kernel
theorem dX12_isSeenSo_9 : decode cX12_isSeenSo 9 = .ok (.bipush 70, 2) := by decide +kernel
theorem dX12_isSeenSo_11 : decode cX12_isSeenSo 11 = .ok (.iaload, 1) := by decide +kernel
theorem dX12_isSeenSo_12 : decode cX12_isSeenSo 12 = .ok (.if_icmp .ge 82, 3) := by decide +kernel
theorem dX12_isSeenSo_15 : decode cX12_isSeenSo 15 = .ok (.iload_n 2, 1) := by decide +kernel
theorem dX12_isSeenSo_16 : decode cX12_isSeenSo 16 = .ok (.ifCond .eq 78, 3) := by decide +kernel
theorem dX12_isSeenSo_19 : decode cX12_isSeenSo 19 = .ok (.aload_n 0, 1) := by decide +kernel
theorem dX12_isSeenSo_20 : decode cX12_isSeenSo 20 = .ok (.iload_n 1, 1) := by decide +kernel
theorem dX12_isSeenSo_21 : decode cX12_isSeenSo 21 = .ok (.aload_n 0, 1) := by decide +kernel
theorem dX12_isSeenSo_22 : decode cX12_isSeenSo 22 = .ok (.getfield 28, 3) := by decide +kernel
theorem dX12_isSeenSo_25 : decode cX12_isSeenSo 25 = .ok (.bipush 47, 2) := by decide +kernel
theorem dX12_isSeenSo_27 : decode cX12_isSeenSo 27 = .ok (.iconst 3, 1) := by decide +kernel
theorem dX12_isSeenSo_28 : decode cX12_isSeenSo 28 = .ok (.iload_n 3, 1) := by decide +kernel
theorem dX12_isSeenSo_29 : decode cX12_isSeenSo 29 = .ok (.imul, 1) := by decide +kernel
theorem dX12_isSeenSo_30 : decode cX12_isSeenSo 30 = .ok (.iadd, 1) := by decide +kernel
theorem dX12_isSeenSo_31 : decode cX12_isSeenSo 31 = .ok (.iaload, 1) := by decide +kernel
theorem dX12_isSeenSo_32 : decode cX12_isSeenSo 32 = .ok (.aload_n 0, 1) := by decide +kernel
theorem dX12_isSeenSo_33 : decode cX12_isSeenSo 33 = .ok (.getfield 28, 3) := by decide +kernel
theorem dX12_isSeenSo_36 : decode cX12_isSeenSo 36 = .ok (.bipush 47, 2) := by decide +kernel
theorem dX12_isSeenSo_38 : decode cX12_isSeenSo 38 = .ok (.iconst 3, 1) := by decide +kernel
theorem dX12_isSeenSo_39 : decode cX12_isSeenSo 39 = .ok (.iload_n 3, 1) := by decide +kernel
theorem dX12_isSeenSo_40 : decode cX12_isSeenSo 40 = .ok (.imul, 1) := by decide +kernel
theorem dX12_isSeenSo_41 : decode cX12_isSeenSo 41 = .ok (.iadd, 1) := by decide +kernel
theorem dX12_isSeenSo_42 : decode cX12_isSeenSo 42 = .ok (.iconst 1, 1) := by decide +kernel
theorem dX12_isSeenSo_43 : decode cX12_isSeenSo 43 = .ok (.iadd, 1) := by decide +kernel
theorem dX12_isSeenSo_44 : decode cX12_isSeenSo 44 = .ok (.iaload, 1) := by decide +kernel
theorem dX12_isSeenSo_45 : decode cX12_isSeenSo 45 = .ok (.invokevirtual 397, 3) := by decide +kernel
theorem dX12_isSeenSo_48 : decode cX12_isSeenSo 48 = .ok (.istore 4, 2) := by decide +kernel
theorem dX12_isSeenSo_50 : decode cX12_isSeenSo 50 = .ok (.iload 4, 2) := by decide +kernel
theorem dX12_isSeenSo_52 : decode cX12_isSeenSo 52 = .ok (.iconst (-1), 1) := by decide +kernel
theorem dX12_isSeenSo_53 : decode cX12_isSeenSo 53 = .ok (.if_icmp .eq 33, 3) := by decide +kernel
theorem dX12_isSeenSo_56 : decode cX12_isSeenSo 56 = .ok (.aload_n 0, 1) := by decide +kernel
theorem dX12_isSeenSo_57 : decode cX12_isSeenSo 57 = .ok (.getfield 28, 3) := by decide +kernel
theorem dX12_isSeenSo_60 : decode cX12_isSeenSo 60 = .ok (.bipush 29, 2) := by decide +kernel
theorem dX12_isSeenSo_62 : decode cX12_isSeenSo 62 = .ok (.iload 4, 2) := by decide +kernel
theorem dX12_isSeenSo_64 : decode cX12_isSeenSo 64 = .ok (.iadd, 1) := by decide +kernel
theorem dX12_isSeenSo_65 : decode cX12_isSeenSo 65 = .ok (.iaload, 1) := by decide +kernel
theorem dX12_isSeenSo_66 : decode cX12_isSeenSo 66 = .ok (.aload_n 0, 1) := by decide +kernel
theorem dX12_isSeenSo_67 : decode cX12_isSeenSo 67 = .ok (.getfield 28, 3) := by decide +kernel
theorem dX12_isSeenSo_70 : decode cX12_isSeenSo 70 = .ok (.bipush 47, 2) := by decide +kernel
theorem dX12_isSeenSo_72 : decode cX12_isSeenSo 72 = .ok (.iconst 3, 1) := by decide +kernel
theorem dX12_isSeenSo_73 : decode cX12_isSeenSo 73 = .ok (.iload_n 3, 1) := by decide +kernel
theorem dX12_isSeenSo_74 : decode cX12_isSeenSo 74 = .ok (.imul, 1) := by decide +kernel
theorem dX12_isSeenSo_75 : decode cX12_isSeenSo 75 = .ok (.iadd, 1) := by decide +kernel
theorem dX12_isSeenSo_76 : decode cX12_isSeenSo 76 = .ok (.iconst 2, 1) := by decide +kernel
theorem dX12_isSeenSo_77 : decode cX12_isSeenSo 77 = .ok (.iadd, 1) := by decide +kernel
theorem dX12_isSeenSo_78 : decode cX12_isSeenSo 78 = .ok (.iaload, 1) := by decide +kernel
theorem dX12_isSeenSo_79 : decode cX12_isSeenSo 79 = .ok (.if_icmp .ne 7, 3) := by decide +kernel
theorem dX12_isSeenSo_82 : decode cX12_isSeenSo 82 = .ok (.iconst 1, 1) := by decide +kernel
theorem dX12_isSeenSo_83 : decode cX12_isSeenSo 83 = .ok (.goto 4, 3) := by decide +kernel
theorem dX12_isSeenSo_86 : decode cX12_isSeenSo 86 = .ok (.iconst 0, 1) := by decide +kernel
theorem dX12_isSeenSo_87 : decode cX12_isSeenSo 87 = .ok (.istore_n 2, 1) := by decide +kernel
theorem dX12_isSeenSo_88 : decode cX12_isSeenSo 88 = .ok (.iinc 3 1, 3) := by decide +kernel
theorem dX12_isSeenSo_91 : decode cX12_isSeenSo 91 = .ok (.goto (-87), 3) := by decide +kernel
theorem dX12_isSeenSo_94 : decode cX12_isSeenSo 94 = .ok (.iload_n 2, 1) := by decide +kernel
theorem dX12_isSeenSo_95 : decode cX12_isSeenSo 95 = .ok (.ireturn, 1) := by decide +kernel
theorem dX12_countsRow_0 : decode cX12_countsRow 0 = .ok (.iconst 0, 1) := by decide +kernel
theorem dX12_countsRow_1 : decode cX12_countsRow 1 = .ok (.istore_n 2, 1) := by decide +kernel
theorem dX12_countsRow_2 : decode cX12_countsRow 2 = .ok (.iload_n 2, 1) := by decide +kernel
theorem dX12_countsRow_3 : decode cX12_countsRow 3 = .ok (.iload_n 1, 1) := by decide +kernel
theorem dX12_countsRow_4 : decode cX12_countsRow 4 = .ok (.if_icmp .ge 79, 3) := by decide +kernel
theorem dX12_countsRow_7 : decode cX12_countsRow 7 = .ok (.aload_n 0, 1) := by decide +kernel
theorem dX12_countsRow_8 : decode cX12_countsRow 8 = .ok (.getfield 28, 3) := by decide +kernel
theorem dX12_countsRow_11 : decode cX12_countsRow 11 = .ok (.bipush 29, 2) := by decide +kernel
theorem dX12_countsRow_13 : decode cX12_countsRow 13 = .ok (.aload_n 0, 1) := by decide +kernel
theorem dX12_countsRow_14 : decode cX12_countsRow 14 = .ok (.getfield 81, 3) := by decide +kernel
theorem dX12_countsRow_17 : decode cX12_countsRow 17 = .ok (.iload_n 2, 1) := by decide +kernel
theorem dX12_countsRow_18 : decode cX12_countsRow 18 = .ok (.iaload, 1) := by decide +kernel
theorem dX12_countsRow_19 : decode cX12_countsRow 19 = .ok (.iadd, 1) := by decide +kernel
theorem dX12_countsRow_20 : decode cX12_countsRow 20 = .ok (.iaload, 1) := by decide +kernel
theorem dX12_countsRow_21 : decode cX12_countsRow 21 = .ok (.istore_n 3, 1) := by decide +kernel
theorem dX12_countsRow_22 : decode cX12_countsRow 22 = .ok (.iconst 0, 1) := by decide +kernel
theorem dX12_countsRow_23 : decode cX12_countsRow 23 = .ok (.istore 4, 2) := by decide +kernel
theorem dX12_countsRow_25 : decode cX12_countsRow 25 = .ok (.iload 4, 2) := by decide +kernel
theorem dX12_countsRow_27 : decode cX12_countsRow 27 = .ok (.iload_n 3, 1) := by decide +kernel
theorem dX12_countsRow_28 : decode cX12_countsRow 28 = .ok (.iload_n 3, 1) := by decide +kernel
theorem dX12_countsRow_29 : decode cX12_countsRow 29 = .ok (.imul, 1) := by decide +kernel
theorem dX12_countsRow_30 : decode cX12_countsRow 30 = .ok (.if_icmp .ge 47, 3) := by decide +kernel
theorem dX12_countsRow_33 : decode cX12_countsRow 33 = .ok (.aload_n 0, 1) := by decide +kernel
theorem dX12_countsRow_34 : decode cX12_countsRow 34 = .ok (.getfield 90, 3) := by decide +kernel
theorem dX12_countsRow_37 : decode cX12_countsRow 37 = .ok (.bipush 9, 2) := by decide +kernel
theorem dX12_countsRow_39 : decode cX12_countsRow 39 = .ok (.aload_n 0, 1) := by decide +kernel
theorem dX12_countsRow_40 : decode cX12_countsRow 40 = .ok (.getfield 84, 3) := by decide +kernel
theorem dX12_countsRow_43 : decode cX12_countsRow 43 = .ok (.iload_n 2, 1) := by decide +kernel
theorem dX12_countsRow_44 : decode cX12_countsRow 44 = .ok (.iaload, 1) := by decide +kernel
theorem dX12_countsRow_45 : decode cX12_countsRow 45 = .ok (.iload 4, 2) := by decide +kernel
theorem dX12_countsRow_47 : decode cX12_countsRow 47 = .ok (.iload_n 3, 1) := by decide +kernel
theorem dX12_countsRow_48 : decode cX12_countsRow 48 = .ok (.idiv, 1) := by decide +kernel
theorem dX12_countsRow_49 : decode cX12_countsRow 49 = .ok (.bipush 12, 2) := by decide +kernel
theorem dX12_countsRow_51 : decode cX12_countsRow 51 = .ok (.imul, 1) := by decide +kernel
theorem dX12_countsRow_52 : decode cX12_countsRow 52 = .ok (.iadd, 1) := by decide +kernel
theorem dX12_countsRow_53 : decode cX12_countsRow 53 = .ok (.iload 4, 2) := by decide +kernel
theorem dX12_countsRow_55 : decode cX12_countsRow 55 = .ok (.iload_n 3, 1) := by decide +kernel
theorem dX12_countsRow_56 : decode cX12_countsRow 56 = .ok (.irem, 1) := by decide +kernel
theorem dX12_countsRow_57 : decode cX12_countsRow 57 = .ok (.iadd, 1) := by decide +kernel
theorem dX12_countsRow_58 : decode cX12_countsRow 58 = .ok (.imul, 1) := by decide +kernel
theorem dX12_countsRow_59 : decode cX12_countsRow 59 = .ok (.aload_n 0, 1) := by decide +kernel
theorem dX12_countsRow_60 : decode cX12_countsRow 60 = .ok (.getfield 81, 3) := by decide +kernel
theorem dX12_countsRow_63 : decode cX12_countsRow 63 = .ok (.iload_n 2, 1) := by decide +kernel
theorem dX12_countsRow_64 : decode cX12_countsRow 64 = .ok (.iaload, 1) := by decide +kernel
theorem dX12_countsRow_65 : decode cX12_countsRow 65 = .ok (.iadd, 1) := by decide +kernel
theorem dX12_countsRow_66 : decode cX12_countsRow 66 = .ok (.dup2, 1) := by decide +kernel
theorem dX12_countsRow_67 : decode cX12_countsRow 67 = .ok (.iaload, 1) := by decide +kernel
theorem dX12_countsRow_68 : decode cX12_countsRow 68 = .ok (.iconst 1, 1) := by decide +kernel
theorem dX12_countsRow_69 : decode cX12_countsRow 69 = .ok (.iadd, 1) := by decide +kernel
theorem dX12_countsRow_70 : decode cX12_countsRow 70 = .ok (.iastore, 1) := by decide +kernel
theorem dX12_countsRow_71 : decode cX12_countsRow 71 = .ok (.iinc 4 1, 3) := by decide +kernel
theorem dX12_countsRow_74 : decode cX12_countsRow 74 = .ok (.goto (-49), 3) := by decide +kernel
theorem dX12_countsRow_77 : decode cX12_countsRow 77 = .ok (.iinc 2 1, 3) := by decide +kernel
theorem dX12_countsRow_80 : decode cX12_countsRow 80 = .ok (.goto (-78), 3) := by decide +kernel
theorem dX12_countsRow_83 : decode cX12_countsRow 83 = .ok (.return_, 1) := by decide +kernel
theorem dX12_fills_0 : decode cX12_fills 0 = .ok (.aload_n 0, 1) := by decide +kernel
theorem dX12_fills_1 : decode cX12_fills 1 = .ok (.getfield 400, 3) := by decide +kernel
theorem dX12_fills_4 : decode cX12_fills 4 = .ok (.ifCond .eq 12, 3) := by decide +kernel
theorem dX12_fills_7 : decode cX12_fills 7 = .ok (.aload_n 0, 1) := by decide +kernel
theorem dX12_fills_8 : decode cX12_fills 8 = .ok (.iload_n 1, 1) := by decide +kernel
theorem dX12_fills_9 : decode cX12_fills 9 = .ok (.invokevirtual 403, 3) := by decide +kernel
theorem dX12_fills_12 : decode cX12_fills 12 = .ok (.ifCond .ne 4, 3) := by decide +kernel
theorem dX12_fills_15 : decode cX12_fills 15 = .ok (.return_, 1) := by decide +kernel
theorem dX12_fills_16 : decode cX12_fills 16 = .ok (.aload_n 0, 1) := by decide +kernel
theorem dX12_fills_17 : decode cX12_fills 17 = .ok (.dup, 1) := by decide +kernel
theorem dX12_fills_18 : decode cX12_fills 18 = .ok (.getfield 406, 3) := by decide +kernel
theorem dX12_fills_21 : decode cX12_fills 21 = .ok (.iconst 1, 1) := by decide +kernel
theorem dX12_fills_22 : decode cX12_fills 22 = .ok (.iadd, 1) := by decide +kernel
theorem dX12_fills_23 : decode cX12_fills 23 = .ok (.putfield 406, 3) := by decide +kernel
theorem dX12_fills_26 : decode cX12_fills 26 = .ok (.aload_n 0, 1) := by decide +kernel
theorem dX12_fills_27 : decode cX12_fills 27 = .ok (.aload_n 0, 1) := by decide +kernel
theorem dX12_fills_28 : decode cX12_fills 28 = .ok (.getfield 409, 3) := by decide +kernel
theorem dX12_fills_31 : decode cX12_fills 31 = .ok (.iload_n 2, 1) := by decide +kernel
theorem dX12_fills_32 : decode cX12_fills 32 = .ok (.invokestatic 364, 3) := by decide +kernel
theorem dX12_fills_35 : decode cX12_fills 35 = .ok (.putfield 409, 3) := by decide +kernel
theorem dX12_fills_38 : decode cX12_fills 38 = .ok (.aload_n 0, 1) := by decide +kernel
theorem dX12_fills_39 : decode cX12_fills 39 = .ok (.getfield 400, 3) := by decide +kernel
theorem dX12_fills_42 : decode cX12_fills 42 = .ok (.ifCond .eq 8, 3) := by decide +kernel
theorem dX12_fills_45 : decode cX12_fills 45 = .ok (.aload_n 0, 1) := by decide +kernel
theorem dX12_fills_46 : decode cX12_fills 46 = .ok (.iload_n 1, 1) := by decide +kernel
theorem dX12_fills_47 : decode cX12_fills 47 = .ok (.invokevirtual 412, 3) := by decide +kernel
theorem dX12_fills_50 : decode cX12_fills 50 = .ok (.aload_n 0, 1) := by decide +kernel
theorem dX12_fills_51 : decode cX12_fills 51 = .ok (.getfield 406, 3) := by decide +kernel
theorem dX12_fills_54 : decode cX12_fills 54 = .ok (.iconst 1, 1) := by decide +kernel
theorem dX12_fills_55 : decode cX12_fills 55 = .ok (.if_icmp .le 4, 3) := by decide +kernel
theorem dX12_fills_58 : decode cX12_fills 58 = .ok (.return_, 1) := by decide +kernel
theorem dX12_fills_59 : decode cX12_fills 59 = .ok (.aload_n 0, 1) := by decide +kernel
theorem dX12_fills_60 : decode cX12_fills 60 = .ok (.iload_n 1, 1) := by decide +kernel
theorem dX12_fills_61 : decode cX12_fills 61 = .ok (.putfield 415, 3) := by decide +kernel
theorem dX12_fills_64 : decode cX12_fills 64 = .ok (.iconst 0, 1) := by decide +kernel
theorem dX12_fills_65 : decode cX12_fills 65 = .ok (.istore_n 3, 1) := by decide +kernel
theorem dX12_fills_66 : decode cX12_fills 66 = .ok (.iload_n 3, 1) := by decide +kernel
theorem dX12_fills_67 : decode cX12_fills 67 = .ok (.iload_n 1, 1) := by decide +kernel
theorem dX12_fills_68 : decode cX12_fills 68 = .ok (.if_icmp .ge 21, 3) := by decide +kernel
theorem dX12_fills_71 : decode cX12_fills 71 = .ok (.aload_n 0, 1) := by decide +kernel
theorem dX12_fills_72 : decode cX12_fills 72 = .ok (.getfield 87, 3) := by decide +kernel
theorem dX12_fills_75 : decode cX12_fills 75 = .ok (.iload_n 3, 1) := by decide +kernel
theorem dX12_fills_76 : decode cX12_fills 76 = .ok (.aload_n 0, 1) := by decide +kernel
theorem dX12_fills_77 : decode cX12_fills 77 = .ok (.getfield 81, 3) := by decide +kernel
theorem dX12_fills_80 : decode cX12_fills 80 = .ok (.iload_n 3, 1) := by decide +kernel
theorem dX12_fills_81 : decode cX12_fills 81 = .ok (.iaload, 1) := by decide +kernel
theorem dX12_fills_82 : decode cX12_fills 82 = .ok (.iastore, 1) := by decide +kernel
theorem dX12_fills_83 : decode cX12_fills 83 = .ok (.iinc 3 1, 3) := by decide +kernel
theorem dX12_fills_86 : decode cX12_fills 86 = .ok (.goto (-20), 3) := by decide +kernel
theorem dX12_fills_89 : decode cX12_fills 89 = .ok (.return_, 1) := by decide +kernel
theorem dX12_goesOn_0 : decode cX12_goesOn 0 = .ok (.aload_n 0, 1) := by decide +kernel
theorem dX12_goesOn_1 : decode cX12_goesOn 1 = .ok (.getfield 418, 3) := by decide +kernel
theorem dX12_goesOn_4 : decode cX12_goesOn 4 = .ok (.ifCond .eq 11, 3) := by decide +kernel
theorem dX12_goesOn_7 : decode cX12_goesOn 7 = .ok (.aload_n 0, 1) := by decide +kernel
theorem dX12_goesOn_8 : decode cX12_goesOn 8 = .ok (.getfield 406, 3) := by decide +kernel
theorem dX12_goesOn_11 : decode cX12_goesOn 11 = .ok (.ifCond .le 4, 3) := by decide +kernel
theorem dX12_goesOn_14 : decode cX12_goesOn 14 = .ok (.return_, 1) := by decide +kernel
theorem dX12_goesOn_15 : decode cX12_goesOn 15 = .ok (.aload_n 0, 1) := by decide +kernel
theorem dX12_goesOn_16 : decode cX12_goesOn 16 = .ok (.aload_n 0, 1) := by decide +kernel
theorem dX12_goesOn_17 : decode cX12_goesOn 17 = .ok (.getfield 421, 3) := by decide +kernel
theorem dX12_goesOn_20 : decode cX12_goesOn 20 = .ok (.aload_n 0, 1) := by decide +kernel
theorem dX12_goesOn_21 : decode cX12_goesOn 21 = .ok (.getfield 424, 3) := by decide +kernel
theorem dX12_goesOn_24 : decode cX12_goesOn 24 = .ok (.invokevirtual 354, 3) := by decide +kernel
theorem dX12_goesOn_27 : decode cX12_goesOn 27 = .ok (.istore 4, 2) := by decide +kernel
theorem dX12_goesOn_29 : decode cX12_goesOn 29 = .ok (.iload 4, 2) := by decide +kernel
theorem dX12_goesOn_31 : decode cX12_goesOn 31 = .ok (.iconst (-1), 1) := by decide +kernel
theorem dX12_goesOn_32 : decode cX12_goesOn 32 = .ok (.if_icmp .ne 10, 3) := by decide +kernel
theorem dX12_goesOn_35 : decode cX12_goesOn 35 = .ok (.aload_n 0, 1) := by decide +kernel
theorem dX12_goesOn_36 : decode cX12_goesOn 36 = .ok (.iload_n 2, 1) := by decide +kernel
theorem dX12_goesOn_37 : decode cX12_goesOn 37 = .ok (.iload_n 3, 1) := by decide +kernel
theorem dX12_goesOn_38 : decode cX12_goesOn 38 = .ok (.invokevirtual 427, 3) := by decide +kernel
theorem dX12_goesOn_41 : decode cX12_goesOn 41 = .ok (.return_, 1) := by decide +kernel
theorem dX12_goesOn_42 : decode cX12_goesOn 42 = .ok (.iload 4, 2) := by decide +kernel
theorem dX12_goesOn_44 : decode cX12_goesOn 44 = .ok (.bipush 12, 2) := by decide +kernel
theorem dX12_goesOn_46 : decode cX12_goesOn 46 = .ok (.irem, 1) := by decide +kernel
theorem dX12_goesOn_47 : decode cX12_goesOn 47 = .ok (.istore 5, 2) := by decide +kernel
theorem dX12_goesOn_49 : decode cX12_goesOn 49 = .ok (.iload 4, 2) := by decide +kernel
theorem dX12_goesOn_51 : decode cX12_goesOn 51 = .ok (.bipush 12, 2) := by decide +kernel
theorem dX12_goesOn_53 : decode cX12_goesOn 53 = .ok (.idiv, 1) := by decide +kernel
theorem dX12_goesOn_54 : decode cX12_goesOn 54 = .ok (.istore 6, 2) := by decide +kernel
theorem dX12_goesOn_56 : decode cX12_goesOn 56 = .ok (.iconst 0, 1) := by decide +kernel
theorem dX12_goesOn_57 : decode cX12_goesOn 57 = .ok (.istore 7, 2) := by decide +kernel
theorem dX12_goesOn_59 : decode cX12_goesOn 59 = .ok (.iload 7, 2) := by decide +kernel
theorem dX12_goesOn_61 : decode cX12_goesOn 61 = .ok (.aload_n 0, 1) := by decide +kernel
theorem dX12_goesOn_62 : decode cX12_goesOn 62 = .ok (.invokevirtual 115, 3) := by decide +kernel
theorem dX12_goesOn_65 : decode cX12_goesOn 65 = .ok (.if_icmp .ge 139, 3) := by decide +kernel
theorem dX12_goesOn_68 : decode cX12_goesOn 68 = .ok (.iload_n 1, 1) := by decide +kernel
theorem dX12_goesOn_69 : decode cX12_goesOn 69 = .ok (.iload 7, 2) := by decide +kernel
theorem dX12_goesOn_71 : decode cX12_goesOn 71 = .ok (.invokestatic 348, 3) := by decide +kernel
theorem dX12_goesOn_74 : decode cX12_goesOn 74 = .ok (.ifCond .eq 124, 3) := by decide +kernel
theorem dX12_goesOn_77 : decode cX12_goesOn 77 = .ok (.aload_n 0, 1) := by decide +kernel
theorem dX12_goesOn_78 : decode cX12_goesOn 78 = .ok (.iload 7, 2) := by decide +kernel
theorem dX12_goesOn_80 : decode cX12_goesOn 80 = .ok (.iload 4, 2) := by decide +kernel
theorem dX12_goesOn_82 : decode cX12_goesOn 82 = .ok (.invokevirtual 430, 3) := by decide +kernel
theorem dX12_goesOn_85 : decode cX12_goesOn 85 = .ok (.iconst (-1), 1) := by decide +kernel
theorem dX12_goesOn_86 : decode cX12_goesOn 86 = .ok (.if_icmp .eq 112, 3) := by decide +kernel
theorem dX12_goesOn_89 : decode cX12_goesOn 89 = .ok (.aload_n 0, 1) := by decide +kernel
theorem dX12_goesOn_90 : decode cX12_goesOn 90 = .ok (.aload_n 0, 1) := by decide +kernel
theorem dX12_goesOn_91 : decode cX12_goesOn 91 = .ok (.getfield 28, 3) := by decide +kernel
theorem dX12_goesOn_94 : decode cX12_goesOn 94 = .ok (.bipush 29, 2) := by decide +kernel
theorem dX12_goesOn_96 : decode cX12_goesOn 96 = .ok (.iload 7, 2) := by decide +kernel
theorem dX12_goesOn_98 : decode cX12_goesOn 98 = .ok (.iadd, 1) := by decide +kernel
theorem dX12_goesOn_99 : decode cX12_goesOn 99 = .ok (.iaload, 1) := by decide +kernel
theorem dX12_goesOn_100 : decode cX12_goesOn 100 = .ok (.iload 5, 2) := by decide +kernel
theorem dX12_goesOn_102 : decode cX12_goesOn 102 = .ok (.iload 6, 2) := by decide +kernel
theorem dX12_goesOn_104 : decode cX12_goesOn 104 = .ok (.aload_n 0, 1) := by decide +kernel
theorem dX12_goesOn_105 : decode cX12_goesOn 105 = .ok (.getfield 421, 3) := by decide +kernel
theorem dX12_goesOn_108 : decode cX12_goesOn 108 = .ok (.aload_n 0, 1) := by decide +kernel
theorem dX12_goesOn_109 : decode cX12_goesOn 109 = .ok (.getfield 424, 3) := by decide +kernel
theorem dX12_goesOn_112 : decode cX12_goesOn 112 = .ok (.invokevirtual 360, 3) := by decide +kernel
theorem dX12_goesOn_115 : decode cX12_goesOn 115 = .ok (.ifCond .ne 6, 3) := by decide +kernel
theorem dX12_goesOn_118 : decode cX12_goesOn 118 = .ok (.goto 80, 3) := by decide +kernel
theorem dX12_goesOn_121 : decode cX12_goesOn 121 = .ok (.aload_n 0, 1) := by decide +kernel
theorem dX12_goesOn_122 : decode cX12_goesOn 122 = .ok (.aload_n 0, 1) := by decide +kernel
theorem dX12_goesOn_123 : decode cX12_goesOn 123 = .ok (.getfield 28, 3) := by decide +kernel
theorem dX12_goesOn_126 : decode cX12_goesOn 126 = .ok (.bipush 29, 2) := by decide +kernel
theorem dX12_goesOn_128 : decode cX12_goesOn 128 = .ok (.iload 7, 2) := by decide +kernel
theorem dX12_goesOn_130 : decode cX12_goesOn 130 = .ok (.iadd, 1) := by decide +kernel
theorem dX12_goesOn_131 : decode cX12_goesOn 131 = .ok (.iaload, 1) := by decide +kernel
theorem dX12_goesOn_132 : decode cX12_goesOn 132 = .ok (.iload 5, 2) := by decide +kernel
theorem dX12_goesOn_134 : decode cX12_goesOn 134 = .ok (.iload 6, 2) := by decide +kernel
theorem dX12_goesOn_136 : decode cX12_goesOn 136 = .ok (.invokevirtual 345, 3) := by decide +kernel
theorem dX12_goesOn_139 : decode cX12_goesOn 139 = .ok (.aload_n 0, 1) := by decide +kernel
theorem dX12_goesOn_140 : decode cX12_goesOn 140 = .ok (.getfield 81, 3) := by decide +kernel
theorem dX12_goesOn_143 : decode cX12_goesOn 143 = .ok (.iload_n 2, 1) := by decide +kernel
theorem dX12_goesOn_144 : decode cX12_goesOn 144 = .ok (.iload 7, 2) := by decide +kernel
theorem dX12_goesOn_146 : decode cX12_goesOn 146 = .ok (.iastore, 1) := by decide +kernel
theorem dX12_goesOn_147 : decode cX12_goesOn 147 = .ok (.aload_n 0, 1) := by decide +kernel
theorem dX12_goesOn_148 : decode cX12_goesOn 148 = .ok (.getfield 84, 3) := by decide +kernel
theorem dX12_goesOn_151 : decode cX12_goesOn 151 = .ok (.iload_n 2, 1) := by decide +kernel
theorem dX12_goesOn_152 : decode cX12_goesOn 152 = .ok (.iload 4, 2) := by decide +kernel
theorem dX12_goesOn_154 : decode cX12_goesOn 154 = .ok (.iastore, 1) := by decide +kernel
theorem dX12_goesOn_155 : decode cX12_goesOn 155 = .ok (.aload_n 0, 1) := by decide +kernel
theorem dX12_goesOn_156 : decode cX12_goesOn 156 = .ok (.iload_n 1, 1) := by decide +kernel
theorem dX12_goesOn_157 : decode cX12_goesOn 157 = .ok (.iconst 1, 1) := by decide +kernel
theorem dX12_goesOn_158 : decode cX12_goesOn 158 = .ok (.iload 7, 2) := by decide +kernel
theorem dX12_goesOn_160 : decode cX12_goesOn 160 = .ok (.ishl, 1) := by decide +kernel
theorem dX12_goesOn_161 : decode cX12_goesOn 161 = .ok (.iconst (-1), 1) := by decide +kernel
theorem dX12_goesOn_162 : decode cX12_goesOn 162 = .ok (.ixor, 1) := by decide +kernel
theorem dX12_goesOn_163 : decode cX12_goesOn 163 = .ok (.iand, 1) := by decide +kernel
theorem dX12_goesOn_164 : decode cX12_goesOn 164 = .ok (.iload_n 2, 1) := by decide +kernel
theorem dX12_goesOn_165 : decode cX12_goesOn 165 = .ok (.iconst 1, 1) := by decide +kernel
theorem dX12_goesOn_166 : decode cX12_goesOn 166 = .ok (.iadd, 1) := by decide +kernel
theorem dX12_goesOn_167 : decode cX12_goesOn 167 = .ok (.iload_n 3, 1) := by decide +kernel
theorem dX12_goesOn_168 : decode cX12_goesOn 168 = .ok (.aload_n 0, 1) := by decide +kernel
theorem dX12_goesOn_169 : decode cX12_goesOn 169 = .ok (.iload 7, 2) := by decide +kernel
theorem dX12_goesOn_171 : decode cX12_goesOn 171 = .ok (.iload 4, 2) := by decide +kernel
theorem dX12_goesOn_173 : decode cX12_goesOn 173 = .ok (.invokevirtual 430, 3) := by decide +kernel
theorem dX12_goesOn_176 : decode cX12_goesOn 176 = .ok (.iadd, 1) := by decide +kernel
theorem dX12_goesOn_177 : decode cX12_goesOn 177 = .ok (.invokevirtual 433, 3) := by decide +kernel
theorem dX12_goesOn_180 : decode cX12_goesOn 180 = .ok (.aload_n 0, 1) := by decide +kernel
theorem dX12_goesOn_181 : decode cX12_goesOn 181 = .ok (.aload_n 0, 1) := by decide +kernel
theorem dX12_goesOn_182 : decode cX12_goesOn 182 = .ok (.getfield 28, 3) := by decide +kernel
theorem dX12_goesOn_185 : decode cX12_goesOn 185 = .ok (.bipush 29, 2) := by decide +kernel
theorem dX12_goesOn_187 : decode cX12_goesOn 187 = .ok (.iload 7, 2) := by decide +kernel
theorem dX12_goesOn_189 : decode cX12_goesOn 189 = .ok (.iadd, 1) := by decide +kernel
theorem dX12_goesOn_190 : decode cX12_goesOn 190 = .ok (.iaload, 1) := by decide +kernel
theorem dX12_goesOn_191 : decode cX12_goesOn 191 = .ok (.iload 5, 2) := by decide +kernel
theorem dX12_goesOn_193 : decode cX12_goesOn 193 = .ok (.iload 6, 2) := by decide +kernel
theorem dX12_goesOn_195 : decode cX12_goesOn 195 = .ok (.invokevirtual 345, 3) := by decide +kernel
theorem dX12_goesOn_198 : decode cX12_goesOn 198 = .ok (.iinc 7 1, 3) := by decide +kernel
theorem dX12_goesOn_201 : decode cX12_goesOn 201 = .ok (.goto (-142), 3) := by decide +kernel
theorem dX12_goesOn_204 : decode cX12_goesOn 204 = .ok (.return_, 1) := by decide +kernel
theorem dX12_goesThrough_0 : decode cX12_goesThrough 0 = .ok (.aload_n 0, 1) := by decide +kernel
theorem dX12_goesThrough_1 : decode cX12_goesThrough 1 = .ok (.iload_n 2, 1) := by decide +kernel
theorem dX12_goesThrough_2 : decode cX12_goesThrough 2 = .ok (.putfield 421, 3) := by decide +kernel
theorem dX12_goesThrough_5 : decode cX12_goesThrough 5 = .ok (.aload_n 0, 1) := by decide +kernel
theorem dX12_goesThrough_6 : decode cX12_goesThrough 6 = .ok (.iload_n 3, 1) := by decide +kernel
theorem dX12_goesThrough_7 : decode cX12_goesThrough 7 = .ok (.putfield 424, 3) := by decide +kernel
theorem dX12_goesThrough_10 : decode cX12_goesThrough 10 = .ok (.aload_n 0, 1) := by decide +kernel
theorem dX12_goesThrough_11 : decode cX12_goesThrough 11 = .ok (.iconst 0, 1) := by decide +kernel
theorem dX12_goesThrough_12 : decode cX12_goesThrough 12 = .ok (.putfield 406, 3) := by decide +kernel
theorem dX12_goesThrough_15 : decode cX12_goesThrough 15 = .ok (.aload_n 0, 1) := by decide +kernel
theorem dX12_goesThrough_16 : decode cX12_goesThrough 16 = .ok (.iconst 0, 1) := by decide +kernel
theorem dX12_goesThrough_17 : decode cX12_goesThrough 17 = .ok (.putfield 415, 3) := by decide +kernel
theorem dX12_goesThrough_20 : decode cX12_goesThrough 20 = .ok (.aload_n 0, 1) := by decide +kernel
theorem dX12_goesThrough_21 : decode cX12_goesThrough 21 = .ok (.ldc 188, 2) := by decide +kernel
theorem dX12_goesThrough_23 : decode cX12_goesThrough 23 = .ok (.putfield 409, 3) := by decide +kernel
theorem dX12_goesThrough_26 : decode cX12_goesThrough 26 = .ok (.aload_n 0, 1) := by decide +kernel
theorem dX12_goesThrough_27 : decode cX12_goesThrough 27 = .ok (.iload_n 1, 1) := by decide +kernel
theorem dX12_goesThrough_28 : decode cX12_goesThrough 28 = .ok (.iconst 0, 1) := by decide +kernel
theorem dX12_goesThrough_29 : decode cX12_goesThrough 29 = .ok (.iconst 0, 1) := by decide +kernel
theorem dX12_goesThrough_30 : decode cX12_goesThrough 30 = .ok (.invokevirtual 433, 3) := by decide +kernel
theorem dX12_goesThrough_33 : decode cX12_goesThrough 33 = .ok (.return_, 1) := by decide +kernel
theorem dX12_fillsNow_0 : decode cX12_fillsNow 0 = .ok (.aload_n 0, 1) := by decide +kernel
theorem dX12_fillsNow_1 : decode cX12_fillsNow 1 = .ok (.invokevirtual 436, 3) := by decide +kernel
theorem dX12_fillsNow_4 : decode cX12_fillsNow 4 = .ok (.istore_n 2, 1) := by decide +kernel
theorem dX12_fillsNow_5 : decode cX12_fillsNow 5 = .ok (.aload_n 0, 1) := by decide +kernel
theorem dX12_fillsNow_6 : decode cX12_fillsNow 6 = .ok (.iload_n 2, 1) := by decide +kernel
theorem dX12_fillsNow_7 : decode cX12_fillsNow 7 = .ok (.invokevirtual 439, 3) := by decide +kernel
theorem dX12_fillsNow_10 : decode cX12_fillsNow 10 = .ok (.aload_n 0, 1) := by decide +kernel
theorem dX12_fillsNow_11 : decode cX12_fillsNow 11 = .ok (.invokevirtual 351, 3) := by decide +kernel
theorem dX12_fillsNow_14 : decode cX12_fillsNow 14 = .ok (.aload_n 0, 1) := by decide +kernel
theorem dX12_fillsNow_15 : decode cX12_fillsNow 15 = .ok (.iload_n 1, 1) := by decide +kernel
theorem dX12_fillsNow_16 : decode cX12_fillsNow 16 = .ok (.putfield 400, 3) := by decide +kernel
theorem dX12_fillsNow_19 : decode cX12_fillsNow 19 = .ok (.aload_n 0, 1) := by decide +kernel
theorem dX12_fillsNow_20 : decode cX12_fillsNow 20 = .ok (.iconst 0, 1) := by decide +kernel
theorem dX12_fillsNow_21 : decode cX12_fillsNow 21 = .ok (.putfield 418, 3) := by decide +kernel
theorem dX12_fillsNow_24 : decode cX12_fillsNow 24 = .ok (.aload_n 0, 1) := by decide +kernel
theorem dX12_fillsNow_25 : decode cX12_fillsNow 25 = .ok (.iload_n 2, 1) := by decide +kernel
theorem dX12_fillsNow_26 : decode cX12_fillsNow 26 = .ok (.aload_n 0, 1) := by decide +kernel
theorem dX12_fillsNow_27 : decode cX12_fillsNow 27 = .ok (.getfield 28, 3) := by decide +kernel
theorem dX12_fillsNow_30 : decode cX12_fillsNow 30 = .ok (.bipush 67, 2) := by decide +kernel
theorem dX12_fillsNow_32 : decode cX12_fillsNow 32 = .ok (.iaload, 1) := by decide +kernel
theorem dX12_fillsNow_33 : decode cX12_fillsNow 33 = .ok (.aload_n 0, 1) := by decide +kernel
theorem dX12_fillsNow_34 : decode cX12_fillsNow 34 = .ok (.getfield 28, 3) := by decide +kernel
theorem dX12_fillsNow_37 : decode cX12_fillsNow 37 = .ok (.bipush 68, 2) := by decide +kernel
theorem dX12_fillsNow_39 : decode cX12_fillsNow 39 = .ok (.iaload, 1) := by decide +kernel
theorem dX12_fillsNow_40 : decode cX12_fillsNow 40 = .ok (.invokevirtual 442, 3) := by decide +kernel
theorem dX12_fillsNow_43 : decode cX12_fillsNow 43 = .ok (.return_, 1) := by decide +kernel
theorem dX12_fill_0 : decode cX12_fill 0 = .ok (.iload_n 1, 1) := by decide +kernel
theorem dX12_fill_1 : decode cX12_fill 1 = .ok (.iconst (-1), 1) := by decide +kernel
theorem dX12_fill_2 : decode cX12_fill 2 = .ok (.if_icmp .ge 5, 3) := by decide +kernel
theorem dX12_fill_5 : decode cX12_fill 5 = .ok (.iconst (-1), 1) := by decide +kernel
theorem dX12_fill_6 : decode cX12_fill 6 = .ok (.ireturn, 1) := by decide +kernel
theorem dX12_fill_7 : decode cX12_fill 7 = .ok (.aload_n 0, 1) := by decide +kernel
theorem dX12_fill_8 : decode cX12_fill 8 = .ok (.iconst 0, 1) := by decide +kernel
theorem dX12_fill_9 : decode cX12_fill 9 = .ok (.invokevirtual 445, 3) := by decide +kernel
theorem dX12_fill_12 : decode cX12_fill 12 = .ok (.aload_n 0, 1) := by decide +kernel
theorem dX12_fill_13 : decode cX12_fill 13 = .ok (.getfield 406, 3) := by decide +kernel
theorem dX12_fill_16 : decode cX12_fill 16 = .ok (.ifCond .ne 5, 3) := by decide +kernel
theorem dX12_fill_19 : decode cX12_fill 19 = .ok (.iconst (-1), 1) := by decide +kernel
theorem dX12_fill_20 : decode cX12_fill 20 = .ok (.ireturn, 1) := by decide +kernel
theorem dX12_fill_21 : decode cX12_fill 21 = .ok (.iload_n 1, 1) := by decide +kernel
theorem dX12_fill_22 : decode cX12_fill 22 = .ok (.iconst (-1), 1) := by decide +kernel
theorem dX12_fill_23 : decode cX12_fill 23 = .ok (.if_icmp .ne 10, 3) := by decide +kernel
theorem dX12_fill_26 : decode cX12_fill 26 = .ok (.aload_n 0, 1) := by decide +kernel
theorem dX12_fill_27 : decode cX12_fill 27 = .ok (.getfield 415, 3) := by decide +kernel
theorem dX12_fill_30 : decode cX12_fill 30 = .ok (.goto 21, 3) := by decide +kernel
theorem dX12_fill_33 : decode cX12_fill 33 = .ok (.iload_n 1, 1) := by decide +kernel
theorem dX12_fill_34 : decode cX12_fill 34 = .ok (.aload_n 0, 1) := by decide +kernel
theorem dX12_fill_35 : decode cX12_fill 35 = .ok (.getfield 415, 3) := by decide +kernel
theorem dX12_fill_38 : decode cX12_fill 38 = .ok (.if_icmp .ge 12, 3) := by decide +kernel
theorem dX12_fill_41 : decode cX12_fill 41 = .ok (.aload_n 0, 1) := by decide +kernel
theorem dX12_fill_42 : decode cX12_fill 42 = .ok (.getfield 87, 3) := by decide +kernel
theorem dX12_fill_45 : decode cX12_fill 45 = .ok (.iload_n 1, 1) := by decide +kernel
theorem dX12_fill_46 : decode cX12_fill 46 = .ok (.iaload, 1) := by decide +kernel
theorem dX12_fill_47 : decode cX12_fill 47 = .ok (.goto 4, 3) := by decide +kernel
theorem dX12_fill_50 : decode cX12_fill 50 = .ok (.iconst (-1), 1) := by decide +kernel
theorem dX12_fill_51 : decode cX12_fill 51 = .ok (.ireturn, 1) := by decide +kernel
theorem dX12_ways_0 : decode cX12_ways 0 = .ok (.aload_n 0, 1) := by decide +kernel
theorem dX12_ways_1 : decode cX12_ways 1 = .ok (.iconst 0, 1) := by decide +kernel
theorem dX12_ways_2 : decode cX12_ways 2 = .ok (.invokevirtual 445, 3) := by decide +kernel
theorem dX12_ways_5 : decode cX12_ways 5 = .ok (.aload_n 0, 1) := by decide +kernel
theorem dX12_ways_6 : decode cX12_ways 6 = .ok (.getfield 406, 3) := by decide +kernel
theorem dX12_ways_9 : decode cX12_ways 9 = .ok (.ireturn, 1) := by decide +kernel
theorem dX12_cheapest_0 : decode cX12_cheapest 0 = .ok (.aload_n 0, 1) := by decide +kernel
theorem dX12_cheapest_1 : decode cX12_cheapest 1 = .ok (.iconst 0, 1) := by decide +kernel
theorem dX12_cheapest_2 : decode cX12_cheapest 2 = .ok (.invokevirtual 445, 3) := by decide +kernel
theorem dX12_cheapest_5 : decode cX12_cheapest 5 = .ok (.aload_n 0, 1) := by decide +kernel
theorem dX12_cheapest_6 : decode cX12_cheapest 6 = .ok (.getfield 406, 3) := by decide +kernel
theorem dX12_cheapest_9 : decode cX12_cheapest 9 = .ok (.ifCond .ne 7, 3) := by decide +kernel
theorem dX12_cheapest_12 : decode cX12_cheapest 12 = .ok (.iconst (-1), 1) := by decide +kernel
theorem dX12_cheapest_13 : decode cX12_cheapest 13 = .ok (.goto 7, 3) := by decide +kernel
theorem dX12_cheapest_16 : decode cX12_cheapest 16 = .ok (.aload_n 0, 1) := by decide +kernel
theorem dX12_cheapest_17 : decode cX12_cheapest 17 = .ok (.getfield 409, 3) := by decide +kernel
theorem dX12_cheapest_20 : decode cX12_cheapest 20 = .ok (.ireturn, 1) := by decide +kernel
theorem dX12_compare_0 : decode cX12_compare 0 = .ok (.aload_n 0, 1) := by decide +kernel
theorem dX12_compare_1 : decode cX12_compare 1 = .ok (.iload_n 1, 1) := by decide +kernel
theorem dX12_compare_2 : decode cX12_compare 2 = .ok (.invokevirtual 275, 3) := by decide +kernel
theorem dX12_compare_5 : decode cX12_compare 5 = .ok (.ifCond .ne 5, 3) := by decide +kernel
theorem dX12_compare_8 : decode cX12_compare 8 = .ok (.iconst (-1), 1) := by decide +kernel
theorem dX12_compare_9 : decode cX12_compare 9 = .ok (.ireturn, 1) := by decide +kernel
theorem dX12_compare_10 : decode cX12_compare 10 = .ok (.aload_n 0, 1) := by decide +kernel
theorem dX12_compare_11 : decode cX12_compare 11 = .ok (.getfield 28, 3) := by decide +kernel
theorem dX12_compare_14 : decode cX12_compare 14 = .ok (.bipush 72, 2) := by decide +kernel
theorem dX12_compare_16 : decode cX12_compare 16 = .ok (.iaload, 1) := by decide +kernel
theorem dX12_compare_17 : decode cX12_compare 17 = .ok (.istore_n 2, 1) := by decide +kernel
theorem dX12_compare_18 : decode cX12_compare 18 = .ok (.aload_n 0, 1) := by decide +kernel
theorem dX12_compare_19 : decode cX12_compare 19 = .ok (.getfield 28, 3) := by decide +kernel
theorem dX12_compare_22 : decode cX12_compare 22 = .ok (.bipush 72, 2) := by decide +kernel
theorem dX12_compare_24 : decode cX12_compare 24 = .ok (.iload_n 1, 1) := by decide +kernel
theorem dX12_compare_25 : decode cX12_compare 25 = .ok (.iastore, 1) := by decide +kernel
theorem dX12_compare_26 : decode cX12_compare 26 = .ok (.aload_n 0, 1) := by decide +kernel
theorem dX12_compare_27 : decode cX12_compare 27 = .ok (.invokevirtual 449, 3) := by decide +kernel
theorem dX12_compare_30 : decode cX12_compare 30 = .ok (.istore_n 3, 1) := by decide +kernel
theorem dX12_compare_31 : decode cX12_compare 31 = .ok (.aload_n 0, 1) := by decide +kernel
theorem dX12_compare_32 : decode cX12_compare 32 = .ok (.getfield 28, 3) := by decide +kernel
theorem dX12_compare_35 : decode cX12_compare 35 = .ok (.bipush 72, 2) := by decide +kernel
theorem dX12_compare_37 : decode cX12_compare 37 = .ok (.iload_n 2, 1) := by decide +kernel
theorem dX12_compare_38 : decode cX12_compare 38 = .ok (.iastore, 1) := by decide +kernel
theorem dX12_compare_39 : decode cX12_compare 39 = .ok (.iload_n 3, 1) := by decide +kernel
theorem dX12_compare_40 : decode cX12_compare 40 = .ok (.ireturn, 1) := by decide +kernel
theorem dX12_isMovable_0 : decode cX12_isMovable 0 = .ok (.aload_n 0, 1) := by decide +kernel
theorem dX12_isMovable_1 : decode cX12_isMovable 1 = .ok (.getfield 28, 3) := by decide +kernel
theorem dX12_isMovable_4 : decode cX12_isMovable 4 = .ok (.bipush 9, 2) := by decide +kernel
theorem dX12_isMovable_6 : decode cX12_isMovable 6 = .ok (.iload_n 1, 1) := by decide +kernel
theorem dX12_isMovable_7 : decode cX12_isMovable 7 = .ok (.iadd, 1) := by decide +kernel
theorem dX12_isMovable_8 : decode cX12_isMovable 8 = .ok (.iaload, 1) := by decide +kernel
theorem dX12_isMovable_9 : decode cX12_isMovable 9 = .ok (.istore_n 2, 1) := by decide +kernel
theorem dX12_isMovable_10 : decode cX12_isMovable 10 = .ok (.aload_n 0, 1) := by decide +kernel
theorem dX12_isMovable_11 : decode cX12_isMovable 11 = .ok (.getfield 28, 3) := by decide +kernel
theorem dX12_isMovable_14 : decode cX12_isMovable 14 = .ok (.bipush 18, 2) := by decide +kernel
theorem dX12_isMovable_16 : decode cX12_isMovable 16 = .ok (.iload_n 1, 1) := by decide +kernel
theorem dX12_isMovable_17 : decode cX12_isMovable 17 = .ok (.iadd, 1) := by decide +kernel
theorem dX12_isMovable_18 : decode cX12_isMovable 18 = .ok (.iaload, 1) := by decide +kernel
theorem dX12_isMovable_19 : decode cX12_isMovable 19 = .ok (.istore_n 3, 1) := by decide +kernel
theorem dX12_isMovable_20 : decode cX12_isMovable 20 = .ok (.aload_n 0, 1) := by decide +kernel
theorem dX12_isMovable_21 : decode cX12_isMovable 21 = .ok (.iload_n 1, 1) := by decide +kernel
theorem dX12_isMovable_22 : decode cX12_isMovable 22 = .ok (.invokevirtual 123, 3) := by decide +kernel
theorem dX12_isMovable_25 : decode cX12_isMovable 25 = .ok (.aload_n 0, 1) := by decide +kernel
theorem dX12_isMovable_26 : decode cX12_isMovable 26 = .ok (.iconst 0, 1) := by decide +kernel
theorem dX12_isMovable_27 : decode cX12_isMovable 27 = .ok (.invokevirtual 445, 3) := by decide +kernel
theorem dX12_isMovable_30 : decode cX12_isMovable 30 = .ok (.aload_n 0, 1) := by decide +kernel
theorem dX12_isMovable_31 : decode cX12_isMovable 31 = .ok (.getfield 28, 3) := by decide +kernel
theorem dX12_isMovable_34 : decode cX12_isMovable 34 = .ok (.bipush 9, 2) := by decide +kernel
theorem dX12_isMovable_36 : decode cX12_isMovable 36 = .ok (.iload_n 1, 1) := by decide +kernel
theorem dX12_isMovable_37 : decode cX12_isMovable 37 = .ok (.iadd, 1) := by decide +kernel
theorem dX12_isMovable_38 : decode cX12_isMovable 38 = .ok (.iload_n 2, 1) := by decide +kernel
theorem dX12_isMovable_39 : decode cX12_isMovable 39 = .ok (.iastore, 1) := by decide +kernel
theorem dX12_isMovable_40 : decode cX12_isMovable 40 = .ok (.aload_n 0, 1) := by decide +kernel
theorem dX12_isMovable_41 : decode cX12_isMovable 41 = .ok (.getfield 28, 3) := by decide +kernel
theorem dX12_isMovable_44 : decode cX12_isMovable 44 = .ok (.bipush 18, 2) := by decide +kernel
theorem dX12_isMovable_46 : decode cX12_isMovable 46 = .ok (.iload_n 1, 1) := by decide +kernel
theorem dX12_isMovable_47 : decode cX12_isMovable 47 = .ok (.iadd, 1) := by decide +kernel
theorem dX12_isMovable_48 : decode cX12_isMovable 48 = .ok (.iload_n 3, 1) := by decide +kernel
theorem dX12_isMovable_49 : decode cX12_isMovable 49 = .ok (.iastore, 1) := by decide +kernel
theorem dX12_isMovable_50 : decode cX12_isMovable 50 = .ok (.aload_n 0, 1) := by decide +kernel
theorem dX12_isMovable_51 : decode cX12_isMovable 51 = .ok (.getfield 406, 3) := by decide +kernel
theorem dX12_isMovable_54 : decode cX12_isMovable 54 = .ok (.iconst 1, 1) := by decide +kernel
theorem dX12_isMovable_55 : decode cX12_isMovable 55 = .ok (.if_icmp .ne 25, 3) := by decide +kernel
theorem dX12_isMovable_58 : decode cX12_isMovable 58 = .ok (.aload_n 0, 1) := by decide +kernel
theorem dX12_isMovable_59 : decode cX12_isMovable 59 = .ok (.getfield 415, 3) := by decide +kernel
theorem dX12_isMovable_62 : decode cX12_isMovable 62 = .ok (.iconst 1, 1) := by decide +kernel
theorem dX12_isMovable_63 : decode cX12_isMovable 63 = .ok (.if_icmp .ne 13, 3) := by decide +kernel
theorem dX12_isMovable_66 : decode cX12_isMovable 66 = .ok (.aload_n 0, 1) := by decide +kernel
theorem dX12_isMovable_67 : decode cX12_isMovable 67 = .ok (.getfield 87, 3) := by decide +kernel
theorem dX12_isMovable_70 : decode cX12_isMovable 70 = .ok (.iconst 0, 1) := by decide +kernel
theorem dX12_isMovable_71 : decode cX12_isMovable 71 = .ok (.iaload, 1) := by decide +kernel
theorem dX12_isMovable_72 : decode cX12_isMovable 72 = .ok (.iload_n 1, 1) := by decide +kernel
theorem dX12_isMovable_73 : decode cX12_isMovable 73 = .ok (.if_icmp .eq 7, 3) := by decide +kernel
theorem dX12_isMovable_76 : decode cX12_isMovable 76 = .ok (.iconst 1, 1) := by decide +kernel
theorem dX12_isMovable_77 : decode cX12_isMovable 77 = .ok (.goto 4, 3) := by decide +kernel
theorem dX12_isMovable_80 : decode cX12_isMovable 80 = .ok (.iconst 0, 1) := by decide +kernel
theorem dX12_isMovable_81 : decode cX12_isMovable 81 = .ok (.ireturn, 1) := by decide +kernel
theorem dX12_free_0 : decode cX12_free 0 = .ok (.iconst 0, 1) := by decide +kernel
theorem dX12_free_1 : decode cX12_free 1 = .ok (.istore_n 1, 1) := by decide +kernel
theorem dX12_free_2 : decode cX12_free 2 = .ok (.iconst 0, 1) := by decide +kernel
theorem dX12_free_3 : decode cX12_free 3 = .ok (.istore_n 2, 1) := by decide +kernel
theorem dX12_free_4 : decode cX12_free 4 = .ok (.iload_n 2, 1) := by decide +kernel
theorem dX12_free_5 : decode cX12_free 5 = .ok (.aload_n 0, 1) := by decide +kernel
theorem dX12_free_6 : decode cX12_free 6 = .ok (.invokevirtual 115, 3) := by decide +kernel
theorem dX12_free_9 : decode cX12_free 9 = .ok (.if_icmp .ge 35, 3) := by decide +kernel
theorem dX12_free_12 : decode cX12_free 12 = .ok (.iload_n 1, 1) := by decide +kernel
theorem dX12_free_13 : decode cX12_free 13 = .ok (.aload_n 0, 1) := by decide +kernel
theorem dX12_free_14 : decode cX12_free 14 = .ok (.iload_n 2, 1) := by decide +kernel
theorem dX12_free_15 : decode cX12_free 15 = .ok (.invokevirtual 137, 3) := by decide +kernel
theorem dX12_free_18 : decode cX12_free 18 = .ok (.ifCond .eq 17, 3) := by decide +kernel
theorem dX12_free_21 : decode cX12_free 21 = .ok (.aload_n 0, 1) := by decide +kernel
theorem dX12_free_22 : decode cX12_free 22 = .ok (.iload_n 2, 1) := by decide +kernel
theorem dX12_free_23 : decode cX12_free 23 = .ok (.invokevirtual 452, 3) := by decide +kernel
theorem dX12_free_26 : decode cX12_free 26 = .ok (.ifCond .eq 9, 3) := by decide +kernel
theorem dX12_free_29 : decode cX12_free 29 = .ok (.iconst 1, 1) := by decide +kernel
theorem dX12_free_30 : decode cX12_free 30 = .ok (.iload_n 2, 1) := by decide +kernel
theorem dX12_free_31 : decode cX12_free 31 = .ok (.ishl, 1) := by decide +kernel
theorem dX12_free_32 : decode cX12_free 32 = .ok (.goto 4, 3) := by decide +kernel
theorem dX12_free_35 : decode cX12_free 35 = .ok (.iconst 0, 1) := by decide +kernel
theorem dX12_free_36 : decode cX12_free 36 = .ok (.ior, 1) := by decide +kernel
theorem dX12_free_37 : decode cX12_free 37 = .ok (.istore_n 1, 1) := by decide +kernel
theorem dX12_free_38 : decode cX12_free 38 = .ok (.iinc 2 1, 3) := by decide +kernel
theorem dX12_free_41 : decode cX12_free 41 = .ok (.goto (-37), 3) := by decide +kernel
theorem dX12_free_44 : decode cX12_free 44 = .ok (.iload_n 1, 1) := by decide +kernel
theorem dX12_free_45 : decode cX12_free 45 = .ok (.ireturn, 1) := by decide +kernel
theorem dX12_canFill_0 : decode cX12_canFill 0 = .ok (.iconst 0, 1) := by decide +kernel
theorem dX12_canFill_1 : decode cX12_canFill 1 = .ok (.istore 4, 2) := by decide +kernel
theorem dX12_canFill_3 : decode cX12_canFill 3 = .ok (.iload 4, 2) := by decide +kernel
theorem dX12_canFill_5 : decode cX12_canFill 5 = .ok (.bipush 12, 2) := by decide +kernel
theorem dX12_canFill_7 : decode cX12_canFill 7 = .ok (.if_icmp .ge 17, 3) := by decide +kernel
theorem dX12_canFill_10 : decode cX12_canFill 10 = .ok (.aload_n 0, 1) := by decide +kernel
theorem dX12_canFill_11 : decode cX12_canFill 11 = .ok (.getfield 66, 3) := by decide +kernel
theorem dX12_canFill_14 : decode cX12_canFill 14 = .ok (.iload 4, 2) := by decide +kernel
theorem dX12_canFill_16 : decode cX12_canFill 16 = .ok (.iconst 0, 1) := by decide +kernel
theorem dX12_canFill_17 : decode cX12_canFill 17 = .ok (.iastore, 1) := by decide +kernel
theorem dX12_canFill_18 : decode cX12_canFill 18 = .ok (.iinc 4 1, 3) := by decide +kernel
theorem dX12_canFill_21 : decode cX12_canFill 21 = .ok (.goto (-18), 3) := by decide +kernel
theorem dX12_canFill_24 : decode cX12_canFill 24 = .ok (.aload_n 0, 1) := by decide +kernel
theorem dX12_canFill_25 : decode cX12_canFill 25 = .ok (.iload_n 1, 1) := by decide +kernel
theorem dX12_canFill_26 : decode cX12_canFill 26 = .ok (.iload_n 2, 1) := by decide +kernel
theorem dX12_canFill_27 : decode cX12_canFill 27 = .ok (.iload_n 3, 1) := by decide +kernel
theorem dX12_canFill_28 : decode cX12_canFill 28 = .ok (.invokevirtual 442, 3) := by decide +kernel
theorem dX12_canFill_31 : decode cX12_canFill 31 = .ok (.aload_n 0, 1) := by decide +kernel
theorem dX12_canFill_32 : decode cX12_canFill 32 = .ok (.getfield 406, 3) := by decide +kernel
theorem dX12_canFill_35 : decode cX12_canFill 35 = .ok (.ifCond .le 7, 3) := by decide +kernel
theorem dX12_canFill_38 : decode cX12_canFill 38 = .ok (.iconst 1, 1) := by decide +kernel
theorem dX12_canFill_39 : decode cX12_canFill 39 = .ok (.goto 4, 3) := by decide +kernel
theorem dX12_canFill_42 : decode cX12_canFill 42 = .ok (.iconst 0, 1) := by decide +kernel
theorem dX12_canFill_43 : decode cX12_canFill 43 = .ok (.ireturn, 1) := by decide +kernel
end
section
theorem dX12_halls_0 : decode cX12_halls 0 = .ok (.iload_n 1, 1) := by decide +kernel
theorem dX12_halls_1 : decode cX12_halls 1 = .ok (.iconst (-1), 1) := by decide +kernel
theorem dX12_halls_2 : decode cX12_halls 2 = .ok (.if_icmp .ge 5, 3) := by decide +kernel
theorem dX12_halls_5 : decode cX12_halls 5 = .ok (.iconst (-1), 1) := by decide +kernel
theorem dX12_halls_6 : decode cX12_halls 6 = .ok (.ireturn, 1) := by decide +kernel
theorem dX12_halls_7 : decode cX12_halls 7 = .ok (.iconst 0, 1) := by decide +kernel
theorem dX12_halls_8 : decode cX12_halls 8 = .ok (.istore_n 2, 1) := by decide +kernel
theorem dX12_halls_9 : decode cX12_halls 9 = .ok (.iconst 0, 1) := by decide +kernel
theorem dX12_halls_10 : decode cX12_halls 10 = .ok (.istore_n 3, 1) := by decide +kernel
theorem dX12_halls_11 : decode cX12_halls 11 = .ok (.iconst 0, 1) := by decide +kernel
theorem dX12_halls_12 : decode cX12_halls 12 = .ok (.istore 4, 2) := by decide +kernel
theorem dX12_halls_14 : decode cX12_halls 14 = .ok (.iload 4, 2) := by decide +kernel
theorem dX12_halls_16 : decode cX12_halls 16 = .ok (.aload_n 0, 1) := by decide +kernel
theorem dX12_halls_17 : decode cX12_halls 17 = .ok (.invokevirtual 115, 3) := by decide +kernel
theorem dX12_halls_20 : decode cX12_halls 20 = .ok (.if_icmp .ge 52, 3) := by decide +kernel
theorem dX12_halls_23 : decode cX12_halls 23 = .ok (.aload_n 0, 1) := by decide +kernel
theorem dX12_halls_24 : decode cX12_halls 24 = .ok (.iload 4, 2) := by decide +kernel
theorem dX12_halls_26 : decode cX12_halls 26 = .ok (.invokevirtual 357, 3) := by decide +kernel
theorem dX12_halls_29 : decode cX12_halls 29 = .ok (.ifCond .ne 6, 3) := by decide +kernel
theorem dX12_halls_32 : decode cX12_halls 32 = .ok (.goto 34, 3) := by decide +kernel
theorem dX12_halls_35 : decode cX12_halls 35 = .ok (.iload_n 2, 1) := by decide +kernel
theorem dX12_halls_36 : decode cX12_halls 36 = .ok (.iconst 1, 1) := by decide +kernel
theorem dX12_halls_37 : decode cX12_halls 37 = .ok (.iload 4, 2) := by decide +kernel
theorem dX12_halls_39 : decode cX12_halls 39 = .ok (.ishl, 1) := by decide +kernel
theorem dX12_halls_40 : decode cX12_halls 40 = .ok (.ior, 1) := by decide +kernel
theorem dX12_halls_41 : decode cX12_halls 41 = .ok (.istore_n 2, 1) := by decide +kernel
theorem dX12_halls_42 : decode cX12_halls 42 = .ok (.iload_n 3, 1) := by decide +kernel
theorem dX12_halls_43 : decode cX12_halls 43 = .ok (.aload_n 0, 1) := by decide +kernel
theorem dX12_halls_44 : decode cX12_halls 44 = .ok (.getfield 28, 3) := by decide +kernel
theorem dX12_halls_47 : decode cX12_halls 47 = .ok (.bipush 29, 2) := by decide +kernel
theorem dX12_halls_49 : decode cX12_halls 49 = .ok (.iload 4, 2) := by decide +kernel
theorem dX12_halls_51 : decode cX12_halls 51 = .ok (.iadd, 1) := by decide +kernel
theorem dX12_halls_52 : decode cX12_halls 52 = .ok (.iaload, 1) := by decide +kernel
theorem dX12_halls_53 : decode cX12_halls 53 = .ok (.aload_n 0, 1) := by decide +kernel
theorem dX12_halls_54 : decode cX12_halls 54 = .ok (.getfield 28, 3) := by decide +kernel
theorem dX12_halls_57 : decode cX12_halls 57 = .ok (.bipush 29, 2) := by decide +kernel
theorem dX12_halls_59 : decode cX12_halls 59 = .ok (.iload 4, 2) := by decide +kernel
theorem dX12_halls_61 : decode cX12_halls 61 = .ok (.iadd, 1) := by decide +kernel
theorem dX12_halls_62 : decode cX12_halls 62 = .ok (.iaload, 1) := by decide +kernel
theorem dX12_halls_63 : decode cX12_halls 63 = .ok (.imul, 1) := by decide +kernel
theorem dX12_halls_64 : decode cX12_halls 64 = .ok (.iadd, 1) := by decide +kernel
theorem dX12_halls_65 : decode cX12_halls 65 = .ok (.istore_n 3, 1) := by decide +kernel
theorem dX12_halls_66 : decode cX12_halls 66 = .ok (.iinc 4 1, 3) := by decide +kernel
theorem dX12_halls_69 : decode cX12_halls 69 = .ok (.goto (-55), 3) := by decide +kernel
theorem dX12_halls_72 : decode cX12_halls 72 = .ok (.aload_n 0, 1) := by decide +kernel
theorem dX12_halls_73 : decode cX12_halls 73 = .ok (.iload_n 2, 1) := by decide +kernel
theorem dX12_halls_74 : decode cX12_halls 74 = .ok (.invokevirtual 439, 3) := by decide +kernel
theorem dX12_halls_77 : decode cX12_halls 77 = .ok (.aload_n 0, 1) := by decide +kernel
theorem dX12_halls_78 : decode cX12_halls 78 = .ok (.iconst 0, 1) := by decide +kernel
theorem dX12_halls_79 : decode cX12_halls 79 = .ok (.putfield 400, 3) := by decide +kernel
theorem dX12_halls_82 : decode cX12_halls 82 = .ok (.aload_n 0, 1) := by decide +kernel
theorem dX12_halls_83 : decode cX12_halls 83 = .ok (.iconst 1, 1) := by decide +kernel
theorem dX12_halls_84 : decode cX12_halls 84 = .ok (.putfield 418, 3) := by decide +kernel
theorem dX12_halls_87 : decode cX12_halls 87 = .ok (.iconst 0, 1) := by decide +kernel
theorem dX12_halls_88 : decode cX12_halls 88 = .ok (.istore 4, 2) := by decide +kernel
theorem dX12_halls_90 : decode cX12_halls 90 = .ok (.iconst 1, 1) := by decide +kernel
theorem dX12_halls_91 : decode cX12_halls 91 = .ok (.istore 5, 2) := by decide +kernel
theorem dX12_halls_93 : decode cX12_halls 93 = .ok (.iload 5, 2) := by decide +kernel
theorem dX12_halls_95 : decode cX12_halls 95 = .ok (.bipush 12, 2) := by decide +kernel
theorem dX12_halls_97 : decode cX12_halls 97 = .ok (.if_icmp .gt 65, 3) := by decide +kernel
theorem dX12_halls_100 : decode cX12_halls 100 = .ok (.iload_n 3, 1) := by decide +kernel
theorem dX12_halls_101 : decode cX12_halls 101 = .ok (.iload 5, 2) := by decide +kernel
theorem dX12_halls_103 : decode cX12_halls 103 = .ok (.idiv, 1) := by decide +kernel
theorem dX12_halls_104 : decode cX12_halls 104 = .ok (.istore 6, 2) := by decide +kernel
theorem dX12_halls_106 : decode cX12_halls 106 = .ok (.iload_n 3, 1) := by decide +kernel
theorem dX12_halls_107 : decode cX12_halls 107 = .ok (.iload 5, 2) := by decide +kernel
theorem dX12_halls_109 : decode cX12_halls 109 = .ok (.iload 6, 2) := by decide +kernel
theorem dX12_halls_111 : decode cX12_halls 111 = .ok (.imul, 1) := by decide +kernel
theorem dX12_halls_112 : decode cX12_halls 112 = .ok (.if_icmp .ne 44, 3) := by decide +kernel
theorem dX12_halls_115 : decode cX12_halls 115 = .ok (.iload 6, 2) := by decide +kernel
theorem dX12_halls_117 : decode cX12_halls 117 = .ok (.invokestatic 119, 3) := by decide +kernel
theorem dX12_halls_120 : decode cX12_halls 120 = .ok (.ifCond .eq 36, 3) := by decide +kernel
theorem dX12_halls_123 : decode cX12_halls 123 = .ok (.aload_n 0, 1) := by decide +kernel
theorem dX12_halls_124 : decode cX12_halls 124 = .ok (.iload_n 2, 1) := by decide +kernel
theorem dX12_halls_125 : decode cX12_halls 125 = .ok (.iload 5, 2) := by decide +kernel
theorem dX12_halls_127 : decode cX12_halls 127 = .ok (.iload 6, 2) := by decide +kernel
theorem dX12_halls_129 : decode cX12_halls 129 = .ok (.invokevirtual 455, 3) := by decide +kernel
theorem dX12_halls_132 : decode cX12_halls 132 = .ok (.ifCond .ne 6, 3) := by decide +kernel
theorem dX12_halls_135 : decode cX12_halls 135 = .ok (.goto 21, 3) := by decide +kernel
theorem dX12_halls_138 : decode cX12_halls 138 = .ok (.iload 4, 2) := by decide +kernel
theorem dX12_halls_140 : decode cX12_halls 140 = .ok (.iload_n 1, 1) := by decide +kernel
theorem dX12_halls_141 : decode cX12_halls 141 = .ok (.if_icmp .ne 12, 3) := by decide +kernel
theorem dX12_halls_144 : decode cX12_halls 144 = .ok (.bipush 100, 2) := by decide +kernel
theorem dX12_halls_146 : decode cX12_halls 146 = .ok (.iload 5, 2) := by decide +kernel
theorem dX12_halls_148 : decode cX12_halls 148 = .ok (.imul, 1) := by decide +kernel
theorem dX12_halls_149 : decode cX12_halls 149 = .ok (.iload 6, 2) := by decide +kernel
theorem dX12_halls_151 : decode cX12_halls 151 = .ok (.iadd, 1) := by decide +kernel
theorem dX12_halls_152 : decode cX12_halls 152 = .ok (.ireturn, 1) := by decide +kernel
theorem dX12_halls_153 : decode cX12_halls 153 = .ok (.iinc 4 1, 3) := by decide +kernel
theorem dX12_halls_156 : decode cX12_halls 156 = .ok (.iinc 5 1, 3) := by decide +kernel
theorem dX12_halls_159 : decode cX12_halls 159 = .ok (.goto (-66), 3) := by decide +kernel
theorem dX12_halls_162 : decode cX12_halls 162 = .ok (.iload_n 1, 1) := by decide +kernel
theorem dX12_halls_163 : decode cX12_halls 163 = .ok (.iconst (-1), 1) := by decide +kernel
theorem dX12_halls_164 : decode cX12_halls 164 = .ok (.if_icmp .ne 8, 3) := by decide +kernel
theorem dX12_halls_167 : decode cX12_halls 167 = .ok (.iload 4, 2) := by decide +kernel
theorem dX12_halls_169 : decode cX12_halls 169 = .ok (.goto 4, 3) := by decide +kernel
theorem dX12_halls_172 : decode cX12_halls 172 = .ok (.iconst (-1), 1) := by decide +kernel
theorem dX12_halls_173 : decode cX12_halls 173 = .ok (.ireturn, 1) := by decide +kernel
theorem dX12_within_0 : decode cX12_within 0 = .ok (.iconst 0, 1) := by decide +kernel
theorem dX12_within_1 : decode cX12_within 1 = .ok (.istore 5, 2) := by decide +kernel
theorem dX12_within_3 : decode cX12_within 3 = .ok (.iconst 0, 1) := by decide +kernel
theorem dX12_within_4 : decode cX12_within 4 = .ok (.istore 6, 2) := by decide +kernel
theorem dX12_within_6 : decode cX12_within 6 = .ok (.iconst 0, 1) := by decide +kernel
theorem dX12_within_7 : decode cX12_within 7 = .ok (.istore 7, 2) := by decide +kernel
theorem dX12_within_9 : decode cX12_within 9 = .ok (.iload 7, 2) := by decide +kernel
theorem dX12_within_11 : decode cX12_within 11 = .ok (.aload_n 0, 1) := by decide +kernel
theorem dX12_within_12 : decode cX12_within 12 = .ok (.invokevirtual 115, 3) := by decide +kernel
theorem dX12_within_15 : decode cX12_within 15 = .ok (.if_icmp .ge 109, 3) := by decide +kernel
theorem dX12_within_18 : decode cX12_within 18 = .ok (.aload_n 0, 1) := by decide +kernel
theorem dX12_within_19 : decode cX12_within 19 = .ok (.getfield 28, 3) := by decide +kernel
theorem dX12_within_22 : decode cX12_within 22 = .ok (.bipush 29, 2) := by decide +kernel
theorem dX12_within_24 : decode cX12_within 24 = .ok (.iload 7, 2) := by decide +kernel
theorem dX12_within_26 : decode cX12_within 26 = .ok (.iadd, 1) := by decide +kernel
theorem dX12_within_27 : decode cX12_within 27 = .ok (.iaload, 1) := by decide +kernel
theorem dX12_within_28 : decode cX12_within 28 = .ok (.istore 8, 2) := by decide +kernel
theorem dX12_within_30 : decode cX12_within 30 = .ok (.aload_n 0, 1) := by decide +kernel
theorem dX12_within_31 : decode cX12_within 31 = .ok (.iload 7, 2) := by decide +kernel
theorem dX12_within_33 : decode cX12_within 33 = .ok (.invokevirtual 137, 3) := by decide +kernel
theorem dX12_within_36 : decode cX12_within 36 = .ok (.ifCond .eq 82, 3) := by decide +kernel
theorem dX12_within_39 : decode cX12_within 39 = .ok (.aload_n 0, 1) := by decide +kernel
theorem dX12_within_40 : decode cX12_within 40 = .ok (.getfield 28, 3) := by decide +kernel
theorem dX12_within_43 : decode cX12_within 43 = .ok (.bipush 9, 2) := by decide +kernel
theorem dX12_within_45 : decode cX12_within 45 = .ok (.iload 7, 2) := by decide +kernel
theorem dX12_within_47 : decode cX12_within 47 = .ok (.iadd, 1) := by decide +kernel
theorem dX12_within_48 : decode cX12_within 48 = .ok (.iaload, 1) := by decide +kernel
theorem dX12_within_49 : decode cX12_within 49 = .ok (.iload_n 1, 1) := by decide +kernel
theorem dX12_within_50 : decode cX12_within 50 = .ok (.if_icmp .lt 68, 3) := by decide +kernel
theorem dX12_within_53 : decode cX12_within 53 = .ok (.aload_n 0, 1) := by decide +kernel
theorem dX12_within_54 : decode cX12_within 54 = .ok (.getfield 28, 3) := by decide +kernel
theorem dX12_within_57 : decode cX12_within 57 = .ok (.bipush 18, 2) := by decide +kernel
theorem dX12_within_59 : decode cX12_within 59 = .ok (.iload 7, 2) := by decide +kernel
theorem dX12_within_61 : decode cX12_within 61 = .ok (.iadd, 1) := by decide +kernel
theorem dX12_within_62 : decode cX12_within 62 = .ok (.iaload, 1) := by decide +kernel
theorem dX12_within_63 : decode cX12_within 63 = .ok (.iload_n 2, 1) := by decide +kernel
theorem dX12_within_64 : decode cX12_within 64 = .ok (.if_icmp .lt 54, 3) := by decide +kernel
theorem dX12_within_67 : decode cX12_within 67 = .ok (.aload_n 0, 1) := by decide +kernel
theorem dX12_within_68 : decode cX12_within 68 = .ok (.getfield 28, 3) := by decide +kernel
theorem dX12_within_71 : decode cX12_within 71 = .ok (.bipush 9, 2) := by decide +kernel
theorem dX12_within_73 : decode cX12_within 73 = .ok (.iload 7, 2) := by decide +kernel
theorem dX12_within_75 : decode cX12_within 75 = .ok (.iadd, 1) := by decide +kernel
theorem dX12_within_76 : decode cX12_within 76 = .ok (.iaload, 1) := by decide +kernel
theorem dX12_within_77 : decode cX12_within 77 = .ok (.iload 8, 2) := by decide +kernel
theorem dX12_within_79 : decode cX12_within 79 = .ok (.iadd, 1) := by decide +kernel
theorem dX12_within_80 : decode cX12_within 80 = .ok (.iload_n 3, 1) := by decide +kernel
theorem dX12_within_81 : decode cX12_within 81 = .ok (.if_icmp .gt 37, 3) := by decide +kernel
theorem dX12_within_84 : decode cX12_within 84 = .ok (.aload_n 0, 1) := by decide +kernel
theorem dX12_within_85 : decode cX12_within 85 = .ok (.getfield 28, 3) := by decide +kernel
theorem dX12_within_88 : decode cX12_within 88 = .ok (.bipush 18, 2) := by decide +kernel
theorem dX12_within_90 : decode cX12_within 90 = .ok (.iload 7, 2) := by decide +kernel
theorem dX12_within_92 : decode cX12_within 92 = .ok (.iadd, 1) := by decide +kernel
theorem dX12_within_93 : decode cX12_within 93 = .ok (.iaload, 1) := by decide +kernel
theorem dX12_within_94 : decode cX12_within 94 = .ok (.iload 8, 2) := by decide +kernel
theorem dX12_within_96 : decode cX12_within 96 = .ok (.iadd, 1) := by decide +kernel
theorem dX12_within_97 : decode cX12_within 97 = .ok (.iload 4, 2) := by decide +kernel
theorem dX12_within_99 : decode cX12_within 99 = .ok (.if_icmp .le 6, 3) := by decide +kernel
theorem dX12_within_102 : decode cX12_within 102 = .ok (.goto 16, 3) := by decide +kernel
theorem dX12_within_105 : decode cX12_within 105 = .ok (.iload 6, 2) := by decide +kernel
theorem dX12_within_107 : decode cX12_within 107 = .ok (.iload 8, 2) := by decide +kernel
theorem dX12_within_109 : decode cX12_within 109 = .ok (.iload 8, 2) := by decide +kernel
theorem dX12_within_111 : decode cX12_within 111 = .ok (.imul, 1) := by decide +kernel
theorem dX12_within_112 : decode cX12_within 112 = .ok (.iadd, 1) := by decide +kernel
theorem dX12_within_113 : decode cX12_within 113 = .ok (.istore 6, 2) := by decide +kernel
theorem dX12_within_115 : decode cX12_within 115 = .ok (.iinc 5 1, 3) := by decide +kernel
theorem dX12_within_118 : decode cX12_within 118 = .ok (.iinc 7 1, 3) := by decide +kernel
theorem dX12_within_121 : decode cX12_within 121 = .ok (.goto (-112), 3) := by decide +kernel
theorem dX12_within_124 : decode cX12_within 124 = .ok (.iload 5, 2) := by decide +kernel
theorem dX12_within_126 : decode cX12_within 126 = .ok (.iconst 2, 1) := by decide +kernel
theorem dX12_within_127 : decode cX12_within 127 = .ok (.if_icmp .ge 7, 3) := by decide +kernel
theorem dX12_within_130 : decode cX12_within 130 = .ok (.iconst (-1), 1) := by decide +kernel
theorem dX12_within_131 : decode cX12_within 131 = .ok (.goto 5, 3) := by decide +kernel
theorem dX12_within_134 : decode cX12_within 134 = .ok (.iload 6, 2) := by decide +kernel
theorem dX12_within_136 : decode cX12_within 136 = .ok (.ireturn, 1) := by decide +kernel
theorem dX12_inner_0 : decode cX12_inner 0 = .ok (.aload_n 0, 1) := by decide +kernel
theorem dX12_inner_1 : decode cX12_inner 1 = .ok (.getfield 28, 3) := by decide +kernel
theorem dX12_inner_4 : decode cX12_inner 4 = .ok (.bipush 67, 2) := by decide +kernel
theorem dX12_inner_6 : decode cX12_inner 6 = .ok (.iaload, 1) := by decide +kernel
theorem dX12_inner_7 : decode cX12_inner 7 = .ok (.istore_n 1, 1) := by decide +kernel
theorem dX12_inner_8 : decode cX12_inner 8 = .ok (.aload_n 0, 1) := by decide +kernel
theorem dX12_inner_9 : decode cX12_inner 9 = .ok (.getfield 28, 3) := by decide +kernel
theorem dX12_inner_12 : decode cX12_inner 12 = .ok (.bipush 68, 2) := by decide +kernel
theorem dX12_inner_14 : decode cX12_inner 14 = .ok (.iaload, 1) := by decide +kernel
theorem dX12_inner_15 : decode cX12_inner 15 = .ok (.istore_n 2, 1) := by decide +kernel
theorem dX12_inner_16 : decode cX12_inner 16 = .ok (.iconst 0, 1) := by decide +kernel
theorem dX12_inner_17 : decode cX12_inner 17 = .ok (.istore_n 3, 1) := by decide +kernel
theorem dX12_inner_18 : decode cX12_inner 18 = .ok (.iconst 0, 1) := by decide +kernel
theorem dX12_inner_19 : decode cX12_inner 19 = .ok (.istore 4, 2) := by decide +kernel
theorem dX12_inner_21 : decode cX12_inner 21 = .ok (.iload 4, 2) := by decide +kernel
theorem dX12_inner_23 : decode cX12_inner 23 = .ok (.iload_n 1, 1) := by decide +kernel
theorem dX12_inner_24 : decode cX12_inner 24 = .ok (.if_icmp .ge 94, 3) := by decide +kernel
theorem dX12_inner_27 : decode cX12_inner 27 = .ok (.iload 4, 2) := by decide +kernel
theorem dX12_inner_29 : decode cX12_inner 29 = .ok (.iconst 1, 1) := by decide +kernel
theorem dX12_inner_30 : decode cX12_inner 30 = .ok (.iadd, 1) := by decide +kernel
theorem dX12_inner_31 : decode cX12_inner 31 = .ok (.istore 5, 2) := by decide +kernel
theorem dX12_inner_33 : decode cX12_inner 33 = .ok (.iload 5, 2) := by decide +kernel
theorem dX12_inner_35 : decode cX12_inner 35 = .ok (.iload_n 1, 1) := by decide +kernel
theorem dX12_inner_36 : decode cX12_inner 36 = .ok (.if_icmp .gt 76, 3) := by decide +kernel
theorem dX12_inner_39 : decode cX12_inner 39 = .ok (.iconst 0, 1) := by decide +kernel
theorem dX12_inner_40 : decode cX12_inner 40 = .ok (.istore 6, 2) := by decide +kernel
theorem dX12_inner_42 : decode cX12_inner 42 = .ok (.iload 6, 2) := by decide +kernel
theorem dX12_inner_44 : decode cX12_inner 44 = .ok (.iload_n 2, 1) := by decide +kernel
theorem dX12_inner_45 : decode cX12_inner 45 = .ok (.if_icmp .ge 61, 3) := by decide +kernel
theorem dX12_inner_48 : decode cX12_inner 48 = .ok (.iload 6, 2) := by decide +kernel
theorem dX12_inner_50 : decode cX12_inner 50 = .ok (.iconst 1, 1) := by decide +kernel
theorem dX12_inner_51 : decode cX12_inner 51 = .ok (.iadd, 1) := by decide +kernel
theorem dX12_inner_52 : decode cX12_inner 52 = .ok (.istore 7, 2) := by decide +kernel
theorem dX12_inner_54 : decode cX12_inner 54 = .ok (.iload 7, 2) := by decide +kernel
theorem dX12_inner_56 : decode cX12_inner 56 = .ok (.iload_n 2, 1) := by decide +kernel
theorem dX12_inner_57 : decode cX12_inner 57 = .ok (.if_icmp .gt 43, 3) := by decide +kernel
theorem dX12_inner_60 : decode cX12_inner 60 = .ok (.iload_n 3, 1) := by decide +kernel
theorem dX12_inner_61 : decode cX12_inner 61 = .ok (.aload_n 0, 1) := by decide +kernel
theorem dX12_inner_62 : decode cX12_inner 62 = .ok (.iload 4, 2) := by decide +kernel
theorem dX12_inner_64 : decode cX12_inner 64 = .ok (.iload 6, 2) := by decide +kernel
theorem dX12_inner_66 : decode cX12_inner 66 = .ok (.iload 5, 2) := by decide +kernel
theorem dX12_inner_68 : decode cX12_inner 68 = .ok (.iload 7, 2) := by decide +kernel
theorem dX12_inner_70 : decode cX12_inner 70 = .ok (.invokevirtual 458, 3) := by decide +kernel
theorem dX12_inner_73 : decode cX12_inner 73 = .ok (.iload 5, 2) := by decide +kernel
theorem dX12_inner_75 : decode cX12_inner 75 = .ok (.iload 4, 2) := by decide +kernel
theorem dX12_inner_77 : decode cX12_inner 77 = .ok (.isub, 1) := by decide +kernel
theorem dX12_inner_78 : decode cX12_inner 78 = .ok (.iload 7, 2) := by decide +kernel
theorem dX12_inner_80 : decode cX12_inner 80 = .ok (.iload 6, 2) := by decide +kernel
theorem dX12_inner_82 : decode cX12_inner 82 = .ok (.isub, 1) := by decide +kernel
theorem dX12_inner_83 : decode cX12_inner 83 = .ok (.imul, 1) := by decide +kernel
theorem dX12_inner_84 : decode cX12_inner 84 = .ok (.if_icmp .ne 7, 3) := by decide +kernel
theorem dX12_inner_87 : decode cX12_inner 87 = .ok (.iconst 1, 1) := by decide +kernel
theorem dX12_inner_88 : decode cX12_inner 88 = .ok (.goto 4, 3) := by decide +kernel
theorem dX12_inner_91 : decode cX12_inner 91 = .ok (.iconst 0, 1) := by decide +kernel
theorem dX12_inner_92 : decode cX12_inner 92 = .ok (.iadd, 1) := by decide +kernel
theorem dX12_inner_93 : decode cX12_inner 93 = .ok (.istore_n 3, 1) := by decide +kernel
theorem dX12_inner_94 : decode cX12_inner 94 = .ok (.iinc 7 1, 3) := by decide +kernel
theorem dX12_inner_97 : decode cX12_inner 97 = .ok (.goto (-43), 3) := by decide +kernel
theorem dX12_inner_100 : decode cX12_inner 100 = .ok (.iinc 6 1, 3) := by decide +kernel
theorem dX12_inner_103 : decode cX12_inner 103 = .ok (.goto (-61), 3) := by decide +kernel
theorem dX12_inner_106 : decode cX12_inner 106 = .ok (.iinc 5 1, 3) := by decide +kernel
theorem dX12_inner_109 : decode cX12_inner 109 = .ok (.goto (-76), 3) := by decide +kernel
theorem dX12_inner_112 : decode cX12_inner 112 = .ok (.iinc 4 1, 3) := by decide +kernel
theorem dX12_inner_115 : decode cX12_inner 115 = .ok (.goto (-94), 3) := by decide +kernel
theorem dX12_inner_118 : decode cX12_inner 118 = .ok (.iload_n 3, 1) := by decide +kernel
theorem dX12_inner_119 : decode cX12_inner 119 = .ok (.aload_n 0, 1) := by decide +kernel
theorem dX12_inner_120 : decode cX12_inner 120 = .ok (.iconst 0, 1) := by decide +kernel
theorem dX12_inner_121 : decode cX12_inner 121 = .ok (.iconst 0, 1) := by decide +kernel
theorem dX12_inner_122 : decode cX12_inner 122 = .ok (.iload_n 1, 1) := by decide +kernel
theorem dX12_inner_123 : decode cX12_inner 123 = .ok (.iload_n 2, 1) := by decide +kernel
theorem dX12_inner_124 : decode cX12_inner 124 = .ok (.invokevirtual 458, 3) := by decide +kernel
theorem dX12_inner_127 : decode cX12_inner 127 = .ok (.iload_n 1, 1) := by decide +kernel
theorem dX12_inner_128 : decode cX12_inner 128 = .ok (.iload_n 2, 1) := by decide +kernel
theorem dX12_inner_129 : decode cX12_inner 129 = .ok (.imul, 1) := by decide +kernel
theorem dX12_inner_130 : decode cX12_inner 130 = .ok (.if_icmp .ne 7, 3) := by decide +kernel
theorem dX12_inner_133 : decode cX12_inner 133 = .ok (.iconst 1, 1) := by decide +kernel
theorem dX12_inner_134 : decode cX12_inner 134 = .ok (.goto 4, 3) := by decide +kernel
theorem dX12_inner_137 : decode cX12_inner 137 = .ok (.iconst 0, 1) := by decide +kernel
theorem dX12_inner_138 : decode cX12_inner 138 = .ok (.isub, 1) := by decide +kernel
theorem dX12_inner_139 : decode cX12_inner 139 = .ok (.ireturn, 1) := by decide +kernel
theorem dX12_isCross_0 : decode cX12_isCross 0 = .ok (.aload_n 0, 1) := by decide +kernel
theorem dX12_isCross_1 : decode cX12_isCross 1 = .ok (.iload_n 1, 1) := by decide +kernel
theorem dX12_isCross_2 : decode cX12_isCross 2 = .ok (.iconst 1, 1) := by decide +kernel
theorem dX12_isCross_3 : decode cX12_isCross 3 = .ok (.isub, 1) := by decide +kernel
theorem dX12_isCross_4 : decode cX12_isCross 4 = .ok (.iload_n 2, 1) := by decide +kernel
theorem dX12_isCross_5 : decode cX12_isCross 5 = .ok (.iconst 1, 1) := by decide +kernel
theorem dX12_isCross_6 : decode cX12_isCross 6 = .ok (.isub, 1) := by decide +kernel
theorem dX12_isCross_7 : decode cX12_isCross 7 = .ok (.invokevirtual 394, 3) := by decide +kernel
theorem dX12_isCross_10 : decode cX12_isCross 10 = .ok (.istore_n 3, 1) := by decide +kernel
theorem dX12_isCross_11 : decode cX12_isCross 11 = .ok (.aload_n 0, 1) := by decide +kernel
theorem dX12_isCross_12 : decode cX12_isCross 12 = .ok (.iload_n 1, 1) := by decide +kernel
theorem dX12_isCross_13 : decode cX12_isCross 13 = .ok (.iload_n 2, 1) := by decide +kernel
theorem dX12_isCross_14 : decode cX12_isCross 14 = .ok (.iconst 1, 1) := by decide +kernel
theorem dX12_isCross_15 : decode cX12_isCross 15 = .ok (.isub, 1) := by decide +kernel
theorem dX12_isCross_16 : decode cX12_isCross 16 = .ok (.invokevirtual 394, 3) := by decide +kernel
theorem dX12_isCross_19 : decode cX12_isCross 19 = .ok (.istore 4, 2) := by decide +kernel
theorem dX12_isCross_21 : decode cX12_isCross 21 = .ok (.aload_n 0, 1) := by decide +kernel
theorem dX12_isCross_22 : decode cX12_isCross 22 = .ok (.iload_n 1, 1) := by decide +kernel
theorem dX12_isCross_23 : decode cX12_isCross 23 = .ok (.iconst 1, 1) := by decide +kernel
theorem dX12_isCross_24 : decode cX12_isCross 24 = .ok (.isub, 1) := by decide +kernel
theorem dX12_isCross_25 : decode cX12_isCross 25 = .ok (.iload_n 2, 1) := by decide +kernel
theorem dX12_isCross_26 : decode cX12_isCross 26 = .ok (.invokevirtual 394, 3) := by decide +kernel
theorem dX12_isCross_29 : decode cX12_isCross 29 = .ok (.istore 5, 2) := by decide +kernel
theorem dX12_isCross_31 : decode cX12_isCross 31 = .ok (.aload_n 0, 1) := by decide +kernel
theorem dX12_isCross_32 : decode cX12_isCross 32 = .ok (.iload_n 1, 1) := by decide +kernel
theorem dX12_isCross_33 : decode cX12_isCross 33 = .ok (.iload_n 2, 1) := by decide +kernel
theorem dX12_isCross_34 : decode cX12_isCross 34 = .ok (.invokevirtual 394, 3) := by decide +kernel
theorem dX12_isCross_37 : decode cX12_isCross 37 = .ok (.istore 6, 2) := by decide +kernel
theorem dX12_isCross_39 : decode cX12_isCross 39 = .ok (.iload_n 3, 1) := by decide +kernel
theorem dX12_isCross_40 : decode cX12_isCross 40 = .ok (.iconst (-1), 1) := by decide +kernel
theorem dX12_isCross_41 : decode cX12_isCross 41 = .ok (.if_icmp .eq 25, 3) := by decide +kernel
theorem dX12_isCross_44 : decode cX12_isCross 44 = .ok (.iload 4, 2) := by decide +kernel
theorem dX12_isCross_46 : decode cX12_isCross 46 = .ok (.iconst (-1), 1) := by decide +kernel
theorem dX12_isCross_47 : decode cX12_isCross 47 = .ok (.if_icmp .eq 19, 3) := by decide +kernel
theorem dX12_isCross_50 : decode cX12_isCross 50 = .ok (.iload 5, 2) := by decide +kernel
theorem dX12_isCross_52 : decode cX12_isCross 52 = .ok (.iconst (-1), 1) := by decide +kernel
theorem dX12_isCross_53 : decode cX12_isCross 53 = .ok (.if_icmp .eq 13, 3) := by decide +kernel
theorem dX12_isCross_56 : decode cX12_isCross 56 = .ok (.iload 6, 2) := by decide +kernel
theorem dX12_isCross_58 : decode cX12_isCross 58 = .ok (.iconst (-1), 1) := by decide +kernel
theorem dX12_isCross_59 : decode cX12_isCross 59 = .ok (.if_icmp .eq 7, 3) := by decide +kernel
theorem dX12_isCross_62 : decode cX12_isCross 62 = .ok (.iconst 1, 1) := by decide +kernel
theorem dX12_isCross_63 : decode cX12_isCross 63 = .ok (.goto 4, 3) := by decide +kernel
theorem dX12_isCross_66 : decode cX12_isCross 66 = .ok (.iconst 0, 1) := by decide +kernel
theorem dX12_isCross_67 : decode cX12_isCross 67 = .ok (.istore 7, 2) := by decide +kernel
theorem dX12_isCross_69 : decode cX12_isCross 69 = .ok (.iload 7, 2) := by decide +kernel
theorem dX12_isCross_71 : decode cX12_isCross 71 = .ok (.ifCond .eq 46, 3) := by decide +kernel
theorem dX12_isCross_74 : decode cX12_isCross 74 = .ok (.iload_n 3, 1) := by decide +kernel
theorem dX12_isCross_75 : decode cX12_isCross 75 = .ok (.iload 4, 2) := by decide +kernel
theorem dX12_isCross_77 : decode cX12_isCross 77 = .ok (.if_icmp .eq 40, 3) := by decide +kernel
theorem dX12_isCross_80 : decode cX12_isCross 80 = .ok (.iload_n 3, 1) := by decide +kernel
theorem dX12_isCross_81 : decode cX12_isCross 81 = .ok (.iload 5, 2) := by decide +kernel
theorem dX12_isCross_83 : decode cX12_isCross 83 = .ok (.if_icmp .eq 34, 3) := by decide +kernel
theorem dX12_isCross_86 : decode cX12_isCross 86 = .ok (.iload_n 3, 1) := by decide +kernel
theorem dX12_isCross_87 : decode cX12_isCross 87 = .ok (.iload 6, 2) := by decide +kernel
theorem dX12_isCross_89 : decode cX12_isCross 89 = .ok (.if_icmp .eq 28, 3) := by decide +kernel
theorem dX12_isCross_92 : decode cX12_isCross 92 = .ok (.iload 4, 2) := by decide +kernel
theorem dX12_isCross_94 : decode cX12_isCross 94 = .ok (.iload 5, 2) := by decide +kernel
theorem dX12_isCross_96 : decode cX12_isCross 96 = .ok (.if_icmp .eq 21, 3) := by decide +kernel
theorem dX12_isCross_99 : decode cX12_isCross 99 = .ok (.iload 4, 2) := by decide +kernel
theorem dX12_isCross_101 : decode cX12_isCross 101 = .ok (.iload 6, 2) := by decide +kernel
theorem dX12_isCross_103 : decode cX12_isCross 103 = .ok (.if_icmp .eq 14, 3) := by decide +kernel
theorem dX12_isCross_106 : decode cX12_isCross 106 = .ok (.iload 5, 2) := by decide +kernel
theorem dX12_isCross_108 : decode cX12_isCross 108 = .ok (.iload 6, 2) := by decide +kernel
theorem dX12_isCross_110 : decode cX12_isCross 110 = .ok (.if_icmp .eq 7, 3) := by decide +kernel
theorem dX12_isCross_113 : decode cX12_isCross 113 = .ok (.iconst 1, 1) := by decide +kernel
theorem dX12_isCross_114 : decode cX12_isCross 114 = .ok (.goto 4, 3) := by decide +kernel
theorem dX12_isCross_117 : decode cX12_isCross 117 = .ok (.iconst 0, 1) := by decide +kernel
theorem dX12_isCross_118 : decode cX12_isCross 118 = .ok (.ireturn, 1) := by decide +kernel
theorem dX12_crosses_0 : decode cX12_crosses 0 = .ok (.iconst 0, 1) := by decide +kernel
theorem dX12_crosses_1 : decode cX12_crosses 1 = .ok (.istore_n 1, 1) := by decide +kernel
theorem dX12_crosses_2 : decode cX12_crosses 2 = .ok (.iconst 1, 1) := by decide +kernel
theorem dX12_crosses_3 : decode cX12_crosses 3 = .ok (.istore_n 2, 1) := by decide +kernel
theorem dX12_crosses_4 : decode cX12_crosses 4 = .ok (.iload_n 2, 1) := by decide +kernel
theorem dX12_crosses_5 : decode cX12_crosses 5 = .ok (.aload_n 0, 1) := by decide +kernel
theorem dX12_crosses_6 : decode cX12_crosses 6 = .ok (.getfield 28, 3) := by decide +kernel
theorem dX12_crosses_9 : decode cX12_crosses 9 = .ok (.bipush 67, 2) := by decide +kernel
theorem dX12_crosses_11 : decode cX12_crosses 11 = .ok (.iaload, 1) := by decide +kernel
theorem dX12_crosses_12 : decode cX12_crosses 12 = .ok (.if_icmp .ge 45, 3) := by decide +kernel
theorem dX12_crosses_15 : decode cX12_crosses 15 = .ok (.iconst 1, 1) := by decide +kernel
theorem dX12_crosses_16 : decode cX12_crosses 16 = .ok (.istore_n 3, 1) := by decide +kernel
theorem dX12_crosses_17 : decode cX12_crosses 17 = .ok (.iload_n 3, 1) := by decide +kernel
theorem dX12_crosses_18 : decode cX12_crosses 18 = .ok (.aload_n 0, 1) := by decide +kernel
theorem dX12_crosses_19 : decode cX12_crosses 19 = .ok (.getfield 28, 3) := by decide +kernel
theorem dX12_crosses_22 : decode cX12_crosses 22 = .ok (.bipush 68, 2) := by decide +kernel
theorem dX12_crosses_24 : decode cX12_crosses 24 = .ok (.iaload, 1) := by decide +kernel
theorem dX12_crosses_25 : decode cX12_crosses 25 = .ok (.if_icmp .ge 26, 3) := by decide +kernel
theorem dX12_crosses_28 : decode cX12_crosses 28 = .ok (.iload_n 1, 1) := by decide +kernel
theorem dX12_crosses_29 : decode cX12_crosses 29 = .ok (.aload_n 0, 1) := by decide +kernel
theorem dX12_crosses_30 : decode cX12_crosses 30 = .ok (.iload_n 2, 1) := by decide +kernel
theorem dX12_crosses_31 : decode cX12_crosses 31 = .ok (.iload_n 3, 1) := by decide +kernel
theorem dX12_crosses_32 : decode cX12_crosses 32 = .ok (.invokevirtual 462, 3) := by decide +kernel
theorem dX12_crosses_35 : decode cX12_crosses 35 = .ok (.ifCond .eq 7, 3) := by decide +kernel
theorem dX12_crosses_38 : decode cX12_crosses 38 = .ok (.iconst 1, 1) := by decide +kernel
theorem dX12_crosses_39 : decode cX12_crosses 39 = .ok (.goto 4, 3) := by decide +kernel
theorem dX12_crosses_42 : decode cX12_crosses 42 = .ok (.iconst 0, 1) := by decide +kernel
theorem dX12_crosses_43 : decode cX12_crosses 43 = .ok (.iadd, 1) := by decide +kernel
theorem dX12_crosses_44 : decode cX12_crosses 44 = .ok (.istore_n 1, 1) := by decide +kernel
theorem dX12_crosses_45 : decode cX12_crosses 45 = .ok (.iinc 3 1, 3) := by decide +kernel
theorem dX12_crosses_48 : decode cX12_crosses 48 = .ok (.goto (-31), 3) := by decide +kernel
theorem dX12_crosses_51 : decode cX12_crosses 51 = .ok (.iinc 2 1, 3) := by decide +kernel
theorem dX12_crosses_54 : decode cX12_crosses 54 = .ok (.goto (-50), 3) := by decide +kernel
theorem dX12_crosses_57 : decode cX12_crosses 57 = .ok (.iload_n 1, 1) := by decide +kernel
theorem dX12_crosses_58 : decode cX12_crosses 58 = .ok (.ireturn, 1) := by decide +kernel
theorem dX12_currents_0 : decode cX12_currents 0 = .ok (.iload_n 1, 1) := by decide +kernel
theorem dX12_currents_1 : decode cX12_currents 1 = .ok (.iconst 0, 1) := by decide +kernel
theorem dX12_currents_2 : decode cX12_currents 2 = .ok (.aload_n 0, 1) := by decide +kernel
theorem dX12_currents_3 : decode cX12_currents 3 = .ok (.getfield 28, 3) := by decide +kernel
theorem dX12_currents_6 : decode cX12_currents 6 = .ok (.bipush 68, 2) := by decide +kernel
theorem dX12_currents_8 : decode cX12_currents 8 = .ok (.iaload, 1) := by decide +kernel
theorem dX12_currents_9 : decode cX12_currents 9 = .ok (.invokestatic 18, 3) := by decide +kernel
theorem dX12_currents_12 : decode cX12_currents 12 = .ok (.ifCond .eq 12, 3) := by decide +kernel
theorem dX12_currents_15 : decode cX12_currents 15 = .ok (.iload_n 2, 1) := by decide +kernel
theorem dX12_currents_16 : decode cX12_currents 16 = .ok (.iconst 0, 1) := by decide +kernel
theorem dX12_currents_17 : decode cX12_currents 17 = .ok (.iconst 1, 1) := by decide +kernel
theorem dX12_currents_18 : decode cX12_currents 18 = .ok (.invokestatic 18, 3) := by decide +kernel
theorem dX12_currents_21 : decode cX12_currents 21 = .ok (.ifCond .ne 5, 3) := by decide +kernel
theorem dX12_currents_24 : decode cX12_currents 24 = .ok (.iconst (-1), 1) := by decide +kernel
theorem dX12_currents_25 : decode cX12_currents 25 = .ok (.ireturn, 1) := by decide +kernel
theorem dX12_currents_26 : decode cX12_currents 26 = .ok (.iconst 0, 1) := by decide +kernel
theorem dX12_currents_27 : decode cX12_currents 27 = .ok (.istore_n 3, 1) := by decide +kernel
theorem dX12_currents_28 : decode cX12_currents 28 = .ok (.iconst 0, 1) := by decide +kernel
theorem dX12_currents_29 : decode cX12_currents 29 = .ok (.istore 4, 2) := by decide +kernel
theorem dX12_currents_31 : decode cX12_currents 31 = .ok (.iload 4, 2) := by decide +kernel
theorem dX12_currents_33 : decode cX12_currents 33 = .ok (.aload_n 0, 1) := by decide +kernel
theorem dX12_currents_34 : decode cX12_currents 34 = .ok (.invokevirtual 115, 3) := by decide +kernel
theorem dX12_currents_37 : decode cX12_currents 37 = .ok (.if_icmp .ge 68, 3) := by decide +kernel
theorem dX12_currents_40 : decode cX12_currents 40 = .ok (.iload_n 3, 1) := by decide +kernel
theorem dX12_currents_41 : decode cX12_currents 41 = .ok (.aload_n 0, 1) := by decide +kernel
theorem dX12_currents_42 : decode cX12_currents 42 = .ok (.iload 4, 2) := by decide +kernel
theorem dX12_currents_44 : decode cX12_currents 44 = .ok (.invokevirtual 137, 3) := by decide +kernel
theorem dX12_currents_47 : decode cX12_currents 47 = .ok (.ifCond .eq 49, 3) := by decide +kernel
theorem dX12_currents_50 : decode cX12_currents 50 = .ok (.aload_n 0, 1) := by decide +kernel
theorem dX12_currents_51 : decode cX12_currents 51 = .ok (.getfield 28, 3) := by decide +kernel
theorem dX12_currents_54 : decode cX12_currents 54 = .ok (.bipush 18, 2) := by decide +kernel
theorem dX12_currents_56 : decode cX12_currents 56 = .ok (.iload 4, 2) := by decide +kernel
theorem dX12_currents_58 : decode cX12_currents 58 = .ok (.iadd, 1) := by decide +kernel
theorem dX12_currents_59 : decode cX12_currents 59 = .ok (.iaload, 1) := by decide +kernel
theorem dX12_currents_60 : decode cX12_currents 60 = .ok (.iload_n 2, 1) := by decide +kernel
theorem dX12_currents_61 : decode cX12_currents 61 = .ok (.ifCond .ne 7, 3) := by decide +kernel
theorem dX12_currents_64 : decode cX12_currents 64 = .ok (.iconst 0, 1) := by decide +kernel
theorem dX12_currents_65 : decode cX12_currents 65 = .ok (.goto 13, 3) := by decide +kernel
theorem dX12_currents_68 : decode cX12_currents 68 = .ok (.aload_n 0, 1) := by decide +kernel
theorem dX12_currents_69 : decode cX12_currents 69 = .ok (.getfield 28, 3) := by decide +kernel
theorem dX12_currents_72 : decode cX12_currents 72 = .ok (.bipush 29, 2) := by decide +kernel
theorem dX12_currents_74 : decode cX12_currents 74 = .ok (.iload 4, 2) := by decide +kernel
theorem dX12_currents_76 : decode cX12_currents 76 = .ok (.iadd, 1) := by decide +kernel
theorem dX12_currents_77 : decode cX12_currents 77 = .ok (.iaload, 1) := by decide +kernel
theorem dX12_currents_78 : decode cX12_currents 78 = .ok (.iadd, 1) := by decide +kernel
theorem dX12_currents_79 : decode cX12_currents 79 = .ok (.iload_n 1, 1) := by decide +kernel
theorem dX12_currents_80 : decode cX12_currents 80 = .ok (.if_icmp .ne 16, 3) := by decide +kernel
theorem dX12_currents_83 : decode cX12_currents 83 = .ok (.aload_n 0, 1) := by decide +kernel
theorem dX12_currents_84 : decode cX12_currents 84 = .ok (.getfield 28, 3) := by decide +kernel
theorem dX12_currents_87 : decode cX12_currents 87 = .ok (.bipush 29, 2) := by decide +kernel
theorem dX12_currents_89 : decode cX12_currents 89 = .ok (.iload 4, 2) := by decide +kernel
theorem dX12_currents_91 : decode cX12_currents 91 = .ok (.iadd, 1) := by decide +kernel
theorem dX12_currents_92 : decode cX12_currents 92 = .ok (.iaload, 1) := by decide +kernel
theorem dX12_currents_93 : decode cX12_currents 93 = .ok (.goto 4, 3) := by decide +kernel
theorem dX12_currents_96 : decode cX12_currents 96 = .ok (.iconst 0, 1) := by decide +kernel
theorem dX12_currents_97 : decode cX12_currents 97 = .ok (.iadd, 1) := by decide +kernel
theorem dX12_currents_98 : decode cX12_currents 98 = .ok (.istore_n 3, 1) := by decide +kernel
theorem dX12_currents_99 : decode cX12_currents 99 = .ok (.iinc 4 1, 3) := by decide +kernel
theorem dX12_currents_102 : decode cX12_currents 102 = .ok (.goto (-71), 3) := by decide +kernel
theorem dX12_currents_105 : decode cX12_currents 105 = .ok (.iload_n 3, 1) := by decide +kernel
theorem dX12_currents_106 : decode cX12_currents 106 = .ok (.ireturn, 1) := by decide +kernel
theorem dX12_fitting_0 : decode cX12_fitting 0 = .ok (.iload_n 1, 1) := by decide +kernel
theorem dX12_fitting_1 : decode cX12_fitting 1 = .ok (.invokestatic 119, 3) := by decide +kernel
theorem dX12_fitting_4 : decode cX12_fitting 4 = .ok (.ifCond .ne 5, 3) := by decide +kernel
theorem dX12_fitting_7 : decode cX12_fitting 7 = .ok (.iconst (-1), 1) := by decide +kernel
theorem dX12_fitting_8 : decode cX12_fitting 8 = .ok (.ireturn, 1) := by decide +kernel
theorem dX12_fitting_9 : decode cX12_fitting 9 = .ok (.aload_n 0, 1) := by decide +kernel
theorem dX12_fitting_10 : decode cX12_fitting 10 = .ok (.invokevirtual 351, 3) := by decide +kernel
theorem dX12_fitting_13 : decode cX12_fitting 13 = .ok (.iconst 0, 1) := by decide +kernel
theorem dX12_fitting_14 : decode cX12_fitting 14 = .ok (.istore_n 2, 1) := by decide +kernel
theorem dX12_fitting_15 : decode cX12_fitting 15 = .ok (.iconst 0, 1) := by decide +kernel
theorem dX12_fitting_16 : decode cX12_fitting 16 = .ok (.istore_n 3, 1) := by decide +kernel
theorem dX12_fitting_17 : decode cX12_fitting 17 = .ok (.iload_n 3, 1) := by decide +kernel
theorem dX12_fitting_18 : decode cX12_fitting 18 = .ok (.aload_n 0, 1) := by decide +kernel
theorem dX12_fitting_19 : decode cX12_fitting 19 = .ok (.getfield 28, 3) := by decide +kernel
theorem dX12_fitting_22 : decode cX12_fitting 22 = .ok (.bipush 67, 2) := by decide +kernel
theorem dX12_fitting_24 : decode cX12_fitting 24 = .ok (.iaload, 1) := by decide +kernel
theorem dX12_fitting_25 : decode cX12_fitting 25 = .ok (.if_icmp .ge 63, 3) := by decide +kernel
theorem dX12_fitting_28 : decode cX12_fitting 28 = .ok (.iconst 0, 1) := by decide +kernel
theorem dX12_fitting_29 : decode cX12_fitting 29 = .ok (.istore 4, 2) := by decide +kernel
theorem dX12_fitting_31 : decode cX12_fitting 31 = .ok (.iload 4, 2) := by decide +kernel
theorem dX12_fitting_33 : decode cX12_fitting 33 = .ok (.aload_n 0, 1) := by decide +kernel
theorem dX12_fitting_34 : decode cX12_fitting 34 = .ok (.getfield 28, 3) := by decide +kernel
theorem dX12_fitting_37 : decode cX12_fitting 37 = .ok (.bipush 68, 2) := by decide +kernel
theorem dX12_fitting_39 : decode cX12_fitting 39 = .ok (.iaload, 1) := by decide +kernel
theorem dX12_fitting_40 : decode cX12_fitting 40 = .ok (.if_icmp .ge 42, 3) := by decide +kernel
theorem dX12_fitting_43 : decode cX12_fitting 43 = .ok (.iload_n 2, 1) := by decide +kernel
theorem dX12_fitting_44 : decode cX12_fitting 44 = .ok (.aload_n 0, 1) := by decide +kernel
theorem dX12_fitting_45 : decode cX12_fitting 45 = .ok (.iload_n 1, 1) := by decide +kernel
theorem dX12_fitting_46 : decode cX12_fitting 46 = .ok (.iload_n 3, 1) := by decide +kernel
theorem dX12_fitting_47 : decode cX12_fitting 47 = .ok (.iload 4, 2) := by decide +kernel
theorem dX12_fitting_49 : decode cX12_fitting 49 = .ok (.aload_n 0, 1) := by decide +kernel
theorem dX12_fitting_50 : decode cX12_fitting 50 = .ok (.getfield 28, 3) := by decide +kernel
theorem dX12_fitting_53 : decode cX12_fitting 53 = .ok (.bipush 67, 2) := by decide +kernel
theorem dX12_fitting_55 : decode cX12_fitting 55 = .ok (.iaload, 1) := by decide +kernel
theorem dX12_fitting_56 : decode cX12_fitting 56 = .ok (.aload_n 0, 1) := by decide +kernel
theorem dX12_fitting_57 : decode cX12_fitting 57 = .ok (.getfield 28, 3) := by decide +kernel
theorem dX12_fitting_60 : decode cX12_fitting 60 = .ok (.bipush 68, 2) := by decide +kernel
theorem dX12_fitting_62 : decode cX12_fitting 62 = .ok (.iaload, 1) := by decide +kernel
theorem dX12_fitting_63 : decode cX12_fitting 63 = .ok (.invokevirtual 360, 3) := by decide +kernel
theorem dX12_fitting_66 : decode cX12_fitting 66 = .ok (.ifCond .eq 7, 3) := by decide +kernel
theorem dX12_fitting_69 : decode cX12_fitting 69 = .ok (.iconst 1, 1) := by decide +kernel
theorem dX12_fitting_70 : decode cX12_fitting 70 = .ok (.goto 4, 3) := by decide +kernel
theorem dX12_fitting_73 : decode cX12_fitting 73 = .ok (.iconst 0, 1) := by decide +kernel
theorem dX12_fitting_74 : decode cX12_fitting 74 = .ok (.iadd, 1) := by decide +kernel
theorem dX12_fitting_75 : decode cX12_fitting 75 = .ok (.istore_n 2, 1) := by decide +kernel
theorem dX12_fitting_76 : decode cX12_fitting 76 = .ok (.iinc 4 1, 3) := by decide +kernel
theorem dX12_fitting_79 : decode cX12_fitting 79 = .ok (.goto (-48), 3) := by decide +kernel
theorem dX12_fitting_82 : decode cX12_fitting 82 = .ok (.iinc 3 1, 3) := by decide +kernel
theorem dX12_fitting_85 : decode cX12_fitting 85 = .ok (.goto (-68), 3) := by decide +kernel
theorem dX12_fitting_88 : decode cX12_fitting 88 = .ok (.iload_n 2, 1) := by decide +kernel
theorem dX12_fitting_89 : decode cX12_fitting 89 = .ok (.ireturn, 1) := by decide +kernel
theorem dX12_alike_0 : decode cX12_alike 0 = .ok (.iconst 0, 1) := by decide +kernel
theorem dX12_alike_1 : decode cX12_alike 1 = .ok (.istore_n 1, 1) := by decide +kernel
theorem dX12_alike_2 : decode cX12_alike 2 = .ok (.iconst 0, 1) := by decide +kernel
theorem dX12_alike_3 : decode cX12_alike 3 = .ok (.istore_n 2, 1) := by decide +kernel
theorem dX12_alike_4 : decode cX12_alike 4 = .ok (.iload_n 2, 1) := by decide +kernel
theorem dX12_alike_5 : decode cX12_alike 5 = .ok (.aload_n 0, 1) := by decide +kernel
theorem dX12_alike_6 : decode cX12_alike 6 = .ok (.invokevirtual 115, 3) := by decide +kernel
theorem dX12_alike_9 : decode cX12_alike 9 = .ok (.if_icmp .ge 72, 3) := by decide +kernel
theorem dX12_alike_12 : decode cX12_alike 12 = .ok (.iload_n 2, 1) := by decide +kernel
theorem dX12_alike_13 : decode cX12_alike 13 = .ok (.iconst 1, 1) := by decide +kernel
theorem dX12_alike_14 : decode cX12_alike 14 = .ok (.iadd, 1) := by decide +kernel
theorem dX12_alike_15 : decode cX12_alike 15 = .ok (.istore_n 3, 1) := by decide +kernel
theorem dX12_alike_16 : decode cX12_alike 16 = .ok (.iload_n 3, 1) := by decide +kernel
theorem dX12_alike_17 : decode cX12_alike 17 = .ok (.aload_n 0, 1) := by decide +kernel
theorem dX12_alike_18 : decode cX12_alike 18 = .ok (.invokevirtual 115, 3) := by decide +kernel
theorem dX12_alike_21 : decode cX12_alike 21 = .ok (.if_icmp .ge 54, 3) := by decide +kernel
theorem dX12_alike_24 : decode cX12_alike 24 = .ok (.iload_n 1, 1) := by decide +kernel
theorem dX12_alike_25 : decode cX12_alike 25 = .ok (.aload_n 0, 1) := by decide +kernel
theorem dX12_alike_26 : decode cX12_alike 26 = .ok (.iload_n 2, 1) := by decide +kernel
theorem dX12_alike_27 : decode cX12_alike 27 = .ok (.invokevirtual 137, 3) := by decide +kernel
theorem dX12_alike_30 : decode cX12_alike 30 = .ok (.ifCond .eq 36, 3) := by decide +kernel
theorem dX12_alike_33 : decode cX12_alike 33 = .ok (.aload_n 0, 1) := by decide +kernel
theorem dX12_alike_34 : decode cX12_alike 34 = .ok (.iload_n 3, 1) := by decide +kernel
theorem dX12_alike_35 : decode cX12_alike 35 = .ok (.invokevirtual 137, 3) := by decide +kernel
theorem dX12_alike_38 : decode cX12_alike 38 = .ok (.ifCond .eq 28, 3) := by decide +kernel
theorem dX12_alike_41 : decode cX12_alike 41 = .ok (.aload_n 0, 1) := by decide +kernel
theorem dX12_alike_42 : decode cX12_alike 42 = .ok (.getfield 28, 3) := by decide +kernel
theorem dX12_alike_45 : decode cX12_alike 45 = .ok (.bipush 29, 2) := by decide +kernel
theorem dX12_alike_47 : decode cX12_alike 47 = .ok (.iload_n 2, 1) := by decide +kernel
theorem dX12_alike_48 : decode cX12_alike 48 = .ok (.iadd, 1) := by decide +kernel
theorem dX12_alike_49 : decode cX12_alike 49 = .ok (.iaload, 1) := by decide +kernel
theorem dX12_alike_50 : decode cX12_alike 50 = .ok (.aload_n 0, 1) := by decide +kernel
theorem dX12_alike_51 : decode cX12_alike 51 = .ok (.getfield 28, 3) := by decide +kernel
theorem dX12_alike_54 : decode cX12_alike 54 = .ok (.bipush 29, 2) := by decide +kernel
theorem dX12_alike_56 : decode cX12_alike 56 = .ok (.iload_n 3, 1) := by decide +kernel
theorem dX12_alike_57 : decode cX12_alike 57 = .ok (.iadd, 1) := by decide +kernel
theorem dX12_alike_58 : decode cX12_alike 58 = .ok (.iaload, 1) := by decide +kernel
theorem dX12_alike_59 : decode cX12_alike 59 = .ok (.if_icmp .ne 7, 3) := by decide +kernel
theorem dX12_alike_62 : decode cX12_alike 62 = .ok (.iconst 1, 1) := by decide +kernel
theorem dX12_alike_63 : decode cX12_alike 63 = .ok (.goto 4, 3) := by decide +kernel
theorem dX12_alike_66 : decode cX12_alike 66 = .ok (.iconst 0, 1) := by decide +kernel
theorem dX12_alike_67 : decode cX12_alike 67 = .ok (.iadd, 1) := by decide +kernel
theorem dX12_alike_68 : decode cX12_alike 68 = .ok (.istore_n 1, 1) := by decide +kernel
theorem dX12_alike_69 : decode cX12_alike 69 = .ok (.iinc 3 1, 3) := by decide +kernel
theorem dX12_alike_72 : decode cX12_alike 72 = .ok (.goto (-56), 3) := by decide +kernel
theorem dX12_alike_75 : decode cX12_alike 75 = .ok (.iinc 2 1, 3) := by decide +kernel
theorem dX12_alike_78 : decode cX12_alike 78 = .ok (.goto (-74), 3) := by decide +kernel
theorem dX12_alike_81 : decode cX12_alike 81 = .ok (.iload_n 1, 1) := by decide +kernel
theorem dX12_alike_82 : decode cX12_alike 82 = .ok (.ireturn, 1) := by decide +kernel
theorem dX12_seen_0 : decode cX12_seen 0 = .ok (.iload_n 1, 1) := by decide +kernel
theorem dX12_seen_1 : decode cX12_seen 1 = .ok (.invokestatic 149, 3) := by decide +kernel
theorem dX12_seen_4 : decode cX12_seen 4 = .ok (.ifCond .eq 17, 3) := by decide +kernel
theorem dX12_seen_7 : decode cX12_seen 7 = .ok (.iload_n 2, 1) := by decide +kernel
theorem dX12_seen_8 : decode cX12_seen 8 = .ok (.invokestatic 149, 3) := by decide +kernel
theorem dX12_seen_11 : decode cX12_seen 11 = .ok (.ifCond .eq 10, 3) := by decide +kernel
theorem dX12_seen_14 : decode cX12_seen 14 = .ok (.iload_n 3, 1) := by decide +kernel
theorem dX12_seen_15 : decode cX12_seen 15 = .ok (.invokestatic 119, 3) := by decide +kernel
theorem dX12_seen_18 : decode cX12_seen 18 = .ok (.ifCond .ne 9, 3) := by decide +kernel
theorem dX12_seen_21 : decode cX12_seen 21 = .ok (.aload_n 0, 1) := by decide +kernel
theorem dX12_seen_22 : decode cX12_seen 22 = .ok (.iconst (-1), 1) := by decide +kernel
theorem dX12_seen_23 : decode cX12_seen 23 = .ok (.invokevirtual 109, 3) := by decide +kernel
theorem dX12_seen_26 : decode cX12_seen 26 = .ok (.ireturn, 1) := by decide +kernel
theorem dX12_seen_27 : decode cX12_seen 27 = .ok (.bipush 47, 2) := by decide +kernel
theorem dX12_seen_29 : decode cX12_seen 29 = .ok (.iconst 3, 1) := by decide +kernel
theorem dX12_seen_30 : decode cX12_seen 30 = .ok (.aload_n 0, 1) := by decide +kernel
theorem dX12_seen_31 : decode cX12_seen 31 = .ok (.getfield 28, 3) := by decide +kernel
theorem dX12_seen_34 : decode cX12_seen 34 = .ok (.bipush 70, 2) := by decide +kernel
theorem dX12_seen_36 : decode cX12_seen 36 = .ok (.iaload, 1) := by decide +kernel
theorem dX12_seen_37 : decode cX12_seen 37 = .ok (.imul, 1) := by decide +kernel
theorem dX12_seen_38 : decode cX12_seen 38 = .ok (.iadd, 1) := by decide +kernel
theorem dX12_seen_39 : decode cX12_seen 39 = .ok (.istore 4, 2) := by decide +kernel
theorem dX12_seen_41 : decode cX12_seen 41 = .ok (.aload_n 0, 1) := by decide +kernel
theorem dX12_seen_42 : decode cX12_seen 42 = .ok (.getfield 28, 3) := by decide +kernel
theorem dX12_seen_45 : decode cX12_seen 45 = .ok (.bipush 70, 2) := by decide +kernel
theorem dX12_seen_47 : decode cX12_seen 47 = .ok (.iaload, 1) := by decide +kernel
theorem dX12_seen_48 : decode cX12_seen 48 = .ok (.bipush 6, 2) := by decide +kernel
theorem dX12_seen_50 : decode cX12_seen 50 = .ok (.if_icmp .ne 10, 3) := by decide +kernel
theorem dX12_seen_53 : decode cX12_seen 53 = .ok (.aload_n 0, 1) := by decide +kernel
theorem dX12_seen_54 : decode cX12_seen 54 = .ok (.bipush (-5), 2) := by decide +kernel
theorem dX12_seen_56 : decode cX12_seen 56 = .ok (.invokevirtual 109, 3) := by decide +kernel
theorem dX12_seen_59 : decode cX12_seen 59 = .ok (.ireturn, 1) := by decide +kernel
theorem dX12_seen_60 : decode cX12_seen 60 = .ok (.aload_n 0, 1) := by decide +kernel
theorem dX12_seen_61 : decode cX12_seen 61 = .ok (.getfield 28, 3) := by decide +kernel
theorem dX12_seen_64 : decode cX12_seen 64 = .ok (.iload 4, 2) := by decide +kernel
theorem dX12_seen_66 : decode cX12_seen 66 = .ok (.iload_n 1, 1) := by decide +kernel
theorem dX12_seen_67 : decode cX12_seen 67 = .ok (.iastore, 1) := by decide +kernel
theorem dX12_seen_68 : decode cX12_seen 68 = .ok (.aload_n 0, 1) := by decide +kernel
theorem dX12_seen_69 : decode cX12_seen 69 = .ok (.getfield 28, 3) := by decide +kernel
theorem dX12_seen_72 : decode cX12_seen 72 = .ok (.iload 4, 2) := by decide +kernel
theorem dX12_seen_74 : decode cX12_seen 74 = .ok (.iconst 1, 1) := by decide +kernel
theorem dX12_seen_75 : decode cX12_seen 75 = .ok (.iadd, 1) := by decide +kernel
theorem dX12_seen_76 : decode cX12_seen 76 = .ok (.iload_n 2, 1) := by decide +kernel
theorem dX12_seen_77 : decode cX12_seen 77 = .ok (.iastore, 1) := by decide +kernel
theorem dX12_seen_78 : decode cX12_seen 78 = .ok (.aload_n 0, 1) := by decide +kernel
theorem dX12_seen_79 : decode cX12_seen 79 = .ok (.getfield 28, 3) := by decide +kernel
theorem dX12_seen_82 : decode cX12_seen 82 = .ok (.iload 4, 2) := by decide +kernel
theorem dX12_seen_84 : decode cX12_seen 84 = .ok (.iconst 2, 1) := by decide +kernel
theorem dX12_seen_85 : decode cX12_seen 85 = .ok (.iadd, 1) := by decide +kernel
theorem dX12_seen_86 : decode cX12_seen 86 = .ok (.iload_n 3, 1) := by decide +kernel
theorem dX12_seen_87 : decode cX12_seen 87 = .ok (.iastore, 1) := by decide +kernel
theorem dX12_seen_88 : decode cX12_seen 88 = .ok (.aload_n 0, 1) := by decide +kernel
theorem dX12_seen_89 : decode cX12_seen 89 = .ok (.getfield 28, 3) := by decide +kernel
theorem dX12_seen_92 : decode cX12_seen 92 = .ok (.bipush 70, 2) := by decide +kernel
theorem dX12_seen_94 : decode cX12_seen 94 = .ok (.dup2, 1) := by decide +kernel
theorem dX12_seen_95 : decode cX12_seen 95 = .ok (.iaload, 1) := by decide +kernel
theorem dX12_seen_96 : decode cX12_seen 96 = .ok (.iconst 1, 1) := by decide +kernel
theorem dX12_seen_97 : decode cX12_seen 97 = .ok (.iadd, 1) := by decide +kernel
theorem dX12_seen_98 : decode cX12_seen 98 = .ok (.iastore, 1) := by decide +kernel
theorem dX12_seen_99 : decode cX12_seen 99 = .ok (.aload_n 0, 1) := by decide +kernel
theorem dX12_seen_100 : decode cX12_seen 100 = .ok (.aload_n 0, 1) := by decide +kernel
theorem dX12_seen_101 : decode cX12_seen 101 = .ok (.getfield 28, 3) := by decide +kernel
theorem dX12_seen_104 : decode cX12_seen 104 = .ok (.bipush 70, 2) := by decide +kernel
theorem dX12_seen_106 : decode cX12_seen 106 = .ok (.iaload, 1) := by decide +kernel
theorem dX12_seen_107 : decode cX12_seen 107 = .ok (.invokevirtual 14, 3) := by decide +kernel
theorem dX12_seen_110 : decode cX12_seen 110 = .ok (.ireturn, 1) := by decide +kernel
theorem dX12_forget_0 : decode cX12_forget 0 = .ok (.aload_n 0, 1) := by decide +kernel
theorem dX12_forget_1 : decode cX12_forget 1 = .ok (.getfield 28, 3) := by decide +kernel
theorem dX12_forget_4 : decode cX12_forget 4 = .ok (.bipush 70, 2) := by decide +kernel
theorem dX12_forget_6 : decode cX12_forget 6 = .ok (.iaload, 1) := by decide +kernel
theorem dX12_forget_7 : decode cX12_forget 7 = .ok (.istore_n 1, 1) := by decide +kernel
theorem dX12_forget_8 : decode cX12_forget 8 = .ok (.aload_n 0, 1) := by decide +kernel
theorem dX12_forget_9 : decode cX12_forget 9 = .ok (.getfield 28, 3) := by decide +kernel
theorem dX12_forget_12 : decode cX12_forget 12 = .ok (.bipush 70, 2) := by decide +kernel
theorem dX12_forget_14 : decode cX12_forget 14 = .ok (.iconst 0, 1) := by decide +kernel
theorem dX12_forget_15 : decode cX12_forget 15 = .ok (.iastore, 1) := by decide +kernel
theorem dX12_forget_16 : decode cX12_forget 16 = .ok (.iload_n 1, 1) := by decide +kernel
theorem dX12_forget_17 : decode cX12_forget 17 = .ok (.ireturn, 1) := by decide +kernel
theorem dX12_laysFloors_0 : decode cX12_laysFloors 0 = .ok (.iconst 0, 1) := by decide +kernel
theorem dX12_laysFloors_1 : decode cX12_laysFloors 1 = .ok (.istore_n 1, 1) := by decide +kernel
theorem dX12_laysFloors_2 : decode cX12_laysFloors 2 = .ok (.iload_n 1, 1) := by decide +kernel
theorem dX12_laysFloors_3 : decode cX12_laysFloors 3 = .ok (.sipush 1296, 3) := by decide +kernel
theorem dX12_laysFloors_6 : decode cX12_laysFloors 6 = .ok (.if_icmp .ge 16, 3) := by decide +kernel
theorem dX12_laysFloors_9 : decode cX12_laysFloors 9 = .ok (.aload_n 0, 1) := by decide +kernel
theorem dX12_laysFloors_10 : decode cX12_laysFloors 10 = .ok (.getfield 90, 3) := by decide +kernel
theorem dX12_laysFloors_13 : decode cX12_laysFloors 13 = .ok (.iload_n 1, 1) := by decide +kernel
theorem dX12_laysFloors_14 : decode cX12_laysFloors 14 = .ok (.iconst 0, 1) := by decide +kernel
theorem dX12_laysFloors_15 : decode cX12_laysFloors 15 = .ok (.iastore, 1) := by decide +kernel
theorem dX12_laysFloors_16 : decode cX12_laysFloors 16 = .ok (.iinc 1 1, 3) := by decide +kernel
theorem dX12_laysFloors_19 : decode cX12_laysFloors 19 = .ok (.goto (-17), 3) := by decide +kernel
theorem dX12_laysFloors_22 : decode cX12_laysFloors 22 = .ok (.aload_n 0, 1) := by decide +kernel
theorem dX12_laysFloors_23 : decode cX12_laysFloors 23 = .ok (.iconst 1, 1) := by decide +kernel
theorem dX12_laysFloors_24 : decode cX12_laysFloors 24 = .ok (.invokevirtual 445, 3) := by decide +kernel
theorem dX12_laysFloors_27 : decode cX12_laysFloors 27 = .ok (.return_, 1) := by decide +kernel
theorem dX12_floors_0 : decode cX12_floors 0 = .ok (.aload_n 0, 1) := by decide +kernel
theorem dX12_floors_1 : decode cX12_floors 1 = .ok (.invokevirtual 465, 3) := by decide +kernel
theorem dX12_floors_4 : decode cX12_floors 4 = .ok (.aload_n 0, 1) := by decide +kernel
theorem dX12_floors_5 : decode cX12_floors 5 = .ok (.getfield 406, 3) := by decide +kernel
theorem dX12_floors_8 : decode cX12_floors 8 = .ok (.ireturn, 1) := by decide +kernel
theorem dX12_mostAt_0 : decode cX12_mostAt 0 = .ok (.iconst 0, 1) := by decide +kernel
theorem dX12_mostAt_1 : decode cX12_mostAt 1 = .ok (.istore_n 2, 1) := by decide +kernel
theorem dX12_mostAt_2 : decode cX12_mostAt 2 = .ok (.iconst 0, 1) := by decide +kernel
theorem dX12_mostAt_3 : decode cX12_mostAt 3 = .ok (.istore_n 3, 1) := by decide +kernel
theorem dX12_mostAt_4 : decode cX12_mostAt 4 = .ok (.iload_n 3, 1) := by decide +kernel
theorem dX12_mostAt_5 : decode cX12_mostAt 5 = .ok (.aload_n 0, 1) := by decide +kernel
theorem dX12_mostAt_6 : decode cX12_mostAt 6 = .ok (.invokevirtual 115, 3) := by decide +kernel
theorem dX12_mostAt_9 : decode cX12_mostAt 9 = .ok (.if_icmp .ge 25, 3) := by decide +kernel
theorem dX12_mostAt_12 : decode cX12_mostAt 12 = .ok (.iload_n 2, 1) := by decide +kernel
theorem dX12_mostAt_13 : decode cX12_mostAt 13 = .ok (.aload_n 0, 1) := by decide +kernel
theorem dX12_mostAt_14 : decode cX12_mostAt 14 = .ok (.getfield 90, 3) := by decide +kernel
theorem dX12_mostAt_17 : decode cX12_mostAt 17 = .ok (.bipush 9, 2) := by decide +kernel
theorem dX12_mostAt_19 : decode cX12_mostAt 19 = .ok (.iload_n 1, 1) := by decide +kernel
theorem dX12_mostAt_20 : decode cX12_mostAt 20 = .ok (.imul, 1) := by decide +kernel
theorem dX12_mostAt_21 : decode cX12_mostAt 21 = .ok (.iload_n 3, 1) := by decide +kernel
theorem dX12_mostAt_22 : decode cX12_mostAt 22 = .ok (.iadd, 1) := by decide +kernel
theorem dX12_mostAt_23 : decode cX12_mostAt 23 = .ok (.iaload, 1) := by decide +kernel
theorem dX12_mostAt_24 : decode cX12_mostAt 24 = .ok (.invokestatic 367, 3) := by decide +kernel
theorem dX12_mostAt_27 : decode cX12_mostAt 27 = .ok (.istore_n 2, 1) := by decide +kernel
theorem dX12_mostAt_28 : decode cX12_mostAt 28 = .ok (.iinc 3 1, 3) := by decide +kernel
theorem dX12_mostAt_31 : decode cX12_mostAt 31 = .ok (.goto (-27), 3) := by decide +kernel
theorem dX12_mostAt_34 : decode cX12_mostAt 34 = .ok (.iload_n 2, 1) := by decide +kernel
theorem dX12_mostAt_35 : decode cX12_mostAt 35 = .ok (.ireturn, 1) := by decide +kernel
theorem dX12_look_0 : decode cX12_look 0 = .ok (.iload_n 1, 1) := by decide +kernel
theorem dX12_look_1 : decode cX12_look 1 = .ok (.iconst 0, 1) := by decide +kernel
theorem dX12_look_2 : decode cX12_look 2 = .ok (.iconst 2, 1) := by decide +kernel
theorem dX12_look_3 : decode cX12_look 3 = .ok (.invokestatic 18, 3) := by decide +kernel
theorem dX12_look_6 : decode cX12_look 6 = .ok (.ifCond .ne 5, 3) := by decide +kernel
theorem dX12_look_9 : decode cX12_look 9 = .ok (.iconst (-1), 1) := by decide +kernel
theorem dX12_look_10 : decode cX12_look 10 = .ok (.ireturn, 1) := by decide +kernel
theorem dX12_look_11 : decode cX12_look 11 = .ok (.aload_n 0, 1) := by decide +kernel
theorem dX12_look_12 : decode cX12_look 12 = .ok (.invokevirtual 465, 3) := by decide +kernel
theorem dX12_look_15 : decode cX12_look 15 = .ok (.iconst (-1), 1) := by decide +kernel
theorem dX12_look_16 : decode cX12_look 16 = .ok (.istore_n 2, 1) := by decide +kernel
theorem dX12_look_17 : decode cX12_look 17 = .ok (.ldc 188, 2) := by decide +kernel
theorem dX12_look_19 : decode cX12_look 19 = .ok (.istore_n 3, 1) := by decide +kernel
theorem dX12_look_20 : decode cX12_look 20 = .ok (.iconst 0, 1) := by decide +kernel
theorem dX12_look_21 : decode cX12_look 21 = .ok (.istore 4, 2) := by decide +kernel
theorem dX12_look_23 : decode cX12_look 23 = .ok (.iload 4, 2) := by decide +kernel
theorem dX12_look_25 : decode cX12_look 25 = .ok (.sipush 144, 3) := by decide +kernel
theorem dX12_look_28 : decode cX12_look 28 = .ok (.if_icmp .ge 44, 3) := by decide +kernel
theorem dX12_look_31 : decode cX12_look 31 = .ok (.aload_n 0, 1) := by decide +kernel
theorem dX12_look_32 : decode cX12_look 32 = .ok (.getfield 406, 3) := by decide +kernel
theorem dX12_look_35 : decode cX12_look 35 = .ok (.ifCond .le 37, 3) := by decide +kernel
theorem dX12_look_38 : decode cX12_look 38 = .ok (.aload_n 0, 1) := by decide +kernel
theorem dX12_look_39 : decode cX12_look 39 = .ok (.iload 4, 2) := by decide +kernel
theorem dX12_look_41 : decode cX12_look 41 = .ok (.invokevirtual 468, 3) := by decide +kernel
theorem dX12_look_44 : decode cX12_look 44 = .ok (.istore 5, 2) := by decide +kernel
theorem dX12_look_46 : decode cX12_look 46 = .ok (.iload 5, 2) := by decide +kernel
theorem dX12_look_48 : decode cX12_look 48 = .ok (.ifCond .eq 18, 3) := by decide +kernel
theorem dX12_look_51 : decode cX12_look 51 = .ok (.iload 5, 2) := by decide +kernel
theorem dX12_look_53 : decode cX12_look 53 = .ok (.iload_n 3, 1) := by decide +kernel
theorem dX12_look_54 : decode cX12_look 54 = .ok (.if_icmp .lt 6, 3) := by decide +kernel
theorem dX12_look_57 : decode cX12_look 57 = .ok (.goto 9, 3) := by decide +kernel
theorem dX12_look_60 : decode cX12_look 60 = .ok (.iload 5, 2) := by decide +kernel
theorem dX12_look_62 : decode cX12_look 62 = .ok (.istore_n 3, 1) := by decide +kernel
theorem dX12_look_63 : decode cX12_look 63 = .ok (.iload 4, 2) := by decide +kernel
theorem dX12_look_65 : decode cX12_look 65 = .ok (.istore_n 2, 1) := by decide +kernel
theorem dX12_look_66 : decode cX12_look 66 = .ok (.iinc 4 1, 3) := by decide +kernel
theorem dX12_look_69 : decode cX12_look 69 = .ok (.goto (-46), 3) := by decide +kernel
theorem dX12_look_72 : decode cX12_look 72 = .ok (.iload_n 2, 1) := by decide +kernel
theorem dX12_look_73 : decode cX12_look 73 = .ok (.iconst (-1), 1) := by decide +kernel
theorem dX12_look_74 : decode cX12_look 74 = .ok (.if_icmp .ne 5, 3) := by decide +kernel
theorem dX12_look_77 : decode cX12_look 77 = .ok (.iconst (-1), 1) := by decide +kernel
theorem dX12_look_78 : decode cX12_look 78 = .ok (.ireturn, 1) := by decide +kernel
theorem dX12_look_79 : decode cX12_look 79 = .ok (.iload_n 1, 1) := by decide +kernel
theorem dX12_look_80 : decode cX12_look 80 = .ok (.ifCond .ne 10, 3) := by decide +kernel
theorem dX12_look_83 : decode cX12_look 83 = .ok (.iload_n 2, 1) := by decide +kernel
theorem dX12_look_84 : decode cX12_look 84 = .ok (.bipush 12, 2) := by decide +kernel
theorem dX12_look_86 : decode cX12_look 86 = .ok (.irem, 1) := by decide +kernel
theorem dX12_look_87 : decode cX12_look 87 = .ok (.goto 16, 3) := by decide +kernel
theorem dX12_look_90 : decode cX12_look 90 = .ok (.iload_n 1, 1) := by decide +kernel
theorem dX12_look_91 : decode cX12_look 91 = .ok (.iconst 1, 1) := by decide +kernel
theorem dX12_look_92 : decode cX12_look 92 = .ok (.if_icmp .ne 10, 3) := by decide +kernel
theorem dX12_look_95 : decode cX12_look 95 = .ok (.iload_n 2, 1) := by decide +kernel
theorem dX12_look_96 : decode cX12_look 96 = .ok (.bipush 12, 2) := by decide +kernel
theorem dX12_look_98 : decode cX12_look 98 = .ok (.idiv, 1) := by decide +kernel
theorem dX12_look_99 : decode cX12_look 99 = .ok (.goto 4, 3) := by decide +kernel
theorem dX12_look_102 : decode cX12_look 102 = .ok (.iload_n 3, 1) := by decide +kernel
theorem dX12_look_103 : decode cX12_look 103 = .ok (.ireturn, 1) := by decide +kernel
theorem dX12_few_0 : decode cX12_few 0 = .ok (.iload_n 1, 1) := by decide +kernel
theorem dX12_few_1 : decode cX12_few 1 = .ok (.iconst 1, 1) := by decide +kernel
theorem dX12_few_2 : decode cX12_few 2 = .ok (.bipush 20, 2) := by decide +kernel
theorem dX12_few_4 : decode cX12_few 4 = .ok (.invokestatic 18, 3) := by decide +kernel
theorem dX12_few_7 : decode cX12_few 7 = .ok (.ifCond .eq 13, 3) := by decide +kernel
theorem dX12_few_10 : decode cX12_few 10 = .ok (.iload_n 2, 1) := by decide +kernel
theorem dX12_few_11 : decode cX12_few 11 = .ok (.iconst 0, 1) := by decide +kernel
theorem dX12_few_12 : decode cX12_few 12 = .ok (.bipush 99, 2) := by decide +kernel
theorem dX12_few_14 : decode cX12_few 14 = .ok (.invokestatic 18, 3) := by decide +kernel
theorem dX12_few_17 : decode cX12_few 17 = .ok (.ifCond .ne 7, 3) := by decide +kernel
theorem dX12_few_20 : decode cX12_few 20 = .ok (.ldc2_w 471, 3) := by decide +kernel
theorem dX12_few_23 : decode cX12_few 23 = .ok (.lreturn, 1) := by decide +kernel
theorem dX12_few_24 : decode cX12_few 24 = .ok (.iconst 0, 1) := by decide +kernel
theorem dX12_few_25 : decode cX12_few 25 = .ok (.istore_n 3, 1) := by decide +kernel
theorem dX12_few_26 : decode cX12_few 26 = .ok (.iload_n 3, 1) := by decide +kernel
theorem dX12_few_27 : decode cX12_few 27 = .ok (.bipush 20, 2) := by decide +kernel
theorem dX12_few_29 : decode cX12_few 29 = .ok (.if_icmp .gt 26, 3) := by decide +kernel
theorem dX12_few_32 : decode cX12_few 32 = .ok (.aload_n 0, 1) := by decide +kernel
theorem dX12_few_33 : decode cX12_few 33 = .ok (.getfield 93, 3) := by decide +kernel
theorem dX12_few_36 : decode cX12_few 36 = .ok (.iload_n 3, 1) := by decide +kernel
theorem dX12_few_37 : decode cX12_few 37 = .ok (.iload_n 3, 1) := by decide +kernel
theorem dX12_few_38 : decode cX12_few 38 = .ok (.ifCond .ne 9, 3) := by decide +kernel
theorem dX12_few_41 : decode cX12_few 41 = .ok (.ldc2_w 473, 3) := by decide +kernel
theorem dX12_few_44 : decode cX12_few 44 = .ok (.goto 4, 3) := by decide +kernel
theorem dX12_few_47 : decode cX12_few 47 = .ok (.lconst 0, 1) := by decide +kernel
theorem dX12_few_48 : decode cX12_few 48 = .ok (.lastore, 1) := by decide +kernel
theorem dX12_few_49 : decode cX12_few 49 = .ok (.iinc 3 1, 3) := by decide +kernel
theorem dX12_few_52 : decode cX12_few 52 = .ok (.goto (-26), 3) := by decide +kernel
theorem dX12_few_55 : decode cX12_few 55 = .ok (.iconst 0, 1) := by decide +kernel
theorem dX12_few_56 : decode cX12_few 56 = .ok (.istore_n 3, 1) := by decide +kernel
theorem dX12_few_57 : decode cX12_few 57 = .ok (.iload_n 3, 1) := by decide +kernel
theorem dX12_few_58 : decode cX12_few 58 = .ok (.iload_n 2, 1) := by decide +kernel
theorem dX12_few_59 : decode cX12_few 59 = .ok (.if_icmp .ge 87, 3) := by decide +kernel
theorem dX12_few_62 : decode cX12_few 62 = .ok (.iload_n 1, 1) := by decide +kernel
theorem dX12_few_63 : decode cX12_few 63 = .ok (.iconst 1, 1) := by decide +kernel
theorem dX12_few_64 : decode cX12_few 64 = .ok (.isub, 1) := by decide +kernel
theorem dX12_few_65 : decode cX12_few 65 = .ok (.istore 4, 2) := by decide +kernel
theorem dX12_few_67 : decode cX12_few 67 = .ok (.iload 4, 2) := by decide +kernel
theorem dX12_few_69 : decode cX12_few 69 = .ok (.ifCond .lt 71, 3) := by decide +kernel
theorem dX12_few_72 : decode cX12_few 72 = .ok (.aload_n 0, 1) := by decide +kernel
theorem dX12_few_73 : decode cX12_few 73 = .ok (.getfield 93, 3) := by decide +kernel
theorem dX12_few_76 : decode cX12_few 76 = .ok (.iload 4, 2) := by decide +kernel
theorem dX12_few_78 : decode cX12_few 78 = .ok (.iconst 1, 1) := by decide +kernel
theorem dX12_few_79 : decode cX12_few 79 = .ok (.iadd, 1) := by decide +kernel
theorem dX12_few_80 : decode cX12_few 80 = .ok (.dup2, 1) := by decide +kernel
theorem dX12_few_81 : decode cX12_few 81 = .ok (.laload, 1) := by decide +kernel
theorem dX12_few_82 : decode cX12_few 82 = .ok (.aload_n 0, 1) := by decide +kernel
theorem dX12_few_83 : decode cX12_few 83 = .ok (.getfield 93, 3) := by decide +kernel
theorem dX12_few_86 : decode cX12_few 86 = .ok (.iload 4, 2) := by decide +kernel
theorem dX12_few_88 : decode cX12_few 88 = .ok (.laload, 1) := by decide +kernel
theorem dX12_few_89 : decode cX12_few 89 = .ok (.aload_n 0, 1) := by decide +kernel
theorem dX12_few_90 : decode cX12_few 90 = .ok (.getfield 28, 3) := by decide +kernel
theorem dX12_few_93 : decode cX12_few 93 = .ok (.bipush 65, 2) := by decide +kernel
theorem dX12_few_95 : decode cX12_few 95 = .ok (.iaload, 1) := by decide +kernel
theorem dX12_few_96 : decode cX12_few 96 = .ok (.i2l, 1) := by decide +kernel
theorem dX12_few_97 : decode cX12_few 97 = .ok (.lmul, 1) := by decide +kernel
theorem dX12_few_98 : decode cX12_few 98 = .ok (.ldc2_w 475, 3) := by decide +kernel
theorem dX12_few_101 : decode cX12_few 101 = .ok (.ldiv, 1) := by decide +kernel
theorem dX12_few_102 : decode cX12_few 102 = .ok (.ladd, 1) := by decide +kernel
theorem dX12_few_103 : decode cX12_few 103 = .ok (.lastore, 1) := by decide +kernel
theorem dX12_few_104 : decode cX12_few 104 = .ok (.aload_n 0, 1) := by decide +kernel
theorem dX12_few_105 : decode cX12_few 105 = .ok (.getfield 93, 3) := by decide +kernel
theorem dX12_few_108 : decode cX12_few 108 = .ok (.iload 4, 2) := by decide +kernel
theorem dX12_few_110 : decode cX12_few 110 = .ok (.aload_n 0, 1) := by decide +kernel
theorem dX12_few_111 : decode cX12_few 111 = .ok (.getfield 93, 3) := by decide +kernel
theorem dX12_few_114 : decode cX12_few 114 = .ok (.iload 4, 2) := by decide +kernel
theorem dX12_few_116 : decode cX12_few 116 = .ok (.laload, 1) := by decide +kernel
theorem dX12_few_117 : decode cX12_few 117 = .ok (.bipush 10, 2) := by decide +kernel
theorem dX12_few_119 : decode cX12_few 119 = .ok (.aload_n 0, 1) := by decide +kernel
theorem dX12_few_120 : decode cX12_few 120 = .ok (.getfield 28, 3) := by decide +kernel
theorem dX12_few_123 : decode cX12_few 123 = .ok (.bipush 65, 2) := by decide +kernel
theorem dX12_few_125 : decode cX12_few 125 = .ok (.iaload, 1) := by decide +kernel
theorem dX12_few_126 : decode cX12_few 126 = .ok (.isub, 1) := by decide +kernel
theorem dX12_few_127 : decode cX12_few 127 = .ok (.i2l, 1) := by decide +kernel
theorem dX12_few_128 : decode cX12_few 128 = .ok (.lmul, 1) := by decide +kernel
theorem dX12_few_129 : decode cX12_few 129 = .ok (.ldc2_w 475, 3) := by decide +kernel
theorem dX12_few_132 : decode cX12_few 132 = .ok (.ldiv, 1) := by decide +kernel
theorem dX12_few_133 : decode cX12_few 133 = .ok (.lastore, 1) := by decide +kernel
theorem dX12_few_134 : decode cX12_few 134 = .ok (.iinc 4 (-1), 3) := by decide +kernel
theorem dX12_few_137 : decode cX12_few 137 = .ok (.goto (-70), 3) := by decide +kernel
theorem dX12_few_140 : decode cX12_few 140 = .ok (.iinc 3 1, 3) := by decide +kernel
theorem dX12_few_143 : decode cX12_few 143 = .ok (.goto (-86), 3) := by decide +kernel
theorem dX12_few_146 : decode cX12_few 146 = .ok (.lconst 0, 1) := by decide +kernel
theorem dX12_few_147 : decode cX12_few 147 = .ok (.lstore_n 3, 1) := by decide +kernel
theorem dX12_few_148 : decode cX12_few 148 = .ok (.iconst 0, 1) := by decide +kernel
theorem dX12_few_149 : decode cX12_few 149 = .ok (.istore 5, 2) := by decide +kernel
theorem dX12_few_151 : decode cX12_few 151 = .ok (.iload 5, 2) := by decide +kernel
theorem dX12_few_153 : decode cX12_few 153 = .ok (.iload_n 1, 1) := by decide +kernel
theorem dX12_few_154 : decode cX12_few 154 = .ok (.if_icmp .ge 19, 3) := by decide +kernel
theorem dX12_few_157 : decode cX12_few 157 = .ok (.lload_n 3, 1) := by decide +kernel
theorem dX12_few_158 : decode cX12_few 158 = .ok (.aload_n 0, 1) := by decide +kernel
theorem dX12_few_159 : decode cX12_few 159 = .ok (.getfield 93, 3) := by decide +kernel
theorem dX12_few_162 : decode cX12_few 162 = .ok (.iload 5, 2) := by decide +kernel
theorem dX12_few_164 : decode cX12_few 164 = .ok (.laload, 1) := by decide +kernel
theorem dX12_few_165 : decode cX12_few 165 = .ok (.ladd, 1) := by decide +kernel
theorem dX12_few_166 : decode cX12_few 166 = .ok (.lstore_n 3, 1) := by decide +kernel
theorem dX12_few_167 : decode cX12_few 167 = .ok (.iinc 5 1, 3) := by decide +kernel
theorem dX12_few_170 : decode cX12_few 170 = .ok (.goto (-19), 3) := by decide +kernel
theorem dX12_few_173 : decode cX12_few 173 = .ok (.lload_n 3, 1) := by decide +kernel
theorem dX12_few_174 : decode cX12_few 174 = .ok (.lreturn, 1) := by decide +kernel
theorem dX12_stopped_0 : decode cX12_stopped 0 = .ok (.aload_n 0, 1) := by decide +kernel
theorem dX12_stopped_1 : decode cX12_stopped 1 = .ok (.getfield 97, 3) := by decide +kernel
theorem dX12_stopped_4 : decode cX12_stopped 4 = .ok (.ireturn, 1) := by decide +kernel
theorem dX12_orders_0 : decode cX12_orders 0 = .ok (.aload_n 0, 1) := by decide +kernel
theorem dX12_orders_1 : decode cX12_orders 1 = .ok (.iconst (-1), 1) := by decide +kernel
theorem dX12_orders_2 : decode cX12_orders 2 = .ok (.putfield 97, 3) := by decide +kernel
theorem dX12_orders_5 : decode cX12_orders 5 = .ok (.aload_n 0, 1) := by decide +kernel
theorem dX12_orders_6 : decode cX12_orders 6 = .ok (.iconst 1, 1) := by decide +kernel
theorem dX12_orders_7 : decode cX12_orders 7 = .ok (.invokevirtual 268, 3) := by decide +kernel
theorem dX12_orders_10 : decode cX12_orders 10 = .ok (.ifCond .ne 10, 3) := by decide +kernel
theorem dX12_orders_13 : decode cX12_orders 13 = .ok (.aload_n 0, 1) := by decide +kernel
theorem dX12_orders_14 : decode cX12_orders 14 = .ok (.bipush (-6), 2) := by decide +kernel
theorem dX12_orders_16 : decode cX12_orders 16 = .ok (.invokevirtual 109, 3) := by decide +kernel
theorem dX12_orders_19 : decode cX12_orders 19 = .ok (.ireturn, 1) := by decide +kernel
theorem dX12_orders_20 : decode cX12_orders 20 = .ok (.aload_n 0, 1) := by decide +kernel
theorem dX12_orders_21 : decode cX12_orders 21 = .ok (.iconst 1, 1) := by decide +kernel
theorem dX12_orders_22 : decode cX12_orders 22 = .ok (.invokevirtual 477, 3) := by decide +kernel
theorem dX12_orders_25 : decode cX12_orders 25 = .ok (.iconst 0, 1) := by decide +kernel
theorem dX12_orders_26 : decode cX12_orders 26 = .ok (.istore_n 1, 1) := by decide +kernel
theorem dX12_orders_27 : decode cX12_orders 27 = .ok (.iload_n 1, 1) := by decide +kernel
theorem dX12_orders_28 : decode cX12_orders 28 = .ok (.sipush 480, 3) := by decide +kernel
theorem dX12_orders_31 : decode cX12_orders 31 = .ok (.if_icmp .ge 21, 3) := by decide +kernel
theorem dX12_orders_34 : decode cX12_orders 34 = .ok (.aload_n 0, 1) := by decide +kernel
theorem dX12_orders_35 : decode cX12_orders 35 = .ok (.getfield 75, 3) := by decide +kernel
theorem dX12_orders_38 : decode cX12_orders 38 = .ok (.iload_n 1, 1) := by decide +kernel
theorem dX12_orders_39 : decode cX12_orders 39 = .ok (.aload_n 0, 1) := by decide +kernel
theorem dX12_orders_40 : decode cX12_orders 40 = .ok (.getfield 72, 3) := by decide +kernel
theorem dX12_orders_43 : decode cX12_orders 43 = .ok (.iload_n 1, 1) := by decide +kernel
theorem dX12_orders_44 : decode cX12_orders 44 = .ok (.iaload, 1) := by decide +kernel
theorem dX12_orders_45 : decode cX12_orders 45 = .ok (.iastore, 1) := by decide +kernel
theorem dX12_orders_46 : decode cX12_orders 46 = .ok (.iinc 1 1, 3) := by decide +kernel
theorem dX12_orders_49 : decode cX12_orders 49 = .ok (.goto (-22), 3) := by decide +kernel
theorem dX12_orders_52 : decode cX12_orders 52 = .ok (.aload_n 0, 1) := by decide +kernel
theorem dX12_orders_53 : decode cX12_orders 53 = .ok (.getfield 11, 3) := by decide +kernel
theorem dX12_orders_56 : decode cX12_orders 56 = .ok (.istore_n 1, 1) := by decide +kernel
theorem dX12_orders_57 : decode cX12_orders 57 = .ok (.aload_n 0, 1) := by decide +kernel
theorem dX12_orders_58 : decode cX12_orders 58 = .ok (.bipush 6, 2) := by decide +kernel
theorem dX12_orders_60 : decode cX12_orders 60 = .ok (.invokevirtual 272, 3) := by decide +kernel
theorem dX12_orders_63 : decode cX12_orders 63 = .ok (.aload_n 0, 1) := by decide +kernel
theorem dX12_orders_64 : decode cX12_orders 64 = .ok (.iconst 0, 1) := by decide +kernel
theorem dX12_orders_65 : decode cX12_orders 65 = .ok (.putfield 317, 3) := by decide +kernel
theorem dX12_orders_68 : decode cX12_orders 68 = .ok (.aload_n 0, 1) := by decide +kernel
theorem dX12_orders_69 : decode cX12_orders 69 = .ok (.iconst (-1), 1) := by decide +kernel
theorem dX12_orders_70 : decode cX12_orders 70 = .ok (.putfield 320, 3) := by decide +kernel
theorem dX12_orders_73 : decode cX12_orders 73 = .ok (.aload_n 0, 1) := by decide +kernel
theorem dX12_orders_74 : decode cX12_orders 74 = .ok (.sipush 2400, 3) := by decide +kernel
theorem dX12_orders_77 : decode cX12_orders 77 = .ok (.putfield 480, 3) := by decide +kernel
theorem dX12_orders_80 : decode cX12_orders 80 = .ok (.aload_n 0, 1) := by decide +kernel
theorem dX12_orders_81 : decode cX12_orders 81 = .ok (.getfield 480, 3) := by decide +kernel
theorem dX12_orders_84 : decode cX12_orders 84 = .ok (.aload_n 0, 1) := by decide +kernel
theorem dX12_orders_85 : decode cX12_orders 85 = .ok (.getfield 28, 3) := by decide +kernel
theorem dX12_orders_88 : decode cX12_orders 88 = .ok (.bipush 79, 2) := by decide +kernel
theorem dX12_orders_90 : decode cX12_orders 90 = .ok (.iaload, 1) := by decide +kernel
theorem dX12_orders_91 : decode cX12_orders 91 = .ok (.iadd, 1) := by decide +kernel
theorem dX12_orders_92 : decode cX12_orders 92 = .ok (.istore_n 2, 1) := by decide +kernel
theorem dX12_orders_93 : decode cX12_orders 93 = .ok (.iconst 0, 1) := by decide +kernel
theorem dX12_orders_94 : decode cX12_orders 94 = .ok (.istore_n 3, 1) := by decide +kernel
theorem dX12_orders_95 : decode cX12_orders 95 = .ok (.aload_n 0, 1) := by decide +kernel
theorem dX12_orders_96 : decode cX12_orders 96 = .ok (.getfield 480, 3) := by decide +kernel
theorem dX12_orders_99 : decode cX12_orders 99 = .ok (.iload_n 2, 1) := by decide +kernel
theorem dX12_orders_100 : decode cX12_orders 100 = .ok (.if_icmp .ge 73, 3) := by decide +kernel
theorem dX12_orders_103 : decode cX12_orders 103 = .ok (.aload_n 0, 1) := by decide +kernel
theorem dX12_orders_104 : decode cX12_orders 104 = .ok (.iload_n 2, 1) := by decide +kernel
theorem dX12_orders_105 : decode cX12_orders 105 = .ok (.invokevirtual 483, 3) := by decide +kernel
theorem dX12_orders_108 : decode cX12_orders 108 = .ok (.ifCond .eq 6, 3) := by decide +kernel
theorem dX12_orders_111 : decode cX12_orders 111 = .ok (.goto 56, 3) := by decide +kernel
theorem dX12_orders_114 : decode cX12_orders 114 = .ok (.aload_n 0, 1) := by decide +kernel
theorem dX12_orders_115 : decode cX12_orders 115 = .ok (.iconst 1, 1) := by decide +kernel
theorem dX12_orders_116 : decode cX12_orders 116 = .ok (.invokevirtual 486, 3) := by decide +kernel
theorem dX12_orders_119 : decode cX12_orders 119 = .ok (.iconst 0, 1) := by decide +kernel
theorem dX12_orders_120 : decode cX12_orders 120 = .ok (.istore 4, 2) := by decide +kernel
theorem dX12_orders_122 : decode cX12_orders 122 = .ok (.iload 4, 2) := by decide +kernel
theorem dX12_orders_124 : decode cX12_orders 124 = .ok (.sipush 480, 3) := by decide +kernel
theorem dX12_orders_127 : decode cX12_orders 127 = .ok (.if_icmp .ge 23, 3) := by decide +kernel
theorem dX12_orders_130 : decode cX12_orders 130 = .ok (.aload_n 0, 1) := by decide +kernel
theorem dX12_orders_131 : decode cX12_orders 131 = .ok (.getfield 72, 3) := by decide +kernel
theorem dX12_orders_134 : decode cX12_orders 134 = .ok (.iload 4, 2) := by decide +kernel
theorem dX12_orders_136 : decode cX12_orders 136 = .ok (.aload_n 0, 1) := by decide +kernel
theorem dX12_orders_137 : decode cX12_orders 137 = .ok (.getfield 75, 3) := by decide +kernel
theorem dX12_orders_140 : decode cX12_orders 140 = .ok (.iload 4, 2) := by decide +kernel
theorem dX12_orders_142 : decode cX12_orders 142 = .ok (.iaload, 1) := by decide +kernel
theorem dX12_orders_143 : decode cX12_orders 143 = .ok (.iastore, 1) := by decide +kernel
theorem dX12_orders_144 : decode cX12_orders 144 = .ok (.iinc 4 1, 3) := by decide +kernel
theorem dX12_orders_147 : decode cX12_orders 147 = .ok (.goto (-25), 3) := by decide +kernel
theorem dX12_orders_150 : decode cX12_orders 150 = .ok (.aload_n 0, 1) := by decide +kernel
theorem dX12_orders_151 : decode cX12_orders 151 = .ok (.iload_n 1, 1) := by decide +kernel
theorem dX12_orders_152 : decode cX12_orders 152 = .ok (.putfield 11, 3) := by decide +kernel
theorem dX12_orders_155 : decode cX12_orders 155 = .ok (.aload_n 0, 1) := by decide +kernel
theorem dX12_orders_156 : decode cX12_orders 156 = .ok (.iload_n 3, 1) := by decide +kernel
theorem dX12_orders_157 : decode cX12_orders 157 = .ok (.putfield 97, 3) := by decide +kernel
theorem dX12_orders_160 : decode cX12_orders 160 = .ok (.aload_n 0, 1) := by decide +kernel
theorem dX12_orders_161 : decode cX12_orders 161 = .ok (.bipush (-3), 2) := by decide +kernel
theorem dX12_orders_163 : decode cX12_orders 163 = .ok (.invokevirtual 109, 3) := by decide +kernel
theorem dX12_orders_166 : decode cX12_orders 166 = .ok (.ireturn, 1) := by decide +kernel
theorem dX12_orders_167 : decode cX12_orders 167 = .ok (.iinc 3 1, 3) := by decide +kernel
theorem dX12_orders_170 : decode cX12_orders 170 = .ok (.goto (-75), 3) := by decide +kernel
theorem dX12_orders_173 : decode cX12_orders 173 = .ok (.aload_n 0, 1) := by decide +kernel
theorem dX12_orders_174 : decode cX12_orders 174 = .ok (.aload_n 0, 1) := by decide +kernel
theorem dX12_orders_175 : decode cX12_orders 175 = .ok (.getfield 317, 3) := by decide +kernel
theorem dX12_orders_178 : decode cX12_orders 178 = .ok (.invokevirtual 14, 3) := by decide +kernel
theorem dX12_orders_181 : decode cX12_orders 181 = .ok (.ireturn, 1) := by decide +kernel
theorem dX12_goesAlong_0 : decode cX12_goesAlong 0 = .ok (.aload_n 0, 1) := by decide +kernel
theorem dX12_goesAlong_1 : decode cX12_goesAlong 1 = .ok (.iconst 1, 1) := by decide +kernel
theorem dX12_goesAlong_2 : decode cX12_goesAlong 2 = .ok (.putfield 311, 3) := by decide +kernel
theorem dX12_goesAlong_5 : decode cX12_goesAlong 5 = .ok (.aload_n 0, 1) := by decide +kernel
theorem dX12_goesAlong_6 : decode cX12_goesAlong 6 = .ok (.iload_n 1, 1) := by decide +kernel
theorem dX12_goesAlong_7 : decode cX12_goesAlong 7 = .ok (.putfield 278, 3) := by decide +kernel
theorem dX12_goesAlong_10 : decode cX12_goesAlong 10 = .ok (.aload_n 0, 1) := by decide +kernel
theorem dX12_goesAlong_11 : decode cX12_goesAlong 11 = .ok (.aload_n 0, 1) := by decide +kernel
theorem dX12_goesAlong_12 : decode cX12_goesAlong 12 = .ok (.getfield 480, 3) := by decide +kernel
theorem dX12_goesAlong_15 : decode cX12_goesAlong 15 = .ok (.putfield 281, 3) := by decide +kernel
theorem dX12_goesAlong_18 : decode cX12_goesAlong 18 = .ok (.aload_n 0, 1) := by decide +kernel
theorem dX12_goesAlong_19 : decode cX12_goesAlong 19 = .ok (.aload_n 0, 1) := by decide +kernel
theorem dX12_goesAlong_20 : decode cX12_goesAlong 20 = .ok (.aload_n 0, 1) := by decide +kernel
theorem dX12_goesAlong_21 : decode cX12_goesAlong 21 = .ok (.getfield 281, 3) := by decide +kernel
theorem dX12_goesAlong_24 : decode cX12_goesAlong 24 = .ok (.invokevirtual 284, 3) := by decide +kernel
theorem dX12_goesAlong_27 : decode cX12_goesAlong 27 = .ok (.putfield 489, 3) := by decide +kernel
theorem dX12_goesAlong_30 : decode cX12_goesAlong 30 = .ok (.aload_n 0, 1) := by decide +kernel
theorem dX12_goesAlong_31 : decode cX12_goesAlong 31 = .ok (.dup, 1) := by decide +kernel
theorem dX12_goesAlong_32 : decode cX12_goesAlong 32 = .ok (.getfield 281, 3) := by decide +kernel
theorem dX12_goesAlong_35 : decode cX12_goesAlong 35 = .ok (.iconst 1, 1) := by decide +kernel
theorem dX12_goesAlong_36 : decode cX12_goesAlong 36 = .ok (.iadd, 1) := by decide +kernel
theorem dX12_goesAlong_37 : decode cX12_goesAlong 37 = .ok (.putfield 281, 3) := by decide +kernel
theorem dX12_goesAlong_40 : decode cX12_goesAlong 40 = .ok (.aload_n 0, 1) := by decide +kernel
theorem dX12_goesAlong_41 : decode cX12_goesAlong 41 = .ok (.iconst 1, 1) := by decide +kernel
theorem dX12_goesAlong_42 : decode cX12_goesAlong 42 = .ok (.putfield 492, 3) := by decide +kernel
theorem dX12_goesAlong_45 : decode cX12_goesAlong 45 = .ok (.aload_n 0, 1) := by decide +kernel
theorem dX12_goesAlong_46 : decode cX12_goesAlong 46 = .ok (.getfield 489, 3) := by decide +kernel
theorem dX12_goesAlong_49 : decode cX12_goesAlong 49 = .ok (.bipush 21, 2) := by decide +kernel
theorem dX12_goesAlong_51 : decode cX12_goesAlong 51 = .ok (.if_icmp .ne 7, 3) := by decide +kernel
theorem dX12_goesAlong_54 : decode cX12_goesAlong 54 = .ok (.iconst 3, 1) := by decide +kernel
theorem dX12_goesAlong_55 : decode cX12_goesAlong 55 = .ok (.goto 17, 3) := by decide +kernel
theorem dX12_goesAlong_58 : decode cX12_goesAlong 58 = .ok (.aload_n 0, 1) := by decide +kernel
theorem dX12_goesAlong_59 : decode cX12_goesAlong 59 = .ok (.getfield 489, 3) := by decide +kernel
theorem dX12_goesAlong_62 : decode cX12_goesAlong 62 = .ok (.bipush 24, 2) := by decide +kernel
theorem dX12_goesAlong_64 : decode cX12_goesAlong 64 = .ok (.if_icmp .ne 7, 3) := by decide +kernel
theorem dX12_goesAlong_67 : decode cX12_goesAlong 67 = .ok (.iconst 1, 1) := by decide +kernel
theorem dX12_goesAlong_68 : decode cX12_goesAlong 68 = .ok (.goto 4, 3) := by decide +kernel
theorem dX12_goesAlong_71 : decode cX12_goesAlong 71 = .ok (.iconst 0, 1) := by decide +kernel
theorem dX12_goesAlong_72 : decode cX12_goesAlong 72 = .ok (.istore_n 3, 1) := by decide +kernel
theorem dX12_goesAlong_73 : decode cX12_goesAlong 73 = .ok (.iconst 0, 1) := by decide +kernel
theorem dX12_goesAlong_74 : decode cX12_goesAlong 74 = .ok (.istore 4, 2) := by decide +kernel
theorem dX12_goesAlong_76 : decode cX12_goesAlong 76 = .ok (.iload 4, 2) := by decide +kernel
theorem dX12_goesAlong_78 : decode cX12_goesAlong 78 = .ok (.iload_n 3, 1) := by decide +kernel
theorem dX12_goesAlong_79 : decode cX12_goesAlong 79 = .ok (.if_icmp .ge 64, 3) := by decide +kernel
theorem dX12_goesAlong_82 : decode cX12_goesAlong 82 = .ok (.iload 4, 2) := by decide +kernel
theorem dX12_goesAlong_84 : decode cX12_goesAlong 84 = .ok (.ifCond .le 13, 3) := by decide +kernel
theorem dX12_goesAlong_87 : decode cX12_goesAlong 87 = .ok (.aload_n 0, 1) := by decide +kernel
theorem dX12_goesAlong_88 : decode cX12_goesAlong 88 = .ok (.dup, 1) := by decide +kernel
theorem dX12_goesAlong_89 : decode cX12_goesAlong 89 = .ok (.getfield 281, 3) := by decide +kernel
theorem dX12_goesAlong_92 : decode cX12_goesAlong 92 = .ok (.iconst 1, 1) := by decide +kernel
theorem dX12_goesAlong_93 : decode cX12_goesAlong 93 = .ok (.iadd, 1) := by decide +kernel
theorem dX12_goesAlong_94 : decode cX12_goesAlong 94 = .ok (.putfield 281, 3) := by decide +kernel
theorem dX12_goesAlong_97 : decode cX12_goesAlong 97 = .ok (.aload_n 0, 1) := by decide +kernel
theorem dX12_goesAlong_98 : decode cX12_goesAlong 98 = .ok (.iconst 0, 1) := by decide +kernel
theorem dX12_goesAlong_99 : decode cX12_goesAlong 99 = .ok (.putfield 291, 3) := by decide +kernel
theorem dX12_goesAlong_102 : decode cX12_goesAlong 102 = .ok (.aload_n 0, 1) := by decide +kernel
theorem dX12_goesAlong_103 : decode cX12_goesAlong 103 = .ok (.getfield 100, 3) := by decide +kernel
theorem dX12_goesAlong_106 : decode cX12_goesAlong 106 = .ok (.iload 4, 2) := by decide +kernel
theorem dX12_goesAlong_108 : decode cX12_goesAlong 108 = .ok (.aload_n 0, 1) := by decide +kernel
theorem dX12_goesAlong_109 : decode cX12_goesAlong 109 = .ok (.iload_n 2, 1) := by decide +kernel
theorem dX12_goesAlong_110 : decode cX12_goesAlong 110 = .ok (.invokevirtual 308, 3) := by decide +kernel
theorem dX12_goesAlong_113 : decode cX12_goesAlong 113 = .ok (.lastore, 1) := by decide +kernel
theorem dX12_goesAlong_114 : decode cX12_goesAlong 114 = .ok (.aload_n 0, 1) := by decide +kernel
theorem dX12_goesAlong_115 : decode cX12_goesAlong 115 = .ok (.aload_n 0, 1) := by decide +kernel
theorem dX12_goesAlong_116 : decode cX12_goesAlong 116 = .ok (.getfield 492, 3) := by decide +kernel
theorem dX12_goesAlong_119 : decode cX12_goesAlong 119 = .ok (.ifCond .eq 14, 3) := by decide +kernel
theorem dX12_goesAlong_122 : decode cX12_goesAlong 122 = .ok (.aload_n 0, 1) := by decide +kernel
theorem dX12_goesAlong_123 : decode cX12_goesAlong 123 = .ok (.getfield 291, 3) := by decide +kernel
theorem dX12_goesAlong_126 : decode cX12_goesAlong 126 = .ok (.ifCond .ne 7, 3) := by decide +kernel
theorem dX12_goesAlong_129 : decode cX12_goesAlong 129 = .ok (.iconst 1, 1) := by decide +kernel
theorem dX12_goesAlong_130 : decode cX12_goesAlong 130 = .ok (.goto 4, 3) := by decide +kernel
theorem dX12_goesAlong_133 : decode cX12_goesAlong 133 = .ok (.iconst 0, 1) := by decide +kernel
theorem dX12_goesAlong_134 : decode cX12_goesAlong 134 = .ok (.putfield 492, 3) := by decide +kernel
theorem dX12_goesAlong_137 : decode cX12_goesAlong 137 = .ok (.iinc 4 1, 3) := by decide +kernel
theorem dX12_goesAlong_140 : decode cX12_goesAlong 140 = .ok (.goto (-64), 3) := by decide +kernel
theorem dX12_goesAlong_143 : decode cX12_goesAlong 143 = .ok (.aload_n 0, 1) := by decide +kernel
theorem dX12_goesAlong_144 : decode cX12_goesAlong 144 = .ok (.iconst 1, 1) := by decide +kernel
theorem dX12_goesAlong_145 : decode cX12_goesAlong 145 = .ok (.putfield 495, 3) := by decide +kernel
theorem dX12_goesAlong_148 : decode cX12_goesAlong 148 = .ok (.aload_n 0, 1) := by decide +kernel
theorem dX12_goesAlong_149 : decode cX12_goesAlong 149 = .ok (.bipush 27, 2) := by decide +kernel
theorem dX12_goesAlong_151 : decode cX12_goesAlong 151 = .ok (.invokevirtual 305, 3) := by decide +kernel
theorem dX12_goesAlong_154 : decode cX12_goesAlong 154 = .ok (.ifCond .eq 30, 3) := by decide +kernel
theorem dX12_goesAlong_157 : decode cX12_goesAlong 157 = .ok (.aload_n 0, 1) := by decide +kernel
theorem dX12_goesAlong_158 : decode cX12_goesAlong 158 = .ok (.aload_n 0, 1) := by decide +kernel
theorem dX12_goesAlong_159 : decode cX12_goesAlong 159 = .ok (.getfield 28, 3) := by decide +kernel
theorem dX12_goesAlong_162 : decode cX12_goesAlong 162 = .ok (.sipush 2880, 3) := by decide +kernel
theorem dX12_goesAlong_165 : decode cX12_goesAlong 165 = .ok (.aload_n 0, 1) := by decide +kernel
theorem dX12_goesAlong_166 : decode cX12_goesAlong 166 = .ok (.getfield 281, 3) := by decide +kernel
theorem dX12_goesAlong_169 : decode cX12_goesAlong 169 = .ok (.iadd, 1) := by decide +kernel
theorem dX12_goesAlong_170 : decode cX12_goesAlong 170 = .ok (.iaload, 1) := by decide +kernel
theorem dX12_goesAlong_171 : decode cX12_goesAlong 171 = .ok (.putfield 495, 3) := by decide +kernel
theorem dX12_goesAlong_174 : decode cX12_goesAlong 174 = .ok (.aload_n 0, 1) := by decide +kernel
theorem dX12_goesAlong_175 : decode cX12_goesAlong 175 = .ok (.dup, 1) := by decide +kernel
theorem dX12_goesAlong_176 : decode cX12_goesAlong 176 = .ok (.getfield 281, 3) := by decide +kernel
theorem dX12_goesAlong_179 : decode cX12_goesAlong 179 = .ok (.iconst 1, 1) := by decide +kernel
theorem dX12_goesAlong_180 : decode cX12_goesAlong 180 = .ok (.iadd, 1) := by decide +kernel
theorem dX12_goesAlong_181 : decode cX12_goesAlong 181 = .ok (.putfield 281, 3) := by decide +kernel
theorem dX12_goesAlong_184 : decode cX12_goesAlong 184 = .ok (.aload_n 0, 1) := by decide +kernel
theorem dX12_goesAlong_185 : decode cX12_goesAlong 185 = .ok (.iconst 0, 1) := by decide +kernel
theorem dX12_goesAlong_186 : decode cX12_goesAlong 186 = .ok (.putfield 291, 3) := by decide +kernel
theorem dX12_goesAlong_189 : decode cX12_goesAlong 189 = .ok (.aload_n 0, 1) := by decide +kernel
theorem dX12_goesAlong_190 : decode cX12_goesAlong 190 = .ok (.aload_n 0, 1) := by decide +kernel
theorem dX12_goesAlong_191 : decode cX12_goesAlong 191 = .ok (.iconst 4, 1) := by decide +kernel
theorem dX12_goesAlong_192 : decode cX12_goesAlong 192 = .ok (.invokevirtual 305, 3) := by decide +kernel
theorem dX12_goesAlong_195 : decode cX12_goesAlong 195 = .ok (.ifCond .eq 11, 3) := by decide +kernel
theorem dX12_goesAlong_198 : decode cX12_goesAlong 198 = .ok (.aload_n 0, 1) := by decide +kernel
theorem dX12_goesAlong_199 : decode cX12_goesAlong 199 = .ok (.iload_n 2, 1) := by decide +kernel
theorem dX12_goesAlong_200 : decode cX12_goesAlong 200 = .ok (.invokevirtual 335, 3) := by decide +kernel
theorem dX12_goesAlong_203 : decode cX12_goesAlong 203 = .ok (.ifCond .eq 7, 3) := by decide +kernel
theorem dX12_goesAlong_206 : decode cX12_goesAlong 206 = .ok (.iconst 1, 1) := by decide +kernel
theorem dX12_goesAlong_207 : decode cX12_goesAlong 207 = .ok (.goto 4, 3) := by decide +kernel
theorem dX12_goesAlong_210 : decode cX12_goesAlong 210 = .ok (.iconst 0, 1) := by decide +kernel
theorem dX12_goesAlong_211 : decode cX12_goesAlong 211 = .ok (.putfield 498, 3) := by decide +kernel
theorem dX12_goesAlong_214 : decode cX12_goesAlong 214 = .ok (.aload_n 0, 1) := by decide +kernel
theorem dX12_goesAlong_215 : decode cX12_goesAlong 215 = .ok (.aload_n 0, 1) := by decide +kernel
theorem dX12_goesAlong_216 : decode cX12_goesAlong 216 = .ok (.getfield 498, 3) := by decide +kernel
theorem dX12_goesAlong_219 : decode cX12_goesAlong 219 = .ok (.ifCond .eq 14, 3) := by decide +kernel
theorem dX12_goesAlong_222 : decode cX12_goesAlong 222 = .ok (.aload_n 0, 1) := by decide +kernel
theorem dX12_goesAlong_223 : decode cX12_goesAlong 223 = .ok (.getfield 291, 3) := by decide +kernel
theorem dX12_goesAlong_226 : decode cX12_goesAlong 226 = .ok (.ifCond .ne 7, 3) := by decide +kernel
theorem dX12_goesAlong_229 : decode cX12_goesAlong 229 = .ok (.iconst 1, 1) := by decide +kernel
theorem dX12_goesAlong_230 : decode cX12_goesAlong 230 = .ok (.goto 4, 3) := by decide +kernel
theorem dX12_goesAlong_233 : decode cX12_goesAlong 233 = .ok (.iconst 0, 1) := by decide +kernel
theorem dX12_goesAlong_234 : decode cX12_goesAlong 234 = .ok (.putfield 498, 3) := by decide +kernel
theorem dX12_goesAlong_237 : decode cX12_goesAlong 237 = .ok (.aload_n 0, 1) := by decide +kernel
theorem dX12_goesAlong_238 : decode cX12_goesAlong 238 = .ok (.dup, 1) := by decide +kernel
theorem dX12_goesAlong_239 : decode cX12_goesAlong 239 = .ok (.getfield 281, 3) := by decide +kernel
theorem dX12_goesAlong_242 : decode cX12_goesAlong 242 = .ok (.iconst 1, 1) := by decide +kernel
theorem dX12_goesAlong_243 : decode cX12_goesAlong 243 = .ok (.iadd, 1) := by decide +kernel
theorem dX12_goesAlong_244 : decode cX12_goesAlong 244 = .ok (.putfield 281, 3) := by decide +kernel
theorem dX12_goesAlong_247 : decode cX12_goesAlong 247 = .ok (.return_, 1) := by decide +kernel
theorem dX12_small_0 : decode cX12_small 0 = .ok (.lload_n 0, 1) := by decide +kernel
theorem dX12_small_1 : decode cX12_small 1 = .ok (.lconst 0, 1) := by decide +kernel
theorem dX12_small_2 : decode cX12_small 2 = .ok (.lcmp, 1) := by decide +kernel
theorem dX12_small_3 : decode cX12_small 3 = .ok (.ifCond .lt 11, 3) := by decide +kernel
theorem dX12_small_6 : decode cX12_small 6 = .ok (.lload_n 0, 1) := by decide +kernel
theorem dX12_small_7 : decode cX12_small 7 = .ok (.ldc2_w 501, 3) := by decide +kernel
theorem dX12_small_10 : decode cX12_small 10 = .ok (.lcmp, 1) := by decide +kernel
theorem dX12_small_11 : decode cX12_small 11 = .ok (.ifCond .le 7, 3) := by decide +kernel
theorem dX12_small_14 : decode cX12_small 14 = .ok (.iconst (-1), 1) := by decide +kernel
theorem dX12_small_15 : decode cX12_small 15 = .ok (.goto 5, 3) := by decide +kernel
theorem dX12_small_18 : decode cX12_small 18 = .ok (.lload_n 0, 1) := by decide +kernel
theorem dX12_small_19 : decode cX12_small 19 = .ok (.l2i, 1) := by decide +kernel
theorem dX12_small_20 : decode cX12_small 20 = .ok (.ireturn, 1) := by decide +kernel
theorem dX12_obeys_0 : decode cX12_obeys 0 = .ok (.aload_n 0, 1) := by decide +kernel
theorem dX12_obeys_1 : decode cX12_obeys 1 = .ok (.getfield 489, 3) := by decide +kernel
theorem dX12_obeys_4 : decode cX12_obeys 4 = .ok (.tableswitch 52 24 26 #[28, 42, 47], 28) := by decide +kernel
theorem dX12_obeys_32 : decode cX12_obeys 32 = .ok (.aload_n 0, 1) := by decide +kernel
theorem dX12_obeys_33 : decode cX12_obeys 33 = .ok (.aload_n 0, 1) := by decide +kernel
theorem dX12_obeys_34 : decode cX12_obeys 34 = .ok (.getfield 100, 3) := by decide +kernel
theorem dX12_obeys_37 : decode cX12_obeys 37 = .ok (.iconst 0, 1) := by decide +kernel
theorem dX12_obeys_38 : decode cX12_obeys 38 = .ok (.laload, 1) := by decide +kernel
theorem dX12_obeys_39 : decode cX12_obeys 39 = .ok (.invokestatic 503, 3) := by decide +kernel
theorem dX12_obeys_42 : decode cX12_obeys 42 = .ok (.invokevirtual 385, 3) := by decide +kernel
theorem dX12_obeys_45 : decode cX12_obeys 45 = .ok (.ireturn, 1) := by decide +kernel
theorem dX12_obeys_46 : decode cX12_obeys 46 = .ok (.aload_n 0, 1) := by decide +kernel
theorem dX12_obeys_47 : decode cX12_obeys 47 = .ok (.invokevirtual 388, 3) := by decide +kernel
theorem dX12_obeys_50 : decode cX12_obeys 50 = .ok (.ireturn, 1) := by decide +kernel
theorem dX12_obeys_51 : decode cX12_obeys 51 = .ok (.aload_n 0, 1) := by decide +kernel
theorem dX12_obeys_52 : decode cX12_obeys 52 = .ok (.invokevirtual 391, 3) := by decide +kernel
theorem dX12_obeys_55 : decode cX12_obeys 55 = .ok (.ireturn, 1) := by decide +kernel
theorem dX12_obeys_56 : decode cX12_obeys 56 = .ok (.aload_n 0, 1) := by decide +kernel
theorem dX12_obeys_57 : decode cX12_obeys 57 = .ok (.aload_n 0, 1) := by decide +kernel
theorem dX12_obeys_58 : decode cX12_obeys 58 = .ok (.getfield 100, 3) := by decide +kernel
theorem dX12_obeys_61 : decode cX12_obeys 61 = .ok (.iconst 0, 1) := by decide +kernel
theorem dX12_obeys_62 : decode cX12_obeys 62 = .ok (.laload, 1) := by decide +kernel
theorem dX12_obeys_63 : decode cX12_obeys 63 = .ok (.invokestatic 503, 3) := by decide +kernel
theorem dX12_obeys_66 : decode cX12_obeys 66 = .ok (.aload_n 0, 1) := by decide +kernel
theorem dX12_obeys_67 : decode cX12_obeys 67 = .ok (.getfield 100, 3) := by decide +kernel
theorem dX12_obeys_70 : decode cX12_obeys 70 = .ok (.iconst 1, 1) := by decide +kernel
theorem dX12_obeys_71 : decode cX12_obeys 71 = .ok (.laload, 1) := by decide +kernel
theorem dX12_obeys_72 : decode cX12_obeys 72 = .ok (.invokestatic 503, 3) := by decide +kernel
theorem dX12_obeys_75 : decode cX12_obeys 75 = .ok (.aload_n 0, 1) := by decide +kernel
theorem dX12_obeys_76 : decode cX12_obeys 76 = .ok (.getfield 100, 3) := by decide +kernel
theorem dX12_obeys_79 : decode cX12_obeys 79 = .ok (.iconst 2, 1) := by decide +kernel
theorem dX12_obeys_80 : decode cX12_obeys 80 = .ok (.laload, 1) := by decide +kernel
theorem dX12_obeys_81 : decode cX12_obeys 81 = .ok (.invokestatic 503, 3) := by decide +kernel
theorem dX12_obeys_84 : decode cX12_obeys 84 = .ok (.invokevirtual 379, 3) := by decide +kernel
theorem dX12_obeys_87 : decode cX12_obeys 87 = .ok (.istore_n 1, 1) := by decide +kernel
theorem dX12_obeys_88 : decode cX12_obeys 88 = .ok (.aload_n 0, 1) := by decide +kernel
theorem dX12_obeys_89 : decode cX12_obeys 89 = .ok (.iload_n 1, 1) := by decide +kernel
theorem dX12_obeys_90 : decode cX12_obeys 90 = .ok (.ifCond .ge 10, 3) := by decide +kernel
theorem dX12_obeys_93 : decode cX12_obeys 93 = .ok (.aload_n 0, 1) := by decide +kernel
theorem dX12_obeys_94 : decode cX12_obeys 94 = .ok (.getfield 320, 3) := by decide +kernel
theorem dX12_obeys_97 : decode cX12_obeys 97 = .ok (.goto 4, 3) := by decide +kernel
theorem dX12_obeys_100 : decode cX12_obeys 100 = .ok (.iload_n 1, 1) := by decide +kernel
theorem dX12_obeys_101 : decode cX12_obeys 101 = .ok (.putfield 320, 3) := by decide +kernel
theorem dX12_obeys_104 : decode cX12_obeys 104 = .ok (.iload_n 1, 1) := by decide +kernel
theorem dX12_obeys_105 : decode cX12_obeys 105 = .ok (.ireturn, 1) := by decide +kernel
theorem dX12_runs_0 : decode cX12_runs 0 = .ok (.aload_n 0, 1) := by decide +kernel
theorem dX12_runs_1 : decode cX12_runs 1 = .ok (.iload_n 1, 1) := by decide +kernel
theorem dX12_runs_2 : decode cX12_runs 2 = .ok (.iconst 0, 1) := by decide +kernel
theorem dX12_runs_3 : decode cX12_runs 3 = .ok (.invokevirtual 507, 3) := by decide +kernel
theorem dX12_runs_6 : decode cX12_runs 6 = .ok (.aload_n 0, 1) := by decide +kernel
theorem dX12_runs_7 : decode cX12_runs 7 = .ok (.getfield 495, 3) := by decide +kernel
theorem dX12_runs_10 : decode cX12_runs 10 = .ok (.istore_n 2, 1) := by decide +kernel
theorem dX12_runs_11 : decode cX12_runs 11 = .ok (.aload_n 0, 1) := by decide +kernel
theorem dX12_runs_12 : decode cX12_runs 12 = .ok (.getfield 281, 3) := by decide +kernel
theorem dX12_runs_15 : decode cX12_runs 15 = .ok (.istore_n 3, 1) := by decide +kernel
theorem dX12_runs_16 : decode cX12_runs 16 = .ok (.iconst 0, 1) := by decide +kernel
theorem dX12_runs_17 : decode cX12_runs 17 = .ok (.istore 4, 2) := by decide +kernel
theorem dX12_runs_19 : decode cX12_runs 19 = .ok (.iload 4, 2) := by decide +kernel
theorem dX12_runs_21 : decode cX12_runs 21 = .ok (.iload_n 2, 1) := by decide +kernel
theorem dX12_runs_22 : decode cX12_runs 22 = .ok (.if_icmp .ge 51, 3) := by decide +kernel
theorem dX12_runs_25 : decode cX12_runs 25 = .ok (.aload_n 0, 1) := by decide +kernel
theorem dX12_runs_26 : decode cX12_runs 26 = .ok (.iload_n 1, 1) := by decide +kernel
theorem dX12_runs_27 : decode cX12_runs 27 = .ok (.iconst 1, 1) := by decide +kernel
theorem dX12_runs_28 : decode cX12_runs 28 = .ok (.invokevirtual 507, 3) := by decide +kernel
theorem dX12_runs_31 : decode cX12_runs 31 = .ok (.aload_n 0, 1) := by decide +kernel
theorem dX12_runs_32 : decode cX12_runs 32 = .ok (.getfield 498, 3) := by decide +kernel
theorem dX12_runs_35 : decode cX12_runs 35 = .ok (.ifCond .ne 6, 3) := by decide +kernel
theorem dX12_runs_38 : decode cX12_runs 38 = .ok (.goto 29, 3) := by decide +kernel
theorem dX12_runs_41 : decode cX12_runs 41 = .ok (.aload_n 0, 1) := by decide +kernel
theorem dX12_runs_42 : decode cX12_runs 42 = .ok (.getfield 492, 3) := by decide +kernel
theorem dX12_runs_45 : decode cX12_runs 45 = .ok (.ifCond .eq 10, 3) := by decide +kernel
theorem dX12_runs_48 : decode cX12_runs 48 = .ok (.aload_n 0, 1) := by decide +kernel
theorem dX12_runs_49 : decode cX12_runs 49 = .ok (.invokevirtual 511, 3) := by decide +kernel
theorem dX12_runs_52 : decode cX12_runs 52 = .ok (.ifCond .ge 5, 3) := by decide +kernel
theorem dX12_runs_55 : decode cX12_runs 55 = .ok (.iconst 0, 1) := by decide +kernel
theorem dX12_runs_56 : decode cX12_runs 56 = .ok (.ireturn, 1) := by decide +kernel
theorem dX12_runs_57 : decode cX12_runs 57 = .ok (.aload_n 0, 1) := by decide +kernel
theorem dX12_runs_58 : decode cX12_runs 58 = .ok (.dup, 1) := by decide +kernel
theorem dX12_runs_59 : decode cX12_runs 59 = .ok (.getfield 317, 3) := by decide +kernel
theorem dX12_runs_62 : decode cX12_runs 62 = .ok (.iconst 1, 1) := by decide +kernel
theorem dX12_runs_63 : decode cX12_runs 63 = .ok (.iadd, 1) := by decide +kernel
theorem dX12_runs_64 : decode cX12_runs 64 = .ok (.putfield 317, 3) := by decide +kernel
theorem dX12_runs_67 : decode cX12_runs 67 = .ok (.iinc 4 1, 3) := by decide +kernel
theorem dX12_runs_70 : decode cX12_runs 70 = .ok (.goto (-51), 3) := by decide +kernel
theorem dX12_runs_73 : decode cX12_runs 73 = .ok (.aload_n 0, 1) := by decide +kernel
theorem dX12_runs_74 : decode cX12_runs 74 = .ok (.iload_n 3, 1) := by decide +kernel
theorem dX12_runs_75 : decode cX12_runs 75 = .ok (.putfield 480, 3) := by decide +kernel
theorem dX12_runs_78 : decode cX12_runs 78 = .ok (.iconst 1, 1) := by decide +kernel
theorem dX12_runs_79 : decode cX12_runs 79 = .ok (.ireturn, 1) := by decide +kernel
theorem dX12_draws_0 : decode cX12_draws 0 = .ok (.aload_n 0, 1) := by decide +kernel
theorem dX12_draws_1 : decode cX12_draws 1 = .ok (.ldc2_w 514, 3) := by decide +kernel
theorem dX12_draws_4 : decode cX12_draws 4 = .ok (.aload_n 0, 1) := by decide +kernel
theorem dX12_draws_5 : decode cX12_draws 5 = .ok (.getfield 516, 3) := by decide +kernel
theorem dX12_draws_8 : decode cX12_draws 8 = .ok (.i2l, 1) := by decide +kernel
theorem dX12_draws_9 : decode cX12_draws 9 = .ok (.lmul, 1) := by decide +kernel
theorem dX12_draws_10 : decode cX12_draws 10 = .ok (.ldc2_w 519, 3) := by decide +kernel
theorem dX12_draws_13 : decode cX12_draws 13 = .ok (.ladd, 1) := by decide +kernel
theorem dX12_draws_14 : decode cX12_draws 14 = .ok (.ldc2_w 521, 3) := by decide +kernel
theorem dX12_draws_17 : decode cX12_draws 17 = .ok (.lrem, 1) := by decide +kernel
theorem dX12_draws_18 : decode cX12_draws 18 = .ok (.l2i, 1) := by decide +kernel
theorem dX12_draws_19 : decode cX12_draws 19 = .ok (.putfield 516, 3) := by decide +kernel
theorem dX12_draws_22 : decode cX12_draws 22 = .ok (.aload_n 0, 1) := by decide +kernel
theorem dX12_draws_23 : decode cX12_draws 23 = .ok (.getfield 516, 3) := by decide +kernel
theorem dX12_draws_26 : decode cX12_draws 26 = .ok (.iload_n 1, 1) := by decide +kernel
theorem dX12_draws_27 : decode cX12_draws 27 = .ok (.irem, 1) := by decide +kernel
theorem dX12_draws_28 : decode cX12_draws 28 = .ok (.ireturn, 1) := by decide +kernel
theorem dX12_years_0 : decode cX12_years 0 = .ok (.iload_n 1, 1) := by decide +kernel
theorem dX12_years_1 : decode cX12_years 1 = .ok (.iconst 0, 1) := by decide +kernel
theorem dX12_years_2 : decode cX12_years 2 = .ok (.ldc 188, 2) := by decide +kernel
theorem dX12_years_4 : decode cX12_years 4 = .ok (.invokestatic 18, 3) := by decide +kernel
theorem dX12_years_7 : decode cX12_years 7 = .ok (.ifCond .eq 13, 3) := by decide +kernel
theorem dX12_years_10 : decode cX12_years 10 = .ok (.iload_n 2, 1) := by decide +kernel
theorem dX12_years_11 : decode cX12_years 11 = .ok (.iconst 1, 1) := by decide +kernel
theorem dX12_years_12 : decode cX12_years 12 = .ok (.bipush 60, 2) := by decide +kernel
theorem dX12_years_14 : decode cX12_years 14 = .ok (.invokestatic 18, 3) := by decide +kernel
theorem dX12_years_17 : decode cX12_years 17 = .ok (.ifCond .ne 9, 3) := by decide +kernel
theorem dX12_years_20 : decode cX12_years 20 = .ok (.aload_n 0, 1) := by decide +kernel
theorem dX12_years_21 : decode cX12_years 21 = .ok (.iconst (-1), 1) := by decide +kernel
theorem dX12_years_22 : decode cX12_years 22 = .ok (.invokevirtual 109, 3) := by decide +kernel
theorem dX12_years_25 : decode cX12_years 25 = .ok (.ireturn, 1) := by decide +kernel
theorem dX12_years_26 : decode cX12_years 26 = .ok (.aload_n 0, 1) := by decide +kernel
theorem dX12_years_27 : decode cX12_years 27 = .ok (.invokevirtual 115, 3) := by decide +kernel
theorem dX12_years_30 : decode cX12_years 30 = .ok (.ifCond .ne 10, 3) := by decide +kernel
theorem dX12_years_33 : decode cX12_years 33 = .ok (.aload_n 0, 1) := by decide +kernel
theorem dX12_years_34 : decode cX12_years 34 = .ok (.bipush (-3), 2) := by decide +kernel
theorem dX12_years_36 : decode cX12_years 36 = .ok (.invokevirtual 109, 3) := by decide +kernel
theorem dX12_years_39 : decode cX12_years 39 = .ok (.ireturn, 1) := by decide +kernel
theorem dX12_years_40 : decode cX12_years 40 = .ok (.aload_n 0, 1) := by decide +kernel
theorem dX12_years_41 : decode cX12_years 41 = .ok (.iload_n 1, 1) := by decide +kernel
theorem dX12_years_42 : decode cX12_years 42 = .ok (.putfield 516, 3) := by decide +kernel
theorem dX12_years_45 : decode cX12_years 45 = .ok (.aload_n 0, 1) := by decide +kernel
theorem dX12_years_46 : decode cX12_years 46 = .ok (.aload_n 0, 1) := by decide +kernel
theorem dX12_years_47 : decode cX12_years 47 = .ok (.invokevirtual 115, 3) := by decide +kernel
theorem dX12_years_50 : decode cX12_years 50 = .ok (.putfield 106, 3) := by decide +kernel
theorem dX12_years_53 : decode cX12_years 53 = .ok (.aload_n 0, 1) := by decide +kernel
theorem dX12_years_54 : decode cX12_years 54 = .ok (.iconst 0, 1) := by decide +kernel
theorem dX12_years_55 : decode cX12_years 55 = .ok (.invokevirtual 477, 3) := by decide +kernel
theorem dX12_years_58 : decode cX12_years 58 = .ok (.iconst 0, 1) := by decide +kernel
theorem dX12_years_59 : decode cX12_years 59 = .ok (.istore_n 3, 1) := by decide +kernel
theorem dX12_years_60 : decode cX12_years 60 = .ok (.iload_n 3, 1) := by decide +kernel
theorem dX12_years_61 : decode cX12_years 61 = .ok (.iload_n 2, 1) := by decide +kernel
theorem dX12_years_62 : decode cX12_years 62 = .ok (.if_icmp .ge 112, 3) := by decide +kernel
theorem dX12_years_65 : decode cX12_years 65 = .ok (.aload_n 0, 1) := by decide +kernel
theorem dX12_years_66 : decode cX12_years 66 = .ok (.getfield 28, 3) := by decide +kernel
theorem dX12_years_69 : decode cX12_years 69 = .ok (.bipush 28, 2) := by decide +kernel
theorem dX12_years_71 : decode cX12_years 71 = .ok (.iaload, 1) := by decide +kernel
theorem dX12_years_72 : decode cX12_years 72 = .ok (.sipush 999, 3) := by decide +kernel
theorem dX12_years_75 : decode cX12_years 75 = .ok (.if_icmp .ge 99, 3) := by decide +kernel
theorem dX12_years_78 : decode cX12_years 78 = .ok (.aload_n 0, 1) := by decide +kernel
theorem dX12_years_79 : decode cX12_years 79 = .ok (.aload_n 0, 1) := by decide +kernel
theorem dX12_years_80 : decode cX12_years 80 = .ok (.invokevirtual 115, 3) := by decide +kernel
theorem dX12_years_83 : decode cX12_years 83 = .ok (.invokevirtual 523, 3) := by decide +kernel
theorem dX12_years_86 : decode cX12_years 86 = .ok (.istore 4, 2) := by decide +kernel
theorem dX12_years_88 : decode cX12_years 88 = .ok (.aload_n 0, 1) := by decide +kernel
theorem dX12_years_89 : decode cX12_years 89 = .ok (.aload_n 0, 1) := by decide +kernel
theorem dX12_years_90 : decode cX12_years 90 = .ok (.getfield 28, 3) := by decide +kernel
theorem dX12_years_93 : decode cX12_years 93 = .ok (.bipush 67, 2) := by decide +kernel
theorem dX12_years_95 : decode cX12_years 95 = .ok (.iaload, 1) := by decide +kernel
theorem dX12_years_96 : decode cX12_years 96 = .ok (.invokevirtual 523, 3) := by decide +kernel
theorem dX12_years_99 : decode cX12_years 99 = .ok (.istore 5, 2) := by decide +kernel
theorem dX12_years_101 : decode cX12_years 101 = .ok (.aload_n 0, 1) := by decide +kernel
theorem dX12_years_102 : decode cX12_years 102 = .ok (.aload_n 0, 1) := by decide +kernel
theorem dX12_years_103 : decode cX12_years 103 = .ok (.getfield 28, 3) := by decide +kernel
theorem dX12_years_106 : decode cX12_years 106 = .ok (.bipush 68, 2) := by decide +kernel
theorem dX12_years_108 : decode cX12_years 108 = .ok (.iaload, 1) := by decide +kernel
theorem dX12_years_109 : decode cX12_years 109 = .ok (.invokevirtual 523, 3) := by decide +kernel
theorem dX12_years_112 : decode cX12_years 112 = .ok (.istore 6, 2) := by decide +kernel
theorem dX12_years_114 : decode cX12_years 114 = .ok (.aload_n 0, 1) := by decide +kernel
theorem dX12_years_115 : decode cX12_years 115 = .ok (.iconst 3, 1) := by decide +kernel
theorem dX12_years_116 : decode cX12_years 116 = .ok (.invokevirtual 523, 3) := by decide +kernel
theorem dX12_years_119 : decode cX12_years 119 = .ok (.istore 7, 2) := by decide +kernel
theorem dX12_years_121 : decode cX12_years 121 = .ok (.iload 7, 2) := by decide +kernel
theorem dX12_years_123 : decode cX12_years 123 = .ok (.iconst 2, 1) := by decide +kernel
theorem dX12_years_124 : decode cX12_years 124 = .ok (.if_icmp .ge 27, 3) := by decide +kernel
theorem dX12_years_127 : decode cX12_years 127 = .ok (.aload_n 0, 1) := by decide +kernel
theorem dX12_years_128 : decode cX12_years 128 = .ok (.iload 4, 2) := by decide +kernel
theorem dX12_years_130 : decode cX12_years 130 = .ok (.iload 5, 2) := by decide +kernel
theorem dX12_years_132 : decode cX12_years 132 = .ok (.iload 6, 2) := by decide +kernel
theorem dX12_years_134 : decode cX12_years 134 = .ok (.invokevirtual 159, 3) := by decide +kernel
theorem dX12_years_137 : decode cX12_years 137 = .ok (.ifCond .eq 14, 3) := by decide +kernel
theorem dX12_years_140 : decode cX12_years 140 = .ok (.aload_n 0, 1) := by decide +kernel
theorem dX12_years_141 : decode cX12_years 141 = .ok (.iload 4, 2) := by decide +kernel
theorem dX12_years_143 : decode cX12_years 143 = .ok (.iload 5, 2) := by decide +kernel
theorem dX12_years_145 : decode cX12_years 145 = .ok (.iload 6, 2) := by decide +kernel
theorem dX12_years_147 : decode cX12_years 147 = .ok (.invokevirtual 373, 3) := by decide +kernel
theorem dX12_years_150 : decode cX12_years 150 = .ok (.pop, 1) := by decide +kernel
theorem dX12_years_151 : decode cX12_years 151 = .ok (.iload 7, 2) := by decide +kernel
theorem dX12_years_153 : decode cX12_years 153 = .ok (.iconst 2, 1) := by decide +kernel
theorem dX12_years_154 : decode cX12_years 154 = .ok (.if_icmp .ne 9, 3) := by decide +kernel
theorem dX12_years_157 : decode cX12_years 157 = .ok (.aload_n 0, 1) := by decide +kernel
theorem dX12_years_158 : decode cX12_years 158 = .ok (.iload 4, 2) := by decide +kernel
theorem dX12_years_160 : decode cX12_years 160 = .ok (.invokevirtual 123, 3) := by decide +kernel
theorem dX12_years_163 : decode cX12_years 163 = .ok (.aload_n 0, 1) := by decide +kernel
theorem dX12_years_164 : decode cX12_years 164 = .ok (.invokevirtual 376, 3) := by decide +kernel
theorem dX12_years_167 : decode cX12_years 167 = .ok (.pop, 1) := by decide +kernel
theorem dX12_years_168 : decode cX12_years 168 = .ok (.iinc 3 1, 3) := by decide +kernel
theorem dX12_years_171 : decode cX12_years 171 = .ok (.goto (-111), 3) := by decide +kernel
theorem dX12_years_174 : decode cX12_years 174 = .ok (.aload_n 0, 1) := by decide +kernel
theorem dX12_years_175 : decode cX12_years 175 = .ok (.invokevirtual 323, 3) := by decide +kernel
theorem dX12_years_178 : decode cX12_years 178 = .ok (.istore_n 3, 1) := by decide +kernel
theorem dX12_years_179 : decode cX12_years 179 = .ok (.iconst 0, 1) := by decide +kernel
theorem dX12_years_180 : decode cX12_years 180 = .ok (.istore 4, 2) := by decide +kernel
theorem dX12_years_182 : decode cX12_years 182 = .ok (.iload 4, 2) := by decide +kernel
theorem dX12_years_184 : decode cX12_years 184 = .ok (.bipush 29, 2) := by decide +kernel
theorem dX12_years_186 : decode cX12_years 186 = .ok (.if_icmp .ge 23, 3) := by decide +kernel
theorem dX12_years_189 : decode cX12_years 189 = .ok (.aload_n 0, 1) := by decide +kernel
theorem dX12_years_190 : decode cX12_years 190 = .ok (.getfield 103, 3) := by decide +kernel
theorem dX12_years_193 : decode cX12_years 193 = .ok (.iload 4, 2) := by decide +kernel
theorem dX12_years_195 : decode cX12_years 195 = .ok (.aload_n 0, 1) := by decide +kernel
theorem dX12_years_196 : decode cX12_years 196 = .ok (.getfield 28, 3) := by decide +kernel
theorem dX12_years_199 : decode cX12_years 199 = .ok (.iload 4, 2) := by decide +kernel
theorem dX12_years_201 : decode cX12_years 201 = .ok (.iaload, 1) := by decide +kernel
theorem dX12_years_202 : decode cX12_years 202 = .ok (.iastore, 1) := by decide +kernel
theorem dX12_years_203 : decode cX12_years 203 = .ok (.iinc 4 1, 3) := by decide +kernel
theorem dX12_years_206 : decode cX12_years 206 = .ok (.goto (-24), 3) := by decide +kernel
theorem dX12_years_209 : decode cX12_years 209 = .ok (.aload_n 0, 1) := by decide +kernel
theorem dX12_years_210 : decode cX12_years 210 = .ok (.iconst 0, 1) := by decide +kernel
theorem dX12_years_211 : decode cX12_years 211 = .ok (.invokevirtual 486, 3) := by decide +kernel
theorem dX12_years_214 : decode cX12_years 214 = .ok (.aload_n 0, 1) := by decide +kernel
theorem dX12_years_215 : decode cX12_years 215 = .ok (.iload_n 3, 1) := by decide +kernel
theorem dX12_years_216 : decode cX12_years 216 = .ok (.invokevirtual 14, 3) := by decide +kernel
theorem dX12_years_219 : decode cX12_years 219 = .ok (.ireturn, 1) := by decide +kernel
theorem dX12_drawn_0 : decode cX12_drawn 0 = .ok (.iload_n 1, 1) := by decide +kernel
theorem dX12_drawn_1 : decode cX12_drawn 1 = .ok (.iconst 0, 1) := by decide +kernel
theorem dX12_drawn_2 : decode cX12_drawn 2 = .ok (.aload_n 0, 1) := by decide +kernel
theorem dX12_drawn_3 : decode cX12_drawn 3 = .ok (.getfield 106, 3) := by decide +kernel
theorem dX12_drawn_6 : decode cX12_drawn 6 = .ok (.iconst 1, 1) := by decide +kernel
theorem dX12_drawn_7 : decode cX12_drawn 7 = .ok (.isub, 1) := by decide +kernel
theorem dX12_drawn_8 : decode cX12_drawn 8 = .ok (.invokestatic 18, 3) := by decide +kernel
theorem dX12_drawn_11 : decode cX12_drawn 11 = .ok (.ifCond .eq 12, 3) := by decide +kernel
theorem dX12_drawn_14 : decode cX12_drawn 14 = .ok (.iload_n 2, 1) := by decide +kernel
theorem dX12_drawn_15 : decode cX12_drawn 15 = .ok (.iconst 0, 1) := by decide +kernel
theorem dX12_drawn_16 : decode cX12_drawn 16 = .ok (.iconst 2, 1) := by decide +kernel
theorem dX12_drawn_17 : decode cX12_drawn 17 = .ok (.invokestatic 18, 3) := by decide +kernel
theorem dX12_drawn_20 : decode cX12_drawn 20 = .ok (.ifCond .ne 5, 3) := by decide +kernel
theorem dX12_drawn_23 : decode cX12_drawn 23 = .ok (.iconst (-1), 1) := by decide +kernel
theorem dX12_drawn_24 : decode cX12_drawn 24 = .ok (.ireturn, 1) := by decide +kernel
theorem dX12_drawn_25 : decode cX12_drawn 25 = .ok (.aload_n 0, 1) := by decide +kernel
theorem dX12_drawn_26 : decode cX12_drawn 26 = .ok (.getfield 103, 3) := by decide +kernel
theorem dX12_drawn_29 : decode cX12_drawn 29 = .ok (.iload_n 2, 1) := by decide +kernel
theorem dX12_drawn_30 : decode cX12_drawn 30 = .ok (.ifCond .ne 7, 3) := by decide +kernel
theorem dX12_drawn_33 : decode cX12_drawn 33 = .ok (.iconst 0, 1) := by decide +kernel
theorem dX12_drawn_34 : decode cX12_drawn 34 = .ok (.goto 15, 3) := by decide +kernel
theorem dX12_drawn_37 : decode cX12_drawn 37 = .ok (.iload_n 2, 1) := by decide +kernel
theorem dX12_drawn_38 : decode cX12_drawn 38 = .ok (.iconst 1, 1) := by decide +kernel
theorem dX12_drawn_39 : decode cX12_drawn 39 = .ok (.if_icmp .ne 8, 3) := by decide +kernel
theorem dX12_drawn_42 : decode cX12_drawn 42 = .ok (.bipush 9, 2) := by decide +kernel
theorem dX12_drawn_44 : decode cX12_drawn 44 = .ok (.goto 5, 3) := by decide +kernel
theorem dX12_drawn_47 : decode cX12_drawn 47 = .ok (.bipush 18, 2) := by decide +kernel
theorem dX12_drawn_49 : decode cX12_drawn 49 = .ok (.iload_n 1, 1) := by decide +kernel
theorem dX12_drawn_50 : decode cX12_drawn 50 = .ok (.iadd, 1) := by decide +kernel
theorem dX12_drawn_51 : decode cX12_drawn 51 = .ok (.iaload, 1) := by decide +kernel
theorem dX12_drawn_52 : decode cX12_drawn 52 = .ok (.ireturn, 1) := by decide +kernel
theorem dX12_ragMany_0 : decode cX12_ragMany 0 = .ok (.iconst 0, 1) := by decide +kernel
theorem dX12_ragMany_1 : decode cX12_ragMany 1 = .ok (.istore_n 1, 1) := by decide +kernel
theorem dX12_ragMany_2 : decode cX12_ragMany 2 = .ok (.iconst 0, 1) := by decide +kernel
theorem dX12_ragMany_3 : decode cX12_ragMany 3 = .ok (.istore_n 2, 1) := by decide +kernel
theorem dX12_ragMany_4 : decode cX12_ragMany 4 = .ok (.iload_n 2, 1) := by decide +kernel
theorem dX12_ragMany_5 : decode cX12_ragMany 5 = .ok (.aload_n 0, 1) := by decide +kernel
theorem dX12_ragMany_6 : decode cX12_ragMany 6 = .ok (.invokevirtual 115, 3) := by decide +kernel
theorem dX12_ragMany_9 : decode cX12_ragMany 9 = .ok (.if_icmp .ge 25, 3) := by decide +kernel
theorem dX12_ragMany_12 : decode cX12_ragMany 12 = .ok (.iload_n 1, 1) := by decide +kernel
theorem dX12_ragMany_13 : decode cX12_ragMany 13 = .ok (.aload_n 0, 1) := by decide +kernel
theorem dX12_ragMany_14 : decode cX12_ragMany 14 = .ok (.iload_n 2, 1) := by decide +kernel
theorem dX12_ragMany_15 : decode cX12_ragMany 15 = .ok (.invokevirtual 357, 3) := by decide +kernel
theorem dX12_ragMany_18 : decode cX12_ragMany 18 = .ok (.ifCond .eq 7, 3) := by decide +kernel
theorem dX12_ragMany_21 : decode cX12_ragMany 21 = .ok (.iconst 0, 1) := by decide +kernel
theorem dX12_ragMany_22 : decode cX12_ragMany 22 = .ok (.goto 4, 3) := by decide +kernel
theorem dX12_ragMany_25 : decode cX12_ragMany 25 = .ok (.iconst 1, 1) := by decide +kernel
theorem dX12_ragMany_26 : decode cX12_ragMany 26 = .ok (.iadd, 1) := by decide +kernel
theorem dX12_ragMany_27 : decode cX12_ragMany 27 = .ok (.istore_n 1, 1) := by decide +kernel
theorem dX12_ragMany_28 : decode cX12_ragMany 28 = .ok (.iinc 2 1, 3) := by decide +kernel
theorem dX12_ragMany_31 : decode cX12_ragMany 31 = .ok (.goto (-27), 3) := by decide +kernel
theorem dX12_ragMany_34 : decode cX12_ragMany 34 = .ok (.iload_n 1, 1) := by decide +kernel
theorem dX12_ragMany_35 : decode cX12_ragMany 35 = .ok (.ireturn, 1) := by decide +kernel
theorem dX12_count_0 : decode cX12_count 0 = .ok (.iload_n 1, 1) := by decide +kernel
theorem dX12_count_1 : decode cX12_count 1 = .ok (.tableswitch 202 0 18 #[91, 96, 101, 106, 114, 122, 130, 135, 140, 140, 140, 150, 157, 165, 173, 173, 173, 186, 194], 91) := by decide +kernel
theorem dX12_count_92 : decode cX12_count 92 = .ok (.aload_n 0, 1) := by decide +kernel
theorem dX12_count_93 : decode cX12_count 93 = .ok (.invokevirtual 115, 3) := by decide +kernel
theorem dX12_count_96 : decode cX12_count 96 = .ok (.ireturn, 1) := by decide +kernel
theorem dX12_count_97 : decode cX12_count 97 = .ok (.aload_n 0, 1) := by decide +kernel
theorem dX12_count_98 : decode cX12_count 98 = .ok (.invokevirtual 143, 3) := by decide +kernel
theorem dX12_count_101 : decode cX12_count 101 = .ok (.ireturn, 1) := by decide +kernel
theorem dX12_count_102 : decode cX12_count 102 = .ok (.aload_n 0, 1) := by decide +kernel
theorem dX12_count_103 : decode cX12_count 103 = .ok (.invokevirtual 526, 3) := by decide +kernel
theorem dX12_count_106 : decode cX12_count 106 = .ok (.ireturn, 1) := by decide +kernel
theorem dX12_count_107 : decode cX12_count 107 = .ok (.aload_n 0, 1) := by decide +kernel
theorem dX12_count_108 : decode cX12_count 108 = .ok (.getfield 28, 3) := by decide +kernel
theorem dX12_count_111 : decode cX12_count 111 = .ok (.bipush 27, 2) := by decide +kernel
theorem dX12_count_113 : decode cX12_count 113 = .ok (.iaload, 1) := by decide +kernel
theorem dX12_count_114 : decode cX12_count 114 = .ok (.ireturn, 1) := by decide +kernel
theorem dX12_count_115 : decode cX12_count 115 = .ok (.aload_n 0, 1) := by decide +kernel
theorem dX12_count_116 : decode cX12_count 116 = .ok (.getfield 28, 3) := by decide +kernel
theorem dX12_count_119 : decode cX12_count 119 = .ok (.bipush 70, 2) := by decide +kernel
theorem dX12_count_121 : decode cX12_count 121 = .ok (.iaload, 1) := by decide +kernel
theorem dX12_count_122 : decode cX12_count 122 = .ok (.ireturn, 1) := by decide +kernel
theorem dX12_count_123 : decode cX12_count 123 = .ok (.aload_n 0, 1) := by decide +kernel
theorem dX12_count_124 : decode cX12_count 124 = .ok (.getfield 28, 3) := by decide +kernel
theorem dX12_count_127 : decode cX12_count 127 = .ok (.bipush 71, 2) := by decide +kernel
theorem dX12_count_129 : decode cX12_count 129 = .ok (.iaload, 1) := by decide +kernel
theorem dX12_count_130 : decode cX12_count 130 = .ok (.ireturn, 1) := by decide +kernel
theorem dX12_count_131 : decode cX12_count 131 = .ok (.aload_n 0, 1) := by decide +kernel
theorem dX12_count_132 : decode cX12_count 132 = .ok (.getfield 11, 3) := by decide +kernel
theorem dX12_count_135 : decode cX12_count 135 = .ok (.ireturn, 1) := by decide +kernel
theorem dX12_count_136 : decode cX12_count 136 = .ok (.aload_n 0, 1) := by decide +kernel
theorem dX12_count_137 : decode cX12_count 137 = .ok (.getfield 169, 3) := by decide +kernel
theorem dX12_count_140 : decode cX12_count 140 = .ok (.ireturn, 1) := by decide +kernel
theorem dX12_count_141 : decode cX12_count 141 = .ok (.aload_n 0, 1) := by decide +kernel
theorem dX12_count_142 : decode cX12_count 142 = .ok (.getfield 7, 3) := by decide +kernel
theorem dX12_count_145 : decode cX12_count 145 = .ok (.iload_n 1, 1) := by decide +kernel
theorem dX12_count_146 : decode cX12_count 146 = .ok (.bipush 7, 2) := by decide +kernel
theorem dX12_count_148 : decode cX12_count 148 = .ok (.isub, 1) := by decide +kernel
theorem dX12_count_149 : decode cX12_count 149 = .ok (.iaload, 1) := by decide +kernel
theorem dX12_count_150 : decode cX12_count 150 = .ok (.ireturn, 1) := by decide +kernel
theorem dX12_count_151 : decode cX12_count 151 = .ok (.aload_n 0, 1) := by decide +kernel
theorem dX12_count_152 : decode cX12_count 152 = .ok (.getfield 7, 3) := by decide +kernel
theorem dX12_count_155 : decode cX12_count 155 = .ok (.iconst 5, 1) := by decide +kernel
theorem dX12_count_156 : decode cX12_count 156 = .ok (.iaload, 1) := by decide +kernel
theorem dX12_count_157 : decode cX12_count 157 = .ok (.ireturn, 1) := by decide +kernel
theorem dX12_count_158 : decode cX12_count 158 = .ok (.aload_n 0, 1) := by decide +kernel
theorem dX12_count_159 : decode cX12_count 159 = .ok (.getfield 7, 3) := by decide +kernel
theorem dX12_count_162 : decode cX12_count 162 = .ok (.bipush 6, 2) := by decide +kernel
theorem dX12_count_164 : decode cX12_count 164 = .ok (.iaload, 1) := by decide +kernel
theorem dX12_count_165 : decode cX12_count 165 = .ok (.ireturn, 1) := by decide +kernel
theorem dX12_count_166 : decode cX12_count 166 = .ok (.aload_n 0, 1) := by decide +kernel
theorem dX12_count_167 : decode cX12_count 167 = .ok (.getfield 28, 3) := by decide +kernel
theorem dX12_count_170 : decode cX12_count 170 = .ok (.bipush 72, 2) := by decide +kernel
theorem dX12_count_172 : decode cX12_count 172 = .ok (.iaload, 1) := by decide +kernel
theorem dX12_count_173 : decode cX12_count 173 = .ok (.ireturn, 1) := by decide +kernel
theorem dX12_count_174 : decode cX12_count 174 = .ok (.aload_n 0, 1) := by decide +kernel
theorem dX12_count_175 : decode cX12_count 175 = .ok (.getfield 28, 3) := by decide +kernel
theorem dX12_count_178 : decode cX12_count 178 = .ok (.iload_n 1, 1) := by decide +kernel
theorem dX12_count_179 : decode cX12_count 179 = .ok (.bipush 14, 2) := by decide +kernel
theorem dX12_count_181 : decode cX12_count 181 = .ok (.isub, 1) := by decide +kernel
theorem dX12_count_182 : decode cX12_count 182 = .ok (.invokestatic 166, 3) := by decide +kernel
theorem dX12_count_185 : decode cX12_count 185 = .ok (.iaload, 1) := by decide +kernel
theorem dX12_count_186 : decode cX12_count 186 = .ok (.ireturn, 1) := by decide +kernel
theorem dX12_count_187 : decode cX12_count 187 = .ok (.aload_n 0, 1) := by decide +kernel
theorem dX12_count_188 : decode cX12_count 188 = .ok (.getfield 28, 3) := by decide +kernel
theorem dX12_count_191 : decode cX12_count 191 = .ok (.bipush 67, 2) := by decide +kernel
theorem dX12_count_193 : decode cX12_count 193 = .ok (.iaload, 1) := by decide +kernel
theorem dX12_count_194 : decode cX12_count 194 = .ok (.ireturn, 1) := by decide +kernel
theorem dX12_count_195 : decode cX12_count 195 = .ok (.aload_n 0, 1) := by decide +kernel
theorem dX12_count_196 : decode cX12_count 196 = .ok (.getfield 28, 3) := by decide +kernel
theorem dX12_count_199 : decode cX12_count 199 = .ok (.bipush 68, 2) := by decide +kernel
theorem dX12_count_201 : decode cX12_count 201 = .ok (.iaload, 1) := by decide +kernel
theorem dX12_count_202 : decode cX12_count 202 = .ok (.ireturn, 1) := by decide +kernel
theorem dX12_count_203 : decode cX12_count 203 = .ok (.iconst (-1), 1) := by decide +kernel
theorem dX12_count_204 : decode cX12_count 204 = .ok (.ireturn, 1) := by decide +kernel
theorem dX12_status_0 : decode cX12_status 0 = .ok (.aload_n 0, 1) := by decide +kernel
theorem dX12_status_1 : decode cX12_status 1 = .ok (.getfield 3, 3) := by decide +kernel
theorem dX12_status_4 : decode cX12_status 4 = .ok (.ireturn, 1) := by decide +kernel
theorem dJ6_bitCount_0f7a4_0 : decode cJ6_bitCount_0f7a4 0 = .ok (.iload_n 0, 1) := by decide +kernel
theorem dJ6_bitCount_0f7a4_1 : decode cJ6_bitCount_0f7a4 1 = .ok (.iload_n 0, 1) := by decide +kernel
theorem dJ6_bitCount_0f7a4_2 : decode cJ6_bitCount_0f7a4 2 = .ok (.iconst 1, 1) := by decide +kernel
theorem dJ6_bitCount_0f7a4_3 : decode cJ6_bitCount_0f7a4 3 = .ok (.iushr, 1) := by decide +kernel
theorem dJ6_bitCount_0f7a4_4 : decode cJ6_bitCount_0f7a4 4 = .ok (.ldc_w 265, 3) := by decide +kernel
theorem dJ6_bitCount_0f7a4_7 : decode cJ6_bitCount_0f7a4 7 = .ok (.iand, 1) := by decide +kernel
theorem dJ6_bitCount_0f7a4_8 : decode cJ6_bitCount_0f7a4 8 = .ok (.isub, 1) := by decide +kernel
theorem dJ6_bitCount_0f7a4_9 : decode cJ6_bitCount_0f7a4 9 = .ok (.istore_n 0, 1) := by decide +kernel
theorem dJ6_bitCount_0f7a4_10 : decode cJ6_bitCount_0f7a4 10 = .ok (.iload_n 0, 1) := by decide +kernel
theorem dJ6_bitCount_0f7a4_11 : decode cJ6_bitCount_0f7a4 11 = .ok (.ldc_w 266, 3) := by decide +kernel
theorem dJ6_bitCount_0f7a4_14 : decode cJ6_bitCount_0f7a4 14 = .ok (.iand, 1) := by decide +kernel
theorem dJ6_bitCount_0f7a4_15 : decode cJ6_bitCount_0f7a4 15 = .ok (.iload_n 0, 1) := by decide +kernel
theorem dJ6_bitCount_0f7a4_16 : decode cJ6_bitCount_0f7a4 16 = .ok (.iconst 2, 1) := by decide +kernel
theorem dJ6_bitCount_0f7a4_17 : decode cJ6_bitCount_0f7a4 17 = .ok (.iushr, 1) := by decide +kernel
theorem dJ6_bitCount_0f7a4_18 : decode cJ6_bitCount_0f7a4 18 = .ok (.ldc_w 266, 3) := by decide +kernel
theorem dJ6_bitCount_0f7a4_21 : decode cJ6_bitCount_0f7a4 21 = .ok (.iand, 1) := by decide +kernel
theorem dJ6_bitCount_0f7a4_22 : decode cJ6_bitCount_0f7a4 22 = .ok (.iadd, 1) := by decide +kernel
theorem dJ6_bitCount_0f7a4_23 : decode cJ6_bitCount_0f7a4 23 = .ok (.istore_n 0, 1) := by decide +kernel
theorem dJ6_bitCount_0f7a4_24 : decode cJ6_bitCount_0f7a4 24 = .ok (.iload_n 0, 1) := by decide +kernel
theorem dJ6_bitCount_0f7a4_25 : decode cJ6_bitCount_0f7a4 25 = .ok (.iload_n 0, 1) := by decide +kernel
theorem dJ6_bitCount_0f7a4_26 : decode cJ6_bitCount_0f7a4 26 = .ok (.iconst 4, 1) := by decide +kernel
theorem dJ6_bitCount_0f7a4_27 : decode cJ6_bitCount_0f7a4 27 = .ok (.iushr, 1) := by decide +kernel
theorem dJ6_bitCount_0f7a4_28 : decode cJ6_bitCount_0f7a4 28 = .ok (.iadd, 1) := by decide +kernel
theorem dJ6_bitCount_0f7a4_29 : decode cJ6_bitCount_0f7a4 29 = .ok (.ldc_w 267, 3) := by decide +kernel
theorem dJ6_bitCount_0f7a4_32 : decode cJ6_bitCount_0f7a4 32 = .ok (.iand, 1) := by decide +kernel
theorem dJ6_bitCount_0f7a4_33 : decode cJ6_bitCount_0f7a4 33 = .ok (.istore_n 0, 1) := by decide +kernel
theorem dJ6_bitCount_0f7a4_34 : decode cJ6_bitCount_0f7a4 34 = .ok (.iload_n 0, 1) := by decide +kernel
theorem dJ6_bitCount_0f7a4_35 : decode cJ6_bitCount_0f7a4 35 = .ok (.iload_n 0, 1) := by decide +kernel
theorem dJ6_bitCount_0f7a4_36 : decode cJ6_bitCount_0f7a4 36 = .ok (.bipush 8, 2) := by decide +kernel
theorem dJ6_bitCount_0f7a4_38 : decode cJ6_bitCount_0f7a4 38 = .ok (.iushr, 1) := by decide +kernel
theorem dJ6_bitCount_0f7a4_39 : decode cJ6_bitCount_0f7a4 39 = .ok (.iadd, 1) := by decide +kernel
theorem dJ6_bitCount_0f7a4_40 : decode cJ6_bitCount_0f7a4 40 = .ok (.istore_n 0, 1) := by decide +kernel
theorem dJ6_bitCount_0f7a4_41 : decode cJ6_bitCount_0f7a4 41 = .ok (.iload_n 0, 1) := by decide +kernel
theorem dJ6_bitCount_0f7a4_42 : decode cJ6_bitCount_0f7a4 42 = .ok (.iload_n 0, 1) := by decide +kernel
theorem dJ6_bitCount_0f7a4_43 : decode cJ6_bitCount_0f7a4 43 = .ok (.bipush 16, 2) := by decide +kernel
theorem dJ6_bitCount_0f7a4_45 : decode cJ6_bitCount_0f7a4 45 = .ok (.iushr, 1) := by decide +kernel
theorem dJ6_bitCount_0f7a4_46 : decode cJ6_bitCount_0f7a4 46 = .ok (.iadd, 1) := by decide +kernel
theorem dJ6_bitCount_0f7a4_47 : decode cJ6_bitCount_0f7a4 47 = .ok (.istore_n 0, 1) := by decide +kernel
theorem dJ6_bitCount_0f7a4_48 : decode cJ6_bitCount_0f7a4 48 = .ok (.iload_n 0, 1) := by decide +kernel
theorem dJ6_bitCount_0f7a4_49 : decode cJ6_bitCount_0f7a4 49 = .ok (.bipush 63, 2) := by decide +kernel
theorem dJ6_bitCount_0f7a4_51 : decode cJ6_bitCount_0f7a4 51 = .ok (.iand, 1) := by decide +kernel
theorem dJ6_bitCount_0f7a4_52 : decode cJ6_bitCount_0f7a4 52 = .ok (.ireturn, 1) := by decide +kernel
theorem dJ9_max_7cf53_0 : decode cJ9_max_7cf53 0 = .ok (.iload_n 0, 1) := by decide +kernel
theorem dJ9_max_7cf53_1 : decode cJ9_max_7cf53 1 = .ok (.iload_n 1, 1) := by decide +kernel
theorem dJ9_max_7cf53_2 : decode cJ9_max_7cf53 2 = .ok (.if_icmp .lt 7, 3) := by decide +kernel
theorem dJ9_max_7cf53_5 : decode cJ9_max_7cf53 5 = .ok (.iload_n 0, 1) := by decide +kernel
theorem dJ9_max_7cf53_6 : decode cJ9_max_7cf53 6 = .ok (.goto 4, 3) := by decide +kernel
theorem dJ9_max_7cf53_9 : decode cJ9_max_7cf53 9 = .ok (.iload_n 1, 1) := by decide +kernel
theorem dJ9_max_7cf53_10 : decode cJ9_max_7cf53 10 = .ok (.ireturn, 1) := by decide +kernel
theorem dJ9_min_7cf53_0 : decode cJ9_min_7cf53 0 = .ok (.iload_n 0, 1) := by decide +kernel
theorem dJ9_min_7cf53_1 : decode cJ9_min_7cf53 1 = .ok (.iload_n 1, 1) := by decide +kernel
theorem dJ9_min_7cf53_2 : decode cJ9_min_7cf53 2 = .ok (.if_icmp .gt 7, 3) := by decide +kernel
theorem dJ9_min_7cf53_5 : decode cJ9_min_7cf53 5 = .ok (.iload_n 0, 1) := by decide +kernel
theorem dJ9_min_7cf53_6 : decode cJ9_min_7cf53 6 = .ok (.goto 4, 3) := by decide +kernel
theorem dJ9_min_7cf53_9 : decode cJ9_min_7cf53 9 = .ok (.iload_n 1, 1) := by decide +kernel
theorem dJ9_min_7cf53_10 : decode cJ9_min_7cf53 10 = .ok (.ireturn, 1) := by decide +kernel
theorem dJ0_length_8abf5_0 : decode cJ0_length_8abf5 0 = .ok (.aload_n 0, 1) := by decide +kernel
theorem dJ0_length_8abf5_1 : decode cJ0_length_8abf5 1 = .ok (.getfield 9, 3) := by decide +kernel
theorem dJ0_length_8abf5_4 : decode cJ0_length_8abf5 4 = .ok (.arraylength, 1) := by decide +kernel
theorem dJ0_length_8abf5_5 : decode cJ0_length_8abf5 5 = .ok (.aload_n 0, 1) := by decide +kernel
theorem dJ0_length_8abf5_6 : decode cJ0_length_8abf5 6 = .ok (.invokevirtual 335, 3) := by decide +kernel
theorem dJ0_length_8abf5_9 : decode cJ0_length_8abf5 9 = .ok (.ishr, 1) := by decide +kernel
theorem dJ0_length_8abf5_10 : decode cJ0_length_8abf5 10 = .ok (.ireturn, 1) := by decide +kernel
theorem dJ0_charAt_5068e_0 : decode cJ0_charAt_5068e 0 = .ok (.aload_n 0, 1) := by decide +kernel
theorem dJ0_charAt_5068e_1 : decode cJ0_charAt_5068e 1 = .ok (.invokevirtual 492, 3) := by decide +kernel
theorem dJ0_charAt_5068e_4 : decode cJ0_charAt_5068e 4 = .ok (.ifCond .eq 12, 3) := by decide +kernel
theorem dJ0_charAt_5068e_7 : decode cJ0_charAt_5068e 7 = .ok (.aload_n 0, 1) := by decide +kernel
theorem dJ0_charAt_5068e_8 : decode cJ0_charAt_5068e 8 = .ok (.getfield 9, 3) := by decide +kernel
theorem dJ0_charAt_5068e_11 : decode cJ0_charAt_5068e 11 = .ok (.iload_n 1, 1) := by decide +kernel
theorem dJ0_charAt_5068e_12 : decode cJ0_charAt_5068e 12 = .ok (.invokestatic 495, 3) := by decide +kernel
theorem dJ0_charAt_5068e_15 : decode cJ0_charAt_5068e 15 = .ok (.ireturn, 1) := by decide +kernel
theorem dJ0_charAt_5068e_16 : decode cJ0_charAt_5068e 16 = .ok (.aload_n 0, 1) := by decide +kernel
theorem dJ0_charAt_5068e_17 : decode cJ0_charAt_5068e 17 = .ok (.getfield 9, 3) := by decide +kernel
theorem dJ0_charAt_5068e_20 : decode cJ0_charAt_5068e 20 = .ok (.iload_n 1, 1) := by decide +kernel
theorem dJ0_charAt_5068e_21 : decode cJ0_charAt_5068e 21 = .ok (.invokestatic 498, 3) := by decide +kernel
theorem dJ0_charAt_5068e_24 : decode cJ0_charAt_5068e 24 = .ok (.ireturn, 1) := by decide +kernel
theorem dJ0_coder_7d493_0 : decode cJ0_coder_7d493 0 = .ok (.getstatic 38, 3) := by decide +kernel
theorem dJ0_coder_7d493_3 : decode cJ0_coder_7d493 3 = .ok (.ifCond .eq 10, 3) := by decide +kernel
theorem dJ0_coder_7d493_6 : decode cJ0_coder_7d493 6 = .ok (.aload_n 0, 1) := by decide +kernel
theorem dJ0_coder_7d493_7 : decode cJ0_coder_7d493 7 = .ok (.getfield 15, 3) := by decide +kernel
theorem dJ0_coder_7d493_10 : decode cJ0_coder_7d493 10 = .ok (.goto 4, 3) := by decide +kernel
theorem dJ0_coder_7d493_13 : decode cJ0_coder_7d493 13 = .ok (.iconst 1, 1) := by decide +kernel
theorem dJ0_coder_7d493_14 : decode cJ0_coder_7d493 14 = .ok (.ireturn, 1) := by decide +kernel
theorem dJ0_isLatin1_aae02_0 : decode cJ0_isLatin1_aae02 0 = .ok (.getstatic 38, 3) := by decide +kernel
theorem dJ0_isLatin1_aae02_3 : decode cJ0_isLatin1_aae02 3 = .ok (.ifCond .eq 14, 3) := by decide +kernel
theorem dJ0_isLatin1_aae02_6 : decode cJ0_isLatin1_aae02 6 = .ok (.aload_n 0, 1) := by decide +kernel
theorem dJ0_isLatin1_aae02_7 : decode cJ0_isLatin1_aae02 7 = .ok (.getfield 15, 3) := by decide +kernel
theorem dJ0_isLatin1_aae02_10 : decode cJ0_isLatin1_aae02 10 = .ok (.ifCond .ne 7, 3) := by decide +kernel
theorem dJ0_isLatin1_aae02_13 : decode cJ0_isLatin1_aae02 13 = .ok (.iconst 1, 1) := by decide +kernel
theorem dJ0_isLatin1_aae02_14 : decode cJ0_isLatin1_aae02 14 = .ok (.goto 4, 3) := by decide +kernel
theorem dJ0_isLatin1_aae02_17 : decode cJ0_isLatin1_aae02 17 = .ok (.iconst 0, 1) := by decide +kernel
theorem dJ0_isLatin1_aae02_18 : decode cJ0_isLatin1_aae02 18 = .ok (.ireturn, 1) := by decide +kernel
theorem dJ0_checkIndex_df160_0 : decode cJ0_checkIndex_df160 0 = .ok (.iload_n 0, 1) := by decide +kernel
theorem dJ0_checkIndex_df160_1 : decode cJ0_checkIndex_df160 1 = .ok (.iload_n 1, 1) := by decide +kernel
theorem dJ0_checkIndex_df160_2 : decode cJ0_checkIndex_df160 2 = .ok (.getstatic 1053, 3) := by decide +kernel
theorem dJ0_checkIndex_df160_5 : decode cJ0_checkIndex_df160 5 = .ok (.invokestatic 1059, 3) := by decide +kernel
theorem dJ0_checkIndex_df160_8 : decode cJ0_checkIndex_df160 8 = .ok (.pop, 1) := by decide +kernel
theorem dJ0_checkIndex_df160_9 : decode cJ0_checkIndex_df160 9 = .ok (.return_, 1) := by decide +kernel
theorem dJ1_charAt_3b067_0 : decode cJ1_charAt_3b067 0 = .ok (.iload_n 1, 1) := by decide +kernel
theorem dJ1_charAt_3b067_1 : decode cJ1_charAt_3b067 1 = .ok (.aload_n 0, 1) := by decide +kernel
theorem dJ1_charAt_3b067_2 : decode cJ1_charAt_3b067 2 = .ok (.arraylength, 1) := by decide +kernel
theorem dJ1_charAt_3b067_3 : decode cJ1_charAt_3b067 3 = .ok (.invokestatic 9, 3) := by decide +kernel
theorem dJ1_charAt_3b067_6 : decode cJ1_charAt_3b067 6 = .ok (.aload_n 0, 1) := by decide +kernel
theorem dJ1_charAt_3b067_7 : decode cJ1_charAt_3b067 7 = .ok (.iload_n 1, 1) := by decide +kernel
theorem dJ1_charAt_3b067_8 : decode cJ1_charAt_3b067 8 = .ok (.baload, 1) := by decide +kernel
theorem dJ1_charAt_3b067_9 : decode cJ1_charAt_3b067 9 = .ok (.sipush 255, 3) := by decide +kernel
theorem dJ1_charAt_3b067_12 : decode cJ1_charAt_3b067 12 = .ok (.iand, 1) := by decide +kernel
theorem dJ1_charAt_3b067_13 : decode cJ1_charAt_3b067 13 = .ok (.i2c, 1) := by decide +kernel
theorem dJ1_charAt_3b067_14 : decode cJ1_charAt_3b067 14 = .ok (.ireturn, 1) := by decide +kernel
theorem dJ2_getChar_3b067_0 : decode cJ2_getChar_3b067 0 = .ok (.getstatic 44, 3) := by decide +kernel
theorem dJ2_getChar_3b067_3 : decode cJ2_getChar_3b067 3 = .ok (.ifCond .ne 25, 3) := by decide +kernel
theorem dJ2_getChar_3b067_6 : decode cJ2_getChar_3b067 6 = .ok (.iload_n 1, 1) := by decide +kernel
theorem dJ2_getChar_3b067_7 : decode cJ2_getChar_3b067 7 = .ok (.ifCond .lt 11, 3) := by decide +kernel
theorem dJ2_getChar_3b067_10 : decode cJ2_getChar_3b067 10 = .ok (.iload_n 1, 1) := by decide +kernel
theorem dJ2_getChar_3b067_11 : decode cJ2_getChar_3b067 11 = .ok (.aload_n 0, 1) := by decide +kernel
theorem dJ2_getChar_3b067_12 : decode cJ2_getChar_3b067 12 = .ok (.invokestatic 48, 3) := by decide +kernel
theorem dJ2_getChar_3b067_15 : decode cJ2_getChar_3b067 15 = .ok (.if_icmp .lt 13, 3) := by decide +kernel
theorem dJ2_getChar_3b067_18 : decode cJ2_getChar_3b067 18 = .ok (.new 52, 3) := by decide +kernel
theorem dJ2_getChar_3b067_21 : decode cJ2_getChar_3b067 21 = .ok (.dup, 1) := by decide +kernel
theorem dJ2_getChar_3b067_22 : decode cJ2_getChar_3b067 22 = .ok (.ldc 54, 2) := by decide +kernel
theorem dJ2_getChar_3b067_24 : decode cJ2_getChar_3b067 24 = .ok (.invokespecial 56, 3) := by decide +kernel
theorem dJ2_getChar_3b067_27 : decode cJ2_getChar_3b067 27 = .ok (.athrow, 1) := by decide +kernel
theorem dJ2_getChar_3b067_28 : decode cJ2_getChar_3b067 28 = .ok (.iload_n 1, 1) := by decide +kernel
theorem dJ2_getChar_3b067_29 : decode cJ2_getChar_3b067 29 = .ok (.iconst 1, 1) := by decide +kernel
theorem dJ2_getChar_3b067_30 : decode cJ2_getChar_3b067 30 = .ok (.ishl, 1) := by decide +kernel
theorem dJ2_getChar_3b067_31 : decode cJ2_getChar_3b067 31 = .ok (.istore_n 1, 1) := by decide +kernel
theorem dJ2_getChar_3b067_32 : decode cJ2_getChar_3b067 32 = .ok (.aload_n 0, 1) := by decide +kernel
theorem dJ2_getChar_3b067_33 : decode cJ2_getChar_3b067 33 = .ok (.iload_n 1, 1) := by decide +kernel
theorem dJ2_getChar_3b067_34 : decode cJ2_getChar_3b067 34 = .ok (.iinc 1 1, 3) := by decide +kernel
theorem dJ2_getChar_3b067_37 : decode cJ2_getChar_3b067 37 = .ok (.baload, 1) := by decide +kernel
theorem dJ2_getChar_3b067_38 : decode cJ2_getChar_3b067 38 = .ok (.sipush 255, 3) := by decide +kernel
theorem dJ2_getChar_3b067_41 : decode cJ2_getChar_3b067 41 = .ok (.iand, 1) := by decide +kernel
theorem dJ2_getChar_3b067_42 : decode cJ2_getChar_3b067 42 = .ok (.getstatic 59, 3) := by decide +kernel
theorem dJ2_getChar_3b067_45 : decode cJ2_getChar_3b067 45 = .ok (.ishl, 1) := by decide +kernel
theorem dJ2_getChar_3b067_46 : decode cJ2_getChar_3b067 46 = .ok (.aload_n 0, 1) := by decide +kernel
theorem dJ2_getChar_3b067_47 : decode cJ2_getChar_3b067 47 = .ok (.iload_n 1, 1) := by decide +kernel
theorem dJ2_getChar_3b067_48 : decode cJ2_getChar_3b067 48 = .ok (.baload, 1) := by decide +kernel
theorem dJ2_getChar_3b067_49 : decode cJ2_getChar_3b067 49 = .ok (.sipush 255, 3) := by decide +kernel
theorem dJ2_getChar_3b067_52 : decode cJ2_getChar_3b067 52 = .ok (.iand, 1) := by decide +kernel
theorem dJ2_getChar_3b067_53 : decode cJ2_getChar_3b067 53 = .ok (.getstatic 63, 3) := by decide +kernel
theorem dJ2_getChar_3b067_56 : decode cJ2_getChar_3b067 56 = .ok (.ishl, 1) := by decide +kernel
theorem dJ2_getChar_3b067_57 : decode cJ2_getChar_3b067 57 = .ok (.ior, 1) := by decide +kernel
theorem dJ2_getChar_3b067_58 : decode cJ2_getChar_3b067 58 = .ok (.i2c, 1) := by decide +kernel
theorem dJ2_getChar_3b067_59 : decode cJ2_getChar_3b067 59 = .ok (.ireturn, 1) := by decide +kernel
theorem dJ2_length_9d52b_0 : decode cJ2_length_9d52b 0 = .ok (.aload_n 0, 1) := by decide +kernel
theorem dJ2_length_9d52b_1 : decode cJ2_length_9d52b 1 = .ok (.arraylength, 1) := by decide +kernel
theorem dJ2_length_9d52b_2 : decode cJ2_length_9d52b 2 = .ok (.iconst 1, 1) := by decide +kernel
theorem dJ2_length_9d52b_3 : decode cJ2_length_9d52b 3 = .ok (.ishr, 1) := by decide +kernel
theorem dJ2_length_9d52b_4 : decode cJ2_length_9d52b 4 = .ok (.ireturn, 1) := by decide +kernel
theorem dJ2_charAt_3b067_0 : decode cJ2_charAt_3b067 0 = .ok (.iload_n 1, 1) := by decide +kernel
theorem dJ2_charAt_3b067_1 : decode cJ2_charAt_3b067 1 = .ok (.aload_n 0, 1) := by decide +kernel
theorem dJ2_charAt_3b067_2 : decode cJ2_charAt_3b067 2 = .ok (.invokestatic 67, 3) := by decide +kernel
theorem dJ2_charAt_3b067_5 : decode cJ2_charAt_3b067 5 = .ok (.aload_n 0, 1) := by decide +kernel
theorem dJ2_charAt_3b067_6 : decode cJ2_charAt_3b067 6 = .ok (.iload_n 1, 1) := by decide +kernel
theorem dJ2_charAt_3b067_7 : decode cJ2_charAt_3b067 7 = .ok (.invokestatic 71, 3) := by decide +kernel
theorem dJ2_charAt_3b067_10 : decode cJ2_charAt_3b067 10 = .ok (.ireturn, 1) := by decide +kernel
theorem dJ2_checkIndex_2214a_0 : decode cJ2_checkIndex_2214a 0 = .ok (.iload_n 0, 1) := by decide +kernel
theorem dJ2_checkIndex_2214a_1 : decode cJ2_checkIndex_2214a 1 = .ok (.aload_n 1, 1) := by decide +kernel
theorem dJ2_checkIndex_2214a_2 : decode cJ2_checkIndex_2214a 2 = .ok (.invokestatic 48, 3) := by decide +kernel
theorem dJ2_checkIndex_2214a_5 : decode cJ2_checkIndex_2214a 5 = .ok (.invokestatic 414, 3) := by decide +kernel
theorem dJ2_checkIndex_2214a_8 : decode cJ2_checkIndex_2214a 8 = .ok (.return_, 1) := by decide +kernel
theorem dJ7_fill_d0a16_0 : decode cJ7_fill_d0a16 0 = .ok (.iconst 0, 1) := by decide +kernel
theorem dJ7_fill_d0a16_1 : decode cJ7_fill_d0a16 1 = .ok (.istore_n 3, 1) := by decide +kernel
theorem dJ7_fill_d0a16_2 : decode cJ7_fill_d0a16 2 = .ok (.aload_n 0, 1) := by decide +kernel
theorem dJ7_fill_d0a16_3 : decode cJ7_fill_d0a16 3 = .ok (.arraylength, 1) := by decide +kernel
theorem dJ7_fill_d0a16_4 : decode cJ7_fill_d0a16 4 = .ok (.istore 4, 2) := by decide +kernel
theorem dJ7_fill_d0a16_6 : decode cJ7_fill_d0a16 6 = .ok (.iload_n 3, 1) := by decide +kernel
theorem dJ7_fill_d0a16_7 : decode cJ7_fill_d0a16 7 = .ok (.iload 4, 2) := by decide +kernel
theorem dJ7_fill_d0a16_9 : decode cJ7_fill_d0a16 9 = .ok (.if_icmp .ge 13, 3) := by decide +kernel
theorem dJ7_fill_d0a16_12 : decode cJ7_fill_d0a16 12 = .ok (.aload_n 0, 1) := by decide +kernel
theorem dJ7_fill_d0a16_13 : decode cJ7_fill_d0a16 13 = .ok (.iload_n 3, 1) := by decide +kernel
theorem dJ7_fill_d0a16_14 : decode cJ7_fill_d0a16 14 = .ok (.lload_n 1, 1) := by decide +kernel
theorem dJ7_fill_d0a16_15 : decode cJ7_fill_d0a16 15 = .ok (.lastore, 1) := by decide +kernel
theorem dJ7_fill_d0a16_16 : decode cJ7_fill_d0a16 16 = .ok (.iinc 3 1, 3) := by decide +kernel
theorem dJ7_fill_d0a16_19 : decode cJ7_fill_d0a16 19 = .ok (.goto (-13), 3) := by decide +kernel
theorem dJ7_fill_d0a16_22 : decode cJ7_fill_d0a16 22 = .ok (.return_, 1) := by decide +kernel
theorem dJ7_fill_53178_0 : decode cJ7_fill_53178 0 = .ok (.iconst 0, 1) := by decide +kernel
theorem dJ7_fill_53178_1 : decode cJ7_fill_53178 1 = .ok (.istore_n 2, 1) := by decide +kernel
theorem dJ7_fill_53178_2 : decode cJ7_fill_53178 2 = .ok (.aload_n 0, 1) := by decide +kernel
theorem dJ7_fill_53178_3 : decode cJ7_fill_53178 3 = .ok (.arraylength, 1) := by decide +kernel
theorem dJ7_fill_53178_4 : decode cJ7_fill_53178 4 = .ok (.istore_n 3, 1) := by decide +kernel
theorem dJ7_fill_53178_5 : decode cJ7_fill_53178 5 = .ok (.iload_n 2, 1) := by decide +kernel
theorem dJ7_fill_53178_6 : decode cJ7_fill_53178 6 = .ok (.iload_n 3, 1) := by decide +kernel
theorem dJ7_fill_53178_7 : decode cJ7_fill_53178 7 = .ok (.if_icmp .ge 13, 3) := by decide +kernel
theorem dJ7_fill_53178_10 : decode cJ7_fill_53178 10 = .ok (.aload_n 0, 1) := by decide +kernel
theorem dJ7_fill_53178_11 : decode cJ7_fill_53178 11 = .ok (.iload_n 2, 1) := by decide +kernel
theorem dJ7_fill_53178_12 : decode cJ7_fill_53178 12 = .ok (.iload_n 1, 1) := by decide +kernel
theorem dJ7_fill_53178_13 : decode cJ7_fill_53178 13 = .ok (.iastore, 1) := by decide +kernel
theorem dJ7_fill_53178_14 : decode cJ7_fill_53178 14 = .ok (.iinc 2 1, 3) := by decide +kernel
theorem dJ7_fill_53178_17 : decode cJ7_fill_53178 17 = .ok (.goto (-12), 3) := by decide +kernel
theorem dJ7_fill_53178_20 : decode cJ7_fill_53178 20 = .ok (.return_, 1) := by decide +kernel
theorem dJ3_checkIndex_8e157_0 : decode cJ3_checkIndex_8e157 0 = .ok (.iload_n 0, 1) := by decide +kernel
theorem dJ3_checkIndex_8e157_1 : decode cJ3_checkIndex_8e157 1 = .ok (.ifCond .lt 8, 3) := by decide +kernel
theorem dJ3_checkIndex_8e157_4 : decode cJ3_checkIndex_8e157 4 = .ok (.iload_n 0, 1) := by decide +kernel
theorem dJ3_checkIndex_8e157_5 : decode cJ3_checkIndex_8e157 5 = .ok (.iload_n 1, 1) := by decide +kernel
theorem dJ3_checkIndex_8e157_6 : decode cJ3_checkIndex_8e157 6 = .ok (.if_icmp .lt 10, 3) := by decide +kernel
theorem dJ3_checkIndex_8e157_9 : decode cJ3_checkIndex_8e157 9 = .ok (.aload_n 2, 1) := by decide +kernel
theorem dJ3_checkIndex_8e157_10 : decode cJ3_checkIndex_8e157 10 = .ok (.iload_n 0, 1) := by decide +kernel
theorem dJ3_checkIndex_8e157_11 : decode cJ3_checkIndex_8e157 11 = .ok (.iload_n 1, 1) := by decide +kernel
theorem dJ3_checkIndex_8e157_12 : decode cJ3_checkIndex_8e157 12 = .ok (.invokestatic 95, 3) := by decide +kernel
theorem dJ3_checkIndex_8e157_15 : decode cJ3_checkIndex_8e157 15 = .ok (.athrow, 1) := by decide +kernel
theorem dJ3_checkIndex_8e157_16 : decode cJ3_checkIndex_8e157 16 = .ok (.iload_n 0, 1) := by decide +kernel
theorem dJ3_checkIndex_8e157_17 : decode cJ3_checkIndex_8e157 17 = .ok (.ireturn, 1) := by decide +kernel
end
section
theorem dL_law_0 : decode cL_law 0 = .ok (.new 7, 3) := by decide +kernel
theorem dL_law_3 : decode cL_law 3 = .ok (.dup, 1) := by decide +kernel
theorem dL_law_4 : decode cL_law 4 = .ok (.invokespecial 9, 3) := by decide +kernel
theorem dL_law_7 : decode cL_law 7 = .ok (.astore_n 1, 1) := by decide +kernel
theorem dL_law_8 : decode cL_law 8 = .ok (.new 10, 3) := by decide +kernel
theorem dL_law_11 : decode cL_law 11 = .ok (.dup, 1) := by decide +kernel
theorem dL_law_12 : decode cL_law 12 = .ok (.invokespecial 12, 3) := by decide +kernel
theorem dL_law_15 : decode cL_law 15 = .ok (.astore_n 2, 1) := by decide +kernel
theorem dL_law_16 : decode cL_law 16 = .ok (.iconst 0, 1) := by decide +kernel
theorem dL_law_17 : decode cL_law 17 = .ok (.istore_n 3, 1) := by decide +kernel
theorem dL_law_18 : decode cL_law 18 = .ok (.iload_n 3, 1) := by decide +kernel
theorem dL_law_19 : decode cL_law 19 = .ok (.aload_n 0, 1) := by decide +kernel
theorem dL_law_20 : decode cL_law 20 = .ok (.arraylength, 1) := by decide +kernel
theorem dL_law_21 : decode cL_law 21 = .ok (.bipush 6, 2) := by decide +kernel
theorem dL_law_23 : decode cL_law 23 = .ok (.isub, 1) := by decide +kernel
theorem dL_law_24 : decode cL_law 24 = .ok (.if_icmp .gt 1221, 3) := by decide +kernel
theorem dL_law_27 : decode cL_law 27 = .ok (.aload_n 0, 1) := by decide +kernel
theorem dL_law_28 : decode cL_law 28 = .ok (.iload_n 3, 1) := by decide +kernel
theorem dL_law_29 : decode cL_law 29 = .ok (.iaload, 1) := by decide +kernel
theorem dL_law_30 : decode cL_law 30 = .ok (.bipush 63, 2) := by decide +kernel
theorem dL_law_32 : decode cL_law 32 = .ok (.iand, 1) := by decide +kernel
theorem dL_law_33 : decode cL_law 33 = .ok (.tableswitch 1206 0 42 #[187, 230, 263, 296, 329, 382, 415, 478, 501, 514, 527, 540, 553, 566, 579, 602, 645, 668, 681, 694, 707, 730, 753, 766, 779, 802, 815, 828, 861, 884, 897, 910, 953, 966, 979, 1002, 1035, 1058, 1091, 1124, 1147, 1170, 1193], 187) := by decide +kernel
theorem dL_law_220 : decode cL_law 220 = .ok (.aload_n 1, 1) := by decide +kernel
theorem dL_law_221 : decode cL_law 221 = .ok (.aload_n 0, 1) := by decide +kernel
theorem dL_law_222 : decode cL_law 222 = .ok (.iload_n 3, 1) := by decide +kernel
theorem dL_law_223 : decode cL_law 223 = .ok (.iconst 1, 1) := by decide +kernel
theorem dL_law_224 : decode cL_law 224 = .ok (.iadd, 1) := by decide +kernel
theorem dL_law_225 : decode cL_law 225 = .ok (.iaload, 1) := by decide +kernel
theorem dL_law_226 : decode cL_law 226 = .ok (.aload_n 0, 1) := by decide +kernel
theorem dL_law_227 : decode cL_law 227 = .ok (.iload_n 3, 1) := by decide +kernel
theorem dL_law_228 : decode cL_law 228 = .ok (.iconst 2, 1) := by decide +kernel
theorem dL_law_229 : decode cL_law 229 = .ok (.iadd, 1) := by decide +kernel
theorem dL_law_230 : decode cL_law 230 = .ok (.iaload, 1) := by decide +kernel
theorem dL_law_231 : decode cL_law 231 = .ok (.aload_n 0, 1) := by decide +kernel
theorem dL_law_232 : decode cL_law 232 = .ok (.iload_n 3, 1) := by decide +kernel
theorem dL_law_233 : decode cL_law 233 = .ok (.iconst 3, 1) := by decide +kernel
theorem dL_law_234 : decode cL_law 234 = .ok (.iadd, 1) := by decide +kernel
theorem dL_law_235 : decode cL_law 235 = .ok (.iaload, 1) := by decide +kernel
theorem dL_law_236 : decode cL_law 236 = .ok (.invokevirtual 13, 3) := by decide +kernel
theorem dL_law_239 : decode cL_law 239 = .ok (.pop, 1) := by decide +kernel
theorem dL_law_240 : decode cL_law 240 = .ok (.aload_n 2, 1) := by decide +kernel
theorem dL_law_241 : decode cL_law 241 = .ok (.aload_n 0, 1) := by decide +kernel
theorem dL_law_242 : decode cL_law 242 = .ok (.iload_n 3, 1) := by decide +kernel
theorem dL_law_243 : decode cL_law 243 = .ok (.iconst 1, 1) := by decide +kernel
theorem dL_law_244 : decode cL_law 244 = .ok (.iadd, 1) := by decide +kernel
theorem dL_law_245 : decode cL_law 245 = .ok (.iaload, 1) := by decide +kernel
theorem dL_law_246 : decode cL_law 246 = .ok (.aload_n 0, 1) := by decide +kernel
theorem dL_law_247 : decode cL_law 247 = .ok (.iload_n 3, 1) := by decide +kernel
theorem dL_law_248 : decode cL_law 248 = .ok (.iconst 2, 1) := by decide +kernel
theorem dL_law_249 : decode cL_law 249 = .ok (.iadd, 1) := by decide +kernel
theorem dL_law_250 : decode cL_law 250 = .ok (.iaload, 1) := by decide +kernel
theorem dL_law_251 : decode cL_law 251 = .ok (.aload_n 0, 1) := by decide +kernel
theorem dL_law_252 : decode cL_law 252 = .ok (.iload_n 3, 1) := by decide +kernel
theorem dL_law_253 : decode cL_law 253 = .ok (.iconst 3, 1) := by decide +kernel
theorem dL_law_254 : decode cL_law 254 = .ok (.iadd, 1) := by decide +kernel
theorem dL_law_255 : decode cL_law 255 = .ok (.iaload, 1) := by decide +kernel
theorem dL_law_256 : decode cL_law 256 = .ok (.invokevirtual 17, 3) := by decide +kernel
theorem dL_law_259 : decode cL_law 259 = .ok (.pop, 1) := by decide +kernel
theorem dL_law_260 : decode cL_law 260 = .ok (.goto 979, 3) := by decide +kernel
theorem dL_law_263 : decode cL_law 263 = .ok (.aload_n 1, 1) := by decide +kernel
theorem dL_law_264 : decode cL_law 264 = .ok (.aload_n 0, 1) := by decide +kernel
theorem dL_law_265 : decode cL_law 265 = .ok (.iload_n 3, 1) := by decide +kernel
theorem dL_law_266 : decode cL_law 266 = .ok (.iconst 1, 1) := by decide +kernel
theorem dL_law_267 : decode cL_law 267 = .ok (.iadd, 1) := by decide +kernel
theorem dL_law_268 : decode cL_law 268 = .ok (.iaload, 1) := by decide +kernel
theorem dL_law_269 : decode cL_law 269 = .ok (.aload_n 0, 1) := by decide +kernel
theorem dL_law_270 : decode cL_law 270 = .ok (.iload_n 3, 1) := by decide +kernel
theorem dL_law_271 : decode cL_law 271 = .ok (.iconst 2, 1) := by decide +kernel
theorem dL_law_272 : decode cL_law 272 = .ok (.iadd, 1) := by decide +kernel
theorem dL_law_273 : decode cL_law 273 = .ok (.iaload, 1) := by decide +kernel
theorem dL_law_274 : decode cL_law 274 = .ok (.invokevirtual 18, 3) := by decide +kernel
theorem dL_law_277 : decode cL_law 277 = .ok (.pop, 1) := by decide +kernel
theorem dL_law_278 : decode cL_law 278 = .ok (.aload_n 2, 1) := by decide +kernel
theorem dL_law_279 : decode cL_law 279 = .ok (.aload_n 0, 1) := by decide +kernel
theorem dL_law_280 : decode cL_law 280 = .ok (.iload_n 3, 1) := by decide +kernel
theorem dL_law_281 : decode cL_law 281 = .ok (.iconst 1, 1) := by decide +kernel
theorem dL_law_282 : decode cL_law 282 = .ok (.iadd, 1) := by decide +kernel
theorem dL_law_283 : decode cL_law 283 = .ok (.iaload, 1) := by decide +kernel
theorem dL_law_284 : decode cL_law 284 = .ok (.aload_n 0, 1) := by decide +kernel
theorem dL_law_285 : decode cL_law 285 = .ok (.iload_n 3, 1) := by decide +kernel
theorem dL_law_286 : decode cL_law 286 = .ok (.iconst 2, 1) := by decide +kernel
theorem dL_law_287 : decode cL_law 287 = .ok (.iadd, 1) := by decide +kernel
theorem dL_law_288 : decode cL_law 288 = .ok (.iaload, 1) := by decide +kernel
theorem dL_law_289 : decode cL_law 289 = .ok (.invokevirtual 22, 3) := by decide +kernel
theorem dL_law_292 : decode cL_law 292 = .ok (.pop, 1) := by decide +kernel
theorem dL_law_293 : decode cL_law 293 = .ok (.goto 946, 3) := by decide +kernel
theorem dL_law_296 : decode cL_law 296 = .ok (.aload_n 1, 1) := by decide +kernel
theorem dL_law_297 : decode cL_law 297 = .ok (.aload_n 0, 1) := by decide +kernel
theorem dL_law_298 : decode cL_law 298 = .ok (.iload_n 3, 1) := by decide +kernel
theorem dL_law_299 : decode cL_law 299 = .ok (.iconst 1, 1) := by decide +kernel
theorem dL_law_300 : decode cL_law 300 = .ok (.iadd, 1) := by decide +kernel
theorem dL_law_301 : decode cL_law 301 = .ok (.iaload, 1) := by decide +kernel
theorem dL_law_302 : decode cL_law 302 = .ok (.aload_n 0, 1) := by decide +kernel
theorem dL_law_303 : decode cL_law 303 = .ok (.iload_n 3, 1) := by decide +kernel
theorem dL_law_304 : decode cL_law 304 = .ok (.iconst 2, 1) := by decide +kernel
theorem dL_law_305 : decode cL_law 305 = .ok (.iadd, 1) := by decide +kernel
theorem dL_law_306 : decode cL_law 306 = .ok (.iaload, 1) := by decide +kernel
theorem dL_law_307 : decode cL_law 307 = .ok (.invokevirtual 23, 3) := by decide +kernel
theorem dL_law_310 : decode cL_law 310 = .ok (.pop, 1) := by decide +kernel
theorem dL_law_311 : decode cL_law 311 = .ok (.aload_n 2, 1) := by decide +kernel
theorem dL_law_312 : decode cL_law 312 = .ok (.aload_n 0, 1) := by decide +kernel
theorem dL_law_313 : decode cL_law 313 = .ok (.iload_n 3, 1) := by decide +kernel
theorem dL_law_314 : decode cL_law 314 = .ok (.iconst 1, 1) := by decide +kernel
theorem dL_law_315 : decode cL_law 315 = .ok (.iadd, 1) := by decide +kernel
theorem dL_law_316 : decode cL_law 316 = .ok (.iaload, 1) := by decide +kernel
theorem dL_law_317 : decode cL_law 317 = .ok (.aload_n 0, 1) := by decide +kernel
theorem dL_law_318 : decode cL_law 318 = .ok (.iload_n 3, 1) := by decide +kernel
theorem dL_law_319 : decode cL_law 319 = .ok (.iconst 2, 1) := by decide +kernel
theorem dL_law_320 : decode cL_law 320 = .ok (.iadd, 1) := by decide +kernel
theorem dL_law_321 : decode cL_law 321 = .ok (.iaload, 1) := by decide +kernel
theorem dL_law_322 : decode cL_law 322 = .ok (.invokevirtual 26, 3) := by decide +kernel
theorem dL_law_325 : decode cL_law 325 = .ok (.pop, 1) := by decide +kernel
theorem dL_law_326 : decode cL_law 326 = .ok (.goto 913, 3) := by decide +kernel
theorem dL_law_329 : decode cL_law 329 = .ok (.aload_n 1, 1) := by decide +kernel
theorem dL_law_330 : decode cL_law 330 = .ok (.aload_n 0, 1) := by decide +kernel
theorem dL_law_331 : decode cL_law 331 = .ok (.iload_n 3, 1) := by decide +kernel
theorem dL_law_332 : decode cL_law 332 = .ok (.iconst 1, 1) := by decide +kernel
theorem dL_law_333 : decode cL_law 333 = .ok (.iadd, 1) := by decide +kernel
theorem dL_law_334 : decode cL_law 334 = .ok (.iaload, 1) := by decide +kernel
theorem dL_law_335 : decode cL_law 335 = .ok (.aload_n 0, 1) := by decide +kernel
theorem dL_law_336 : decode cL_law 336 = .ok (.iload_n 3, 1) := by decide +kernel
theorem dL_law_337 : decode cL_law 337 = .ok (.iconst 2, 1) := by decide +kernel
theorem dL_law_338 : decode cL_law 338 = .ok (.iadd, 1) := by decide +kernel
theorem dL_law_339 : decode cL_law 339 = .ok (.iaload, 1) := by decide +kernel
theorem dL_law_340 : decode cL_law 340 = .ok (.invokevirtual 27, 3) := by decide +kernel
theorem dL_law_343 : decode cL_law 343 = .ok (.pop, 1) := by decide +kernel
theorem dL_law_344 : decode cL_law 344 = .ok (.aload_n 2, 1) := by decide +kernel
theorem dL_law_345 : decode cL_law 345 = .ok (.aload_n 0, 1) := by decide +kernel
theorem dL_law_346 : decode cL_law 346 = .ok (.iload_n 3, 1) := by decide +kernel
theorem dL_law_347 : decode cL_law 347 = .ok (.iconst 1, 1) := by decide +kernel
theorem dL_law_348 : decode cL_law 348 = .ok (.iadd, 1) := by decide +kernel
theorem dL_law_349 : decode cL_law 349 = .ok (.iaload, 1) := by decide +kernel
theorem dL_law_350 : decode cL_law 350 = .ok (.aload_n 0, 1) := by decide +kernel
theorem dL_law_351 : decode cL_law 351 = .ok (.iload_n 3, 1) := by decide +kernel
theorem dL_law_352 : decode cL_law 352 = .ok (.iconst 2, 1) := by decide +kernel
theorem dL_law_353 : decode cL_law 353 = .ok (.iadd, 1) := by decide +kernel
theorem dL_law_354 : decode cL_law 354 = .ok (.iaload, 1) := by decide +kernel
theorem dL_law_355 : decode cL_law 355 = .ok (.invokevirtual 30, 3) := by decide +kernel
theorem dL_law_358 : decode cL_law 358 = .ok (.pop, 1) := by decide +kernel
theorem dL_law_359 : decode cL_law 359 = .ok (.goto 880, 3) := by decide +kernel
theorem dL_law_362 : decode cL_law 362 = .ok (.aload_n 1, 1) := by decide +kernel
theorem dL_law_363 : decode cL_law 363 = .ok (.aload_n 0, 1) := by decide +kernel
theorem dL_law_364 : decode cL_law 364 = .ok (.iload_n 3, 1) := by decide +kernel
theorem dL_law_365 : decode cL_law 365 = .ok (.iconst 1, 1) := by decide +kernel
theorem dL_law_366 : decode cL_law 366 = .ok (.iadd, 1) := by decide +kernel
theorem dL_law_367 : decode cL_law 367 = .ok (.iaload, 1) := by decide +kernel
theorem dL_law_368 : decode cL_law 368 = .ok (.aload_n 0, 1) := by decide +kernel
theorem dL_law_369 : decode cL_law 369 = .ok (.iload_n 3, 1) := by decide +kernel
theorem dL_law_370 : decode cL_law 370 = .ok (.iconst 2, 1) := by decide +kernel
theorem dL_law_371 : decode cL_law 371 = .ok (.iadd, 1) := by decide +kernel
theorem dL_law_372 : decode cL_law 372 = .ok (.iaload, 1) := by decide +kernel
theorem dL_law_373 : decode cL_law 373 = .ok (.aload_n 0, 1) := by decide +kernel
theorem dL_law_374 : decode cL_law 374 = .ok (.iload_n 3, 1) := by decide +kernel
theorem dL_law_375 : decode cL_law 375 = .ok (.iconst 3, 1) := by decide +kernel
theorem dL_law_376 : decode cL_law 376 = .ok (.iadd, 1) := by decide +kernel
theorem dL_law_377 : decode cL_law 377 = .ok (.iaload, 1) := by decide +kernel
theorem dL_law_378 : decode cL_law 378 = .ok (.aload_n 0, 1) := by decide +kernel
theorem dL_law_379 : decode cL_law 379 = .ok (.iload_n 3, 1) := by decide +kernel
theorem dL_law_380 : decode cL_law 380 = .ok (.iconst 4, 1) := by decide +kernel
theorem dL_law_381 : decode cL_law 381 = .ok (.iadd, 1) := by decide +kernel
theorem dL_law_382 : decode cL_law 382 = .ok (.iaload, 1) := by decide +kernel
theorem dL_law_383 : decode cL_law 383 = .ok (.invokevirtual 31, 3) := by decide +kernel
theorem dL_law_386 : decode cL_law 386 = .ok (.pop, 1) := by decide +kernel
theorem dL_law_387 : decode cL_law 387 = .ok (.aload_n 2, 1) := by decide +kernel
theorem dL_law_388 : decode cL_law 388 = .ok (.aload_n 0, 1) := by decide +kernel
theorem dL_law_389 : decode cL_law 389 = .ok (.iload_n 3, 1) := by decide +kernel
theorem dL_law_390 : decode cL_law 390 = .ok (.iconst 1, 1) := by decide +kernel
theorem dL_law_391 : decode cL_law 391 = .ok (.iadd, 1) := by decide +kernel
theorem dL_law_392 : decode cL_law 392 = .ok (.iaload, 1) := by decide +kernel
theorem dL_law_393 : decode cL_law 393 = .ok (.aload_n 0, 1) := by decide +kernel
theorem dL_law_394 : decode cL_law 394 = .ok (.iload_n 3, 1) := by decide +kernel
theorem dL_law_395 : decode cL_law 395 = .ok (.iconst 2, 1) := by decide +kernel
theorem dL_law_396 : decode cL_law 396 = .ok (.iadd, 1) := by decide +kernel
theorem dL_law_397 : decode cL_law 397 = .ok (.iaload, 1) := by decide +kernel
theorem dL_law_398 : decode cL_law 398 = .ok (.aload_n 0, 1) := by decide +kernel
theorem dL_law_399 : decode cL_law 399 = .ok (.iload_n 3, 1) := by decide +kernel
theorem dL_law_400 : decode cL_law 400 = .ok (.iconst 3, 1) := by decide +kernel
theorem dL_law_401 : decode cL_law 401 = .ok (.iadd, 1) := by decide +kernel
theorem dL_law_402 : decode cL_law 402 = .ok (.iaload, 1) := by decide +kernel
theorem dL_law_403 : decode cL_law 403 = .ok (.aload_n 0, 1) := by decide +kernel
theorem dL_law_404 : decode cL_law 404 = .ok (.iload_n 3, 1) := by decide +kernel
theorem dL_law_405 : decode cL_law 405 = .ok (.iconst 4, 1) := by decide +kernel
theorem dL_law_406 : decode cL_law 406 = .ok (.iadd, 1) := by decide +kernel
theorem dL_law_407 : decode cL_law 407 = .ok (.iaload, 1) := by decide +kernel
theorem dL_law_408 : decode cL_law 408 = .ok (.invokevirtual 35, 3) := by decide +kernel
theorem dL_law_411 : decode cL_law 411 = .ok (.pop, 1) := by decide +kernel
theorem dL_law_412 : decode cL_law 412 = .ok (.goto 827, 3) := by decide +kernel
theorem dL_law_415 : decode cL_law 415 = .ok (.aload_n 1, 1) := by decide +kernel
theorem dL_law_416 : decode cL_law 416 = .ok (.aload_n 0, 1) := by decide +kernel
theorem dL_law_417 : decode cL_law 417 = .ok (.iload_n 3, 1) := by decide +kernel
theorem dL_law_418 : decode cL_law 418 = .ok (.iconst 1, 1) := by decide +kernel
theorem dL_law_419 : decode cL_law 419 = .ok (.iadd, 1) := by decide +kernel
theorem dL_law_420 : decode cL_law 420 = .ok (.iaload, 1) := by decide +kernel
theorem dL_law_421 : decode cL_law 421 = .ok (.aload_n 0, 1) := by decide +kernel
theorem dL_law_422 : decode cL_law 422 = .ok (.iload_n 3, 1) := by decide +kernel
theorem dL_law_423 : decode cL_law 423 = .ok (.iconst 2, 1) := by decide +kernel
theorem dL_law_424 : decode cL_law 424 = .ok (.iadd, 1) := by decide +kernel
theorem dL_law_425 : decode cL_law 425 = .ok (.iaload, 1) := by decide +kernel
theorem dL_law_426 : decode cL_law 426 = .ok (.invokevirtual 36, 3) := by decide +kernel
theorem dL_law_429 : decode cL_law 429 = .ok (.pop, 1) := by decide +kernel
theorem dL_law_430 : decode cL_law 430 = .ok (.aload_n 2, 1) := by decide +kernel
theorem dL_law_431 : decode cL_law 431 = .ok (.aload_n 0, 1) := by decide +kernel
theorem dL_law_432 : decode cL_law 432 = .ok (.iload_n 3, 1) := by decide +kernel
theorem dL_law_433 : decode cL_law 433 = .ok (.iconst 1, 1) := by decide +kernel
theorem dL_law_434 : decode cL_law 434 = .ok (.iadd, 1) := by decide +kernel
theorem dL_law_435 : decode cL_law 435 = .ok (.iaload, 1) := by decide +kernel
theorem dL_law_436 : decode cL_law 436 = .ok (.aload_n 0, 1) := by decide +kernel
theorem dL_law_437 : decode cL_law 437 = .ok (.iload_n 3, 1) := by decide +kernel
theorem dL_law_438 : decode cL_law 438 = .ok (.iconst 2, 1) := by decide +kernel
theorem dL_law_439 : decode cL_law 439 = .ok (.iadd, 1) := by decide +kernel
theorem dL_law_440 : decode cL_law 440 = .ok (.iaload, 1) := by decide +kernel
theorem dL_law_441 : decode cL_law 441 = .ok (.invokevirtual 39, 3) := by decide +kernel
theorem dL_law_444 : decode cL_law 444 = .ok (.pop, 1) := by decide +kernel
theorem dL_law_445 : decode cL_law 445 = .ok (.goto 794, 3) := by decide +kernel
theorem dL_law_448 : decode cL_law 448 = .ok (.aload_n 1, 1) := by decide +kernel
theorem dL_law_449 : decode cL_law 449 = .ok (.aload_n 0, 1) := by decide +kernel
theorem dL_law_450 : decode cL_law 450 = .ok (.iload_n 3, 1) := by decide +kernel
theorem dL_law_451 : decode cL_law 451 = .ok (.iconst 1, 1) := by decide +kernel
theorem dL_law_452 : decode cL_law 452 = .ok (.iadd, 1) := by decide +kernel
theorem dL_law_453 : decode cL_law 453 = .ok (.iaload, 1) := by decide +kernel
theorem dL_law_454 : decode cL_law 454 = .ok (.aload_n 0, 1) := by decide +kernel
theorem dL_law_455 : decode cL_law 455 = .ok (.iload_n 3, 1) := by decide +kernel
theorem dL_law_456 : decode cL_law 456 = .ok (.iconst 2, 1) := by decide +kernel
theorem dL_law_457 : decode cL_law 457 = .ok (.iadd, 1) := by decide +kernel
theorem dL_law_458 : decode cL_law 458 = .ok (.iaload, 1) := by decide +kernel
theorem dL_law_459 : decode cL_law 459 = .ok (.aload_n 0, 1) := by decide +kernel
theorem dL_law_460 : decode cL_law 460 = .ok (.iload_n 3, 1) := by decide +kernel
theorem dL_law_461 : decode cL_law 461 = .ok (.iconst 3, 1) := by decide +kernel
theorem dL_law_462 : decode cL_law 462 = .ok (.iadd, 1) := by decide +kernel
theorem dL_law_463 : decode cL_law 463 = .ok (.iaload, 1) := by decide +kernel
theorem dL_law_464 : decode cL_law 464 = .ok (.aload_n 0, 1) := by decide +kernel
theorem dL_law_465 : decode cL_law 465 = .ok (.iload_n 3, 1) := by decide +kernel
theorem dL_law_466 : decode cL_law 466 = .ok (.iconst 4, 1) := by decide +kernel
theorem dL_law_467 : decode cL_law 467 = .ok (.iadd, 1) := by decide +kernel
theorem dL_law_468 : decode cL_law 468 = .ok (.iaload, 1) := by decide +kernel
theorem dL_law_469 : decode cL_law 469 = .ok (.aload_n 0, 1) := by decide +kernel
theorem dL_law_470 : decode cL_law 470 = .ok (.iload_n 3, 1) := by decide +kernel
theorem dL_law_471 : decode cL_law 471 = .ok (.iconst 5, 1) := by decide +kernel
theorem dL_law_472 : decode cL_law 472 = .ok (.iadd, 1) := by decide +kernel
theorem dL_law_473 : decode cL_law 473 = .ok (.iaload, 1) := by decide +kernel
theorem dL_law_474 : decode cL_law 474 = .ok (.invokevirtual 40, 3) := by decide +kernel
theorem dL_law_477 : decode cL_law 477 = .ok (.pop, 1) := by decide +kernel
theorem dL_law_478 : decode cL_law 478 = .ok (.aload_n 2, 1) := by decide +kernel
theorem dL_law_479 : decode cL_law 479 = .ok (.aload_n 0, 1) := by decide +kernel
theorem dL_law_480 : decode cL_law 480 = .ok (.iload_n 3, 1) := by decide +kernel
theorem dL_law_481 : decode cL_law 481 = .ok (.iconst 1, 1) := by decide +kernel
theorem dL_law_482 : decode cL_law 482 = .ok (.iadd, 1) := by decide +kernel
theorem dL_law_483 : decode cL_law 483 = .ok (.iaload, 1) := by decide +kernel
theorem dL_law_484 : decode cL_law 484 = .ok (.aload_n 0, 1) := by decide +kernel
theorem dL_law_485 : decode cL_law 485 = .ok (.iload_n 3, 1) := by decide +kernel
theorem dL_law_486 : decode cL_law 486 = .ok (.iconst 2, 1) := by decide +kernel
theorem dL_law_487 : decode cL_law 487 = .ok (.iadd, 1) := by decide +kernel
theorem dL_law_488 : decode cL_law 488 = .ok (.iaload, 1) := by decide +kernel
theorem dL_law_489 : decode cL_law 489 = .ok (.aload_n 0, 1) := by decide +kernel
theorem dL_law_490 : decode cL_law 490 = .ok (.iload_n 3, 1) := by decide +kernel
theorem dL_law_491 : decode cL_law 491 = .ok (.iconst 3, 1) := by decide +kernel
theorem dL_law_492 : decode cL_law 492 = .ok (.iadd, 1) := by decide +kernel
theorem dL_law_493 : decode cL_law 493 = .ok (.iaload, 1) := by decide +kernel
theorem dL_law_494 : decode cL_law 494 = .ok (.aload_n 0, 1) := by decide +kernel
theorem dL_law_495 : decode cL_law 495 = .ok (.iload_n 3, 1) := by decide +kernel
theorem dL_law_496 : decode cL_law 496 = .ok (.iconst 4, 1) := by decide +kernel
theorem dL_law_497 : decode cL_law 497 = .ok (.iadd, 1) := by decide +kernel
theorem dL_law_498 : decode cL_law 498 = .ok (.iaload, 1) := by decide +kernel
theorem dL_law_499 : decode cL_law 499 = .ok (.aload_n 0, 1) := by decide +kernel
theorem dL_law_500 : decode cL_law 500 = .ok (.iload_n 3, 1) := by decide +kernel
theorem dL_law_501 : decode cL_law 501 = .ok (.iconst 5, 1) := by decide +kernel
theorem dL_law_502 : decode cL_law 502 = .ok (.iadd, 1) := by decide +kernel
theorem dL_law_503 : decode cL_law 503 = .ok (.iaload, 1) := by decide +kernel
theorem dL_law_504 : decode cL_law 504 = .ok (.invokevirtual 44, 3) := by decide +kernel
theorem dL_law_507 : decode cL_law 507 = .ok (.pop, 1) := by decide +kernel
theorem dL_law_508 : decode cL_law 508 = .ok (.goto 731, 3) := by decide +kernel
theorem dL_law_511 : decode cL_law 511 = .ok (.aload_n 1, 1) := by decide +kernel
theorem dL_law_512 : decode cL_law 512 = .ok (.aload_n 0, 1) := by decide +kernel
theorem dL_law_513 : decode cL_law 513 = .ok (.iload_n 3, 1) := by decide +kernel
theorem dL_law_514 : decode cL_law 514 = .ok (.iconst 1, 1) := by decide +kernel
theorem dL_law_515 : decode cL_law 515 = .ok (.iadd, 1) := by decide +kernel
theorem dL_law_516 : decode cL_law 516 = .ok (.iaload, 1) := by decide +kernel
theorem dL_law_517 : decode cL_law 517 = .ok (.invokevirtual 45, 3) := by decide +kernel
theorem dL_law_520 : decode cL_law 520 = .ok (.pop, 1) := by decide +kernel
theorem dL_law_521 : decode cL_law 521 = .ok (.aload_n 2, 1) := by decide +kernel
theorem dL_law_522 : decode cL_law 522 = .ok (.aload_n 0, 1) := by decide +kernel
theorem dL_law_523 : decode cL_law 523 = .ok (.iload_n 3, 1) := by decide +kernel
theorem dL_law_524 : decode cL_law 524 = .ok (.iconst 1, 1) := by decide +kernel
theorem dL_law_525 : decode cL_law 525 = .ok (.iadd, 1) := by decide +kernel
theorem dL_law_526 : decode cL_law 526 = .ok (.iaload, 1) := by decide +kernel
theorem dL_law_527 : decode cL_law 527 = .ok (.invokevirtual 49, 3) := by decide +kernel
theorem dL_law_530 : decode cL_law 530 = .ok (.pop, 1) := by decide +kernel
theorem dL_law_531 : decode cL_law 531 = .ok (.goto 708, 3) := by decide +kernel
theorem dL_law_534 : decode cL_law 534 = .ok (.aload_n 1, 1) := by decide +kernel
theorem dL_law_535 : decode cL_law 535 = .ok (.invokevirtual 50, 3) := by decide +kernel
theorem dL_law_538 : decode cL_law 538 = .ok (.pop, 1) := by decide +kernel
theorem dL_law_539 : decode cL_law 539 = .ok (.aload_n 2, 1) := by decide +kernel
theorem dL_law_540 : decode cL_law 540 = .ok (.invokevirtual 54, 3) := by decide +kernel
theorem dL_law_543 : decode cL_law 543 = .ok (.pop, 1) := by decide +kernel
theorem dL_law_544 : decode cL_law 544 = .ok (.goto 695, 3) := by decide +kernel
theorem dL_law_547 : decode cL_law 547 = .ok (.aload_n 1, 1) := by decide +kernel
theorem dL_law_548 : decode cL_law 548 = .ok (.invokevirtual 55, 3) := by decide +kernel
theorem dL_law_551 : decode cL_law 551 = .ok (.pop, 1) := by decide +kernel
theorem dL_law_552 : decode cL_law 552 = .ok (.aload_n 2, 1) := by decide +kernel
theorem dL_law_553 : decode cL_law 553 = .ok (.invokevirtual 58, 3) := by decide +kernel
theorem dL_law_556 : decode cL_law 556 = .ok (.pop, 1) := by decide +kernel
theorem dL_law_557 : decode cL_law 557 = .ok (.goto 682, 3) := by decide +kernel
theorem dL_law_560 : decode cL_law 560 = .ok (.aload_n 1, 1) := by decide +kernel
theorem dL_law_561 : decode cL_law 561 = .ok (.invokevirtual 59, 3) := by decide +kernel
theorem dL_law_564 : decode cL_law 564 = .ok (.pop, 1) := by decide +kernel
theorem dL_law_565 : decode cL_law 565 = .ok (.aload_n 2, 1) := by decide +kernel
theorem dL_law_566 : decode cL_law 566 = .ok (.invokevirtual 62, 3) := by decide +kernel
theorem dL_law_569 : decode cL_law 569 = .ok (.pop, 1) := by decide +kernel
theorem dL_law_570 : decode cL_law 570 = .ok (.goto 669, 3) := by decide +kernel
theorem dL_law_573 : decode cL_law 573 = .ok (.aload_n 1, 1) := by decide +kernel
theorem dL_law_574 : decode cL_law 574 = .ok (.invokevirtual 63, 3) := by decide +kernel
theorem dL_law_577 : decode cL_law 577 = .ok (.pop, 1) := by decide +kernel
theorem dL_law_578 : decode cL_law 578 = .ok (.aload_n 2, 1) := by decide +kernel
theorem dL_law_579 : decode cL_law 579 = .ok (.invokevirtual 66, 3) := by decide +kernel
theorem dL_law_582 : decode cL_law 582 = .ok (.pop, 1) := by decide +kernel
theorem dL_law_583 : decode cL_law 583 = .ok (.goto 656, 3) := by decide +kernel
theorem dL_law_586 : decode cL_law 586 = .ok (.aload_n 1, 1) := by decide +kernel
theorem dL_law_587 : decode cL_law 587 = .ok (.invokevirtual 67, 3) := by decide +kernel
theorem dL_law_590 : decode cL_law 590 = .ok (.pop, 1) := by decide +kernel
theorem dL_law_591 : decode cL_law 591 = .ok (.aload_n 2, 1) := by decide +kernel
theorem dL_law_592 : decode cL_law 592 = .ok (.invokevirtual 70, 3) := by decide +kernel
theorem dL_law_595 : decode cL_law 595 = .ok (.pop, 1) := by decide +kernel
theorem dL_law_596 : decode cL_law 596 = .ok (.goto 643, 3) := by decide +kernel
theorem dL_law_599 : decode cL_law 599 = .ok (.aload_n 1, 1) := by decide +kernel
theorem dL_law_600 : decode cL_law 600 = .ok (.invokevirtual 71, 3) := by decide +kernel
theorem dL_law_603 : decode cL_law 603 = .ok (.pop, 1) := by decide +kernel
theorem dL_law_604 : decode cL_law 604 = .ok (.aload_n 2, 1) := by decide +kernel
theorem dL_law_605 : decode cL_law 605 = .ok (.invokevirtual 74, 3) := by decide +kernel
theorem dL_law_608 : decode cL_law 608 = .ok (.pop, 1) := by decide +kernel
theorem dL_law_609 : decode cL_law 609 = .ok (.goto 630, 3) := by decide +kernel
theorem dL_law_612 : decode cL_law 612 = .ok (.aload_n 1, 1) := by decide +kernel
theorem dL_law_613 : decode cL_law 613 = .ok (.aload_n 0, 1) := by decide +kernel
theorem dL_law_614 : decode cL_law 614 = .ok (.iload_n 3, 1) := by decide +kernel
theorem dL_law_615 : decode cL_law 615 = .ok (.iconst 1, 1) := by decide +kernel
theorem dL_law_616 : decode cL_law 616 = .ok (.iadd, 1) := by decide +kernel
theorem dL_law_617 : decode cL_law 617 = .ok (.iaload, 1) := by decide +kernel
theorem dL_law_618 : decode cL_law 618 = .ok (.invokevirtual 75, 3) := by decide +kernel
theorem dL_law_621 : decode cL_law 621 = .ok (.pop, 1) := by decide +kernel
theorem dL_law_622 : decode cL_law 622 = .ok (.aload_n 2, 1) := by decide +kernel
theorem dL_law_623 : decode cL_law 623 = .ok (.aload_n 0, 1) := by decide +kernel
theorem dL_law_624 : decode cL_law 624 = .ok (.iload_n 3, 1) := by decide +kernel
theorem dL_law_625 : decode cL_law 625 = .ok (.iconst 1, 1) := by decide +kernel
theorem dL_law_626 : decode cL_law 626 = .ok (.iadd, 1) := by decide +kernel
theorem dL_law_627 : decode cL_law 627 = .ok (.iaload, 1) := by decide +kernel
theorem dL_law_628 : decode cL_law 628 = .ok (.invokevirtual 78, 3) := by decide +kernel
theorem dL_law_631 : decode cL_law 631 = .ok (.pop, 1) := by decide +kernel
theorem dL_law_632 : decode cL_law 632 = .ok (.goto 607, 3) := by decide +kernel
theorem dL_law_635 : decode cL_law 635 = .ok (.aload_n 1, 1) := by decide +kernel
theorem dL_law_636 : decode cL_law 636 = .ok (.aload_n 0, 1) := by decide +kernel
theorem dL_law_637 : decode cL_law 637 = .ok (.iload_n 3, 1) := by decide +kernel
theorem dL_law_638 : decode cL_law 638 = .ok (.iconst 1, 1) := by decide +kernel
theorem dL_law_639 : decode cL_law 639 = .ok (.iadd, 1) := by decide +kernel
theorem dL_law_640 : decode cL_law 640 = .ok (.iaload, 1) := by decide +kernel
theorem dL_law_641 : decode cL_law 641 = .ok (.aload_n 0, 1) := by decide +kernel
theorem dL_law_642 : decode cL_law 642 = .ok (.iload_n 3, 1) := by decide +kernel
theorem dL_law_643 : decode cL_law 643 = .ok (.iconst 2, 1) := by decide +kernel
theorem dL_law_644 : decode cL_law 644 = .ok (.iadd, 1) := by decide +kernel
theorem dL_law_645 : decode cL_law 645 = .ok (.iaload, 1) := by decide +kernel
theorem dL_law_646 : decode cL_law 646 = .ok (.aload_n 0, 1) := by decide +kernel
theorem dL_law_647 : decode cL_law 647 = .ok (.iload_n 3, 1) := by decide +kernel
theorem dL_law_648 : decode cL_law 648 = .ok (.iconst 3, 1) := by decide +kernel
theorem dL_law_649 : decode cL_law 649 = .ok (.iadd, 1) := by decide +kernel
theorem dL_law_650 : decode cL_law 650 = .ok (.iaload, 1) := by decide +kernel
theorem dL_law_651 : decode cL_law 651 = .ok (.invokevirtual 79, 3) := by decide +kernel
theorem dL_law_654 : decode cL_law 654 = .ok (.pop, 1) := by decide +kernel
theorem dL_law_655 : decode cL_law 655 = .ok (.aload_n 2, 1) := by decide +kernel
theorem dL_law_656 : decode cL_law 656 = .ok (.aload_n 0, 1) := by decide +kernel
theorem dL_law_657 : decode cL_law 657 = .ok (.iload_n 3, 1) := by decide +kernel
theorem dL_law_658 : decode cL_law 658 = .ok (.iconst 1, 1) := by decide +kernel
theorem dL_law_659 : decode cL_law 659 = .ok (.iadd, 1) := by decide +kernel
theorem dL_law_660 : decode cL_law 660 = .ok (.iaload, 1) := by decide +kernel
theorem dL_law_661 : decode cL_law 661 = .ok (.aload_n 0, 1) := by decide +kernel
theorem dL_law_662 : decode cL_law 662 = .ok (.iload_n 3, 1) := by decide +kernel
theorem dL_law_663 : decode cL_law 663 = .ok (.iconst 2, 1) := by decide +kernel
theorem dL_law_664 : decode cL_law 664 = .ok (.iadd, 1) := by decide +kernel
theorem dL_law_665 : decode cL_law 665 = .ok (.iaload, 1) := by decide +kernel
theorem dL_law_666 : decode cL_law 666 = .ok (.aload_n 0, 1) := by decide +kernel
theorem dL_law_667 : decode cL_law 667 = .ok (.iload_n 3, 1) := by decide +kernel
theorem dL_law_668 : decode cL_law 668 = .ok (.iconst 3, 1) := by decide +kernel
theorem dL_law_669 : decode cL_law 669 = .ok (.iadd, 1) := by decide +kernel
theorem dL_law_670 : decode cL_law 670 = .ok (.iaload, 1) := by decide +kernel
theorem dL_law_671 : decode cL_law 671 = .ok (.invokevirtual 82, 3) := by decide +kernel
theorem dL_law_674 : decode cL_law 674 = .ok (.pop, 1) := by decide +kernel
theorem dL_law_675 : decode cL_law 675 = .ok (.goto 564, 3) := by decide +kernel
theorem dL_law_678 : decode cL_law 678 = .ok (.aload_n 1, 1) := by decide +kernel
theorem dL_law_679 : decode cL_law 679 = .ok (.aload_n 0, 1) := by decide +kernel
theorem dL_law_680 : decode cL_law 680 = .ok (.iload_n 3, 1) := by decide +kernel
theorem dL_law_681 : decode cL_law 681 = .ok (.iconst 1, 1) := by decide +kernel
theorem dL_law_682 : decode cL_law 682 = .ok (.iadd, 1) := by decide +kernel
theorem dL_law_683 : decode cL_law 683 = .ok (.iaload, 1) := by decide +kernel
theorem dL_law_684 : decode cL_law 684 = .ok (.invokevirtual 83, 3) := by decide +kernel
theorem dL_law_687 : decode cL_law 687 = .ok (.pop, 1) := by decide +kernel
theorem dL_law_688 : decode cL_law 688 = .ok (.aload_n 2, 1) := by decide +kernel
theorem dL_law_689 : decode cL_law 689 = .ok (.aload_n 0, 1) := by decide +kernel
theorem dL_law_690 : decode cL_law 690 = .ok (.iload_n 3, 1) := by decide +kernel
theorem dL_law_691 : decode cL_law 691 = .ok (.iconst 1, 1) := by decide +kernel
theorem dL_law_692 : decode cL_law 692 = .ok (.iadd, 1) := by decide +kernel
theorem dL_law_693 : decode cL_law 693 = .ok (.iaload, 1) := by decide +kernel
theorem dL_law_694 : decode cL_law 694 = .ok (.invokevirtual 86, 3) := by decide +kernel
theorem dL_law_697 : decode cL_law 697 = .ok (.pop, 1) := by decide +kernel
theorem dL_law_698 : decode cL_law 698 = .ok (.goto 541, 3) := by decide +kernel
theorem dL_law_701 : decode cL_law 701 = .ok (.aload_n 1, 1) := by decide +kernel
theorem dL_law_702 : decode cL_law 702 = .ok (.invokevirtual 87, 3) := by decide +kernel
theorem dL_law_705 : decode cL_law 705 = .ok (.pop, 1) := by decide +kernel
theorem dL_law_706 : decode cL_law 706 = .ok (.aload_n 2, 1) := by decide +kernel
theorem dL_law_707 : decode cL_law 707 = .ok (.invokevirtual 90, 3) := by decide +kernel
theorem dL_law_710 : decode cL_law 710 = .ok (.pop, 1) := by decide +kernel
theorem dL_law_711 : decode cL_law 711 = .ok (.goto 528, 3) := by decide +kernel
theorem dL_law_714 : decode cL_law 714 = .ok (.aload_n 1, 1) := by decide +kernel
theorem dL_law_715 : decode cL_law 715 = .ok (.invokevirtual 91, 3) := by decide +kernel
theorem dL_law_718 : decode cL_law 718 = .ok (.pop, 1) := by decide +kernel
theorem dL_law_719 : decode cL_law 719 = .ok (.aload_n 2, 1) := by decide +kernel
theorem dL_law_720 : decode cL_law 720 = .ok (.invokevirtual 94, 3) := by decide +kernel
theorem dL_law_723 : decode cL_law 723 = .ok (.pop, 1) := by decide +kernel
theorem dL_law_724 : decode cL_law 724 = .ok (.goto 515, 3) := by decide +kernel
theorem dL_law_727 : decode cL_law 727 = .ok (.aload_n 1, 1) := by decide +kernel
theorem dL_law_728 : decode cL_law 728 = .ok (.invokevirtual 95, 3) := by decide +kernel
theorem dL_law_731 : decode cL_law 731 = .ok (.pop, 1) := by decide +kernel
theorem dL_law_732 : decode cL_law 732 = .ok (.aload_n 2, 1) := by decide +kernel
theorem dL_law_733 : decode cL_law 733 = .ok (.invokevirtual 98, 3) := by decide +kernel
theorem dL_law_736 : decode cL_law 736 = .ok (.pop, 1) := by decide +kernel
theorem dL_law_737 : decode cL_law 737 = .ok (.goto 502, 3) := by decide +kernel
theorem dL_law_740 : decode cL_law 740 = .ok (.aload_n 1, 1) := by decide +kernel
theorem dL_law_741 : decode cL_law 741 = .ok (.aload_n 0, 1) := by decide +kernel
theorem dL_law_742 : decode cL_law 742 = .ok (.iload_n 3, 1) := by decide +kernel
theorem dL_law_743 : decode cL_law 743 = .ok (.iconst 1, 1) := by decide +kernel
theorem dL_law_744 : decode cL_law 744 = .ok (.iadd, 1) := by decide +kernel
theorem dL_law_745 : decode cL_law 745 = .ok (.iaload, 1) := by decide +kernel
theorem dL_law_746 : decode cL_law 746 = .ok (.invokevirtual 99, 3) := by decide +kernel
theorem dL_law_749 : decode cL_law 749 = .ok (.pop, 1) := by decide +kernel
theorem dL_law_750 : decode cL_law 750 = .ok (.aload_n 2, 1) := by decide +kernel
theorem dL_law_751 : decode cL_law 751 = .ok (.aload_n 0, 1) := by decide +kernel
theorem dL_law_752 : decode cL_law 752 = .ok (.iload_n 3, 1) := by decide +kernel
theorem dL_law_753 : decode cL_law 753 = .ok (.iconst 1, 1) := by decide +kernel
theorem dL_law_754 : decode cL_law 754 = .ok (.iadd, 1) := by decide +kernel
theorem dL_law_755 : decode cL_law 755 = .ok (.iaload, 1) := by decide +kernel
theorem dL_law_756 : decode cL_law 756 = .ok (.invokevirtual 102, 3) := by decide +kernel
theorem dL_law_759 : decode cL_law 759 = .ok (.pop, 1) := by decide +kernel
theorem dL_law_760 : decode cL_law 760 = .ok (.goto 479, 3) := by decide +kernel
theorem dL_law_763 : decode cL_law 763 = .ok (.aload_n 1, 1) := by decide +kernel
theorem dL_law_764 : decode cL_law 764 = .ok (.aload_n 0, 1) := by decide +kernel
theorem dL_law_765 : decode cL_law 765 = .ok (.iload_n 3, 1) := by decide +kernel
theorem dL_law_766 : decode cL_law 766 = .ok (.iconst 1, 1) := by decide +kernel
theorem dL_law_767 : decode cL_law 767 = .ok (.iadd, 1) := by decide +kernel
theorem dL_law_768 : decode cL_law 768 = .ok (.iaload, 1) := by decide +kernel
theorem dL_law_769 : decode cL_law 769 = .ok (.invokevirtual 103, 3) := by decide +kernel
theorem dL_law_772 : decode cL_law 772 = .ok (.pop, 1) := by decide +kernel
theorem dL_law_773 : decode cL_law 773 = .ok (.aload_n 2, 1) := by decide +kernel
theorem dL_law_774 : decode cL_law 774 = .ok (.aload_n 0, 1) := by decide +kernel
theorem dL_law_775 : decode cL_law 775 = .ok (.iload_n 3, 1) := by decide +kernel
theorem dL_law_776 : decode cL_law 776 = .ok (.iconst 1, 1) := by decide +kernel
theorem dL_law_777 : decode cL_law 777 = .ok (.iadd, 1) := by decide +kernel
theorem dL_law_778 : decode cL_law 778 = .ok (.iaload, 1) := by decide +kernel
theorem dL_law_779 : decode cL_law 779 = .ok (.invokevirtual 106, 3) := by decide +kernel
theorem dL_law_782 : decode cL_law 782 = .ok (.pop, 1) := by decide +kernel
theorem dL_law_783 : decode cL_law 783 = .ok (.goto 456, 3) := by decide +kernel
theorem dL_law_786 : decode cL_law 786 = .ok (.aload_n 1, 1) := by decide +kernel
theorem dL_law_787 : decode cL_law 787 = .ok (.invokevirtual 107, 3) := by decide +kernel
theorem dL_law_790 : decode cL_law 790 = .ok (.pop, 1) := by decide +kernel
theorem dL_law_791 : decode cL_law 791 = .ok (.aload_n 2, 1) := by decide +kernel
theorem dL_law_792 : decode cL_law 792 = .ok (.invokevirtual 110, 3) := by decide +kernel
theorem dL_law_795 : decode cL_law 795 = .ok (.pop, 1) := by decide +kernel
theorem dL_law_796 : decode cL_law 796 = .ok (.goto 443, 3) := by decide +kernel
theorem dL_law_799 : decode cL_law 799 = .ok (.aload_n 1, 1) := by decide +kernel
theorem dL_law_800 : decode cL_law 800 = .ok (.invokevirtual 111, 3) := by decide +kernel
theorem dL_law_803 : decode cL_law 803 = .ok (.aload_n 2, 1) := by decide +kernel
theorem dL_law_804 : decode cL_law 804 = .ok (.invokevirtual 114, 3) := by decide +kernel
theorem dL_law_807 : decode cL_law 807 = .ok (.if_icmp .eq 432, 3) := by decide +kernel
theorem dL_law_810 : decode cL_law 810 = .ok (.iconst 0, 1) := by decide +kernel
theorem dL_law_811 : decode cL_law 811 = .ok (.ireturn, 1) := by decide +kernel
theorem dL_law_812 : decode cL_law 812 = .ok (.aload_n 1, 1) := by decide +kernel
theorem dL_law_813 : decode cL_law 813 = .ok (.aload_n 0, 1) := by decide +kernel
theorem dL_law_814 : decode cL_law 814 = .ok (.iload_n 3, 1) := by decide +kernel
theorem dL_law_815 : decode cL_law 815 = .ok (.iconst 1, 1) := by decide +kernel
theorem dL_law_816 : decode cL_law 816 = .ok (.iadd, 1) := by decide +kernel
theorem dL_law_817 : decode cL_law 817 = .ok (.iaload, 1) := by decide +kernel
theorem dL_law_818 : decode cL_law 818 = .ok (.invokevirtual 115, 3) := by decide +kernel
theorem dL_law_821 : decode cL_law 821 = .ok (.pop, 1) := by decide +kernel
theorem dL_law_822 : decode cL_law 822 = .ok (.aload_n 2, 1) := by decide +kernel
theorem dL_law_823 : decode cL_law 823 = .ok (.aload_n 0, 1) := by decide +kernel
theorem dL_law_824 : decode cL_law 824 = .ok (.iload_n 3, 1) := by decide +kernel
theorem dL_law_825 : decode cL_law 825 = .ok (.iconst 1, 1) := by decide +kernel
theorem dL_law_826 : decode cL_law 826 = .ok (.iadd, 1) := by decide +kernel
theorem dL_law_827 : decode cL_law 827 = .ok (.iaload, 1) := by decide +kernel
theorem dL_law_828 : decode cL_law 828 = .ok (.invokevirtual 118, 3) := by decide +kernel
theorem dL_law_831 : decode cL_law 831 = .ok (.pop, 1) := by decide +kernel
theorem dL_law_832 : decode cL_law 832 = .ok (.goto 407, 3) := by decide +kernel
theorem dL_law_835 : decode cL_law 835 = .ok (.aload_n 1, 1) := by decide +kernel
theorem dL_law_836 : decode cL_law 836 = .ok (.invokevirtual 119, 3) := by decide +kernel
theorem dL_law_839 : decode cL_law 839 = .ok (.pop, 1) := by decide +kernel
theorem dL_law_840 : decode cL_law 840 = .ok (.aload_n 2, 1) := by decide +kernel
theorem dL_law_841 : decode cL_law 841 = .ok (.invokevirtual 122, 3) := by decide +kernel
theorem dL_law_844 : decode cL_law 844 = .ok (.pop, 1) := by decide +kernel
theorem dL_law_845 : decode cL_law 845 = .ok (.goto 394, 3) := by decide +kernel
theorem dL_law_848 : decode cL_law 848 = .ok (.aload_n 1, 1) := by decide +kernel
theorem dL_law_849 : decode cL_law 849 = .ok (.invokevirtual 123, 3) := by decide +kernel
theorem dL_law_852 : decode cL_law 852 = .ok (.pop, 1) := by decide +kernel
theorem dL_law_853 : decode cL_law 853 = .ok (.aload_n 2, 1) := by decide +kernel
theorem dL_law_854 : decode cL_law 854 = .ok (.invokevirtual 126, 3) := by decide +kernel
theorem dL_law_857 : decode cL_law 857 = .ok (.pop, 1) := by decide +kernel
theorem dL_law_858 : decode cL_law 858 = .ok (.goto 381, 3) := by decide +kernel
theorem dL_law_861 : decode cL_law 861 = .ok (.aload_n 1, 1) := by decide +kernel
theorem dL_law_862 : decode cL_law 862 = .ok (.aload_n 0, 1) := by decide +kernel
theorem dL_law_863 : decode cL_law 863 = .ok (.iload_n 3, 1) := by decide +kernel
theorem dL_law_864 : decode cL_law 864 = .ok (.iconst 1, 1) := by decide +kernel
theorem dL_law_865 : decode cL_law 865 = .ok (.iadd, 1) := by decide +kernel
theorem dL_law_866 : decode cL_law 866 = .ok (.iaload, 1) := by decide +kernel
theorem dL_law_867 : decode cL_law 867 = .ok (.aload_n 0, 1) := by decide +kernel
theorem dL_law_868 : decode cL_law 868 = .ok (.iload_n 3, 1) := by decide +kernel
theorem dL_law_869 : decode cL_law 869 = .ok (.iconst 2, 1) := by decide +kernel
theorem dL_law_870 : decode cL_law 870 = .ok (.iadd, 1) := by decide +kernel
theorem dL_law_871 : decode cL_law 871 = .ok (.iaload, 1) := by decide +kernel
theorem dL_law_872 : decode cL_law 872 = .ok (.invokevirtual 127, 3) := by decide +kernel
theorem dL_law_875 : decode cL_law 875 = .ok (.pop, 1) := by decide +kernel
theorem dL_law_876 : decode cL_law 876 = .ok (.aload_n 2, 1) := by decide +kernel
theorem dL_law_877 : decode cL_law 877 = .ok (.aload_n 0, 1) := by decide +kernel
theorem dL_law_878 : decode cL_law 878 = .ok (.iload_n 3, 1) := by decide +kernel
theorem dL_law_879 : decode cL_law 879 = .ok (.iconst 1, 1) := by decide +kernel
theorem dL_law_880 : decode cL_law 880 = .ok (.iadd, 1) := by decide +kernel
theorem dL_law_881 : decode cL_law 881 = .ok (.iaload, 1) := by decide +kernel
theorem dL_law_882 : decode cL_law 882 = .ok (.aload_n 0, 1) := by decide +kernel
theorem dL_law_883 : decode cL_law 883 = .ok (.iload_n 3, 1) := by decide +kernel
theorem dL_law_884 : decode cL_law 884 = .ok (.iconst 2, 1) := by decide +kernel
theorem dL_law_885 : decode cL_law 885 = .ok (.iadd, 1) := by decide +kernel
theorem dL_law_886 : decode cL_law 886 = .ok (.iaload, 1) := by decide +kernel
theorem dL_law_887 : decode cL_law 887 = .ok (.invokevirtual 130, 3) := by decide +kernel
theorem dL_law_890 : decode cL_law 890 = .ok (.pop, 1) := by decide +kernel
theorem dL_law_891 : decode cL_law 891 = .ok (.goto 348, 3) := by decide +kernel
theorem dL_law_894 : decode cL_law 894 = .ok (.aload_n 1, 1) := by decide +kernel
theorem dL_law_895 : decode cL_law 895 = .ok (.aload_n 0, 1) := by decide +kernel
theorem dL_law_896 : decode cL_law 896 = .ok (.iload_n 3, 1) := by decide +kernel
theorem dL_law_897 : decode cL_law 897 = .ok (.iconst 1, 1) := by decide +kernel
theorem dL_law_898 : decode cL_law 898 = .ok (.iadd, 1) := by decide +kernel
theorem dL_law_899 : decode cL_law 899 = .ok (.iaload, 1) := by decide +kernel
theorem dL_law_900 : decode cL_law 900 = .ok (.invokevirtual 131, 3) := by decide +kernel
theorem dL_law_903 : decode cL_law 903 = .ok (.pop, 1) := by decide +kernel
theorem dL_law_904 : decode cL_law 904 = .ok (.aload_n 2, 1) := by decide +kernel
theorem dL_law_905 : decode cL_law 905 = .ok (.aload_n 0, 1) := by decide +kernel
theorem dL_law_906 : decode cL_law 906 = .ok (.iload_n 3, 1) := by decide +kernel
theorem dL_law_907 : decode cL_law 907 = .ok (.iconst 1, 1) := by decide +kernel
theorem dL_law_908 : decode cL_law 908 = .ok (.iadd, 1) := by decide +kernel
theorem dL_law_909 : decode cL_law 909 = .ok (.iaload, 1) := by decide +kernel
theorem dL_law_910 : decode cL_law 910 = .ok (.invokevirtual 134, 3) := by decide +kernel
theorem dL_law_913 : decode cL_law 913 = .ok (.pop, 1) := by decide +kernel
theorem dL_law_914 : decode cL_law 914 = .ok (.goto 325, 3) := by decide +kernel
theorem dL_law_917 : decode cL_law 917 = .ok (.aload_n 1, 1) := by decide +kernel
theorem dL_law_918 : decode cL_law 918 = .ok (.invokevirtual 135, 3) := by decide +kernel
theorem dL_law_921 : decode cL_law 921 = .ok (.pop, 1) := by decide +kernel
theorem dL_law_922 : decode cL_law 922 = .ok (.aload_n 2, 1) := by decide +kernel
theorem dL_law_923 : decode cL_law 923 = .ok (.invokevirtual 138, 3) := by decide +kernel
theorem dL_law_926 : decode cL_law 926 = .ok (.pop, 1) := by decide +kernel
theorem dL_law_927 : decode cL_law 927 = .ok (.goto 312, 3) := by decide +kernel
theorem dL_law_930 : decode cL_law 930 = .ok (.aload_n 1, 1) := by decide +kernel
theorem dL_law_931 : decode cL_law 931 = .ok (.invokevirtual 139, 3) := by decide +kernel
theorem dL_law_934 : decode cL_law 934 = .ok (.pop, 1) := by decide +kernel
theorem dL_law_935 : decode cL_law 935 = .ok (.aload_n 2, 1) := by decide +kernel
theorem dL_law_936 : decode cL_law 936 = .ok (.invokevirtual 142, 3) := by decide +kernel
theorem dL_law_939 : decode cL_law 939 = .ok (.pop, 1) := by decide +kernel
theorem dL_law_940 : decode cL_law 940 = .ok (.goto 299, 3) := by decide +kernel
theorem dL_law_943 : decode cL_law 943 = .ok (.aload_n 1, 1) := by decide +kernel
theorem dL_law_944 : decode cL_law 944 = .ok (.aload_n 0, 1) := by decide +kernel
theorem dL_law_945 : decode cL_law 945 = .ok (.iload_n 3, 1) := by decide +kernel
theorem dL_law_946 : decode cL_law 946 = .ok (.iconst 1, 1) := by decide +kernel
theorem dL_law_947 : decode cL_law 947 = .ok (.iadd, 1) := by decide +kernel
theorem dL_law_948 : decode cL_law 948 = .ok (.iaload, 1) := by decide +kernel
theorem dL_law_949 : decode cL_law 949 = .ok (.aload_n 0, 1) := by decide +kernel
theorem dL_law_950 : decode cL_law 950 = .ok (.iload_n 3, 1) := by decide +kernel
theorem dL_law_951 : decode cL_law 951 = .ok (.iconst 2, 1) := by decide +kernel
theorem dL_law_952 : decode cL_law 952 = .ok (.iadd, 1) := by decide +kernel
theorem dL_law_953 : decode cL_law 953 = .ok (.iaload, 1) := by decide +kernel
theorem dL_law_954 : decode cL_law 954 = .ok (.aload_n 0, 1) := by decide +kernel
theorem dL_law_955 : decode cL_law 955 = .ok (.iload_n 3, 1) := by decide +kernel
theorem dL_law_956 : decode cL_law 956 = .ok (.iconst 3, 1) := by decide +kernel
theorem dL_law_957 : decode cL_law 957 = .ok (.iadd, 1) := by decide +kernel
theorem dL_law_958 : decode cL_law 958 = .ok (.iaload, 1) := by decide +kernel
theorem dL_law_959 : decode cL_law 959 = .ok (.invokevirtual 143, 3) := by decide +kernel
theorem dL_law_962 : decode cL_law 962 = .ok (.pop, 1) := by decide +kernel
theorem dL_law_963 : decode cL_law 963 = .ok (.aload_n 2, 1) := by decide +kernel
theorem dL_law_964 : decode cL_law 964 = .ok (.aload_n 0, 1) := by decide +kernel
theorem dL_law_965 : decode cL_law 965 = .ok (.iload_n 3, 1) := by decide +kernel
theorem dL_law_966 : decode cL_law 966 = .ok (.iconst 1, 1) := by decide +kernel
theorem dL_law_967 : decode cL_law 967 = .ok (.iadd, 1) := by decide +kernel
theorem dL_law_968 : decode cL_law 968 = .ok (.iaload, 1) := by decide +kernel
theorem dL_law_969 : decode cL_law 969 = .ok (.aload_n 0, 1) := by decide +kernel
theorem dL_law_970 : decode cL_law 970 = .ok (.iload_n 3, 1) := by decide +kernel
theorem dL_law_971 : decode cL_law 971 = .ok (.iconst 2, 1) := by decide +kernel
theorem dL_law_972 : decode cL_law 972 = .ok (.iadd, 1) := by decide +kernel
theorem dL_law_973 : decode cL_law 973 = .ok (.iaload, 1) := by decide +kernel
theorem dL_law_974 : decode cL_law 974 = .ok (.aload_n 0, 1) := by decide +kernel
theorem dL_law_975 : decode cL_law 975 = .ok (.iload_n 3, 1) := by decide +kernel
theorem dL_law_976 : decode cL_law 976 = .ok (.iconst 3, 1) := by decide +kernel
theorem dL_law_977 : decode cL_law 977 = .ok (.iadd, 1) := by decide +kernel
theorem dL_law_978 : decode cL_law 978 = .ok (.iaload, 1) := by decide +kernel
theorem dL_law_979 : decode cL_law 979 = .ok (.invokevirtual 146, 3) := by decide +kernel
theorem dL_law_982 : decode cL_law 982 = .ok (.pop, 1) := by decide +kernel
theorem dL_law_983 : decode cL_law 983 = .ok (.goto 256, 3) := by decide +kernel
theorem dL_law_986 : decode cL_law 986 = .ok (.aload_n 1, 1) := by decide +kernel
theorem dL_law_987 : decode cL_law 987 = .ok (.invokevirtual 147, 3) := by decide +kernel
theorem dL_law_990 : decode cL_law 990 = .ok (.pop, 1) := by decide +kernel
theorem dL_law_991 : decode cL_law 991 = .ok (.aload_n 2, 1) := by decide +kernel
theorem dL_law_992 : decode cL_law 992 = .ok (.invokevirtual 150, 3) := by decide +kernel
theorem dL_law_995 : decode cL_law 995 = .ok (.pop, 1) := by decide +kernel
theorem dL_law_996 : decode cL_law 996 = .ok (.goto 243, 3) := by decide +kernel
theorem dL_law_999 : decode cL_law 999 = .ok (.aload_n 1, 1) := by decide +kernel
theorem dL_law_1000 : decode cL_law 1000 = .ok (.invokevirtual 151, 3) := by decide +kernel
theorem dL_law_1003 : decode cL_law 1003 = .ok (.pop, 1) := by decide +kernel
theorem dL_law_1004 : decode cL_law 1004 = .ok (.aload_n 2, 1) := by decide +kernel
theorem dL_law_1005 : decode cL_law 1005 = .ok (.invokevirtual 154, 3) := by decide +kernel
theorem dL_law_1008 : decode cL_law 1008 = .ok (.pop, 1) := by decide +kernel
theorem dL_law_1009 : decode cL_law 1009 = .ok (.goto 230, 3) := by decide +kernel
theorem dL_law_1012 : decode cL_law 1012 = .ok (.aload_n 1, 1) := by decide +kernel
theorem dL_law_1013 : decode cL_law 1013 = .ok (.aload_n 0, 1) := by decide +kernel
theorem dL_law_1014 : decode cL_law 1014 = .ok (.iload_n 3, 1) := by decide +kernel
theorem dL_law_1015 : decode cL_law 1015 = .ok (.iconst 1, 1) := by decide +kernel
theorem dL_law_1016 : decode cL_law 1016 = .ok (.iadd, 1) := by decide +kernel
theorem dL_law_1017 : decode cL_law 1017 = .ok (.iaload, 1) := by decide +kernel
theorem dL_law_1018 : decode cL_law 1018 = .ok (.invokevirtual 155, 3) := by decide +kernel
theorem dL_law_1021 : decode cL_law 1021 = .ok (.pop, 1) := by decide +kernel
theorem dL_law_1022 : decode cL_law 1022 = .ok (.aload_n 2, 1) := by decide +kernel
theorem dL_law_1023 : decode cL_law 1023 = .ok (.aload_n 0, 1) := by decide +kernel
theorem dL_law_1024 : decode cL_law 1024 = .ok (.iload_n 3, 1) := by decide +kernel
theorem dL_law_1025 : decode cL_law 1025 = .ok (.iconst 1, 1) := by decide +kernel
theorem dL_law_1026 : decode cL_law 1026 = .ok (.iadd, 1) := by decide +kernel
theorem dL_law_1027 : decode cL_law 1027 = .ok (.iaload, 1) := by decide +kernel
theorem dL_law_1028 : decode cL_law 1028 = .ok (.invokevirtual 158, 3) := by decide +kernel
theorem dL_law_1031 : decode cL_law 1031 = .ok (.pop, 1) := by decide +kernel
theorem dL_law_1032 : decode cL_law 1032 = .ok (.goto 207, 3) := by decide +kernel
theorem dL_law_1035 : decode cL_law 1035 = .ok (.aload_n 1, 1) := by decide +kernel
theorem dL_law_1036 : decode cL_law 1036 = .ok (.aload_n 0, 1) := by decide +kernel
theorem dL_law_1037 : decode cL_law 1037 = .ok (.iload_n 3, 1) := by decide +kernel
theorem dL_law_1038 : decode cL_law 1038 = .ok (.iconst 1, 1) := by decide +kernel
theorem dL_law_1039 : decode cL_law 1039 = .ok (.iadd, 1) := by decide +kernel
theorem dL_law_1040 : decode cL_law 1040 = .ok (.iaload, 1) := by decide +kernel
theorem dL_law_1041 : decode cL_law 1041 = .ok (.aload_n 0, 1) := by decide +kernel
theorem dL_law_1042 : decode cL_law 1042 = .ok (.iload_n 3, 1) := by decide +kernel
theorem dL_law_1043 : decode cL_law 1043 = .ok (.iconst 2, 1) := by decide +kernel
theorem dL_law_1044 : decode cL_law 1044 = .ok (.iadd, 1) := by decide +kernel
theorem dL_law_1045 : decode cL_law 1045 = .ok (.iaload, 1) := by decide +kernel
theorem dL_law_1046 : decode cL_law 1046 = .ok (.invokevirtual 159, 3) := by decide +kernel
theorem dL_law_1049 : decode cL_law 1049 = .ok (.pop2, 1) := by decide +kernel
theorem dL_law_1050 : decode cL_law 1050 = .ok (.aload_n 2, 1) := by decide +kernel
theorem dL_law_1051 : decode cL_law 1051 = .ok (.aload_n 0, 1) := by decide +kernel
theorem dL_law_1052 : decode cL_law 1052 = .ok (.iload_n 3, 1) := by decide +kernel
theorem dL_law_1053 : decode cL_law 1053 = .ok (.iconst 1, 1) := by decide +kernel
theorem dL_law_1054 : decode cL_law 1054 = .ok (.iadd, 1) := by decide +kernel
theorem dL_law_1055 : decode cL_law 1055 = .ok (.iaload, 1) := by decide +kernel
theorem dL_law_1056 : decode cL_law 1056 = .ok (.aload_n 0, 1) := by decide +kernel
theorem dL_law_1057 : decode cL_law 1057 = .ok (.iload_n 3, 1) := by decide +kernel
theorem dL_law_1058 : decode cL_law 1058 = .ok (.iconst 2, 1) := by decide +kernel
theorem dL_law_1059 : decode cL_law 1059 = .ok (.iadd, 1) := by decide +kernel
theorem dL_law_1060 : decode cL_law 1060 = .ok (.iaload, 1) := by decide +kernel
theorem dL_law_1061 : decode cL_law 1061 = .ok (.invokevirtual 163, 3) := by decide +kernel
theorem dL_law_1064 : decode cL_law 1064 = .ok (.pop2, 1) := by decide +kernel
theorem dL_law_1065 : decode cL_law 1065 = .ok (.goto 174, 3) := by decide +kernel
theorem dL_law_1068 : decode cL_law 1068 = .ok (.aload_n 1, 1) := by decide +kernel
theorem dL_law_1069 : decode cL_law 1069 = .ok (.aload_n 0, 1) := by decide +kernel
theorem dL_law_1070 : decode cL_law 1070 = .ok (.iload_n 3, 1) := by decide +kernel
theorem dL_law_1071 : decode cL_law 1071 = .ok (.iconst 1, 1) := by decide +kernel
theorem dL_law_1072 : decode cL_law 1072 = .ok (.iadd, 1) := by decide +kernel
theorem dL_law_1073 : decode cL_law 1073 = .ok (.iaload, 1) := by decide +kernel
theorem dL_law_1074 : decode cL_law 1074 = .ok (.invokevirtual 164, 3) := by decide +kernel
theorem dL_law_1077 : decode cL_law 1077 = .ok (.pop, 1) := by decide +kernel
theorem dL_law_1078 : decode cL_law 1078 = .ok (.aload_n 2, 1) := by decide +kernel
theorem dL_law_1079 : decode cL_law 1079 = .ok (.aload_n 0, 1) := by decide +kernel
theorem dL_law_1080 : decode cL_law 1080 = .ok (.iload_n 3, 1) := by decide +kernel
theorem dL_law_1081 : decode cL_law 1081 = .ok (.iconst 1, 1) := by decide +kernel
theorem dL_law_1082 : decode cL_law 1082 = .ok (.iadd, 1) := by decide +kernel
theorem dL_law_1083 : decode cL_law 1083 = .ok (.iaload, 1) := by decide +kernel
theorem dL_law_1084 : decode cL_law 1084 = .ok (.invokevirtual 167, 3) := by decide +kernel
theorem dL_law_1087 : decode cL_law 1087 = .ok (.pop, 1) := by decide +kernel
theorem dL_law_1088 : decode cL_law 1088 = .ok (.goto 151, 3) := by decide +kernel
theorem dL_law_1091 : decode cL_law 1091 = .ok (.aload_n 1, 1) := by decide +kernel
theorem dL_law_1092 : decode cL_law 1092 = .ok (.aload_n 0, 1) := by decide +kernel
theorem dL_law_1093 : decode cL_law 1093 = .ok (.iload_n 3, 1) := by decide +kernel
theorem dL_law_1094 : decode cL_law 1094 = .ok (.iconst 1, 1) := by decide +kernel
theorem dL_law_1095 : decode cL_law 1095 = .ok (.iadd, 1) := by decide +kernel
theorem dL_law_1096 : decode cL_law 1096 = .ok (.iaload, 1) := by decide +kernel
theorem dL_law_1097 : decode cL_law 1097 = .ok (.aload_n 0, 1) := by decide +kernel
theorem dL_law_1098 : decode cL_law 1098 = .ok (.iload_n 3, 1) := by decide +kernel
theorem dL_law_1099 : decode cL_law 1099 = .ok (.iconst 2, 1) := by decide +kernel
theorem dL_law_1100 : decode cL_law 1100 = .ok (.iadd, 1) := by decide +kernel
theorem dL_law_1101 : decode cL_law 1101 = .ok (.iaload, 1) := by decide +kernel
theorem dL_law_1102 : decode cL_law 1102 = .ok (.invokevirtual 168, 3) := by decide +kernel
theorem dL_law_1105 : decode cL_law 1105 = .ok (.pop, 1) := by decide +kernel
theorem dL_law_1106 : decode cL_law 1106 = .ok (.aload_n 2, 1) := by decide +kernel
theorem dL_law_1107 : decode cL_law 1107 = .ok (.aload_n 0, 1) := by decide +kernel
theorem dL_law_1108 : decode cL_law 1108 = .ok (.iload_n 3, 1) := by decide +kernel
theorem dL_law_1109 : decode cL_law 1109 = .ok (.iconst 1, 1) := by decide +kernel
theorem dL_law_1110 : decode cL_law 1110 = .ok (.iadd, 1) := by decide +kernel
theorem dL_law_1111 : decode cL_law 1111 = .ok (.iaload, 1) := by decide +kernel
theorem dL_law_1112 : decode cL_law 1112 = .ok (.aload_n 0, 1) := by decide +kernel
theorem dL_law_1113 : decode cL_law 1113 = .ok (.iload_n 3, 1) := by decide +kernel
theorem dL_law_1114 : decode cL_law 1114 = .ok (.iconst 2, 1) := by decide +kernel
theorem dL_law_1115 : decode cL_law 1115 = .ok (.iadd, 1) := by decide +kernel
theorem dL_law_1116 : decode cL_law 1116 = .ok (.iaload, 1) := by decide +kernel
theorem dL_law_1117 : decode cL_law 1117 = .ok (.invokevirtual 171, 3) := by decide +kernel
theorem dL_law_1120 : decode cL_law 1120 = .ok (.pop, 1) := by decide +kernel
theorem dL_law_1121 : decode cL_law 1121 = .ok (.goto 118, 3) := by decide +kernel
theorem dL_law_1124 : decode cL_law 1124 = .ok (.aload_n 1, 1) := by decide +kernel
theorem dL_law_1125 : decode cL_law 1125 = .ok (.aload_n 0, 1) := by decide +kernel
theorem dL_law_1126 : decode cL_law 1126 = .ok (.iload_n 3, 1) := by decide +kernel
theorem dL_law_1127 : decode cL_law 1127 = .ok (.iconst 1, 1) := by decide +kernel
theorem dL_law_1128 : decode cL_law 1128 = .ok (.iadd, 1) := by decide +kernel
theorem dL_law_1129 : decode cL_law 1129 = .ok (.iaload, 1) := by decide +kernel
theorem dL_law_1130 : decode cL_law 1130 = .ok (.aload_n 0, 1) := by decide +kernel
theorem dL_law_1131 : decode cL_law 1131 = .ok (.iload_n 3, 1) := by decide +kernel
theorem dL_law_1132 : decode cL_law 1132 = .ok (.iconst 2, 1) := by decide +kernel
theorem dL_law_1133 : decode cL_law 1133 = .ok (.iadd, 1) := by decide +kernel
theorem dL_law_1134 : decode cL_law 1134 = .ok (.iaload, 1) := by decide +kernel
theorem dL_law_1135 : decode cL_law 1135 = .ok (.invokevirtual 172, 3) := by decide +kernel
theorem dL_law_1138 : decode cL_law 1138 = .ok (.pop, 1) := by decide +kernel
theorem dL_law_1139 : decode cL_law 1139 = .ok (.aload_n 2, 1) := by decide +kernel
theorem dL_law_1140 : decode cL_law 1140 = .ok (.aload_n 0, 1) := by decide +kernel
theorem dL_law_1141 : decode cL_law 1141 = .ok (.iload_n 3, 1) := by decide +kernel
theorem dL_law_1142 : decode cL_law 1142 = .ok (.iconst 1, 1) := by decide +kernel
theorem dL_law_1143 : decode cL_law 1143 = .ok (.iadd, 1) := by decide +kernel
theorem dL_law_1144 : decode cL_law 1144 = .ok (.iaload, 1) := by decide +kernel
theorem dL_law_1145 : decode cL_law 1145 = .ok (.aload_n 0, 1) := by decide +kernel
theorem dL_law_1146 : decode cL_law 1146 = .ok (.iload_n 3, 1) := by decide +kernel
theorem dL_law_1147 : decode cL_law 1147 = .ok (.iconst 2, 1) := by decide +kernel
theorem dL_law_1148 : decode cL_law 1148 = .ok (.iadd, 1) := by decide +kernel
theorem dL_law_1149 : decode cL_law 1149 = .ok (.iaload, 1) := by decide +kernel
theorem dL_law_1150 : decode cL_law 1150 = .ok (.invokevirtual 175, 3) := by decide +kernel
theorem dL_law_1153 : decode cL_law 1153 = .ok (.pop, 1) := by decide +kernel
theorem dL_law_1154 : decode cL_law 1154 = .ok (.goto 85, 3) := by decide +kernel
theorem dL_law_1157 : decode cL_law 1157 = .ok (.aload_n 1, 1) := by decide +kernel
theorem dL_law_1158 : decode cL_law 1158 = .ok (.aload_n 0, 1) := by decide +kernel
theorem dL_law_1159 : decode cL_law 1159 = .ok (.iload_n 3, 1) := by decide +kernel
theorem dL_law_1160 : decode cL_law 1160 = .ok (.iconst 1, 1) := by decide +kernel
theorem dL_law_1161 : decode cL_law 1161 = .ok (.iadd, 1) := by decide +kernel
theorem dL_law_1162 : decode cL_law 1162 = .ok (.iaload, 1) := by decide +kernel
theorem dL_law_1163 : decode cL_law 1163 = .ok (.invokevirtual 176, 3) := by decide +kernel
theorem dL_law_1166 : decode cL_law 1166 = .ok (.pop, 1) := by decide +kernel
theorem dL_law_1167 : decode cL_law 1167 = .ok (.aload_n 2, 1) := by decide +kernel
theorem dL_law_1168 : decode cL_law 1168 = .ok (.aload_n 0, 1) := by decide +kernel
theorem dL_law_1169 : decode cL_law 1169 = .ok (.iload_n 3, 1) := by decide +kernel
theorem dL_law_1170 : decode cL_law 1170 = .ok (.iconst 1, 1) := by decide +kernel
theorem dL_law_1171 : decode cL_law 1171 = .ok (.iadd, 1) := by decide +kernel
theorem dL_law_1172 : decode cL_law 1172 = .ok (.iaload, 1) := by decide +kernel
theorem dL_law_1173 : decode cL_law 1173 = .ok (.invokevirtual 179, 3) := by decide +kernel
theorem dL_law_1176 : decode cL_law 1176 = .ok (.pop, 1) := by decide +kernel
theorem dL_law_1177 : decode cL_law 1177 = .ok (.goto 62, 3) := by decide +kernel
theorem dL_law_1180 : decode cL_law 1180 = .ok (.aload_n 1, 1) := by decide +kernel
theorem dL_law_1181 : decode cL_law 1181 = .ok (.aload_n 0, 1) := by decide +kernel
theorem dL_law_1182 : decode cL_law 1182 = .ok (.iload_n 3, 1) := by decide +kernel
theorem dL_law_1183 : decode cL_law 1183 = .ok (.iconst 1, 1) := by decide +kernel
theorem dL_law_1184 : decode cL_law 1184 = .ok (.iadd, 1) := by decide +kernel
theorem dL_law_1185 : decode cL_law 1185 = .ok (.iaload, 1) := by decide +kernel
theorem dL_law_1186 : decode cL_law 1186 = .ok (.invokevirtual 180, 3) := by decide +kernel
theorem dL_law_1189 : decode cL_law 1189 = .ok (.pop, 1) := by decide +kernel
theorem dL_law_1190 : decode cL_law 1190 = .ok (.aload_n 2, 1) := by decide +kernel
theorem dL_law_1191 : decode cL_law 1191 = .ok (.aload_n 0, 1) := by decide +kernel
theorem dL_law_1192 : decode cL_law 1192 = .ok (.iload_n 3, 1) := by decide +kernel
theorem dL_law_1193 : decode cL_law 1193 = .ok (.iconst 1, 1) := by decide +kernel
theorem dL_law_1194 : decode cL_law 1194 = .ok (.iadd, 1) := by decide +kernel
theorem dL_law_1195 : decode cL_law 1195 = .ok (.iaload, 1) := by decide +kernel
theorem dL_law_1196 : decode cL_law 1196 = .ok (.invokevirtual 183, 3) := by decide +kernel
theorem dL_law_1199 : decode cL_law 1199 = .ok (.pop, 1) := by decide +kernel
theorem dL_law_1200 : decode cL_law 1200 = .ok (.goto 39, 3) := by decide +kernel
theorem dL_law_1203 : decode cL_law 1203 = .ok (.aload_n 1, 1) := by decide +kernel
theorem dL_law_1204 : decode cL_law 1204 = .ok (.aload_n 0, 1) := by decide +kernel
theorem dL_law_1205 : decode cL_law 1205 = .ok (.iload_n 3, 1) := by decide +kernel
theorem dL_law_1206 : decode cL_law 1206 = .ok (.iconst 1, 1) := by decide +kernel
theorem dL_law_1207 : decode cL_law 1207 = .ok (.iadd, 1) := by decide +kernel
theorem dL_law_1208 : decode cL_law 1208 = .ok (.iaload, 1) := by decide +kernel
theorem dL_law_1209 : decode cL_law 1209 = .ok (.invokevirtual 184, 3) := by decide +kernel
theorem dL_law_1212 : decode cL_law 1212 = .ok (.pop, 1) := by decide +kernel
theorem dL_law_1213 : decode cL_law 1213 = .ok (.aload_n 2, 1) := by decide +kernel
theorem dL_law_1214 : decode cL_law 1214 = .ok (.aload_n 0, 1) := by decide +kernel
theorem dL_law_1215 : decode cL_law 1215 = .ok (.iload_n 3, 1) := by decide +kernel
theorem dL_law_1216 : decode cL_law 1216 = .ok (.iconst 1, 1) := by decide +kernel
theorem dL_law_1217 : decode cL_law 1217 = .ok (.iadd, 1) := by decide +kernel
theorem dL_law_1218 : decode cL_law 1218 = .ok (.iaload, 1) := by decide +kernel
theorem dL_law_1219 : decode cL_law 1219 = .ok (.invokevirtual 187, 3) := by decide +kernel
theorem dL_law_1222 : decode cL_law 1222 = .ok (.pop, 1) := by decide +kernel
theorem dL_law_1223 : decode cL_law 1223 = .ok (.goto 16, 3) := by decide +kernel
theorem dL_law_1226 : decode cL_law 1226 = .ok (.aload_n 1, 1) := by decide +kernel
theorem dL_law_1227 : decode cL_law 1227 = .ok (.invokevirtual 188, 3) := by decide +kernel
theorem dL_law_1230 : decode cL_law 1230 = .ok (.pop, 1) := by decide +kernel
theorem dL_law_1231 : decode cL_law 1231 = .ok (.aload_n 2, 1) := by decide +kernel
theorem dL_law_1232 : decode cL_law 1232 = .ok (.invokevirtual 191, 3) := by decide +kernel
theorem dL_law_1235 : decode cL_law 1235 = .ok (.pop, 1) := by decide +kernel
theorem dL_law_1236 : decode cL_law 1236 = .ok (.goto 3, 3) := by decide +kernel
theorem dL_law_1239 : decode cL_law 1239 = .ok (.iinc 3 6, 3) := by decide +kernel
theorem dL_law_1242 : decode cL_law 1242 = .ok (.goto (-1224), 3) := by decide +kernel
theorem dL_law_1245 : decode cL_law 1245 = .ok (.iconst 1, 1) := by decide +kernel
theorem dL_law_1246 : decode cL_law 1246 = .ok (.ireturn, 1) := by decide +kernel
end
