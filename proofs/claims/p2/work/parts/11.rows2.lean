theorem tk_m8 : ((-8) : Int32).toInt = (-8) := rfl
theorem tk_m6 : ((-6) : Int32).toInt = (-6) := rfl
theorem tk_m5 : ((-5) : Int32).toInt = (-5) := rfl
theorem tk_m4 : ((-4) : Int32).toInt = (-4) := rfl
theorem tk_m3 : ((-3) : Int32).toInt = (-3) := rfl
theorem tk_m2 : ((-2) : Int32).toInt = (-2) := rfl
theorem tk_m1 : ((-1) : Int32).toInt = (-1) := rfl
theorem tk_0 : (0 : Int32).toInt = 0 := rfl
theorem tk_1 : (1 : Int32).toInt = 1 := rfl
theorem tk_2 : (2 : Int32).toInt = 2 := rfl
theorem tk_3 : (3 : Int32).toInt = 3 := rfl
theorem tk_4 : (4 : Int32).toInt = 4 := rfl
theorem tk_5 : (5 : Int32).toInt = 5 := rfl
theorem tk_6 : (6 : Int32).toInt = 6 := rfl
theorem tk_7 : (7 : Int32).toInt = 7 := rfl
theorem tk_8 : (8 : Int32).toInt = 8 := rfl
theorem tk_9 : (9 : Int32).toInt = 9 := rfl
theorem tk_10 : (10 : Int32).toInt = 10 := rfl
theorem tk_11 : (11 : Int32).toInt = 11 := rfl
theorem tk_12 : (12 : Int32).toInt = 12 := rfl
theorem tk_13 : (13 : Int32).toInt = 13 := rfl
theorem tk_14 : (14 : Int32).toInt = 14 := rfl
theorem tk_15 : (15 : Int32).toInt = 15 := rfl
theorem tk_16 : (16 : Int32).toInt = 16 := rfl
theorem tk_17 : (17 : Int32).toInt = 17 := rfl
theorem tk_18 : (18 : Int32).toInt = 18 := rfl
theorem tk_19 : (19 : Int32).toInt = 19 := rfl
theorem tk_20 : (20 : Int32).toInt = 20 := rfl
theorem tk_21 : (21 : Int32).toInt = 21 := rfl
theorem tk_22 : (22 : Int32).toInt = 22 := rfl
theorem tk_23 : (23 : Int32).toInt = 23 := rfl
theorem tk_24 : (24 : Int32).toInt = 24 := rfl
theorem tk_25 : (25 : Int32).toInt = 25 := rfl
theorem tk_26 : (26 : Int32).toInt = 26 := rfl
theorem tk_27 : (27 : Int32).toInt = 27 := rfl
theorem tk_28 : (28 : Int32).toInt = 28 := rfl
theorem tk_29 : (29 : Int32).toInt = 29 := rfl
theorem tk_30 : (30 : Int32).toInt = 30 := rfl
theorem tk_31 : (31 : Int32).toInt = 31 := rfl
theorem tk_32 : (32 : Int32).toInt = 32 := rfl
theorem tk_33 : (33 : Int32).toInt = 33 := rfl
theorem tk_34 : (34 : Int32).toInt = 34 := rfl
theorem tk_35 : (35 : Int32).toInt = 35 := rfl
theorem tk_36 : (36 : Int32).toInt = 36 := rfl
theorem tk_37 : (37 : Int32).toInt = 37 := rfl
theorem tk_38 : (38 : Int32).toInt = 38 := rfl
theorem tk_39 : (39 : Int32).toInt = 39 := rfl
theorem tk_40 : (40 : Int32).toInt = 40 := rfl
theorem tk_41 : (41 : Int32).toInt = 41 := rfl
theorem tk_42 : (42 : Int32).toInt = 42 := rfl
theorem tk_43 : (43 : Int32).toInt = 43 := rfl
theorem tk_44 : (44 : Int32).toInt = 44 := rfl
theorem tk_45 : (45 : Int32).toInt = 45 := rfl
theorem tk_46 : (46 : Int32).toInt = 46 := rfl
theorem tk_47 : (47 : Int32).toInt = 47 := rfl
theorem tk_48 : (48 : Int32).toInt = 48 := rfl
theorem tk_49 : (49 : Int32).toInt = 49 := rfl
theorem tk_50 : (50 : Int32).toInt = 50 := rfl
theorem tk_51 : (51 : Int32).toInt = 51 := rfl
theorem tk_52 : (52 : Int32).toInt = 52 := rfl
theorem tk_53 : (53 : Int32).toInt = 53 := rfl
theorem tk_54 : (54 : Int32).toInt = 54 := rfl
theorem tk_55 : (55 : Int32).toInt = 55 := rfl
theorem tk_56 : (56 : Int32).toInt = 56 := rfl
theorem tk_57 : (57 : Int32).toInt = 57 := rfl
theorem tk_58 : (58 : Int32).toInt = 58 := rfl
theorem tk_59 : (59 : Int32).toInt = 59 := rfl
theorem tk_60 : (60 : Int32).toInt = 60 := rfl
theorem tk_61 : (61 : Int32).toInt = 61 := rfl
theorem tk_62 : (62 : Int32).toInt = 62 := rfl
theorem tk_63 : (63 : Int32).toInt = 63 := rfl
theorem tk_64 : (64 : Int32).toInt = 64 := rfl
theorem tk_65 : (65 : Int32).toInt = 65 := rfl
theorem tk_66 : (66 : Int32).toInt = 66 := rfl
theorem tk_67 : (67 : Int32).toInt = 67 := rfl
theorem tk_68 : (68 : Int32).toInt = 68 := rfl
theorem tk_69 : (69 : Int32).toInt = 69 := rfl
theorem tk_70 : (70 : Int32).toInt = 70 := rfl
theorem tk_71 : (71 : Int32).toInt = 71 := rfl
theorem tk_72 : (72 : Int32).toInt = 72 := rfl
theorem tk_73 : (73 : Int32).toInt = 73 := rfl
theorem tk_74 : (74 : Int32).toInt = 74 := rfl
theorem tk_75 : (75 : Int32).toInt = 75 := rfl
theorem tk_76 : (76 : Int32).toInt = 76 := rfl
theorem tk_77 : (77 : Int32).toInt = 77 := rfl
theorem tk_78 : (78 : Int32).toInt = 78 := rfl
theorem tk_79 : (79 : Int32).toInt = 79 := rfl
theorem tk_80 : (80 : Int32).toInt = 80 := rfl
theorem tk_81 : (81 : Int32).toInt = 81 := rfl
theorem tk_82 : (82 : Int32).toInt = 82 := rfl
theorem tk_83 : (83 : Int32).toInt = 83 := rfl
theorem tk_84 : (84 : Int32).toInt = 84 := rfl
theorem tk_85 : (85 : Int32).toInt = 85 := rfl
theorem tk_86 : (86 : Int32).toInt = 86 := rfl
theorem tk_87 : (87 : Int32).toInt = 87 := rfl
theorem tk_88 : (88 : Int32).toInt = 88 := rfl
theorem tk_89 : (89 : Int32).toInt = 89 := rfl
theorem tk_90 : (90 : Int32).toInt = 90 := rfl
theorem tk_91 : (91 : Int32).toInt = 91 := rfl
theorem tk_92 : (92 : Int32).toInt = 92 := rfl
theorem tk_93 : (93 : Int32).toInt = 93 := rfl
theorem tk_94 : (94 : Int32).toInt = 94 := rfl
theorem tk_95 : (95 : Int32).toInt = 95 := rfl
theorem tk_96 : (96 : Int32).toInt = 96 := rfl
theorem tk_97 : (97 : Int32).toInt = 97 := rfl
theorem tk_98 : (98 : Int32).toInt = 98 := rfl
theorem tk_99 : (99 : Int32).toInt = 99 := rfl
theorem tk_100 : (100 : Int32).toInt = 100 := rfl
theorem tk_101 : (101 : Int32).toInt = 101 := rfl
theorem tk_102 : (102 : Int32).toInt = 102 := rfl
theorem tk_103 : (103 : Int32).toInt = 103 := rfl
theorem tk_104 : (104 : Int32).toInt = 104 := rfl
theorem tk_105 : (105 : Int32).toInt = 105 := rfl
theorem tk_106 : (106 : Int32).toInt = 106 := rfl
theorem tk_107 : (107 : Int32).toInt = 107 := rfl
theorem tk_108 : (108 : Int32).toInt = 108 := rfl
theorem tk_109 : (109 : Int32).toInt = 109 := rfl
theorem tk_110 : (110 : Int32).toInt = 110 := rfl
theorem tk_111 : (111 : Int32).toInt = 111 := rfl
theorem tk_112 : (112 : Int32).toInt = 112 := rfl
theorem tk_113 : (113 : Int32).toInt = 113 := rfl
theorem tk_114 : (114 : Int32).toInt = 114 := rfl
theorem tk_115 : (115 : Int32).toInt = 115 := rfl
theorem tk_116 : (116 : Int32).toInt = 116 := rfl
theorem tk_117 : (117 : Int32).toInt = 117 := rfl
theorem tk_118 : (118 : Int32).toInt = 118 := rfl
theorem tk_119 : (119 : Int32).toInt = 119 := rfl
theorem tk_120 : (120 : Int32).toInt = 120 := rfl
theorem tk_121 : (121 : Int32).toInt = 121 := rfl
theorem tk_122 : (122 : Int32).toInt = 122 := rfl
theorem tk_123 : (123 : Int32).toInt = 123 := rfl
theorem tk_124 : (124 : Int32).toInt = 124 := rfl
theorem tk_125 : (125 : Int32).toInt = 125 := rfl
theorem tk_126 : (126 : Int32).toInt = 126 := rfl
theorem tk_127 : (127 : Int32).toInt = 127 := rfl
theorem tk_128 : (128 : Int32).toInt = 128 := rfl
theorem tk_129 : (129 : Int32).toInt = 129 := rfl
theorem tk_130 : (130 : Int32).toInt = 130 := rfl
theorem tk_131 : (131 : Int32).toInt = 131 := rfl
theorem tk_132 : (132 : Int32).toInt = 132 := rfl
theorem tk_133 : (133 : Int32).toInt = 133 := rfl
theorem tk_134 : (134 : Int32).toInt = 134 := rfl
theorem tk_135 : (135 : Int32).toInt = 135 := rfl
theorem tk_136 : (136 : Int32).toInt = 136 := rfl
theorem tk_137 : (137 : Int32).toInt = 137 := rfl
theorem tk_138 : (138 : Int32).toInt = 138 := rfl
theorem tk_139 : (139 : Int32).toInt = 139 := rfl
theorem tk_140 : (140 : Int32).toInt = 140 := rfl
theorem tk_141 : (141 : Int32).toInt = 141 := rfl
theorem tk_142 : (142 : Int32).toInt = 142 := rfl
theorem tk_143 : (143 : Int32).toInt = 143 := rfl
theorem tk_144 : (144 : Int32).toInt = 144 := rfl
theorem tk_145 : (145 : Int32).toInt = 145 := rfl
theorem tk_146 : (146 : Int32).toInt = 146 := rfl
theorem tk_147 : (147 : Int32).toInt = 147 := rfl
theorem tk_148 : (148 : Int32).toInt = 148 := rfl
theorem tk_149 : (149 : Int32).toInt = 149 := rfl
theorem tk_150 : (150 : Int32).toInt = 150 := rfl
theorem tk_151 : (151 : Int32).toInt = 151 := rfl
theorem tk_152 : (152 : Int32).toInt = 152 := rfl
theorem tk_153 : (153 : Int32).toInt = 153 := rfl
theorem tk_154 : (154 : Int32).toInt = 154 := rfl
theorem tk_155 : (155 : Int32).toInt = 155 := rfl
theorem tk_156 : (156 : Int32).toInt = 156 := rfl
theorem tk_157 : (157 : Int32).toInt = 157 := rfl
theorem tk_158 : (158 : Int32).toInt = 158 := rfl
theorem tk_159 : (159 : Int32).toInt = 159 := rfl
theorem tk_160 : (160 : Int32).toInt = 160 := rfl
theorem tk_161 : (161 : Int32).toInt = 161 := rfl
theorem tk_162 : (162 : Int32).toInt = 162 := rfl
theorem tk_163 : (163 : Int32).toInt = 163 := rfl
theorem tk_164 : (164 : Int32).toInt = 164 := rfl
theorem tk_165 : (165 : Int32).toInt = 165 := rfl
theorem tk_166 : (166 : Int32).toInt = 166 := rfl
theorem tk_167 : (167 : Int32).toInt = 167 := rfl
theorem tk_168 : (168 : Int32).toInt = 168 := rfl
theorem tk_169 : (169 : Int32).toInt = 169 := rfl
theorem tk_170 : (170 : Int32).toInt = 170 := rfl
theorem tk_171 : (171 : Int32).toInt = 171 := rfl
theorem tk_172 : (172 : Int32).toInt = 172 := rfl
theorem tk_173 : (173 : Int32).toInt = 173 := rfl
theorem tk_174 : (174 : Int32).toInt = 174 := rfl
theorem tk_175 : (175 : Int32).toInt = 175 := rfl
theorem tk_176 : (176 : Int32).toInt = 176 := rfl
theorem tk_177 : (177 : Int32).toInt = 177 := rfl
theorem tk_178 : (178 : Int32).toInt = 178 := rfl
theorem tk_179 : (179 : Int32).toInt = 179 := rfl
theorem tk_180 : (180 : Int32).toInt = 180 := rfl
theorem tk_181 : (181 : Int32).toInt = 181 := rfl
theorem tk_182 : (182 : Int32).toInt = 182 := rfl
theorem tk_183 : (183 : Int32).toInt = 183 := rfl
theorem tk_184 : (184 : Int32).toInt = 184 := rfl
theorem tk_185 : (185 : Int32).toInt = 185 := rfl
theorem tk_186 : (186 : Int32).toInt = 186 := rfl
theorem tk_187 : (187 : Int32).toInt = 187 := rfl
theorem tk_188 : (188 : Int32).toInt = 188 := rfl
theorem tk_189 : (189 : Int32).toInt = 189 := rfl
theorem tk_190 : (190 : Int32).toInt = 190 := rfl
theorem tk_191 : (191 : Int32).toInt = 191 := rfl
theorem tk_192 : (192 : Int32).toInt = 192 := rfl
theorem tk_193 : (193 : Int32).toInt = 193 := rfl
theorem tk_194 : (194 : Int32).toInt = 194 := rfl
theorem tk_195 : (195 : Int32).toInt = 195 := rfl
theorem tk_196 : (196 : Int32).toInt = 196 := rfl
theorem tk_197 : (197 : Int32).toInt = 197 := rfl
theorem tk_198 : (198 : Int32).toInt = 198 := rfl
theorem tk_199 : (199 : Int32).toInt = 199 := rfl
theorem tk_255 : (255 : Int32).toInt = 255 := rfl
theorem tk_300 : (300 : Int32).toInt = 300 := rfl
theorem tk_301 : (301 : Int32).toInt = 301 := rfl
theorem tk_302 : (302 : Int32).toInt = 302 := rfl
theorem tk_303 : (303 : Int32).toInt = 303 := rfl
theorem tk_304 : (304 : Int32).toInt = 304 := rfl
theorem tk_305 : (305 : Int32).toInt = 305 := rfl
theorem tk_306 : (306 : Int32).toInt = 306 := rfl
theorem tk_307 : (307 : Int32).toInt = 307 := rfl
theorem tk_308 : (308 : Int32).toInt = 308 := rfl
theorem tk_309 : (309 : Int32).toInt = 309 := rfl
theorem tk_310 : (310 : Int32).toInt = 310 := rfl
theorem tk_311 : (311 : Int32).toInt = 311 := rfl
theorem tk_312 : (312 : Int32).toInt = 312 := rfl
theorem tk_313 : (313 : Int32).toInt = 313 := rfl
theorem tk_314 : (314 : Int32).toInt = 314 := rfl
theorem tk_315 : (315 : Int32).toInt = 315 := rfl
theorem tk_316 : (316 : Int32).toInt = 316 := rfl
theorem tk_317 : (317 : Int32).toInt = 317 := rfl
theorem tk_318 : (318 : Int32).toInt = 318 := rfl
theorem tk_319 : (319 : Int32).toInt = 319 := rfl
theorem tk_320 : (320 : Int32).toInt = 320 := rfl
theorem tk_321 : (321 : Int32).toInt = 321 := rfl
theorem tk_322 : (322 : Int32).toInt = 322 := rfl
theorem tk_323 : (323 : Int32).toInt = 323 := rfl
theorem tk_324 : (324 : Int32).toInt = 324 := rfl
theorem tk_325 : (325 : Int32).toInt = 325 := rfl
theorem tk_326 : (326 : Int32).toInt = 326 := rfl
theorem tk_327 : (327 : Int32).toInt = 327 := rfl
theorem tk_400 : (400 : Int32).toInt = 400 := rfl
theorem tk_450 : (450 : Int32).toInt = 450 := rfl
theorem tk_999 : (999 : Int32).toInt = 999 := rfl
theorem tk_1000 : (1000 : Int32).toInt = 1000 := rfl
theorem tk_1001 : (1001 : Int32).toInt = 1001 := rfl
theorem tk_1103 : (1103 : Int32).toInt = 1103 := rfl
theorem tk_2000 : (2000 : Int32).toInt = 2000 := rfl
theorem tk_2001 : (2001 : Int32).toInt = 2001 := rfl
theorem tk_2005 : (2005 : Int32).toInt = 2005 := rfl
theorem tk_2014 : (2014 : Int32).toInt = 2014 := rfl
theorem tk_2880 : (2880 : Int32).toInt = 2880 := rfl
theorem tk_3000 : (3000 : Int32).toInt = 3000 := rfl
theorem tk_3001 : (3001 : Int32).toInt = 3001 := rfl
theorem tk_3002 : (3002 : Int32).toInt = 3002 := rfl
theorem tk_3003 : (3003 : Int32).toInt = 3003 := rfl
theorem tk_3004 : (3004 : Int32).toInt = 3004 := rfl
theorem tk_3005 : (3005 : Int32).toInt = 3005 := rfl
theorem tk_3006 : (3006 : Int32).toInt = 3006 := rfl
theorem tk_3007 : (3007 : Int32).toInt = 3007 := rfl
theorem tk_3008 : (3008 : Int32).toInt = 3008 := rfl
theorem tk_3009 : (3009 : Int32).toInt = 3009 := rfl
theorem tk_3010 : (3010 : Int32).toInt = 3010 := rfl
theorem tk_9999 : (9999 : Int32).toInt = 9999 := rfl
theorem tk_12345 : (12345 : Int32).toInt = 12345 := rfl
theorem tk_1000000 : (1000000 : Int32).toInt = 1000000 := rfl
theorem tk_1000003 : (1000003 : Int32).toInt = 1000003 := rfl
theorem tk_252645135 : (252645135 : Int32).toInt = 252645135 := rfl
theorem tk_858993459 : (858993459 : Int32).toInt = 858993459 := rfl
theorem tk_1000000000 : (1000000000 : Int32).toInt = 1000000000 := rfl
theorem tk_1431655765 : (1431655765 : Int32).toInt = 1431655765 := rfl
theorem tk_n10 : (nI 10).toInt = 10 := rfl
theorem tk_n12 : (nI 12).toInt = 12 := rfl
theorem tk_n14 : (nI 14).toInt = 14 := rfl
section TR2
variable {p : Program} {l : Launch} {e : Env} {R : Room} {s : State} {m : MethodId} {args : Array Value} {below : List Frame} {meth : Method} {c : Code} {H H0 : Heap} {locs : List Loc} {cells slots : Nat} {Q : State → Prop}
variable {cc : ByteArray} {pc : Nat} {ls : Array Slot} {rest : List Value} {G : th_G} {Γ Γ0 : th_Ga} {L : List (Nat × Nat)}
theorem th_B_s {locs1 : List Loc} (hB : th_B G Γ Γ0 L H0 H locs) (hS : va_S (fun q => G.2.2 ≤ q) H0 H locs1) : th_B G Γ Γ0 L H0 H locs1 := ⟨hB.1, hS, hB.2.2⟩
theorem th_B_c {locs1 : List Loc} {H1 : Heap} {L1 : List (Nat × Nat)} (hB : th_B G Γ Γ L H0 H locs) (hI : th_I G Γ H1) (hS : va_S (fun q => G.2.2 ≤ q) H0 H1 locs1) (hF : th_F G Γ L1 H H1) (hs : L1.all (fun q => L.contains q) = true) : th_B G Γ Γ L H0 H1 locs1 := ⟨hI, hS, th_F_tr hB.2.2 hF hs⟩
theorem tr_iinc {i nL k : Nat} {n : Int} {x : Int32} {a : Int} {lv : List (Nat × Value)} (lv' : Int32 → List (Nat × Value)) (hexec : p.tables.exec = Jvm.exec) (hb : c.code = cc) (hdg : decode cc pc = .ok (.iinc i n, 3)) (h : lv_has ls nL lv) (hk : lv[k]? = some (i, .int x)) (ha : x.toInt = a) (hn0 : (Int32.ofInt n).toInt = n) (h1 : -2147483648 ≤ a + n) (h2 : a + n ≤ 2147483647) (hn : i < nL) (hl : ∀ z : Int32, (i, Value.int z) :: lv.filter (fun q => !(q.1 == i) && !(q.1 + 1 == i && q.2.category == 2)) = lv' z)
    (kk : ∀ (z : Int32) (ls' : Array Slot), z.toInt = a + n → lv_has ls' nL (lv' z) → W p l e R s m args below meth c H locs cells slots Q (F0 m (pc + 3) ls' rest)) : W p l e R s m args below meth c H locs cells slots Q (F0 m pc ls rest) :=
  lv_iinc hexec hb hdg h hk rfl hn (hl (x + Int32.ofInt n)) (fun ls' hl' => kk _ ls' (ti_add ha hn0 h1 h2) hl')
theorem tr_iincA {i nL k : Nat} {n : Int} {x : Int32} {lv : List (Nat × Value)} (lv' : Int32 → List (Nat × Value)) (hexec : p.tables.exec = Jvm.exec) (hb : c.code = cc) (hdg : decode cc pc = .ok (.iinc i n, 3)) (h : lv_has ls nL lv) (hk : lv[k]? = some (i, .int x)) (hn : i < nL) (hl : ∀ z : Int32, (i, Value.int z) :: lv.filter (fun q => !(q.1 == i) && !(q.1 + 1 == i && q.2.category == 2)) = lv' z)
    (kk : ∀ (z : Int32) (ls' : Array Slot), lv_has ls' nL (lv' z) → W p l e R s m args below meth c H locs cells slots Q (F0 m (pc + 3) ls' rest)) : W p l e R s m args below meth c H locs cells slots Q (F0 m pc ls rest) :=
  lv_iinc hexec hb hdg h hk rfl hn (hl (x + Int32.ofInt n)) (fun ls' hl' => kk _ ls' hl')
theorem th_getK {nL : Nat} {own : String} (hC : th_C p s m args c cc nL own G) {k : Nat} {C : String} {T : u_T} {N : Nat} {ty : Nat → FieldType} (hcf : th_CF k C T N ty) (hI : th_I G Γ H) {a r o j index : Nat} {fs : List th_sp} {v : Value} (ha : Γ a = (r, o)) (hr : th_ro r = some (.inl (k, fs))) (hN : fs.length = N) (hj : j < fs.length) (hv : th_sl H a (G.1.2 k j) = v)
    (hl : Cond.fieldLink own index C (T j).2.1 (T j).2.2.1 ∈ th_tb) (hdg : decode cc pc = .ok (.getfield index, 3))
    (kk : W p l e R s m args below meth c H locs cells slots Q (F0 m (pc + 3) ls (v :: rest))) : W p l e R s m args below meth c H locs cells slots Q (F0 m pc ls (.ref a :: rest)) :=
  th_get hC hcf hI ha hr hN (List.getElem?_eq_getElem hj) hl hdg (fun w hw _ => by rw [← hw, hv]; exact kk)
theorem th_getQ {nL : Nat} {own : String} (hC : th_C p s m args c cc nL own G) {k : Nat} {C : String} {T : u_T} {N : Nat} {ty : Nat → FieldType} (hcf : th_CF k C T N ty) (hI : th_I G Γ H) {a r o j index r2 : Nat} {fs : List th_sp} {hi : Int} (ha : Γ a = (r, o)) (hr : th_ro r = some (.inl (k, fs))) (hN : fs.length = N) (hq : fs[j]? = some (3, (r2 : Int), hi))
    (hl : Cond.fieldLink own index C (T j).2.1 (T j).2.2.1 ∈ th_tb) (hdg : decode cc pc = .ok (.getfield index, 3))
    (kk : ∀ v : Value, th_sl H a (G.1.2 k j) = v → (v = .null ∨ ∃ b : Nat, v = .ref b ∧ Γ b = (r2, 0)) → W p l e R s m args below meth c H locs cells slots Q (F0 m (pc + 3) ls (v :: rest))) : W p l e R s m args below meth c H locs cells slots Q (F0 m pc ls (.ref a :: rest)) :=
  th_get hC hcf hI ha hr hN hq hl hdg (fun v hv hs => kk v hv (hs.elim Or.inl (fun ⟨b, h1, h2⟩ => Or.inr ⟨b, h1, by simpa using h2⟩)))
theorem tr_qr {v : Value} {r : Nat} (h : v = .null ∨ ∃ b : Nat, v = .ref b ∧ Γ b = (r, 0)) : v = .null ∨ ∃ b : Nat, v = .ref b := by
  rcases h with h | ⟨b, h, -⟩
  · exact Or.inl h
  · exact Or.inr ⟨b, h⟩
theorem tr_qn {v : Value} {C : String} (h : v = .null ∨ ∃ b : Nat, v = .ref b) : narrow (.object C) v = v ∧ fits (.object C) v = true := by
  rcases h with rfl | ⟨b, rfl⟩
  · exact ⟨rfl, rfl⟩
  · exact ⟨rfl, rfl⟩
theorem tr_vload_n (hexec : p.tables.exec = Jvm.exec) (hb : c.code = cc) {k : Fin 4} {i : Nat} {v : Value} (hdg : decode cc pc = .ok (.aload_n k, 1)) (hi : (k : Nat) = i) (hl : ls[i]? = some (.val v)) (hv : v = .null ∨ ∃ b : Nat, v = .ref b)
    (kk : W p l e R s m args below meth c H locs cells slots Q (F0 m (pc + 1) ls (v :: rest))) : W p l e R s m args below meth c H locs cells slots Q (F0 m pc ls rest) := by
  rcases hv with rfl | ⟨b, rfl⟩
  · exact lv_aload_nN hexec hb hdg hi hl kk
  · exact lv_aload_n hexec hb hdg hi hl kk
theorem tr_vload (hexec : p.tables.exec = Jvm.exec) (hb : c.code = cc) {i : Nat} {v : Value} (hdg : decode cc pc = .ok (.aload i, 2)) (hl : ls[i]? = some (.val v)) (hv : v = .null ∨ ∃ b : Nat, v = .ref b)
    (kk : W p l e R s m args below meth c H locs cells slots Q (F0 m (pc + 2) ls (v :: rest))) : W p l e R s m args below meth c H locs cells slots Q (F0 m pc ls rest) := by
  rcases hv with rfl | ⟨b, rfl⟩
  · exact lv_aloadN hexec hb hdg hl kk
  · exact lv_aload hexec hb hdg hl kk
theorem tr_vstore_n (hexec : p.tables.exec = Jvm.exec) (hb : c.code = cc) {k : Fin 4} {i nL : Nat} {v : Value} {lv lv' : List (Nat × Value)} (hdg : decode cc pc = .ok (.astore_n k, 1)) (hi : (k : Nat) = i) (h : lv_has ls nL lv) (hv : v = .null ∨ ∃ b : Nat, v = .ref b) (hn : i < nL) (hl : (i, v) :: lv.filter (fun q => !(q.1 == i) && !(q.1 + 1 == i && q.2.category == 2)) = lv')
    (kk : ∀ ls' : Array Slot, lv_has ls' nL lv' → W p l e R s m args below meth c H locs cells slots Q (F0 m (pc + 1) ls' rest)) : W p l e R s m args below meth c H locs cells slots Q (F0 m pc ls (v :: rest)) := by
  rcases hv with rfl | ⟨b, rfl⟩
  · exact lv_astore_nN hexec hb hdg hi h hn hl kk
  · exact lv_astore_n hexec hb hdg hi h hn hl kk
theorem tr_vstore (hexec : p.tables.exec = Jvm.exec) (hb : c.code = cc) {i nL : Nat} {v : Value} {lv lv' : List (Nat × Value)} (hdg : decode cc pc = .ok (.astore i, 2)) (h : lv_has ls nL lv) (hv : v = .null ∨ ∃ b : Nat, v = .ref b) (hn : i < nL) (hl : (i, v) :: lv.filter (fun q => !(q.1 == i) && !(q.1 + 1 == i && q.2.category == 2)) = lv')
    (kk : ∀ ls' : Array Slot, lv_has ls' nL lv' → W p l e R s m args below meth c H locs cells slots Q (F0 m (pc + 2) ls' rest)) : W p l e R s m args below meth c H locs cells slots Q (F0 m pc ls (v :: rest)) := by
  rcases hv with rfl | ⟨b, rfl⟩
  · exact lv_astoreN hexec hb hdg h hn hl kk
  · exact lv_astore hexec hb hdg h hn hl kk
theorem ti_and (x : Int32) (k : Nat) {m : Int32} (hm : m.toBitVec.toNat = 2 ^ k - 1) (hk : k ≤ 30) : 0 ≤ (x &&& m).toInt ∧ (x &&& m).toInt ≤ 2 ^ k - 1 := by
  have h := vp_in_iff.mp (pk_andIn x k hm hk)
  have h2 : ((2 ^ k : Nat) : Int) = 2 ^ k := by simp
  omega
theorem ti_divb {a b : Int} (h0 : 0 ≤ a) (h1 : 0 < b) : 0 ≤ a / b ∧ a / b ≤ a := ⟨Int.ediv_nonneg h0 (by omega), Int.ediv_le_self b h0⟩
theorem ti_remb {a b : Int} (h0 : 0 ≤ a) (h1 : 0 < b) : 0 ≤ a % b ∧ a % b < b := ⟨Int.emod_nonneg a (by omega), Int.emod_lt_of_pos a h1⟩
end TR2
section TR3
variable {p : Program} {l : Launch} {e : Env} {R : Room} {s : State} {m : MethodId} {args : Array Value} {below : List Frame} {meth : Method} {c : Code} {H H0 : Heap} {locs : List Loc} {cells slots : Nat} {Q : State → Prop}
variable {cc : ByteArray} {pc : Nat} {ls : Array Slot} {rest : List Value} {G : th_G} {Γ Γ0 : th_Ga} {L : List (Nat × Nat)}
def th_Cp (H H1 : Heap) (a0 a sp dp n : Nat) : Prop := H1.size = H.size ∧ (∀ q, q ≠ a → H1[q]? = H[q]?) ∧ (∀ i, th_sl H1 a i = va_cpy (th_sl H a0) (th_sl H a) sp dp n i) ∧ th_ln H1 a = th_ln H a
theorem th_sl_out {H : Heap} {a n i : Nat} {cA : ClassId} {f : Nat → Value} (h : H[a]? = some (arrV cA n f)) (hi : n ≤ i) : th_sl H a i = .null := by
  unfold th_sl
  rw [h]
  show ((arrV cA n f).slots[i]?).getD .null = .null
  rw [Array.getElem?_eq_none (by rw [arrV_size]; exact hi)]
  rfl
theorem tr_acopy {nL : Nat} {own : String} (hC : th_C p s m args c cc nL own G) {index : Nat} (hlk : Cond.methodLink own index arraycopyName ∈ th_tb) (k1 : Cond.native arraycopyName ∈ th_tb) (k2 : Cond.static arraycopyName ∈ th_tb) (k3 : Cond.initialized "java/lang/System" ∈ th_tb) (hsz : ls.size = nL)
    (hB : th_B G Γ Γ0 L H0 H locs) {a0 a r0 r o0 o n1 n2 m1 m2 : Nat} {es0 es : Nat → th_sp} (ha0 : Γ a0 = (r0, o0)) (ha : Γ a = (r, o)) (hb0 : Γ0 a = (r, o) ∨ th_ro (Γ0 a).1 = none) (hr0 : th_ro r0 = some (.inr (0, n1, n2, es0))) (hr : th_ro r = some (.inr (0, m1, m2, es))) (hL : th_in L r 0 = true)
    {sp dp n : Int32} {x y z : Int} (hsp : sp.toInt = x) (hdp : dp.toInt = y) (hn : n.toInt = z) (h1 : 0 ≤ x) (h2 : 0 ≤ y) (h3 : 0 ≤ z) (h4 : x + z ≤ (n1 : Int)) (h5 : y + z ≤ (m1 : Int)) (hk : ∀ i, i < z.toNat → (es0 (x.toNat + i)).1 = 0) (he : ∀ (i : Nat) (v : Value), i < z.toNat → th_sat Γ a0 (es0 (x.toNat + i)) v → th_sat Γ a (es (y.toNat + i)) v)
    (hframes : 1 ≤ R.frames) (hlocals : (rest.map fun v => v.category).sum + (nativeFrameWords "java/lang/System" "arraycopy" 5 + 11) ≤ R.locals) (hdg : decode cc pc = .ok (.invokestatic index, 3))
    (kk : ∀ (H1 : Heap) (locs1 : List Loc), th_B G Γ Γ0 L H0 H1 locs1 → th_F G Γ [(r, 0)] H H1 → th_Cp H H1 a0 a x.toNat y.toNat z.toNat → W p l e R s m args below meth c H1 locs1 cells slots Q (F0 m (pc + 3) ls rest)) : W p l e R s m args below meth c H locs cells slots Q (F0 m pc ls (.int n :: .int dp :: .ref a :: .int sp :: .ref a0 :: rest)) := by
  obtain ⟨hx, hb, hml, hown, hts, hK, -⟩ := hC
  obtain ⟨hI, hS0, hF⟩ := hB
  have hq0 := th_ald0 hI ha0 hr0
  have hq1 := th_ald0 hI ha hr
  have hszA := (hI a r o _ ha hr).1
  obtain ⟨n0, i1, i2, hc0, i4, i5⟩ := hq0
  obtain ⟨nd, j1, j2, hc1, j4, j5⟩ := hq1
  have hspn : sp.toNatClampNeg = x.toNat := by rw [← hsp]; rfl
  have hdpn : dp.toNatClampNeg = y.toNat := by rw [← hdp]; rfl
  have hnn : n.toNatClampNeg = z.toNat := by rw [← hn]; rfl
  have nlt : ∀ {q : Int32}, 0 ≤ q.toInt → ¬ q < 0 := fun {q} h9 h8 => by
    have := ti_lt h8
    have h0 : (0 : Int32).toInt = 0 := rfl
    omega
  have hval : ∀ i, i < z.toNat → ∃ v : Int32, th_sl H a0 (x.toNat + i) = .int v := fun i hi => by
    have h6 := i5 (x.toNat + i) (by omega)
    unfold th_sat at h6
    rw [hk i hi] at h6
    obtain ⟨v, hv, -⟩ := h6
    exact ⟨v, hv⟩
  intro T hT X
  obtain ⟨-, k0, hk0, cm0, hkk0⟩ := (hK.2 0 _ rfl).1 n0 (th_sl H a0)
  obtain ⟨-, k1', hk1, cm1, hkk1⟩ := (hK.2 0 _ rfl).1 nd (th_sl H a)
  obtain ⟨vm', X', step⟩ := X.arraycopy hx hown (hts _ hlk) (hts _ k1) (hts _ k2) (hts _ k3) (src := a0) (dst := a) (cs := arrV (G.2.1 0) n0 (th_sl H a0)) (cd := arrV (G.2.1 0) nd (th_sl H a)) (srcPos := sp) (destPos := dp) (n := n) (by rw [hT]; exact hc0) (by rw [hT]; exact hc1)
    (fun _ h => by cases h) (fun _ h => by cases h) (fun h => by cases h) (fun h => by cases h) hk0 hk1 hkk0 hkk1 (by simp [refKind]) (nlt (by omega)) (nlt (by omega)) (nlt (by omega))
    (by rw [arrV_size]; omega)
    (by rw [arrV_size]; omega)
    (fun vm₁ _ i hi => by
      rw [hnn] at hi
      obtain ⟨v, hv⟩ := hval i hi
      have e : (arrV (G.2.1 0) n0 (th_sl H a0)).slots.getD (sp.toNatClampNeg + i) .null = .int v := by
        rw [Array.getD_eq_getD_getElem?, arrV_read _ _ (by omega), hspn, hv]
        rfl
      refine ⟨?_, ?_⟩
      · rw [e]
        rfl
      · rw [e]
        exact trivial)
    (g := F0 m pc ls (.int n :: .int dp :: .ref a :: .int sp :: .ref a0 :: rest)) rfl (by show ls.size = _; rw [hsz, hml]) (rest := rest) rfl (by rw [hb]; exact hdg) hframes (by show 2 * 0 + _ + _ ≤ _; omega)
  have e1 : copied (arrV (G.2.1 0) n0 (th_sl H a0)) (arrV (G.2.1 0) nd (th_sl H a)) sp dp n = arrV (G.2.1 0) nd (va_cpy (th_sl H a0) (th_sl H a) sp.toNatClampNeg dp.toNatClampNeg n.toNatClampNeg) := va_copied (fun z => z) (G.2.1 0) (G.2.1 0) (th_sl H a0) (th_sl H a) (by rw [hspn, hnn]; omega)
  rw [e1, hspn, hdpn, hnn] at X' step
  have hl : a < H.size := (Array.getElem?_eq_some_iff.mp hc1).1
  generalize hcell : arrV (G.2.1 0) nd (va_cpy (th_sl H a0) (th_sl H a) x.toNat y.toNat z.toNat) = cell at X' step
  have hheap : ((T.setVm vm').setCell a cell).heap = H.setIfInBounds a cell := by rw [← hT]; rfl
  have oq : ∀ q : Nat, q ≠ a → (H.setIfInBounds a cell)[q]? = H[q]? := fun q hq => by simp [Array.getElem?_setIfInBounds, Ne.symm hq]
  have ea : (H.setIfInBounds a cell)[a]? = some (arrV (G.2.1 0) nd (va_cpy (th_sl H a0) (th_sl H a) x.toNat y.toNat z.toNat)) := by rw [hcell]; simp [Array.getElem?_setIfInBounds, hl]
  have ez : (H.setIfInBounds a cell).size = H.size := by simp
  generalize H.setIfInBounds a cell = H1 at hheap oq ea ez
  have hsl : ∀ i, th_sl H1 a i = va_cpy (th_sl H a0) (th_sl H a) x.toNat y.toNat z.toNat i := fun i => by
    by_cases hi : i < nd
    · exact th_sl_at ea (arrV_read _ _ hi)
    · rw [th_sl_out ea (by omega)]
      unfold va_cpy
      rw [if_neg (by omega), th_sl_out hc1 (by omega)]
  have hln : th_ln H1 a = th_ln H a := by rw [th_ln_at ea, th_ln_at hc1, arrV_size, arrV_size]
  have hcp : th_Cp H H1 a0 a x.toNat y.toNat z.toNat := ⟨ez, oq, hsl, hln⟩
  have hI1 : th_I G Γ H1 := by
    intro a' r' o' d hg hd
    obtain ⟨g1, g2⟩ := hI a' r' o' d hg hd
    refine ⟨g1, ?_⟩
    by_cases hq : a' = a
    · subst hq
      rw [ha] at hg
      cases hg
      rw [hr] at hd
      cases hd
      refine ⟨nd, j1, j2, ?_, fun i hi => ?_⟩
      · rw [ea]
        exact congrArg some (th_arrV (fun i _ => (hsl i).symm))
      · rw [hsl i]
        unfold va_cpy
        split
        · rename_i hin
          have h8 := he (i - y.toNat) (th_sl H a0 (x.toNat + (i - y.toNat))) (by omega) (i5 _ (by omega))
          rw [show y.toNat + (i - y.toNat) = i by omega] at h8
          exact h8
        · exact j5 i hi
    · exact th_ok_kept g2 (oq a' hq)
  have hF9 : ∀ {Γ' : th_Ga} {L' : List (Nat × Nat)} {H' : Heap}, th_F G Γ' L' H' H → (Γ' a = (r, o) ∨ th_ro (Γ' a).1 = none) → th_in L' r 0 = true → th_F G Γ' L' H' H1 := by
    intro Γ' L' H' hF' hb hL'
    refine ⟨by rw [ez]; exact hF'.1, fun a' r' o' d hg hd => ?_⟩
    obtain ⟨a1, a2⟩ := hF'.2 a' r' o' d hg hd
    by_cases hq : a' = a
    · subst hq
      rcases hb with hb | hb
      · rw [hb] at hg
        cases hg
        rw [hr] at hd
        cases hd
        exact ⟨hln.trans a1, fun hf => by rw [hL'] at hf; cases hf⟩
      · rw [hg] at hb
        rw [hd] at hb
        cases hb
    · have e := oq a' hq
      refine ⟨(th_ln_kept e).trans a1, ?_⟩
      rcases d with ⟨k, fs⟩ | ⟨t, n1, n2, es⟩
      · exact fun x hx hf => (th_sl_kept e _).trans (a2 x hx hf)
      · exact fun hf i => (th_sl_kept e _).trans (a2 hf i)
  obtain ⟨t, a1, b1⟩ := kk H1 _ ⟨hI1, ⟨by rw [ez]; exact hS0.1, fun q g1 g2 => by
      rw [oq q (fun e => g2 (by rw [e]; exact hszA))]
      exact hS0.2.1 q g1 g2, fun q hq => by
      rcases List.mem_append.mp hq with h | h
      · exact hS0.2.2 q h
      · obtain ⟨z, -, hz⟩ := List.mem_map.mp h
        rw [← hz]
        exact hszA⟩, hF9 hF hb0 hL⟩ (hF9 th_F_rf (Or.inl ha) (by simp [th_in])) hcp _ hheap X'
  exact ⟨t, step t a1, b1⟩
end TR3
section TR4
variable {p : Program} {l : Launch} {e : Env} {R : Room} {s : State} {m : MethodId} {args : Array Value} {below : List Frame} {meth : Method} {c : Code} {H H0 : Heap} {locs : List Loc} {cells slots : Nat} {Q : State → Prop}
variable {cc : ByteArray} {pc : Nat} {ls : Array Slot} {rest : List Value} {G : th_G} {Γ Γ0 : th_Ga} {L : List (Nat × Nat)}
theorem ti_cmp (x y : Int64) : (-1 ≤ (lg_cmp x y).toInt ∧ (lg_cmp x y).toInt ≤ 1) ∧ ((lg_cmp x y).toInt = 0 ↔ x = y) := by
  unfold lg_cmp
  have h0 : (0 : Int32).toInt = 0 := rfl
  have h1 : (1 : Int32).toInt = 1 := rfl
  have h2 : (-1 : Int32).toInt = -1 := rfl
  split
  · rename_i h
    refine ⟨by omega, fun q => by omega, fun q => ?_⟩
    subst q
    exact absurd (Int64.lt_iff_toInt_lt.mp h) (by omega)
  · split
    · rename_i h
      refine ⟨by omega, fun q => h, fun q => by omega⟩
    · rename_i h
      refine ⟨by omega, fun q => by omega, fun q => absurd q h⟩
theorem tr_lcmp (hexec : p.tables.exec = Jvm.exec) (hb : c.code = cc) {x y : Int64} (hdg : decode cc pc = .ok (.lcmp, 1))
    (kk : ∀ z : Int32, (-1 ≤ z.toInt ∧ z.toInt ≤ 1) → (z.toInt = 0 ↔ x = y) → W p l e R s m args below meth c H locs cells slots Q (F0 m (pc + 1) ls (.int z :: rest))) : W p l e R s m args below meth c H locs cells slots Q (F0 m pc ls (.long y :: .long x :: rest)) :=
  W.lcmp hexec hb hdg (kk _ (ti_cmp x y).1 (ti_cmp x y).2)
theorem th_ialdS {nL : Nat} {own : String} (hC : th_C p s m args c cc nL own G) (hI : th_I G Γ H) {a r o t n1 n2 : Nat} {es : Nat → th_sp} (ha : Γ a = (r, o)) (hr : th_ro r = some (.inr (t, n1, n2, es))) (ht : (th_ty G.2.1)[t]? = some (G.2.1 t, .int)) {i : Int32} {b : Int} (hi0 : i.toInt = b) (h0 : 0 ≤ b) (h1 : b < (n1 : Int)) (he : (es b.toNat).1 = 0) (hdg : decode cc pc = .ok (.iaload, 1))
    (kk : ∀ x : Int32, th_sl H a b.toNat = .int x → th_sat Γ a (es b.toNat) (.int x) → W p l e R s m args below meth c H locs cells slots Q (F0 m (pc + 1) ls (.int x :: rest))) : W p l e R s m args below meth c H locs cells slots Q (F0 m pc ls (.int i :: .ref a :: rest)) := by
  have he' : es b.toNat = (0, (es b.toNat).2.1, (es b.toNat).2.2) := by rw [← he]
  refine th_ialdF hC hI ha hr ht hi0 h0 h1 he' hdg (fun x hx g1 g2 => kk x hx ?_)
  rw [he']
  exact ⟨x, rfl, g1, g2⟩
theorem th_esm1 (i : Nat) : (th_esm i).1 = 0 := by
  unfold th_esm
  split <;> rfl
theorem th_esm_ge {a i : Nat} {x : Int32} (h : th_sat Γ a (th_esm i) (.int x)) (hi : i % 8 ≠ 1) : 0 ≤ x.toInt := by
  unfold th_esm at h
  rw [if_neg hi] at h
  obtain ⟨y, hy, h1, -⟩ := h
  cases hy
  exact h1
theorem th_esm_st {a i : Nat} {x : Int32} (h : i % 8 = 1 ∨ 0 ≤ x.toInt) : th_sat Γ a (th_esm i) (.int x) := by
  unfold th_esm
  split
  · exact th_sIa
  · exact th_sI (by omega) (ti_hi x)
end TR4
section TR5
variable {p : Program} {l : Launch} {e : Env} {R : Room} {s : State} {m : MethodId} {args : Array Value} {below : List Frame} {meth : Method} {c : Code} {H H0 : Heap} {locs : List Loc} {cells slots : Nat} {Q : State → Prop}
variable {cc : ByteArray} {pc : Nat} {ls : Array Slot} {rest : List Value} {G : th_G} {Γ Γ0 : th_Ga} {L : List (Nat × Nat)}
theorem tr_mmin {nL : Nat} {own : String} (hC : th_C p s m args c cc nL own G) {index : Nat} (hlk : Cond.methodLink own index Lib.Math.min.name ∈ th_tb) (hsz : ls.size = nL) {x y : Int32} {a b : Int} (ha : x.toInt = a) (hy : y.toInt = b) (hframes : 1 ≤ R.frames) (hlocals : (rest.map fun v => v.category).sum + 13 ≤ R.locals) (hc : cells ≤ R.cells) (hs : slots ≤ R.slots) (hdg : decode cc pc = .ok (.invokestatic index, 3))
    (kk : ∀ z : Int32, (z.toInt ≤ a ∧ z.toInt ≤ b ∧ (z.toInt = a ∨ z.toInt = b)) → W p l e R s m args below meth c H locs cells slots Q (F0 m (pc + 3) ls (.int z :: rest))) : W p l e R s m args below meth c H locs cells slots Q (F0 m pc ls (.int y :: .int x :: rest)) := by
  obtain ⟨hx, hb, hml, hown, hts, -⟩ := hC
  refine va_mmin hx hb (hml.trans hsz.symm) hown (hts _ hlk) (hts _ kw_mins) (hts _ kw_mini) (hts _ kw_minc) hframes hlocals hc hs hdg (kk _ ?_)
  split
  · rename_i h; have := ti_lt h; omega
  · rename_i h; have := ti_nlt h; omega
theorem tr_mmax {nL : Nat} {own : String} (hC : th_C p s m args c cc nL own G) {index : Nat} (hlk : Cond.methodLink own index Lib.Math.max.name ∈ th_tb) (hsz : ls.size = nL) {x y : Int32} {a b : Int} (ha : x.toInt = a) (hy : y.toInt = b) (hframes : 1 ≤ R.frames) (hlocals : (rest.map fun v => v.category).sum + 13 ≤ R.locals) (hc : cells ≤ R.cells) (hs : slots ≤ R.slots) (hdg : decode cc pc = .ok (.invokestatic index, 3))
    (kk : ∀ z : Int32, (a ≤ z.toInt ∧ b ≤ z.toInt ∧ (z.toInt = a ∨ z.toInt = b)) → W p l e R s m args below meth c H locs cells slots Q (F0 m (pc + 3) ls (.int z :: rest))) : W p l e R s m args below meth c H locs cells slots Q (F0 m pc ls (.int y :: .int x :: rest)) := by
  obtain ⟨hx, hb, hml, hown, hts, -⟩ := hC
  refine va_mmax hx hb (hml.trans hsz.symm) hown (hts _ hlk) (hts _ kw_maxs) (hts _ kw_mini) (hts _ kw_maxc) hframes hlocals hc hs hdg (kk _ ?_)
  split
  · rename_i h; have := ti_lt h; omega
  · rename_i h; have := ti_nlt h; omega
end TR5
theorem th_sat_m {Γ : th_Ga} {a b : Nat} {q : th_sp} {v : Value} (hq : q.1 = 0) (h : th_sat Γ a q v) : th_sat Γ b q v := by
  unfold th_sat at h ⊢
  rw [hq] at h ⊢
  exact h
theorem th_fb {x : Int32} (h1 : 0 ≤ x.toInt) (h2 : x.toInt ≤ 1) : fits .boolean (.int x) = true := by
  have h := fits_narrow_boolean x
  rw [th_nb h1 h2] at h
  exact h
