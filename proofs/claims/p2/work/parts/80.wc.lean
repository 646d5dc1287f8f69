def mo_V0 (n : Nat) : Nat → Value := (updV (updV (updV (updV (updV (updV (updV (updV (updV (updV (updV (updV (updV (updV (updV (updV (updV (updV (updV (updV (updV (updV (updV (updV (updV (updV (updV (fun j => defaultValue (tyX12 j)) 1 (.ref (n + 0))) 2 (.ref (n + 1))) 3 (.ref (n + 2))) 4 (.ref (n + 3))) 5 (.ref (n + 4))) 7 (.ref (n + 5))) 11 (.ref (n + 6))) 12 (.ref (n + 7))) 14 (.int (-1))) 15 (.ref (n + 8))) 16 (.ref (n + 9))) 17 (.ref (n + 10))) 26 (.ref (n + 11))) 29 (.ref (n + 12))) 30 (.ref (n + 13))) 31 (.ref (n + 14))) 32 (.ref (n + 15))) 34 (.ref (n + 16))) 35 (.ref (n + 17))) 36 (.ref (n + 18))) 37 (.ref (n + 19))) 38 (.ref (n + 20))) 46 (.ref (n + 21))) 47 (.int (-1))) 53 (.ref (n + 22))) 54 (.ref (n + 23))) 55 (.int (-1)))
/-- what a new reference holds -/
def th_M0 (G : th_G) (H : Heap) (a n : Nat) (f : Nat → Value) : Prop := (∀ j, j < 57 → th_sl H a (G.1.2 12 j) = mo_V0 n j) ∧ ∀ (i : Nat) (x : Nat × Nat × (Nat → Value)), (mq_4 f)[i]? = some x → H[n + i]? = some (arrV (G.2.1 x.1) x.2.1 x.2.2)
set_option maxHeartbeats 4000000 in
set_option maxRecDepth 100000 in
theorem c_X12_init_i (l : Launch) (G : th_G) (Γ : th_Ga) (H0 : Heap) (hI : th_I G Γ H0) (hR : th_RC G Γ H0) (a0 : Nat) (ho : th_OB G Γ H0 a0 12 57 (fun j => defaultValue (tyX12 j))) (hsz : G.2.2 ≤ a0) (hlt : a0 < H0.size) (hm : ¬ th_MR G Γ H0 a0) : Met l yX12_init (.code yX12_init cX12_init 1 (none) :: th_tb) ({ frames := 1, cells := 24, slots := 22503, locals := 12 } : Room) (th_P [.ref a0] G H0) (th_Q (fun (v : Option Value) (H1 : Heap) => v = none ∧ ∃ Γ1 : th_Ga, th_NY G Γ Γ1 a0 46 [46, 47, 48, 49, 50, 51, 52, 53, 54, 55, 56, 57, 58, 59, 60, 61, 62, 63, 64, 65, 66, 67, 68, 69, 70] H0 H1 ∧ th_RN a0 G Γ1 H1 ∧ ∃ f : Nat → Value, th_M0 G H1 a0 H0.size f) G) 24 22503 (fun q => G.2.2 ≤ q) := by
  refine th_met RX12 (by decide) rfl (Nat.le_of_ble_eq_true rfl) ?_
  intro p e s m below meth c hC hH hr hlocks hnm ls hl
  have hx := hC.1
  have hb := hC.2.1
  have hB : th_MB G Γ a0 H0 H0 [] (fun j => defaultValue (tyX12 j)) [] := ⟨⟨hI, va_S.rf, fun _ _ _ => rfl, fun _ _ _ => rfl, ho.1, hsz, hlt⟩, ho, rfl, fun i x h => by cases h⟩
  have hl : lv_has ls 1 [(0, .ref a0)] := hl
  refine lv_aload_n hx hb dX12_init_0 rfl (lv_at hl 0 rfl) ?_
  refine W.objInit hx hb hC.2.2.2.1 (hC.2.2.2.2.1 _ kw_1225) (hC.2.2.2.2.1 _ kw_28) (hC.2.2.2.2.1 _ kw_29) rfl (hl.1.trans hC.2.2.1.symm) rfl dX12_init_1 (Nat.le_of_ble_eq_true rfl) (Nat.le_of_ble_eq_true rfl) ?_
  refine W.eq (g2 := F0 m 4 ls []) rfl ?_
  refine lv_aload_n hx hb dX12_init_4 rfl (lv_at hl 0 rfl) ?_
  refine lv_bipush (v := 7) hx hb dX12_init_5 (by decide) ?_
  refine mb_new (ty := .int) (t := 0) (k := 0) (rows1 := mr_1) hC hB rfl rfl rfl kw_104 (N := 7) tk_7 (by decide) (Nat.le_of_ble_eq_true rfl) (Nat.le_of_ble_eq_true rfl) dX12_init_7 rfl rfl (fun H hB => ?_)
  refine W.eq (g2 := F0 m 9 ls [.ref (H0.size + 0), .ref a0]) rfl ?_
  refine mb_putF (j := 1) hC cf_X12 hB (by decide) rfl hnm rfl rfl kf_X12_7 dX12_init_9 (fun H locs hB => ?_)
  refine W.eq (g2 := F0 m 12 ls []) rfl ?_
  refine lv_aload_n hx hb dX12_init_12 rfl (lv_at hl 0 rfl) ?_
  refine lv_sipush (v := 5680) hx hb dX12_init_13 (by decide) ?_
  refine mb_new (ty := .int) (t := 0) (k := 1) (rows1 := mr_2) hC hB rfl rfl rfl kw_104 (N := 5680) mt_5680 (by decide) (Nat.le_of_ble_eq_true rfl) (Nat.le_of_ble_eq_true rfl) dX12_init_16 rfl rfl (fun H hB => ?_)
  refine W.eq (g2 := F0 m 18 ls [.ref (H0.size + 1), .ref a0]) rfl ?_
  refine mb_putF (j := 2) hC cf_X12 hB (by decide) rfl hnm rfl rfl kf_X12_28 dX12_init_18 (fun H locs hB => ?_)
  refine W.eq (g2 := F0 m 21 ls []) rfl ?_
  refine lv_aload_n hx hb dX12_init_21 rfl (lv_at hl 0 rfl) ?_
  refine lv_sipush (v := 11360) hx hb dX12_init_22 (by decide) ?_
  refine mb_new (ty := .int) (t := 0) (k := 2) (rows1 := mr_3) hC hB rfl rfl rfl kw_104 (N := 11360) mt_11360 (by decide) (Nat.le_of_ble_eq_true rfl) (Nat.le_of_ble_eq_true rfl) dX12_init_25 rfl rfl (fun H hB => ?_)
  refine W.eq (g2 := F0 m 27 ls [.ref (H0.size + 2), .ref a0]) rfl ?_
  refine mb_putF (j := 3) hC cf_X12 hB (by decide) rfl hnm rfl rfl kf_X12_31 dX12_init_27 (fun H locs hB => ?_)
  refine W.eq (g2 := F0 m 30 ls []) rfl ?_
  refine lv_aload_n hx hb dX12_init_30 rfl (lv_at hl 0 rfl) ?_
  refine lv_iconst (v := 2) hx hb dX12_init_31 (by decide) ?_
  refine mb_new (ty := .boolean) (t := 2) (k := 3) (rows1 := mr_4) hC hB rfl rfl rfl kw_187 (N := 2) tk_2 (by decide) (Nat.le_of_ble_eq_true rfl) (Nat.le_of_ble_eq_true rfl) dX12_init_32 rfl rfl (fun H hB => ?_)
  refine W.eq (g2 := F0 m 34 ls [.ref (H0.size + 3), .ref a0]) rfl ?_
  refine mb_putF (j := 4) hC cf_X12 hB (by decide) rfl hnm rfl rfl kf_X12_34 dX12_init_34 (fun H locs hB => ?_)
  refine W.eq (g2 := F0 m 37 ls []) rfl ?_
  refine lv_aload_n hx hb dX12_init_37 rfl (lv_at hl 0 rfl) ?_
  refine lv_bipush (v := 58) hx hb dX12_init_38 (by decide) ?_
  refine mb_new (ty := .int) (t := 0) (k := 4) (rows1 := mr_5) hC hB rfl rfl rfl kw_104 (N := 58) tk_58 (by decide) (Nat.le_of_ble_eq_true rfl) (Nat.le_of_ble_eq_true rfl) dX12_init_40 rfl rfl (fun H hB => ?_)
  refine W.eq (g2 := F0 m 42 ls [.ref (H0.size + 4), .ref a0]) rfl ?_
  refine mb_putF (j := 5) hC cf_X12 hB (by decide) rfl hnm rfl rfl kf_X12_38 dX12_init_42 (fun H locs hB => ?_)
  refine W.eq (g2 := F0 m 45 ls []) rfl ?_
  refine lv_aload_n hx hb dX12_init_45 rfl (lv_at hl 0 rfl) ?_
  refine lv_bipush (v := 127) hx hb dX12_init_46 (by decide) ?_
  refine mb_new (ty := .byte) (t := 3) (k := 5) (rows1 := (mr_5 ++ [(3, 127, fun _ => defaultValue .byte)])) hC hB rfl rfl rfl kw_771 (N := 127) tk_127 (by decide) (Nat.le_of_ble_eq_true rfl) (Nat.le_of_ble_eq_true rfl) dX12_init_48 rfl rfl (fun H hB => ?_)
  refine W.eq (g2 := F0 m 50 ls [.ref (H0.size + 5), .ref a0]) rfl ?_
  have hW : th_MW G Γ a0 H0 _ _ _ mr_5 0 := ⟨_, hB, fun i hi => absurd hi (Nat.not_lt_zero i)⟩
  refine mb_w4c (pc := 50) (pc' := 55) (n := 0) (n' := 1) hC hI hW rfl dX12_init_50 rfl dX12_init_51 rfl dX12_init_52 rfl dX12_init_54 rfl rfl (by decide) (by decide) rfl (by decide) (fun H locs hW => ?_)
  refine mb_w4c (pc := 55) (pc' := 60) (n := 1) (n' := 2) hC hI hW rfl dX12_init_55 rfl dX12_init_56 rfl dX12_init_57 rfl dX12_init_59 rfl rfl (by decide) (by decide) rfl (by decide) (fun H locs hW => ?_)
  refine mb_w4c (pc := 60) (pc' := 65) (n := 2) (n' := 3) hC hI hW rfl dX12_init_60 rfl dX12_init_61 rfl dX12_init_62 rfl dX12_init_64 rfl rfl (by decide) (by decide) rfl (by decide) (fun H locs hW => ?_)
  refine mb_w4c (pc := 65) (pc' := 70) (n := 3) (n' := 4) hC hI hW rfl dX12_init_65 rfl dX12_init_66 rfl dX12_init_67 rfl dX12_init_69 rfl rfl (by decide) (by decide) rfl (by decide) (fun H locs hW => ?_)
  refine mb_w4c (pc := 70) (pc' := 75) (n := 4) (n' := 5) hC hI hW rfl dX12_init_70 rfl dX12_init_71 rfl dX12_init_72 rfl dX12_init_74 rfl rfl (by decide) (by decide) rfl (by decide) (fun H locs hW => ?_)
  refine mb_w4c (pc := 75) (pc' := 80) (n := 5) (n' := 6) hC hI hW rfl dX12_init_75 rfl dX12_init_76 rfl dX12_init_77 rfl dX12_init_79 rfl rfl (by decide) (by decide) rfl (by decide) (fun H locs hW => ?_)
  refine mb_w4 (pc := 80) (pc' := 86) (n := 6) (n' := 7) hC hI hW rfl dX12_init_80 rfl dX12_init_81 rfl dX12_init_83 rfl dX12_init_85 rfl rfl (by decide) (by decide) rfl (by decide) (fun H locs hW => ?_)
  refine mb_w4 (pc := 86) (pc' := 92) (n := 7) (n' := 8) hC hI hW rfl dX12_init_86 rfl dX12_init_87 rfl dX12_init_89 rfl dX12_init_91 rfl rfl (by decide) (by decide) rfl (by decide) (fun H locs hW => ?_)
  refine mb_w4 (pc := 92) (pc' := 98) (n := 8) (n' := 9) hC hI hW rfl dX12_init_92 rfl dX12_init_93 rfl dX12_init_95 rfl dX12_init_97 rfl rfl (by decide) (by decide) rfl (by decide) (fun H locs hW => ?_)
  refine mb_w4 (pc := 98) (pc' := 104) (n := 9) (n' := 10) hC hI hW rfl dX12_init_98 rfl dX12_init_99 rfl dX12_init_101 rfl dX12_init_103 rfl rfl (by decide) (by decide) rfl (by decide) (fun H locs hW => ?_)
  refine mb_w4 (pc := 104) (pc' := 110) (n := 10) (n' := 11) hC hI hW rfl dX12_init_104 rfl dX12_init_105 rfl dX12_init_107 rfl dX12_init_109 rfl rfl (by decide) (by decide) rfl (by decide) (fun H locs hW => ?_)
  refine mb_w4 (pc := 110) (pc' := 116) (n := 11) (n' := 12) hC hI hW rfl dX12_init_110 rfl dX12_init_111 rfl dX12_init_113 rfl dX12_init_115 rfl rfl (by decide) (by decide) rfl (by decide) (fun H locs hW => ?_)
  refine mb_w4 (pc := 116) (pc' := 122) (n := 12) (n' := 13) hC hI hW rfl dX12_init_116 rfl dX12_init_117 rfl dX12_init_119 rfl dX12_init_121 rfl rfl (by decide) (by decide) rfl (by decide) (fun H locs hW => ?_)
  refine mb_w4 (pc := 122) (pc' := 128) (n := 13) (n' := 14) hC hI hW rfl dX12_init_122 rfl dX12_init_123 rfl dX12_init_125 rfl dX12_init_127 rfl rfl (by decide) (by decide) rfl (by decide) (fun H locs hW => ?_)
  refine mb_w4 (pc := 128) (pc' := 134) (n := 14) (n' := 15) hC hI hW rfl dX12_init_128 rfl dX12_init_129 rfl dX12_init_131 rfl dX12_init_133 rfl rfl (by decide) (by decide) rfl (by decide) (fun H locs hW => ?_)
  refine mb_w4 (pc := 134) (pc' := 140) (n := 15) (n' := 16) hC hI hW rfl dX12_init_134 rfl dX12_init_135 rfl dX12_init_137 rfl dX12_init_139 rfl rfl (by decide) (by decide) rfl (by decide) (fun H locs hW => ?_)
  refine mb_w4 (pc := 140) (pc' := 146) (n := 16) (n' := 17) hC hI hW rfl dX12_init_140 rfl dX12_init_141 rfl dX12_init_143 rfl dX12_init_145 rfl rfl (by decide) (by decide) rfl (by decide) (fun H locs hW => ?_)
  refine mb_w4 (pc := 146) (pc' := 152) (n := 17) (n' := 18) hC hI hW rfl dX12_init_146 rfl dX12_init_147 rfl dX12_init_149 rfl dX12_init_151 rfl rfl (by decide) (by decide) rfl (by decide) (fun H locs hW => ?_)
  refine mb_w4 (pc := 152) (pc' := 158) (n := 18) (n' := 19) hC hI hW rfl dX12_init_152 rfl dX12_init_153 rfl dX12_init_155 rfl dX12_init_157 rfl rfl (by decide) (by decide) rfl (by decide) (fun H locs hW => ?_)
  refine mb_w4 (pc := 158) (pc' := 164) (n := 19) (n' := 20) hC hI hW rfl dX12_init_158 rfl dX12_init_159 rfl dX12_init_161 rfl dX12_init_163 rfl rfl (by decide) (by decide) rfl (by decide) (fun H locs hW => ?_)
  refine mb_w4 (pc := 164) (pc' := 170) (n := 20) (n' := 21) hC hI hW rfl dX12_init_164 rfl dX12_init_165 rfl dX12_init_167 rfl dX12_init_169 rfl rfl (by decide) (by decide) rfl (by decide) (fun H locs hW => ?_)
  refine mb_w4 (pc := 170) (pc' := 176) (n := 21) (n' := 22) hC hI hW rfl dX12_init_170 rfl dX12_init_171 rfl dX12_init_173 rfl dX12_init_175 rfl rfl (by decide) (by decide) rfl (by decide) (fun H locs hW => ?_)
  refine mb_w4 (pc := 176) (pc' := 182) (n := 22) (n' := 23) hC hI hW rfl dX12_init_176 rfl dX12_init_177 rfl dX12_init_179 rfl dX12_init_181 rfl rfl (by decide) (by decide) rfl (by decide) (fun H locs hW => ?_)
  refine mb_w4 (pc := 182) (pc' := 188) (n := 23) (n' := 24) hC hI hW rfl dX12_init_182 rfl dX12_init_183 rfl dX12_init_185 rfl dX12_init_187 rfl rfl (by decide) (by decide) rfl (by decide) (fun H locs hW => ?_)
  refine mb_w4 (pc := 188) (pc' := 194) (n := 24) (n' := 25) hC hI hW rfl dX12_init_188 rfl dX12_init_189 rfl dX12_init_191 rfl dX12_init_193 rfl rfl (by decide) (by decide) rfl (by decide) (fun H locs hW => ?_)
  refine mb_w4 (pc := 194) (pc' := 200) (n := 25) (n' := 26) hC hI hW rfl dX12_init_194 rfl dX12_init_195 rfl dX12_init_197 rfl dX12_init_199 rfl rfl (by decide) (by decide) rfl (by decide) (fun H locs hW => ?_)
  refine mb_w4 (pc := 200) (pc' := 206) (n := 26) (n' := 27) hC hI hW rfl dX12_init_200 rfl dX12_init_201 rfl dX12_init_203 rfl dX12_init_205 rfl rfl (by decide) (by decide) rfl (by decide) (fun H locs hW => ?_)
  refine mb_w4 (pc := 206) (pc' := 212) (n := 27) (n' := 28) hC hI hW rfl dX12_init_206 rfl dX12_init_207 rfl dX12_init_209 rfl dX12_init_211 rfl rfl (by decide) (by decide) rfl (by decide) (fun H locs hW => ?_)
  refine mb_w4 (pc := 212) (pc' := 218) (n := 28) (n' := 29) hC hI hW rfl dX12_init_212 rfl dX12_init_213 rfl dX12_init_215 rfl dX12_init_217 rfl rfl (by decide) (by decide) rfl (by decide) (fun H locs hW => ?_)
  refine mb_w4 (pc := 218) (pc' := 224) (n := 29) (n' := 30) hC hI hW rfl dX12_init_218 rfl dX12_init_219 rfl dX12_init_221 rfl dX12_init_223 rfl rfl (by decide) (by decide) rfl (by decide) (fun H locs hW => ?_)
  refine mb_w4 (pc := 224) (pc' := 230) (n := 30) (n' := 31) hC hI hW rfl dX12_init_224 rfl dX12_init_225 rfl dX12_init_227 rfl dX12_init_229 rfl rfl (by decide) (by decide) rfl (by decide) (fun H locs hW => ?_)
  refine mb_w4 (pc := 230) (pc' := 236) (n := 31) (n' := 32) hC hI hW rfl dX12_init_230 rfl dX12_init_231 rfl dX12_init_233 rfl dX12_init_235 rfl rfl (by decide) (by decide) rfl (by decide) (fun H locs hW => ?_)
  refine mb_w4 (pc := 236) (pc' := 242) (n := 32) (n' := 33) hC hI hW rfl dX12_init_236 rfl dX12_init_237 rfl dX12_init_239 rfl dX12_init_241 rfl rfl (by decide) (by decide) rfl (by decide) (fun H locs hW => ?_)
  refine mb_w4 (pc := 242) (pc' := 248) (n := 33) (n' := 34) hC hI hW rfl dX12_init_242 rfl dX12_init_243 rfl dX12_init_245 rfl dX12_init_247 rfl rfl (by decide) (by decide) rfl (by decide) (fun H locs hW => ?_)
  refine mb_w4 (pc := 248) (pc' := 254) (n := 34) (n' := 35) hC hI hW rfl dX12_init_248 rfl dX12_init_249 rfl dX12_init_251 rfl dX12_init_253 rfl rfl (by decide) (by decide) rfl (by decide) (fun H locs hW => ?_)
  refine mb_w4 (pc := 254) (pc' := 260) (n := 35) (n' := 36) hC hI hW rfl dX12_init_254 rfl dX12_init_255 rfl dX12_init_257 rfl dX12_init_259 rfl rfl (by decide) (by decide) rfl (by decide) (fun H locs hW => ?_)
  refine mb_w4 (pc := 260) (pc' := 266) (n := 36) (n' := 37) hC hI hW rfl dX12_init_260 rfl dX12_init_261 rfl dX12_init_263 rfl dX12_init_265 rfl rfl (by decide) (by decide) rfl (by decide) (fun H locs hW => ?_)
  refine mb_w4 (pc := 266) (pc' := 272) (n := 37) (n' := 38) hC hI hW rfl dX12_init_266 rfl dX12_init_267 rfl dX12_init_269 rfl dX12_init_271 rfl rfl (by decide) (by decide) rfl (by decide) (fun H locs hW => ?_)
  refine mb_w4 (pc := 272) (pc' := 278) (n := 38) (n' := 39) hC hI hW rfl dX12_init_272 rfl dX12_init_273 rfl dX12_init_275 rfl dX12_init_277 rfl rfl (by decide) (by decide) rfl (by decide) (fun H locs hW => ?_)
  refine mb_w4 (pc := 278) (pc' := 284) (n := 39) (n' := 40) hC hI hW rfl dX12_init_278 rfl dX12_init_279 rfl dX12_init_281 rfl dX12_init_283 rfl rfl (by decide) (by decide) rfl (by decide) (fun H locs hW => ?_)
  refine mb_w4 (pc := 284) (pc' := 290) (n := 40) (n' := 41) hC hI hW rfl dX12_init_284 rfl dX12_init_285 rfl dX12_init_287 rfl dX12_init_289 rfl rfl (by decide) (by decide) rfl (by decide) (fun H locs hW => ?_)
  refine mb_w4 (pc := 290) (pc' := 296) (n := 41) (n' := 42) hC hI hW rfl dX12_init_290 rfl dX12_init_291 rfl dX12_init_293 rfl dX12_init_295 rfl rfl (by decide) (by decide) rfl (by decide) (fun H locs hW => ?_)
  refine mb_w4 (pc := 296) (pc' := 302) (n := 42) (n' := 43) hC hI hW rfl dX12_init_296 rfl dX12_init_297 rfl dX12_init_299 rfl dX12_init_301 rfl rfl (by decide) (by decide) rfl (by decide) (fun H locs hW => ?_)
  refine mb_w4 (pc := 302) (pc' := 308) (n := 43) (n' := 44) hC hI hW rfl dX12_init_302 rfl dX12_init_303 rfl dX12_init_305 rfl dX12_init_307 rfl rfl (by decide) (by decide) rfl (by decide) (fun H locs hW => ?_)
  refine mb_w4 (pc := 308) (pc' := 314) (n := 44) (n' := 45) hC hI hW rfl dX12_init_308 rfl dX12_init_309 rfl dX12_init_311 rfl dX12_init_313 rfl rfl (by decide) (by decide) rfl (by decide) (fun H locs hW => ?_)
  refine mb_w4 (pc := 314) (pc' := 320) (n := 45) (n' := 46) hC hI hW rfl dX12_init_314 rfl dX12_init_315 rfl dX12_init_317 rfl dX12_init_319 rfl rfl (by decide) (by decide) rfl (by decide) (fun H locs hW => ?_)
  refine mb_w4 (pc := 320) (pc' := 326) (n := 46) (n' := 47) hC hI hW rfl dX12_init_320 rfl dX12_init_321 rfl dX12_init_323 rfl dX12_init_325 rfl rfl (by decide) (by decide) rfl (by decide) (fun H locs hW => ?_)
  refine mb_w4 (pc := 326) (pc' := 332) (n := 47) (n' := 48) hC hI hW rfl dX12_init_326 rfl dX12_init_327 rfl dX12_init_329 rfl dX12_init_331 rfl rfl (by decide) (by decide) rfl (by decide) (fun H locs hW => ?_)
  refine mb_w4 (pc := 332) (pc' := 338) (n := 48) (n' := 49) hC hI hW rfl dX12_init_332 rfl dX12_init_333 rfl dX12_init_335 rfl dX12_init_337 rfl rfl (by decide) (by decide) rfl (by decide) (fun H locs hW => ?_)
  refine mb_w4 (pc := 338) (pc' := 344) (n := 49) (n' := 50) hC hI hW rfl dX12_init_338 rfl dX12_init_339 rfl dX12_init_341 rfl dX12_init_343 rfl rfl (by decide) (by decide) rfl (by decide) (fun H locs hW => ?_)
  refine mb_w4 (pc := 344) (pc' := 350) (n := 50) (n' := 51) hC hI hW rfl dX12_init_344 rfl dX12_init_345 rfl dX12_init_347 rfl dX12_init_349 rfl rfl (by decide) (by decide) rfl (by decide) (fun H locs hW => ?_)
  refine mb_w4 (pc := 350) (pc' := 356) (n := 51) (n' := 52) hC hI hW rfl dX12_init_350 rfl dX12_init_351 rfl dX12_init_353 rfl dX12_init_355 rfl rfl (by decide) (by decide) rfl (by decide) (fun H locs hW => ?_)
  refine mb_w4 (pc := 356) (pc' := 362) (n := 52) (n' := 53) hC hI hW rfl dX12_init_356 rfl dX12_init_357 rfl dX12_init_359 rfl dX12_init_361 rfl rfl (by decide) (by decide) rfl (by decide) (fun H locs hW => ?_)
  refine mb_w4 (pc := 362) (pc' := 368) (n := 53) (n' := 54) hC hI hW rfl dX12_init_362 rfl dX12_init_363 rfl dX12_init_365 rfl dX12_init_367 rfl rfl (by decide) (by decide) rfl (by decide) (fun H locs hW => ?_)
  refine mb_w4 (pc := 368) (pc' := 374) (n := 54) (n' := 55) hC hI hW rfl dX12_init_368 rfl dX12_init_369 rfl dX12_init_371 rfl dX12_init_373 rfl rfl (by decide) (by decide) rfl (by decide) (fun H locs hW => ?_)
  refine mb_w4 (pc := 374) (pc' := 380) (n := 55) (n' := 56) hC hI hW rfl dX12_init_374 rfl dX12_init_375 rfl dX12_init_377 rfl dX12_init_379 rfl rfl (by decide) (by decide) rfl (by decide) (fun H locs hW => ?_)
  refine mb_w4 (pc := 380) (pc' := 386) (n := 56) (n' := 57) hC hI hW rfl dX12_init_380 rfl dX12_init_381 rfl dX12_init_383 rfl dX12_init_385 rfl rfl (by decide) (by decide) rfl (by decide) (fun H locs hW => ?_)
  refine mb_w4 (pc := 386) (pc' := 392) (n := 57) (n' := 58) hC hI hW rfl dX12_init_386 rfl dX12_init_387 rfl dX12_init_389 rfl dX12_init_391 rfl rfl (by decide) (by decide) rfl (by decide) (fun H locs hW => ?_)
  refine mb_w4 (pc := 392) (pc' := 398) (n := 58) (n' := 59) hC hI hW rfl dX12_init_392 rfl dX12_init_393 rfl dX12_init_395 rfl dX12_init_397 rfl rfl (by decide) (by decide) rfl (by decide) (fun H locs hW => ?_)
  refine mb_w4 (pc := 398) (pc' := 404) (n := 59) (n' := 60) hC hI hW rfl dX12_init_398 rfl dX12_init_399 rfl dX12_init_401 rfl dX12_init_403 rfl rfl (by decide) (by decide) rfl (by decide) (fun H locs hW => ?_)
  refine mb_w4 (pc := 404) (pc' := 410) (n := 60) (n' := 61) hC hI hW rfl dX12_init_404 rfl dX12_init_405 rfl dX12_init_407 rfl dX12_init_409 rfl rfl (by decide) (by decide) rfl (by decide) (fun H locs hW => ?_)
  refine mb_w4 (pc := 410) (pc' := 416) (n := 61) (n' := 62) hC hI hW rfl dX12_init_410 rfl dX12_init_411 rfl dX12_init_413 rfl dX12_init_415 rfl rfl (by decide) (by decide) rfl (by decide) (fun H locs hW => ?_)
  refine mb_w4 (pc := 416) (pc' := 422) (n := 62) (n' := 63) hC hI hW rfl dX12_init_416 rfl dX12_init_417 rfl dX12_init_419 rfl dX12_init_421 rfl rfl (by decide) (by decide) rfl (by decide) (fun H locs hW => ?_)
  refine mb_w4 (pc := 422) (pc' := 428) (n := 63) (n' := 64) hC hI hW rfl dX12_init_422 rfl dX12_init_423 rfl dX12_init_425 rfl dX12_init_427 rfl rfl (by decide) (by decide) rfl (by decide) (fun H locs hW => ?_)
  refine mb_w4 (pc := 428) (pc' := 434) (n := 64) (n' := 65) hC hI hW rfl dX12_init_428 rfl dX12_init_429 rfl dX12_init_431 rfl dX12_init_433 rfl rfl (by decide) (by decide) rfl (by decide) (fun H locs hW => ?_)
  refine mb_w4 (pc := 434) (pc' := 440) (n := 65) (n' := 66) hC hI hW rfl dX12_init_434 rfl dX12_init_435 rfl dX12_init_437 rfl dX12_init_439 rfl rfl (by decide) (by decide) rfl (by decide) (fun H locs hW => ?_)
  refine mb_w4 (pc := 440) (pc' := 446) (n := 66) (n' := 67) hC hI hW rfl dX12_init_440 rfl dX12_init_441 rfl dX12_init_443 rfl dX12_init_445 rfl rfl (by decide) (by decide) rfl (by decide) (fun H locs hW => ?_)
  refine mb_w4 (pc := 446) (pc' := 452) (n := 67) (n' := 68) hC hI hW rfl dX12_init_446 rfl dX12_init_447 rfl dX12_init_449 rfl dX12_init_451 rfl rfl (by decide) (by decide) rfl (by decide) (fun H locs hW => ?_)
  refine mb_w4 (pc := 452) (pc' := 458) (n := 68) (n' := 69) hC hI hW rfl dX12_init_452 rfl dX12_init_453 rfl dX12_init_455 rfl dX12_init_457 rfl rfl (by decide) (by decide) rfl (by decide) (fun H locs hW => ?_)
  refine mb_w4 (pc := 458) (pc' := 464) (n := 69) (n' := 70) hC hI hW rfl dX12_init_458 rfl dX12_init_459 rfl dX12_init_461 rfl dX12_init_463 rfl rfl (by decide) (by decide) rfl (by decide) (fun H locs hW => ?_)
  refine mb_w4 (pc := 464) (pc' := 470) (n := 70) (n' := 71) hC hI hW rfl dX12_init_464 rfl dX12_init_465 rfl dX12_init_467 rfl dX12_init_469 rfl rfl (by decide) (by decide) rfl (by decide) (fun H locs hW => ?_)
  refine mb_w4 (pc := 470) (pc' := 476) (n := 71) (n' := 72) hC hI hW rfl dX12_init_470 rfl dX12_init_471 rfl dX12_init_473 rfl dX12_init_475 rfl rfl (by decide) (by decide) rfl (by decide) (fun H locs hW => ?_)
  refine mb_w4 (pc := 476) (pc' := 482) (n := 72) (n' := 73) hC hI hW rfl dX12_init_476 rfl dX12_init_477 rfl dX12_init_479 rfl dX12_init_481 rfl rfl (by decide) (by decide) rfl (by decide) (fun H locs hW => ?_)
  refine mb_w4 (pc := 482) (pc' := 488) (n := 73) (n' := 74) hC hI hW rfl dX12_init_482 rfl dX12_init_483 rfl dX12_init_485 rfl dX12_init_487 rfl rfl (by decide) (by decide) rfl (by decide) (fun H locs hW => ?_)
  refine mb_w4 (pc := 488) (pc' := 494) (n := 74) (n' := 75) hC hI hW rfl dX12_init_488 rfl dX12_init_489 rfl dX12_init_491 rfl dX12_init_493 rfl rfl (by decide) (by decide) rfl (by decide) (fun H locs hW => ?_)
  refine mb_w4 (pc := 494) (pc' := 500) (n := 75) (n' := 76) hC hI hW rfl dX12_init_494 rfl dX12_init_495 rfl dX12_init_497 rfl dX12_init_499 rfl rfl (by decide) (by decide) rfl (by decide) (fun H locs hW => ?_)
  refine mb_w4 (pc := 500) (pc' := 506) (n := 76) (n' := 77) hC hI hW rfl dX12_init_500 rfl dX12_init_501 rfl dX12_init_503 rfl dX12_init_505 rfl rfl (by decide) (by decide) rfl (by decide) (fun H locs hW => ?_)
  refine mb_w4 (pc := 506) (pc' := 512) (n := 77) (n' := 78) hC hI hW rfl dX12_init_506 rfl dX12_init_507 rfl dX12_init_509 rfl dX12_init_511 rfl rfl (by decide) (by decide) rfl (by decide) (fun H locs hW => ?_)
  refine mb_w4 (pc := 512) (pc' := 518) (n := 78) (n' := 79) hC hI hW rfl dX12_init_512 rfl dX12_init_513 rfl dX12_init_515 rfl dX12_init_517 rfl rfl (by decide) (by decide) rfl (by decide) (fun H locs hW => ?_)
  refine mb_w4 (pc := 518) (pc' := 524) (n := 79) (n' := 80) hC hI hW rfl dX12_init_518 rfl dX12_init_519 rfl dX12_init_521 rfl dX12_init_523 rfl rfl (by decide) (by decide) rfl (by decide) (fun H locs hW => ?_)
  refine mb_w4 (pc := 524) (pc' := 530) (n := 80) (n' := 81) hC hI hW rfl dX12_init_524 rfl dX12_init_525 rfl dX12_init_527 rfl dX12_init_529 rfl rfl (by decide) (by decide) rfl (by decide) (fun H locs hW => ?_)
  refine mb_w4 (pc := 530) (pc' := 536) (n := 81) (n' := 82) hC hI hW rfl dX12_init_530 rfl dX12_init_531 rfl dX12_init_533 rfl dX12_init_535 rfl rfl (by decide) (by decide) rfl (by decide) (fun H locs hW => ?_)
  refine mb_w4 (pc := 536) (pc' := 542) (n := 82) (n' := 83) hC hI hW rfl dX12_init_536 rfl dX12_init_537 rfl dX12_init_539 rfl dX12_init_541 rfl rfl (by decide) (by decide) rfl (by decide) (fun H locs hW => ?_)
  refine mb_w4 (pc := 542) (pc' := 548) (n := 83) (n' := 84) hC hI hW rfl dX12_init_542 rfl dX12_init_543 rfl dX12_init_545 rfl dX12_init_547 rfl rfl (by decide) (by decide) rfl (by decide) (fun H locs hW => ?_)
  refine mb_w4 (pc := 548) (pc' := 554) (n := 84) (n' := 85) hC hI hW rfl dX12_init_548 rfl dX12_init_549 rfl dX12_init_551 rfl dX12_init_553 rfl rfl (by decide) (by decide) rfl (by decide) (fun H locs hW => ?_)
  refine mb_w4 (pc := 554) (pc' := 560) (n := 85) (n' := 86) hC hI hW rfl dX12_init_554 rfl dX12_init_555 rfl dX12_init_557 rfl dX12_init_559 rfl rfl (by decide) (by decide) rfl (by decide) (fun H locs hW => ?_)
  refine mb_w4 (pc := 560) (pc' := 566) (n := 86) (n' := 87) hC hI hW rfl dX12_init_560 rfl dX12_init_561 rfl dX12_init_563 rfl dX12_init_565 rfl rfl (by decide) (by decide) rfl (by decide) (fun H locs hW => ?_)
  refine mb_w4 (pc := 566) (pc' := 572) (n := 87) (n' := 88) hC hI hW rfl dX12_init_566 rfl dX12_init_567 rfl dX12_init_569 rfl dX12_init_571 rfl rfl (by decide) (by decide) rfl (by decide) (fun H locs hW => ?_)
  refine mb_w4 (pc := 572) (pc' := 578) (n := 88) (n' := 89) hC hI hW rfl dX12_init_572 rfl dX12_init_573 rfl dX12_init_575 rfl dX12_init_577 rfl rfl (by decide) (by decide) rfl (by decide) (fun H locs hW => ?_)
  refine mb_w4 (pc := 578) (pc' := 584) (n := 89) (n' := 90) hC hI hW rfl dX12_init_578 rfl dX12_init_579 rfl dX12_init_581 rfl dX12_init_583 rfl rfl (by decide) (by decide) rfl (by decide) (fun H locs hW => ?_)
  refine mb_w4 (pc := 584) (pc' := 590) (n := 90) (n' := 91) hC hI hW rfl dX12_init_584 rfl dX12_init_585 rfl dX12_init_587 rfl dX12_init_589 rfl rfl (by decide) (by decide) rfl (by decide) (fun H locs hW => ?_)
  refine mb_w4 (pc := 590) (pc' := 596) (n := 91) (n' := 92) hC hI hW rfl dX12_init_590 rfl dX12_init_591 rfl dX12_init_593 rfl dX12_init_595 rfl rfl (by decide) (by decide) rfl (by decide) (fun H locs hW => ?_)
  refine mb_w4 (pc := 596) (pc' := 602) (n := 92) (n' := 93) hC hI hW rfl dX12_init_596 rfl dX12_init_597 rfl dX12_init_599 rfl dX12_init_601 rfl rfl (by decide) (by decide) rfl (by decide) (fun H locs hW => ?_)
  refine mb_w4 (pc := 602) (pc' := 608) (n := 93) (n' := 94) hC hI hW rfl dX12_init_602 rfl dX12_init_603 rfl dX12_init_605 rfl dX12_init_607 rfl rfl (by decide) (by decide) rfl (by decide) (fun H locs hW => ?_)
  refine mb_w4 (pc := 608) (pc' := 614) (n := 94) (n' := 95) hC hI hW rfl dX12_init_608 rfl dX12_init_609 rfl dX12_init_611 rfl dX12_init_613 rfl rfl (by decide) (by decide) rfl (by decide) (fun H locs hW => ?_)
  refine mb_w4 (pc := 614) (pc' := 620) (n := 95) (n' := 96) hC hI hW rfl dX12_init_614 rfl dX12_init_615 rfl dX12_init_617 rfl dX12_init_619 rfl rfl (by decide) (by decide) rfl (by decide) (fun H locs hW => ?_)
  refine mb_w4 (pc := 620) (pc' := 626) (n := 96) (n' := 97) hC hI hW rfl dX12_init_620 rfl dX12_init_621 rfl dX12_init_623 rfl dX12_init_625 rfl rfl (by decide) (by decide) rfl (by decide) (fun H locs hW => ?_)
  refine mb_w4 (pc := 626) (pc' := 632) (n := 97) (n' := 98) hC hI hW rfl dX12_init_626 rfl dX12_init_627 rfl dX12_init_629 rfl dX12_init_631 rfl rfl (by decide) (by decide) rfl (by decide) (fun H locs hW => ?_)
  refine mb_w4 (pc := 632) (pc' := 638) (n := 98) (n' := 99) hC hI hW rfl dX12_init_632 rfl dX12_init_633 rfl dX12_init_635 rfl dX12_init_637 rfl rfl (by decide) (by decide) rfl (by decide) (fun H locs hW => ?_)
  refine mb_w4 (pc := 638) (pc' := 644) (n := 99) (n' := 100) hC hI hW rfl dX12_init_638 rfl dX12_init_639 rfl dX12_init_641 rfl dX12_init_643 rfl rfl (by decide) (by decide) rfl (by decide) (fun H locs hW => ?_)
  refine mb_w4 (pc := 644) (pc' := 650) (n := 100) (n' := 101) hC hI hW rfl dX12_init_644 rfl dX12_init_645 rfl dX12_init_647 rfl dX12_init_649 rfl rfl (by decide) (by decide) rfl (by decide) (fun H locs hW => ?_)
  refine mb_w4 (pc := 650) (pc' := 656) (n := 101) (n' := 102) hC hI hW rfl dX12_init_650 rfl dX12_init_651 rfl dX12_init_653 rfl dX12_init_655 rfl rfl (by decide) (by decide) rfl (by decide) (fun H locs hW => ?_)
  refine mb_w4 (pc := 656) (pc' := 662) (n := 102) (n' := 103) hC hI hW rfl dX12_init_656 rfl dX12_init_657 rfl dX12_init_659 rfl dX12_init_661 rfl rfl (by decide) (by decide) rfl (by decide) (fun H locs hW => ?_)
  refine mb_w4 (pc := 662) (pc' := 668) (n := 103) (n' := 104) hC hI hW rfl dX12_init_662 rfl dX12_init_663 rfl dX12_init_665 rfl dX12_init_667 rfl rfl (by decide) (by decide) rfl (by decide) (fun H locs hW => ?_)
  refine mb_w4 (pc := 668) (pc' := 674) (n := 104) (n' := 105) hC hI hW rfl dX12_init_668 rfl dX12_init_669 rfl dX12_init_671 rfl dX12_init_673 rfl rfl (by decide) (by decide) rfl (by decide) (fun H locs hW => ?_)
  refine mb_w4 (pc := 674) (pc' := 680) (n := 105) (n' := 106) hC hI hW rfl dX12_init_674 rfl dX12_init_675 rfl dX12_init_677 rfl dX12_init_679 rfl rfl (by decide) (by decide) rfl (by decide) (fun H locs hW => ?_)
  refine mb_w4 (pc := 680) (pc' := 686) (n := 106) (n' := 107) hC hI hW rfl dX12_init_680 rfl dX12_init_681 rfl dX12_init_683 rfl dX12_init_685 rfl rfl (by decide) (by decide) rfl (by decide) (fun H locs hW => ?_)
  refine mb_w4 (pc := 686) (pc' := 692) (n := 107) (n' := 108) hC hI hW rfl dX12_init_686 rfl dX12_init_687 rfl dX12_init_689 rfl dX12_init_691 rfl rfl (by decide) (by decide) rfl (by decide) (fun H locs hW => ?_)
  refine mb_w4 (pc := 692) (pc' := 698) (n := 108) (n' := 109) hC hI hW rfl dX12_init_692 rfl dX12_init_693 rfl dX12_init_695 rfl dX12_init_697 rfl rfl (by decide) (by decide) rfl (by decide) (fun H locs hW => ?_)
  refine mb_w4 (pc := 698) (pc' := 704) (n := 109) (n' := 110) hC hI hW rfl dX12_init_698 rfl dX12_init_699 rfl dX12_init_701 rfl dX12_init_703 rfl rfl (by decide) (by decide) rfl (by decide) (fun H locs hW => ?_)
  refine mb_w4 (pc := 704) (pc' := 710) (n := 110) (n' := 111) hC hI hW rfl dX12_init_704 rfl dX12_init_705 rfl dX12_init_707 rfl dX12_init_709 rfl rfl (by decide) (by decide) rfl (by decide) (fun H locs hW => ?_)
  refine mb_w4 (pc := 710) (pc' := 716) (n := 111) (n' := 112) hC hI hW rfl dX12_init_710 rfl dX12_init_711 rfl dX12_init_713 rfl dX12_init_715 rfl rfl (by decide) (by decide) rfl (by decide) (fun H locs hW => ?_)
  refine mb_w4 (pc := 716) (pc' := 722) (n := 112) (n' := 113) hC hI hW rfl dX12_init_716 rfl dX12_init_717 rfl dX12_init_719 rfl dX12_init_721 rfl rfl (by decide) (by decide) rfl (by decide) (fun H locs hW => ?_)
  refine mb_w4 (pc := 722) (pc' := 728) (n := 113) (n' := 114) hC hI hW rfl dX12_init_722 rfl dX12_init_723 rfl dX12_init_725 rfl dX12_init_727 rfl rfl (by decide) (by decide) rfl (by decide) (fun H locs hW => ?_)
  refine mb_w4 (pc := 728) (pc' := 734) (n := 114) (n' := 115) hC hI hW rfl dX12_init_728 rfl dX12_init_729 rfl dX12_init_731 rfl dX12_init_733 rfl rfl (by decide) (by decide) rfl (by decide) (fun H locs hW => ?_)
  refine mb_w4 (pc := 734) (pc' := 740) (n := 115) (n' := 116) hC hI hW rfl dX12_init_734 rfl dX12_init_735 rfl dX12_init_737 rfl dX12_init_739 rfl rfl (by decide) (by decide) rfl (by decide) (fun H locs hW => ?_)
  refine mb_w4 (pc := 740) (pc' := 746) (n := 116) (n' := 117) hC hI hW rfl dX12_init_740 rfl dX12_init_741 rfl dX12_init_743 rfl dX12_init_745 rfl rfl (by decide) (by decide) rfl (by decide) (fun H locs hW => ?_)
  refine mb_w4 (pc := 746) (pc' := 752) (n := 117) (n' := 118) hC hI hW rfl dX12_init_746 rfl dX12_init_747 rfl dX12_init_749 rfl dX12_init_751 rfl rfl (by decide) (by decide) rfl (by decide) (fun H locs hW => ?_)
  refine mb_w4 (pc := 752) (pc' := 758) (n := 118) (n' := 119) hC hI hW rfl dX12_init_752 rfl dX12_init_753 rfl dX12_init_755 rfl dX12_init_757 rfl rfl (by decide) (by decide) rfl (by decide) (fun H locs hW => ?_)
  refine mb_w4 (pc := 758) (pc' := 764) (n := 119) (n' := 120) hC hI hW rfl dX12_init_758 rfl dX12_init_759 rfl dX12_init_761 rfl dX12_init_763 rfl rfl (by decide) (by decide) rfl (by decide) (fun H locs hW => ?_)
  refine mb_w4 (pc := 764) (pc' := 770) (n := 120) (n' := 121) hC hI hW rfl dX12_init_764 rfl dX12_init_765 rfl dX12_init_767 rfl dX12_init_769 rfl rfl (by decide) (by decide) rfl (by decide) (fun H locs hW => ?_)
  refine mb_w4 (pc := 770) (pc' := 776) (n := 121) (n' := 122) hC hI hW rfl dX12_init_770 rfl dX12_init_771 rfl dX12_init_773 rfl dX12_init_775 rfl rfl (by decide) (by decide) rfl (by decide) (fun H locs hW => ?_)
  refine mb_w4 (pc := 776) (pc' := 782) (n := 122) (n' := 123) hC hI hW rfl dX12_init_776 rfl dX12_init_777 rfl dX12_init_779 rfl dX12_init_781 rfl rfl (by decide) (by decide) rfl (by decide) (fun H locs hW => ?_)
  refine mb_w4 (pc := 782) (pc' := 788) (n := 123) (n' := 124) hC hI hW rfl dX12_init_782 rfl dX12_init_783 rfl dX12_init_785 rfl dX12_init_787 rfl rfl (by decide) (by decide) rfl (by decide) (fun H locs hW => ?_)
  refine mb_w4 (pc := 788) (pc' := 794) (n := 124) (n' := 125) hC hI hW rfl dX12_init_788 rfl dX12_init_789 rfl dX12_init_791 rfl dX12_init_793 rfl rfl (by decide) (by decide) rfl (by decide) (fun H locs hW => ?_)
  refine mb_w4 (pc := 794) (pc' := 800) (n := 125) (n' := 126) hC hI hW rfl dX12_init_794 rfl dX12_init_795 rfl dX12_init_797 rfl dX12_init_799 rfl rfl (by decide) (by decide) rfl (by decide) (fun H locs hW => ?_)
  refine mb_w4 (pc := 800) (pc' := 806) (n := 126) (n' := 127) hC hI hW rfl dX12_init_800 rfl dX12_init_801 rfl dX12_init_803 rfl dX12_init_805 rfl rfl (by decide) (by decide) rfl (by decide) (fun H locs hW => ?_)
  obtain ⟨fw, hB, hw⟩ := hW
  refine mb_putF (j := 7) hC cf_X12 hB (by decide) rfl hnm rfl rfl kf_X12_41 dX12_init_806 (fun H locs hB => ?_)
  refine W.eq (g2 := F0 m 809 ls []) rfl ?_
  refine lv_aload_n hx hb dX12_init_809 rfl (lv_at hl 0 rfl) ?_
  refine lv_sipush (v := 400) hx hb dX12_init_810 (by decide) ?_
  refine mb_new (ty := .byte) (t := 3) (k := 6) (rows1 := mr_7 fw) hC hB rfl rfl rfl kw_771 (N := 400) tk_400 (by decide) (Nat.le_of_ble_eq_true rfl) (Nat.le_of_ble_eq_true rfl) dX12_init_813 rfl rfl (fun H hB => ?_)
  refine W.eq (g2 := F0 m 815 ls [.ref (H0.size + 6), .ref a0]) rfl ?_
  refine mb_putF (j := 11) hC cf_X12 hB (by decide) rfl hnm rfl rfl kf_X12_45 dX12_init_815 (fun H locs hB => ?_)
  refine W.eq (g2 := F0 m 818 ls []) rfl ?_
  refine lv_aload_n hx hb dX12_init_818 rfl (lv_at hl 0 rfl) ?_
  refine lv_iconst (v := 5) hx hb dX12_init_819 (by decide) ?_
  refine mb_new (ty := .int) (t := 0) (k := 7) (rows1 := mr_8 fw) hC hB rfl rfl rfl kw_104 (N := 5) tk_5 (by decide) (Nat.le_of_ble_eq_true rfl) (Nat.le_of_ble_eq_true rfl) dX12_init_820 rfl rfl (fun H hB => ?_)
  refine W.eq (g2 := F0 m 822 ls [.ref (H0.size + 7), .ref a0]) rfl ?_
  refine mb_putF (j := 12) hC cf_X12 hB (by decide) rfl hnm rfl rfl kf_X12_48 dX12_init_822 (fun H locs hB => ?_)
  refine W.eq (g2 := F0 m 825 ls []) rfl ?_
  refine lv_aload_n hx hb dX12_init_825 rfl (lv_at hl 0 rfl) ?_
  refine lv_iconst (v := (-1)) hx hb dX12_init_826 (by decide) ?_
  refine mb_put (j := 14) hC cf_X12 hB (by decide) rfl rfl rfl kf_X12_51 dX12_init_827 (fun H locs hB => ?_)
  refine W.eq (g2 := F0 m 830 ls []) rfl ?_
  refine lv_aload_n hx hb dX12_init_830 rfl (lv_at hl 0 rfl) ?_
  refine lv_sipush (v := 401) hx hb dX12_init_831 (by decide) ?_
  refine mb_new (ty := .int) (t := 0) (k := 8) (rows1 := mr_9 fw) hC hB rfl rfl rfl kw_104 (N := 401) tk_401 (by decide) (Nat.le_of_ble_eq_true rfl) (Nat.le_of_ble_eq_true rfl) dX12_init_834 rfl rfl (fun H hB => ?_)
  refine W.eq (g2 := F0 m 836 ls [.ref (H0.size + 8), .ref a0]) rfl ?_
  refine mb_putF (j := 15) hC cf_X12 hB (by decide) rfl hnm rfl rfl kf_X12_54 dX12_init_836 (fun H locs hB => ?_)
  refine W.eq (g2 := F0 m 839 ls []) rfl ?_
  refine lv_aload_n hx hb dX12_init_839 rfl (lv_at hl 0 rfl) ?_
  refine lv_sipush (v := 401) hx hb dX12_init_840 (by decide) ?_
  refine mb_new (ty := .int) (t := 0) (k := 9) (rows1 := mr_10 fw) hC hB rfl rfl rfl kw_104 (N := 401) tk_401 (by decide) (Nat.le_of_ble_eq_true rfl) (Nat.le_of_ble_eq_true rfl) dX12_init_843 rfl rfl (fun H hB => ?_)
  refine W.eq (g2 := F0 m 845 ls [.ref (H0.size + 9), .ref a0]) rfl ?_
  refine mb_putF (j := 16) hC cf_X12 hB (by decide) rfl hnm rfl rfl kf_X12_57 dX12_init_845 (fun H locs hB => ?_)
  refine W.eq (g2 := F0 m 848 ls []) rfl ?_
  refine lv_aload_n hx hb dX12_init_848 rfl (lv_at hl 0 rfl) ?_
  refine lv_sipush (v := 401) hx hb dX12_init_849 (by decide) ?_
  refine mb_new (ty := .int) (t := 0) (k := 10) (rows1 := mr_11 fw) hC hB rfl rfl rfl kw_104 (N := 401) tk_401 (by decide) (Nat.le_of_ble_eq_true rfl) (Nat.le_of_ble_eq_true rfl) dX12_init_852 rfl rfl (fun H hB => ?_)
  refine W.eq (g2 := F0 m 854 ls [.ref (H0.size + 10), .ref a0]) rfl ?_
  refine mb_putF (j := 17) hC cf_X12 hB (by decide) rfl hnm rfl rfl kf_X12_60 dX12_init_854 (fun H locs hB => ?_)
  refine W.eq (g2 := F0 m 857 ls []) rfl ?_
  refine lv_aload_n hx hb dX12_init_857 rfl (lv_at hl 0 rfl) ?_
  refine lv_bipush (v := 8) hx hb dX12_init_858 (by decide) ?_
  refine mb_new (ty := .int) (t := 0) (k := 11) (rows1 := mr_12 fw) hC hB rfl rfl rfl kw_104 (N := 8) tk_8 (by decide) (Nat.le_of_ble_eq_true rfl) (Nat.le_of_ble_eq_true rfl) dX12_init_860 rfl rfl (fun H hB => ?_)
  refine W.eq (g2 := F0 m 862 ls [.ref (H0.size + 11), .ref a0]) rfl ?_
  refine mb_putF (j := 26) hC cf_X12 hB (by decide) rfl hnm rfl rfl kf_X12_63 dX12_init_862 (fun H locs hB => ?_)
  refine W.eq (g2 := F0 m 865 ls []) rfl ?_
  refine lv_aload_n hx hb dX12_init_865 rfl (lv_at hl 0 rfl) ?_
  refine lv_bipush (v := 12) hx hb dX12_init_866 (by decide) ?_
  refine mb_new (ty := .int) (t := 0) (k := 12) (rows1 := mr_13 fw) hC hB rfl rfl rfl kw_104 (N := 12) tk_12 (by decide) (Nat.le_of_ble_eq_true rfl) (Nat.le_of_ble_eq_true rfl) dX12_init_868 rfl rfl (fun H hB => ?_)
  refine W.eq (g2 := F0 m 870 ls [.ref (H0.size + 12), .ref a0]) rfl ?_
  refine mb_putF (j := 29) hC cf_X12 hB (by decide) rfl hnm rfl rfl kf_X12_66 dX12_init_870 (fun H locs hB => ?_)
  refine W.eq (g2 := F0 m 873 ls []) rfl ?_
  refine lv_aload_n hx hb dX12_init_873 rfl (lv_at hl 0 rfl) ?_
  refine lv_bipush (v := 9) hx hb dX12_init_874 (by decide) ?_
  refine mb_new (ty := .int) (t := 0) (k := 13) (rows1 := mr_14 fw) hC hB rfl rfl rfl kw_104 (N := 9) tk_9 (by decide) (Nat.le_of_ble_eq_true rfl) (Nat.le_of_ble_eq_true rfl) dX12_init_876 rfl rfl (fun H hB => ?_)
  refine W.eq (g2 := F0 m 878 ls [.ref (H0.size + 13), .ref a0]) rfl ?_
  refine mb_putF (j := 30) hC cf_X12 hB (by decide) rfl hnm rfl rfl kf_X12_69 dX12_init_878 (fun H locs hB => ?_)
  refine W.eq (g2 := F0 m 881 ls []) rfl ?_
  refine lv_aload_n hx hb dX12_init_881 rfl (lv_at hl 0 rfl) ?_
  refine lv_sipush (v := 480) hx hb dX12_init_882 (by decide) ?_
  refine mb_new (ty := .int) (t := 0) (k := 14) (rows1 := mr_15 fw) hC hB rfl rfl rfl kw_104 (N := 480) tk_480 (by decide) (Nat.le_of_ble_eq_true rfl) (Nat.le_of_ble_eq_true rfl) dX12_init_885 rfl rfl (fun H hB => ?_)
  refine W.eq (g2 := F0 m 887 ls [.ref (H0.size + 14), .ref a0]) rfl ?_
  refine mb_putF (j := 31) hC cf_X12 hB (by decide) rfl hnm rfl rfl kf_X12_72 dX12_init_887 (fun H locs hB => ?_)
  refine W.eq (g2 := F0 m 890 ls []) rfl ?_
  refine lv_aload_n hx hb dX12_init_890 rfl (lv_at hl 0 rfl) ?_
  refine lv_sipush (v := 480) hx hb dX12_init_891 (by decide) ?_
  refine mb_new (ty := .int) (t := 0) (k := 15) (rows1 := mr_16 fw) hC hB rfl rfl rfl kw_104 (N := 480) tk_480 (by decide) (Nat.le_of_ble_eq_true rfl) (Nat.le_of_ble_eq_true rfl) dX12_init_894 rfl rfl (fun H hB => ?_)
  refine W.eq (g2 := F0 m 896 ls [.ref (H0.size + 15), .ref a0]) rfl ?_
  refine mb_putF (j := 32) hC cf_X12 hB (by decide) rfl hnm rfl rfl kf_X12_75 dX12_init_896 (fun H locs hB => ?_)
  refine W.eq (g2 := F0 m 899 ls []) rfl ?_
  refine lv_aload_n hx hb dX12_init_899 rfl (lv_at hl 0 rfl) ?_
  refine lv_sipush (v := 1296) hx hb dX12_init_900 (by decide) ?_
  refine mb_new (ty := .int) (t := 0) (k := 16) (rows1 := mr_17 fw) hC hB rfl rfl rfl kw_104 (N := 1296) tk_1296 (by decide) (Nat.le_of_ble_eq_true rfl) (Nat.le_of_ble_eq_true rfl) dX12_init_903 rfl rfl (fun H hB => ?_)
  refine W.eq (g2 := F0 m 905 ls [.ref (H0.size + 16), .ref a0]) rfl ?_
  refine mb_putF (j := 34) hC cf_X12 hB (by decide) rfl hnm rfl rfl kf_X12_78 dX12_init_905 (fun H locs hB => ?_)
  refine W.eq (g2 := F0 m 908 ls []) rfl ?_
  refine lv_aload_n hx hb dX12_init_908 rfl (lv_at hl 0 rfl) ?_
  refine lv_bipush (v := 9) hx hb dX12_init_909 (by decide) ?_
  refine mb_new (ty := .int) (t := 0) (k := 17) (rows1 := mr_18 fw) hC hB rfl rfl rfl kw_104 (N := 9) tk_9 (by decide) (Nat.le_of_ble_eq_true rfl) (Nat.le_of_ble_eq_true rfl) dX12_init_911 rfl rfl (fun H hB => ?_)
  refine W.eq (g2 := F0 m 913 ls [.ref (H0.size + 17), .ref a0]) rfl ?_
  refine mb_putF (j := 35) hC cf_X12 hB (by decide) rfl hnm rfl rfl kf_X12_81 dX12_init_913 (fun H locs hB => ?_)
  refine W.eq (g2 := F0 m 916 ls []) rfl ?_
  refine lv_aload_n hx hb dX12_init_916 rfl (lv_at hl 0 rfl) ?_
  refine lv_bipush (v := 9) hx hb dX12_init_917 (by decide) ?_
  refine mb_new (ty := .int) (t := 0) (k := 18) (rows1 := mr_19 fw) hC hB rfl rfl rfl kw_104 (N := 9) tk_9 (by decide) (Nat.le_of_ble_eq_true rfl) (Nat.le_of_ble_eq_true rfl) dX12_init_919 rfl rfl (fun H hB => ?_)
  refine W.eq (g2 := F0 m 921 ls [.ref (H0.size + 18), .ref a0]) rfl ?_
  refine mb_putF (j := 36) hC cf_X12 hB (by decide) rfl hnm rfl rfl kf_X12_84 dX12_init_921 (fun H locs hB => ?_)
  refine W.eq (g2 := F0 m 924 ls []) rfl ?_
  refine lv_aload_n hx hb dX12_init_924 rfl (lv_at hl 0 rfl) ?_
  refine lv_bipush (v := 9) hx hb dX12_init_925 (by decide) ?_
  refine mb_new (ty := .int) (t := 0) (k := 19) (rows1 := mr_20 fw) hC hB rfl rfl rfl kw_104 (N := 9) tk_9 (by decide) (Nat.le_of_ble_eq_true rfl) (Nat.le_of_ble_eq_true rfl) dX12_init_927 rfl rfl (fun H hB => ?_)
  refine W.eq (g2 := F0 m 929 ls [.ref (H0.size + 19), .ref a0]) rfl ?_
  refine mb_putF (j := 37) hC cf_X12 hB (by decide) rfl hnm rfl rfl kf_X12_87 dX12_init_929 (fun H locs hB => ?_)
  refine W.eq (g2 := F0 m 932 ls []) rfl ?_
  refine lv_aload_n hx hb dX12_init_932 rfl (lv_at hl 0 rfl) ?_
  refine lv_sipush (v := 1296) hx hb dX12_init_933 (by decide) ?_
  refine mb_new (ty := .int) (t := 0) (k := 20) (rows1 := mr_21 fw) hC hB rfl rfl rfl kw_104 (N := 1296) tk_1296 (by decide) (Nat.le_of_ble_eq_true rfl) (Nat.le_of_ble_eq_true rfl) dX12_init_936 rfl rfl (fun H hB => ?_)
  refine W.eq (g2 := F0 m 938 ls [.ref (H0.size + 20), .ref a0]) rfl ?_
  refine mb_putF (j := 38) hC cf_X12 hB (by decide) rfl hnm rfl rfl kf_X12_90 dX12_init_938 (fun H locs hB => ?_)
  refine W.eq (g2 := F0 m 941 ls []) rfl ?_
  refine lv_aload_n hx hb dX12_init_941 rfl (lv_at hl 0 rfl) ?_
  refine lv_bipush (v := 21) hx hb dX12_init_942 (by decide) ?_
  refine mb_new (ty := .long) (t := 1) (k := 21) (rows1 := mr_22 fw) hC hB rfl rfl rfl kw_246 (N := 21) tk_21 (by decide) (Nat.le_of_ble_eq_true rfl) (Nat.le_of_ble_eq_true rfl) dX12_init_944 rfl rfl (fun H hB => ?_)
  refine W.eq (g2 := F0 m 946 ls [.ref (H0.size + 21), .ref a0]) rfl ?_
  refine mb_putF (j := 46) hC cf_X12 hB (by decide) rfl hnm rfl rfl kf_X12_93 dX12_init_946 (fun H locs hB => ?_)
  refine W.eq (g2 := F0 m 949 ls []) rfl ?_
  refine lv_aload_n hx hb dX12_init_949 rfl (lv_at hl 0 rfl) ?_
  refine lv_iconst (v := (-1)) hx hb dX12_init_950 (by decide) ?_
  refine mb_put (j := 47) hC cf_X12 hB (by decide) rfl rfl rfl kf_X12_97 dX12_init_951 (fun H locs hB => ?_)
  refine W.eq (g2 := F0 m 954 ls []) rfl ?_
  refine lv_aload_n hx hb dX12_init_954 rfl (lv_at hl 0 rfl) ?_
  refine lv_iconst (v := 3) hx hb dX12_init_955 (by decide) ?_
  refine mb_new (ty := .long) (t := 1) (k := 22) (rows1 := mr_23 fw) hC hB rfl rfl rfl kw_246 (N := 3) tk_3 (by decide) (Nat.le_of_ble_eq_true rfl) (Nat.le_of_ble_eq_true rfl) dX12_init_956 rfl rfl (fun H hB => ?_)
  refine W.eq (g2 := F0 m 958 ls [.ref (H0.size + 22), .ref a0]) rfl ?_
  refine mb_putF (j := 53) hC cf_X12 hB (by decide) rfl hnm rfl rfl kf_X12_100 dX12_init_958 (fun H locs hB => ?_)
  refine W.eq (g2 := F0 m 961 ls []) rfl ?_
  refine lv_aload_n hx hb dX12_init_961 rfl (lv_at hl 0 rfl) ?_
  refine lv_bipush (v := 29) hx hb dX12_init_962 (by decide) ?_
  refine mb_new (ty := .int) (t := 0) (k := 23) (rows1 := mr_24 fw) hC hB rfl rfl rfl kw_104 (N := 29) tk_29 (by decide) (Nat.le_of_ble_eq_true rfl) (Nat.le_of_ble_eq_true rfl) dX12_init_964 rfl rfl (fun H hB => ?_)
  refine W.eq (g2 := F0 m 966 ls [.ref (H0.size + 23), .ref a0]) rfl ?_
  refine mb_putF (j := 54) hC cf_X12 hB (by decide) rfl hnm rfl rfl kf_X12_103 dX12_init_966 (fun H locs hB => ?_)
  refine W.eq (g2 := F0 m 969 ls []) rfl ?_
  refine lv_aload_n hx hb dX12_init_969 rfl (lv_at hl 0 rfl) ?_
  refine lv_iconst (v := (-1)) hx hb dX12_init_970 (by decide) ?_
  refine mb_put (j := 55) hC cf_X12 hB (by decide) rfl rfl rfl kf_X12_106 dX12_init_971 (fun H locs hB => ?_)
  refine W.eq (g2 := F0 m 974 ls []) rfl ?_
  refine lv_aload_n hx hb dX12_init_974 rfl (lv_at hl 0 rfl) ?_
  refine tc_get (v := .ref (H0.size + 1)) hC cf_X12 hB.2.1 (j := 2) (by decide) rfl kf_X12_28 dX12_init_975 ?_
  refine lv_bipush (v := 65) hx hb dX12_init_978 (by decide) ?_
  refine lv_iconst (v := 1) hx hb dX12_init_980 (by decide) ?_
  refine mb_ist (k := 1) (x := 65) (rows1 := mq_1 fw) hC hI hB rfl tk_65 (by decide) dX12_init_981 rfl (fun H locs hB => ?_)
  refine W.eq (g2 := F0 m 982 ls []) rfl ?_
  refine lv_aload_n hx hb dX12_init_982 rfl (lv_at hl 0 rfl) ?_
  refine tc_get (v := .ref (H0.size + 1)) hC cf_X12 hB.2.1 (j := 2) (by decide) rfl kf_X12_28 dX12_init_983 ?_
  refine lv_bipush (v := 67) hx hb dX12_init_986 (by decide) ?_
  refine lv_bipush (v := 8) hx hb dX12_init_988 (by decide) ?_
  refine mb_ist (k := 1) (x := 67) (rows1 := mq_2 fw) hC hI hB rfl tk_67 (by decide) dX12_init_990 rfl (fun H locs hB => ?_)
  refine W.eq (g2 := F0 m 991 ls []) rfl ?_
  refine lv_aload_n hx hb dX12_init_991 rfl (lv_at hl 0 rfl) ?_
  refine tc_get (v := .ref (H0.size + 1)) hC cf_X12 hB.2.1 (j := 2) (by decide) rfl kf_X12_28 dX12_init_992 ?_
  refine lv_bipush (v := 68) hx hb dX12_init_995 (by decide) ?_
  refine lv_bipush (v := 8) hx hb dX12_init_997 (by decide) ?_
  refine mb_ist (k := 1) (x := 68) (rows1 := mq_3 fw) hC hI hB rfl tk_68 (by decide) dX12_init_999 rfl (fun H locs hB => ?_)
  refine W.eq (g2 := F0 m 1000 ls []) rfl ?_
  refine lv_aload_n hx hb dX12_init_1000 rfl (lv_at hl 0 rfl) ?_
  refine tc_get (v := .ref (H0.size + 1)) hC cf_X12 hB.2.1 (j := 2) (by decide) rfl kf_X12_28 dX12_init_1001 ?_
  refine lv_bipush (v := 72) hx hb dX12_init_1004 (by decide) ?_
  refine lv_iconst (v := (-1)) hx hb dX12_init_1006 (by decide) ?_
  refine mb_ist (k := 1) (x := 72) (rows1 := mq_4 fw) hC hI hB rfl tk_72 (by decide) dX12_init_1007 rfl (fun H locs hB => ?_)
  refine W.eq (g2 := F0 m 1008 ls []) rfl ?_
  have hI1 := mb_I hI hB rfl (fun i x hx => mq_rok hw hx) (fun j q hq Γ1 hg => by
    have g0 : Γ1 (H0.size + 0) = (47, a0) := hg 0 (by decide)
    have g1 : Γ1 (H0.size + 1) = (48, a0) := hg 1 (by decide)
    have g2 : Γ1 (H0.size + 2) = (49, a0) := hg 2 (by decide)
    have g3 : Γ1 (H0.size + 3) = (50, a0) := hg 3 (by decide)
    have g4 : Γ1 (H0.size + 4) = (51, a0) := hg 4 (by decide)
    have g5 : Γ1 (H0.size + 5) = (52, a0) := hg 5 (by decide)
    have g6 : Γ1 (H0.size + 6) = (53, a0) := hg 6 (by decide)
    have g7 : Γ1 (H0.size + 7) = (54, a0) := hg 7 (by decide)
    have g8 : Γ1 (H0.size + 8) = (55, a0) := hg 8 (by decide)
    have g9 : Γ1 (H0.size + 9) = (56, a0) := hg 9 (by decide)
    have g10 : Γ1 (H0.size + 10) = (57, a0) := hg 10 (by decide)
    have g11 : Γ1 (H0.size + 11) = (58, a0) := hg 11 (by decide)
    have g12 : Γ1 (H0.size + 12) = (59, a0) := hg 12 (by decide)
    have g13 : Γ1 (H0.size + 13) = (60, a0) := hg 13 (by decide)
    have g14 : Γ1 (H0.size + 14) = (61, a0) := hg 14 (by decide)
    have g15 : Γ1 (H0.size + 15) = (62, a0) := hg 15 (by decide)
    have g16 : Γ1 (H0.size + 16) = (63, a0) := hg 16 (by decide)
    have g17 : Γ1 (H0.size + 17) = (64, a0) := hg 17 (by decide)
    have g18 : Γ1 (H0.size + 18) = (65, a0) := hg 18 (by decide)
    have g19 : Γ1 (H0.size + 19) = (66, a0) := hg 19 (by decide)
    have g20 : Γ1 (H0.size + 20) = (67, a0) := hg 20 (by decide)
    have g21 : Γ1 (H0.size + 21) = (68, a0) := hg 21 (by decide)
    have g22 : Γ1 (H0.size + 22) = (69, a0) := hg 22 (by decide)
    have g23 : Γ1 (H0.size + 23) = (70, a0) := hg 23 (by decide)
    match j, hq with
    | 0, hq => have e9 := Option.some.inj hq; subst e9; exact th_sI (x := 0) (by decide) (by decide)
    | 1, hq => have e9 := Option.some.inj hq; subst e9; exact th_sO (r := 47) g0
    | 2, hq => have e9 := Option.some.inj hq; subst e9; exact th_sO (r := 48) g1
    | 3, hq => have e9 := Option.some.inj hq; subst e9; exact th_sO (r := 49) g2
    | 4, hq => have e9 := Option.some.inj hq; subst e9; exact th_sO (r := 50) g3
    | 5, hq => have e9 := Option.some.inj hq; subst e9; exact th_sO (r := 51) g4
    | 6, hq => have e9 := Option.some.inj hq; subst e9; exact th_sI (x := 0) (by decide) (by decide)
    | 7, hq => have e9 := Option.some.inj hq; subst e9; exact th_sO (r := 52) g5
    | 8, hq => have e9 := Option.some.inj hq; subst e9; exact th_sI (x := 0) (by decide) (by decide)
    | 9, hq => have e9 := Option.some.inj hq; subst e9; exact th_sI (x := 0) (by decide) (by decide)
    | 10, hq => have e9 := Option.some.inj hq; subst e9; exact th_sI (x := 0) (by decide) (by decide)
    | 11, hq => have e9 := Option.some.inj hq; subst e9; exact th_sO (r := 53) g6
    | 12, hq => have e9 := Option.some.inj hq; subst e9; exact th_sO (r := 54) g7
    | 13, hq => have e9 := Option.some.inj hq; subst e9; exact th_sI (x := 0) (by decide) (by decide)
    | 14, hq => have e9 := Option.some.inj hq; subst e9; exact th_sI (x := (-1)) (by decide) (by decide)
    | 15, hq => have e9 := Option.some.inj hq; subst e9; exact th_sO (r := 55) g8
    | 16, hq => have e9 := Option.some.inj hq; subst e9; exact th_sO (r := 56) g9
    | 17, hq => have e9 := Option.some.inj hq; subst e9; exact th_sO (r := 57) g10
    | 18, hq => have e9 := Option.some.inj hq; subst e9; exact th_sI (x := 0) (by decide) (by decide)
    | 19, hq => have e9 := Option.some.inj hq; subst e9; exact th_sI (x := 0) (by decide) (by decide)
    | 20, hq => have e9 := Option.some.inj hq; subst e9; exact th_sI (x := 0) (by decide) (by decide)
    | 21, hq => have e9 := Option.some.inj hq; subst e9; exact th_sI (x := 0) (by decide) (by decide)
    | 22, hq => have e9 := Option.some.inj hq; subst e9; exact th_sI (x := 0) (by decide) (by decide)
    | 23, hq => have e9 := Option.some.inj hq; subst e9; exact th_sI (x := 0) (by decide) (by decide)
    | 24, hq => have e9 := Option.some.inj hq; subst e9; exact th_sI (x := 0) (by decide) (by decide)
    | 25, hq => have e9 := Option.some.inj hq; subst e9; exact th_sI (x := 0) (by decide) (by decide)
    | 26, hq => have e9 := Option.some.inj hq; subst e9; exact th_sO (r := 58) g11
    | 27, hq => have e9 := Option.some.inj hq; subst e9; exact th_sI (x := 0) (by decide) (by decide)
    | 28, hq => have e9 := Option.some.inj hq; subst e9; exact th_sI (x := 0) (by decide) (by decide)
    | 29, hq => have e9 := Option.some.inj hq; subst e9; exact th_sO (r := 59) g12
    | 30, hq => have e9 := Option.some.inj hq; subst e9; exact th_sO (r := 60) g13
    | 31, hq => have e9 := Option.some.inj hq; subst e9; exact th_sO (r := 61) g14
    | 32, hq => have e9 := Option.some.inj hq; subst e9; exact th_sO (r := 62) g15
    | 33, hq => have e9 := Option.some.inj hq; subst e9; exact th_sI (x := 0) (by decide) (by decide)
    | 34, hq => have e9 := Option.some.inj hq; subst e9; exact th_sO (r := 63) g16
    | 35, hq => have e9 := Option.some.inj hq; subst e9; exact th_sO (r := 64) g17
    | 36, hq => have e9 := Option.some.inj hq; subst e9; exact th_sO (r := 65) g18
    | 37, hq => have e9 := Option.some.inj hq; subst e9; exact th_sO (r := 66) g19
    | 38, hq => have e9 := Option.some.inj hq; subst e9; exact th_sO (r := 67) g20
    | 39, hq => have e9 := Option.some.inj hq; subst e9; exact th_sI (x := 0) (by decide) (by decide)
    | 40, hq => have e9 := Option.some.inj hq; subst e9; exact th_sI (x := 0) (by decide) (by decide)
    | 41, hq => have e9 := Option.some.inj hq; subst e9; exact th_sI (x := 0) (by decide) (by decide)
    | 42, hq => have e9 := Option.some.inj hq; subst e9; exact th_sI (x := 0) (by decide) (by decide)
    | 43, hq => have e9 := Option.some.inj hq; subst e9; exact th_sI (x := 0) (by decide) (by decide)
    | 44, hq => have e9 := Option.some.inj hq; subst e9; exact th_sI (x := 0) (by decide) (by decide)
    | 45, hq => have e9 := Option.some.inj hq; subst e9; exact th_sI (x := 0) (by decide) (by decide)
    | 46, hq => have e9 := Option.some.inj hq; subst e9; exact th_sO (r := 68) g21
    | 47, hq => have e9 := Option.some.inj hq; subst e9; exact th_sI (x := (-1)) (by decide) (by decide)
    | 48, hq => have e9 := Option.some.inj hq; subst e9; exact th_sI (x := 0) (by decide) (by decide)
    | 49, hq => have e9 := Option.some.inj hq; subst e9; exact th_sI (x := 0) (by decide) (by decide)
    | 50, hq => have e9 := Option.some.inj hq; subst e9; exact th_sI (x := 0) (by decide) (by decide)
    | 51, hq => have e9 := Option.some.inj hq; subst e9; exact th_sI (x := 0) (by decide) (by decide)
    | 52, hq => have e9 := Option.some.inj hq; subst e9; exact th_sI (x := 0) (by decide) (by decide)
    | 53, hq => have e9 := Option.some.inj hq; subst e9; exact th_sO (r := 69) g22
    | 54, hq => have e9 := Option.some.inj hq; subst e9; exact th_sO (r := 70) g23
    | 55, hq => have e9 := Option.some.inj hq; subst e9; exact th_sI (x := (-1)) (by decide) (by decide)
    | 56, hq => have e9 := Option.some.inj hq; subst e9; exact th_sI (x := 0) (by decide) (by decide)
    | n + 57, hq => exact absurd (List.getElem?_eq_some_iff.mp hq).1 (by simp))
  have hY := mb_NY hI hR hm hB hI1
  exact th_vret hC hH hr hlocks hB.1.2.1 ⟨rfl, _, hY, mb_RN hB hY.2.1 (N := 5680) rfl (by decide) rfl rfl rfl rfl rfl rfl rfl rfl rfl, fw, ⟨fun j hj => by obtain ⟨-, cell, q1, -, -, q4⟩ := hB.2.1; exact th_sl_at q1 (q4 j hj), hB.2.2.2⟩⟩ dX12_init_1008
