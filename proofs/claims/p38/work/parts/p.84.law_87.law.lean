section
set_option maxHeartbeats 4000000 in
set_option maxRecDepth 100000 in
theorem lw_c0 {p : Program} {e : Env} {s : State} {m : MethodId} {below : List Frame} {meth : Method} {c : Code} {Q : State → Prop} {G : th_G} {Γ : th_Ga} {ax am b L n : Nat} {xs : Nat → Int32} {ls : Array Slot} (l : Launch) (hE : lw_E p s m c b L xs G Γ ax am) (hL : L ≤ 384) (hn : n + 6 ≤ L) (hl : lv_has ls 4 [(3, .int (nI n)), (2, .ref am), (1, .ref ax), (0, .ref b)]) (hk : dv_U Γ ∧ lw_AR Γ ax ∧ Γ (ax + 78) = (27, 0) ∧ ∀ x y : Int, th_pm G x y) {u : Nat} {H : Heap} {locs : List Loc} (hJ : lw_J G Γ am s H locs u) (hq : RR (lw_A ax) (am : Int) (dv G Γ H) (dv G Γ H)) {t : Int} (hr : lx_rd G Γ ax t H) (ht : t + 100 + 100 < 2147483647) (kk : ∀ (u1 : Nat) (H1 : Heap) (locs1 : List Loc), lw_J G Γ am s H1 locs1 u1 → RR (lw_A ax) (am : Int) (dv G Γ H1) (dv G Γ H1) → lx_rd G Γ ax (t + 100) H1 → W p l e room_1 s m #[Value.ref b] below meth c H1 locs1 (600000 - th_pc u1) (7302250 - th_pq u1) Q (F0 m 1239 ls [])) : W p l e room_1 s m #[Value.ref b] below meth c H locs (600000 - th_pc u) (7302250 - th_pq u) Q (F0 m 220 ls []) := by
  have hx := hE.1.1
  have hb := hE.1.2.1
  have hax := hE.2.2.2.2.2.1
  have ham := hE.2.2.2.2.2.2.1
  have hU := hk.1
  have hA := hk.2.1
  have hsa := hk.2.2.1
  have hPT := hk.2.2.2
  refine lv_aload_n hx hb dL_law_220 rfl (lv_at hl 2 rfl) ?_
  refine lw_ld (pc := 221) (kn := 1) (pc' := 226) hE hJ.2.2.2 hl hn hL dL_law_221 rfl dL_law_222 rfl dL_law_223 (by decide) (by decide) rfl dL_law_224 rfl dL_law_225 rfl ?_
  refine lw_ld (pc := 226) (kn := 2) (pc' := 231) hE hJ.2.2.2 hl hn hL dL_law_226 rfl dL_law_227 rfl dL_law_228 (by decide) (by decide) rfl dL_law_229 rfl dL_law_230 rfl ?_
  refine lw_ld (pc := 231) (kn := 3) (pc' := 236) hE hJ.2.2.2 hl hn hL dL_law_231 rfl dL_law_232 rfl dL_law_233 (by decide) (by decide) rfl dL_law_234 rfl dL_law_235 rfl ?_
  refine lw_call (pc' := 239) (k := 1) (P := (fun w K => ∃ r : Int32, w = .int r ∧ f_X11_carpet (dv G Γ H) (ax : Int) (xs (n + 1)).toInt (xs (n + 2)).toInt (xs (n + 3)).toInt = ((dv G Γ K), r.toInt) ∧ wf (am : Int) nW (dv G Γ H) (dv G Γ K) ∧ lx_rd G Γ ax (t + 100) K)) hJ (th_runV (As := [.int (xs (n + 1)), .int (xs (n + 2)), .int (xs (n + 3))]) (rest := []) hE.1 mf_X11_carpet kl_13 im_X11_carpet se_X11_carpet (c_X11_carpet l G Γ H hJ.1 hJ.2.1.1 hU ax hax (xs (n + 1)) (xs (n + 2)) (xs (n + 3))) rfl rfl ⟨Nat.le_of_ble_eq_true rfl, Nat.le_of_ble_eq_true rfl⟩ hJ.1 hax ro_42 rfl rfl hl.1 rfl (Nat.le_of_ble_eq_true rfl) dL_law_236 ⟨lw_f1 _, lw_f2 _⟩) (fun v K hp => by obtain ⟨r, rfl, hI1, hF1, hR1, hf1⟩ := hp; exact ⟨_, rfl, rfl, hI1, th_RN_c hR1 hJ.2.1 hI1 ham hF1 (by decide), th_bits_F hF1 hJ.2.2.1 (by decide), ⟨r, rfl, hf1, lw_wf hJ.1 hI1 hF1 ham (by decide +kernel), lx_rdF hJ.1 hI1 hF1 hax hsa (by decide) (by omega) hr⟩⟩) rfl (fun w1 H1 locs hc1 hJ1 hP1 => ?_)
  obtain ⟨r1, rfl, e1, g1, d1⟩ := hP1
  have hr1 := d1
  refine lv_pop hx hb dL_law_239 hc1 ?_
  refine lv_aload_n hx hb dL_law_240 rfl (lv_at hl 1 rfl) ?_
  refine lw_ld (pc := 241) (kn := 1) (pc' := 246) hE hJ1.2.2.2 hl hn hL dL_law_241 rfl dL_law_242 rfl dL_law_243 (by decide) (by decide) rfl dL_law_244 rfl dL_law_245 rfl ?_
  refine lw_ld (pc := 246) (kn := 2) (pc' := 251) hE hJ1.2.2.2 hl hn hL dL_law_246 rfl dL_law_247 rfl dL_law_248 (by decide) (by decide) rfl dL_law_249 rfl dL_law_250 rfl ?_
  refine lw_ld (pc := 251) (kn := 3) (pc' := 256) hE hJ1.2.2.2 hl hn hL dL_law_251 rfl dL_law_252 rfl dL_law_253 (by decide) (by decide) rfl dL_law_254 rfl dL_law_255 rfl ?_
  refine lw_call (pc' := 259) (k := 1) (P := (fun w K => ∃ r : Int32, w = .int r ∧ f_X12_carpet (dv G Γ H1) (am : Int) (xs (n + 1)).toInt (xs (n + 2)).toInt (xs (n + 3)).toInt = ((dv G Γ K), r.toInt) ∧ cf (lw_A ax) nV (dv G Γ H1) (dv G Γ K) ∧ lx_rd G Γ ax (t + 100) K)) hJ1 (th_runV (As := [.int (xs (n + 1)), .int (xs (n + 2)), .int (xs (n + 3))]) (rest := []) hE.1 mf_X12_carpet kl_17 im_X12_carpet se_X12_carpet (c_X12_carpet l G Γ H1 hJ1.1 hU am ham hJ1.2.1 (xs (n + 1)) (xs (n + 2)) (xs (n + 3))) rfl rfl ⟨Nat.le_of_ble_eq_true rfl, Nat.le_of_ble_eq_true rfl⟩ hJ1.1 ham ro_46 rfl rfl hl.1 rfl (Nat.le_of_ble_eq_true rfl) dL_law_256 ⟨lw_f1 _, lw_f2 _⟩) (fun v K hp => by obtain ⟨r, rfl, hI1, hF1, hR1, hf1⟩ := hp; exact ⟨_, rfl, rfl, hI1, hR1, th_bits_F hF1 hJ1.2.2.1 (by decide), ⟨r, rfl, hf1, lw_cf hJ1.1 hI1 hF1 hA (by decide +kernel), lx_rdF hJ1.1 hI1 hF1 hax hsa (by decide) (by omega) hr1⟩⟩) rfl (fun w2 H2 locs hc2 hJ2 hP2 => ?_)
  obtain ⟨r2, rfl, e2, f2, d2⟩ := hP2
  refine lv_pop hx hb dL_law_259 hc2 ?_
  have hg := glue (r1 := r1.toInt) (r2 := r2.toInt) (fV := fun V => f_X11_carpet V (lw_A ax 0) (xs (n + 1)).toInt (xs (n + 2)).toInt (xs (n + 3)).toInt) (fW := fun V => f_X12_carpet V (am : Int) (xs (n + 1)).toInt (xs (n + 2)).toInt (xs (n + 3)).toInt) hq (fun V h => L_carpet h) (by rw [lw_A0]; exact e1) g1 e2 f2
  exact lv_goto (tgt := 1239) hx hb dL_law_260 (by decide) (kk u _ locs hJ2 hg.2 d2)

set_option maxHeartbeats 4000000 in
set_option maxRecDepth 100000 in
theorem lw_c1 {p : Program} {e : Env} {s : State} {m : MethodId} {below : List Frame} {meth : Method} {c : Code} {Q : State → Prop} {G : th_G} {Γ : th_Ga} {ax am b L n : Nat} {xs : Nat → Int32} {ls : Array Slot} (l : Launch) (hE : lw_E p s m c b L xs G Γ ax am) (hL : L ≤ 384) (hn : n + 6 ≤ L) (hl : lv_has ls 4 [(3, .int (nI n)), (2, .ref am), (1, .ref ax), (0, .ref b)]) (hk : dv_U Γ ∧ lw_AR Γ ax ∧ Γ (ax + 78) = (27, 0) ∧ ∀ x y : Int, th_pm G x y) {u : Nat} {H : Heap} {locs : List Loc} (hJ : lw_J G Γ am s H locs u) (hq : RR (lw_A ax) (am : Int) (dv G Γ H) (dv G Γ H)) {t : Int} (hr : lx_rd G Γ ax t H) (ht : t + 100 + 100 < 2147483647) (kk : ∀ (u1 : Nat) (H1 : Heap) (locs1 : List Loc), lw_J G Γ am s H1 locs1 u1 → RR (lw_A ax) (am : Int) (dv G Γ H1) (dv G Γ H1) → lx_rd G Γ ax (t + 100) H1 → W p l e room_1 s m #[Value.ref b] below meth c H1 locs1 (600000 - th_pc u1) (7302250 - th_pq u1) Q (F0 m 1239 ls [])) : W p l e room_1 s m #[Value.ref b] below meth c H locs (600000 - th_pc u) (7302250 - th_pq u) Q (F0 m 263 ls []) := by
  have hx := hE.1.1
  have hb := hE.1.2.1
  have hax := hE.2.2.2.2.2.1
  have ham := hE.2.2.2.2.2.2.1
  have hU := hk.1
  have hA := hk.2.1
  have hsa := hk.2.2.1
  have hPT := hk.2.2.2
  refine lv_aload_n hx hb dL_law_263 rfl (lv_at hl 2 rfl) ?_
  refine lw_ld (pc := 264) (kn := 1) (pc' := 269) hE hJ.2.2.2 hl hn hL dL_law_264 rfl dL_law_265 rfl dL_law_266 (by decide) (by decide) rfl dL_law_267 rfl dL_law_268 rfl ?_
  refine lw_ld (pc := 269) (kn := 2) (pc' := 274) hE hJ.2.2.2 hl hn hL dL_law_269 rfl dL_law_270 rfl dL_law_271 (by decide) (by decide) rfl dL_law_272 rfl dL_law_273 rfl ?_
  refine lw_call (pc' := 277) (k := 1) (P := (fun w K => ∃ r : Int32, w = .int r ∧ f_X11_of (dv G Γ H) (ax : Int) (xs (n + 1)).toInt (xs (n + 2)).toInt = ((dv G Γ K), r.toInt) ∧ wf (am : Int) nW (dv G Γ H) (dv G Γ K) ∧ lx_rd G Γ ax (t + 100) K)) hJ (th_runV (As := [.int (xs (n + 1)), .int (xs (n + 2))]) (rest := []) hE.1 mf_X11_of kl_18 im_X11_of se_X11_of (c_X11_of l G Γ H hJ.1 hJ.2.1.1 hU ax hax (xs (n + 1)) (xs (n + 2))) rfl rfl ⟨Nat.le_of_ble_eq_true rfl, Nat.le_of_ble_eq_true rfl⟩ hJ.1 hax ro_42 rfl rfl hl.1 rfl (Nat.le_of_ble_eq_true rfl) dL_law_274 ⟨lw_f1 _, lw_f2 _⟩) (fun v K hp => by obtain ⟨r, rfl, hI1, hF1, hR1, hf1⟩ := hp; exact ⟨_, rfl, rfl, hI1, th_RN_c hR1 hJ.2.1 hI1 ham hF1 (by decide), th_bits_F hF1 hJ.2.2.1 (by decide), ⟨r, rfl, hf1, lw_wf hJ.1 hI1 hF1 ham (by decide +kernel), lx_rdF hJ.1 hI1 hF1 hax hsa (by decide) (by omega) hr⟩⟩) rfl (fun w1 H1 locs hc1 hJ1 hP1 => ?_)
  obtain ⟨r1, rfl, e1, g1, d1⟩ := hP1
  have hr1 := d1
  refine lv_pop hx hb dL_law_277 hc1 ?_
  refine lv_aload_n hx hb dL_law_278 rfl (lv_at hl 1 rfl) ?_
  refine lw_ld (pc := 279) (kn := 1) (pc' := 284) hE hJ1.2.2.2 hl hn hL dL_law_279 rfl dL_law_280 rfl dL_law_281 (by decide) (by decide) rfl dL_law_282 rfl dL_law_283 rfl ?_
  refine lw_ld (pc := 284) (kn := 2) (pc' := 289) hE hJ1.2.2.2 hl hn hL dL_law_284 rfl dL_law_285 rfl dL_law_286 (by decide) (by decide) rfl dL_law_287 rfl dL_law_288 rfl ?_
  refine lw_call (pc' := 292) (k := 1) (P := (fun w K => ∃ r : Int32, w = .int r ∧ f_X12_of (dv G Γ H1) (am : Int) (xs (n + 1)).toInt (xs (n + 2)).toInt = ((dv G Γ K), r.toInt) ∧ cf (lw_A ax) nV (dv G Γ H1) (dv G Γ K) ∧ lx_rd G Γ ax (t + 100) K)) hJ1 (th_runV (As := [.int (xs (n + 1)), .int (xs (n + 2))]) (rest := []) hE.1 mf_X12_of kl_22 im_X12_of se_X12_of (c_X12_of l G Γ H1 hJ1.1 hU am ham (th_NE hJ1.2.1) (xs (n + 1)) (xs (n + 2))) rfl rfl ⟨Nat.le_of_ble_eq_true rfl, Nat.le_of_ble_eq_true rfl⟩ hJ1.1 ham ro_46 rfl rfl hl.1 rfl (Nat.le_of_ble_eq_true rfl) dL_law_289 ⟨lw_f1 _, lw_f2 _⟩) (fun v K hp => by obtain ⟨r, rfl, hI1, hF1, hR1, hf1⟩ := hp; exact ⟨_, rfl, rfl, hI1, th_RN_c hR1.1 hJ1.2.1 hI1 ham hF1 (by decide), th_bits_F hF1 hJ1.2.2.1 (by decide), ⟨r, rfl, hf1, lw_cf hJ1.1 hI1 hF1 hA (by decide +kernel), lx_rdF hJ1.1 hI1 hF1 hax hsa (by decide) (by omega) hr1⟩⟩) rfl (fun w2 H2 locs hc2 hJ2 hP2 => ?_)
  obtain ⟨r2, rfl, e2, f2, d2⟩ := hP2
  refine lv_pop hx hb dL_law_292 hc2 ?_
  have hg := glue (r1 := r1.toInt) (r2 := r2.toInt) (fV := fun V => f_X11_of V (lw_A ax 0) (xs (n + 1)).toInt (xs (n + 2)).toInt) (fW := fun V => f_X12_of V (am : Int) (xs (n + 1)).toInt (xs (n + 2)).toInt) hq (fun V h => L_of h) (by rw [lw_A0]; exact e1) g1 e2 f2
  exact lv_goto (tgt := 1239) hx hb dL_law_293 (by decide) (kk u _ locs hJ2 hg.2 d2)

set_option maxHeartbeats 4000000 in
set_option maxRecDepth 100000 in
theorem lw_c2 {p : Program} {e : Env} {s : State} {m : MethodId} {below : List Frame} {meth : Method} {c : Code} {Q : State → Prop} {G : th_G} {Γ : th_Ga} {ax am b L n : Nat} {xs : Nat → Int32} {ls : Array Slot} (l : Launch) (hE : lw_E p s m c b L xs G Γ ax am) (hL : L ≤ 384) (hn : n + 6 ≤ L) (hl : lv_has ls 4 [(3, .int (nI n)), (2, .ref am), (1, .ref ax), (0, .ref b)]) (hk : dv_U Γ ∧ lw_AR Γ ax ∧ Γ (ax + 78) = (27, 0) ∧ ∀ x y : Int, th_pm G x y) {u : Nat} {H : Heap} {locs : List Loc} (hJ : lw_J G Γ am s H locs u) (hq : RR (lw_A ax) (am : Int) (dv G Γ H) (dv G Γ H)) {t : Int} (hr : lx_rd G Γ ax t H) (ht : t + 100 + 100 < 2147483647) (kk : ∀ (u1 : Nat) (H1 : Heap) (locs1 : List Loc), lw_J G Γ am s H1 locs1 u1 → RR (lw_A ax) (am : Int) (dv G Γ H1) (dv G Γ H1) → lx_rd G Γ ax (t + 100) H1 → W p l e room_1 s m #[Value.ref b] below meth c H1 locs1 (600000 - th_pc u1) (7302250 - th_pq u1) Q (F0 m 1239 ls [])) : W p l e room_1 s m #[Value.ref b] below meth c H locs (600000 - th_pc u) (7302250 - th_pq u) Q (F0 m 296 ls []) := by
  have hx := hE.1.1
  have hb := hE.1.2.1
  have hax := hE.2.2.2.2.2.1
  have ham := hE.2.2.2.2.2.2.1
  have hU := hk.1
  have hA := hk.2.1
  have hsa := hk.2.2.1
  have hPT := hk.2.2.2
  refine lv_aload_n hx hb dL_law_296 rfl (lv_at hl 2 rfl) ?_
  refine lw_ld (pc := 297) (kn := 1) (pc' := 302) hE hJ.2.2.2 hl hn hL dL_law_297 rfl dL_law_298 rfl dL_law_299 (by decide) (by decide) rfl dL_law_300 rfl dL_law_301 rfl ?_
  refine lw_ld (pc := 302) (kn := 2) (pc' := 307) hE hJ.2.2.2 hl hn hL dL_law_302 rfl dL_law_303 rfl dL_law_304 (by decide) (by decide) rfl dL_law_305 rfl dL_law_306 rfl ?_
  refine lw_call (pc' := 310) (k := 1) (P := (fun w K => ∃ r : Int32, w = .int r ∧ f_X11_hall (dv G Γ H) (ax : Int) (xs (n + 1)).toInt (xs (n + 2)).toInt = ((dv G Γ K), r.toInt) ∧ wf (am : Int) nW (dv G Γ H) (dv G Γ K) ∧ lx_rd G Γ ax (t + 100) K)) hJ (th_runV (As := [.int (xs (n + 1)), .int (xs (n + 2))]) (rest := []) hE.1 mf_X11_hall kl_23 im_X11_hall se_X11_hall (c_X11_hall l G Γ H hJ.1 hJ.2.1.1 hU ax hax (xs (n + 1)) (xs (n + 2))) rfl rfl ⟨Nat.le_of_ble_eq_true rfl, Nat.le_of_ble_eq_true rfl⟩ hJ.1 hax ro_42 rfl rfl hl.1 rfl (Nat.le_of_ble_eq_true rfl) dL_law_307 ⟨lw_f1 _, lw_f2 _⟩) (fun v K hp => by obtain ⟨r, rfl, hI1, hF1, hR1, hf1⟩ := hp; exact ⟨_, rfl, rfl, hI1, th_RN_c hR1 hJ.2.1 hI1 ham hF1 (by decide), th_bits_F hF1 hJ.2.2.1 (by decide), ⟨r, rfl, hf1, lw_wf hJ.1 hI1 hF1 ham (by decide +kernel), lx_rdF hJ.1 hI1 hF1 hax hsa (by decide) (by omega) hr⟩⟩) rfl (fun w1 H1 locs hc1 hJ1 hP1 => ?_)
  obtain ⟨r1, rfl, e1, g1, d1⟩ := hP1
  have hr1 := d1
  refine lv_pop hx hb dL_law_310 hc1 ?_
  refine lv_aload_n hx hb dL_law_311 rfl (lv_at hl 1 rfl) ?_
  refine lw_ld (pc := 312) (kn := 1) (pc' := 317) hE hJ1.2.2.2 hl hn hL dL_law_312 rfl dL_law_313 rfl dL_law_314 (by decide) (by decide) rfl dL_law_315 rfl dL_law_316 rfl ?_
  refine lw_ld (pc := 317) (kn := 2) (pc' := 322) hE hJ1.2.2.2 hl hn hL dL_law_317 rfl dL_law_318 rfl dL_law_319 (by decide) (by decide) rfl dL_law_320 rfl dL_law_321 rfl ?_
  refine lw_call (pc' := 325) (k := 1) (P := (fun w K => ∃ r : Int32, w = .int r ∧ f_X12_hall (dv G Γ H1) (am : Int) (xs (n + 1)).toInt (xs (n + 2)).toInt = ((dv G Γ K), r.toInt) ∧ cf (lw_A ax) nV (dv G Γ H1) (dv G Γ K) ∧ lx_rd G Γ ax (t + 100) K)) hJ1 (th_runV (As := [.int (xs (n + 1)), .int (xs (n + 2))]) (rest := []) hE.1 mf_X12_hall kl_26 im_X12_hall se_X12_hall (c_X12_hall l G Γ H1 hJ1.1 hU am ham hJ1.2.1 (xs (n + 1)) (xs (n + 2))) rfl rfl ⟨Nat.le_of_ble_eq_true rfl, Nat.le_of_ble_eq_true rfl⟩ hJ1.1 ham ro_46 rfl rfl hl.1 rfl (Nat.le_of_ble_eq_true rfl) dL_law_322 ⟨lw_f1 _, lw_f2 _⟩) (fun v K hp => by obtain ⟨r, rfl, hI1, hF1, hR1, hf1⟩ := hp; exact ⟨_, rfl, rfl, hI1, hR1, th_bits_F hF1 hJ1.2.2.1 (by decide), ⟨r, rfl, hf1, lw_cf hJ1.1 hI1 hF1 hA (by decide +kernel), lx_rdF hJ1.1 hI1 hF1 hax hsa (by decide) (by omega) hr1⟩⟩) rfl (fun w2 H2 locs hc2 hJ2 hP2 => ?_)
  obtain ⟨r2, rfl, e2, f2, d2⟩ := hP2
  refine lv_pop hx hb dL_law_325 hc2 ?_
  have hg := glue (r1 := r1.toInt) (r2 := r2.toInt) (fV := fun V => f_X11_hall V (lw_A ax 0) (xs (n + 1)).toInt (xs (n + 2)).toInt) (fW := fun V => f_X12_hall V (am : Int) (xs (n + 1)).toInt (xs (n + 2)).toInt) hq (fun V h => L_hall h) (by rw [lw_A0]; exact e1) g1 e2 f2
  exact lv_goto (tgt := 1239) hx hb dL_law_326 (by decide) (kk u _ locs hJ2 hg.2 d2)

set_option maxHeartbeats 4000000 in
set_option maxRecDepth 100000 in
theorem lw_c3 {p : Program} {e : Env} {s : State} {m : MethodId} {below : List Frame} {meth : Method} {c : Code} {Q : State → Prop} {G : th_G} {Γ : th_Ga} {ax am b L n : Nat} {xs : Nat → Int32} {ls : Array Slot} (l : Launch) (hE : lw_E p s m c b L xs G Γ ax am) (hL : L ≤ 384) (hn : n + 6 ≤ L) (hl : lv_has ls 4 [(3, .int (nI n)), (2, .ref am), (1, .ref ax), (0, .ref b)]) (hk : dv_U Γ ∧ lw_AR Γ ax ∧ Γ (ax + 78) = (27, 0) ∧ ∀ x y : Int, th_pm G x y) {u : Nat} {H : Heap} {locs : List Loc} (hJ : lw_J G Γ am s H locs u) (hq : RR (lw_A ax) (am : Int) (dv G Γ H) (dv G Γ H)) {t : Int} (hr : lx_rd G Γ ax t H) (ht : t + 100 + 100 < 2147483647) (kk : ∀ (u1 : Nat) (H1 : Heap) (locs1 : List Loc), lw_J G Γ am s H1 locs1 u1 → RR (lw_A ax) (am : Int) (dv G Γ H1) (dv G Γ H1) → lx_rd G Γ ax (t + 100) H1 → W p l e room_1 s m #[Value.ref b] below meth c H1 locs1 (600000 - th_pc u1) (7302250 - th_pq u1) Q (F0 m 1239 ls [])) : W p l e room_1 s m #[Value.ref b] below meth c H locs (600000 - th_pc u) (7302250 - th_pq u) Q (F0 m 329 ls []) := by
  have hx := hE.1.1
  have hb := hE.1.2.1
  have hax := hE.2.2.2.2.2.1
  have ham := hE.2.2.2.2.2.2.1
  have hU := hk.1
  have hA := hk.2.1
  have hsa := hk.2.2.1
  have hPT := hk.2.2.2
  refine lv_aload_n hx hb dL_law_329 rfl (lv_at hl 2 rfl) ?_
  refine lw_ld (pc := 330) (kn := 1) (pc' := 335) hE hJ.2.2.2 hl hn hL dL_law_330 rfl dL_law_331 rfl dL_law_332 (by decide) (by decide) rfl dL_law_333 rfl dL_law_334 rfl ?_
  refine lw_ld (pc := 335) (kn := 2) (pc' := 340) hE hJ.2.2.2 hl hn hL dL_law_335 rfl dL_law_336 rfl dL_law_337 (by decide) (by decide) rfl dL_law_338 rfl dL_law_339 rfl ?_
  refine lw_call (pc' := 343) (k := 1) (P := (fun w K => ∃ r : Int32, w = .int r ∧ f_X11_at (dv G Γ H) (ax : Int) (xs (n + 1)).toInt (xs (n + 2)).toInt = (r.toInt, ()) ∧ H = K)) hJ (th_runV (As := [.int (xs (n + 1)), .int (xs (n + 2))]) (rest := []) hE.1 mf_X11_at kl_27 im_X11_at se_X11_at (c_X11_at l G Γ H hJ.1 hU ax hax (xs (n + 1)) (xs (n + 2))) rfl rfl ⟨Nat.le_of_ble_eq_true rfl, Nat.le_of_ble_eq_true rfl⟩ hJ.1 hax ro_42 rfl rfl hl.1 rfl (Nat.le_of_ble_eq_true rfl) dL_law_340 ⟨lw_f1 _, lw_f2 _⟩) (fun v K hp => by obtain ⟨r, rfl, hf1, rfl⟩ := hp; exact ⟨_, rfl, rfl, hJ.1, hJ.2.1, hJ.2.2.1, ⟨r, rfl, hf1, rfl⟩⟩) rfl (fun w1 H1 locs hc1 hJ1 hP1 => ?_)
  obtain ⟨r1, rfl, e1, eK1⟩ := hP1
  have hr1 := lx_rdm hr (show t ≤ t + 100 by omega)
  rw [eK1] at e1 hq hr1
  refine lv_pop hx hb dL_law_343 hc1 ?_
  refine lv_aload_n hx hb dL_law_344 rfl (lv_at hl 1 rfl) ?_
  refine lw_ld (pc := 345) (kn := 1) (pc' := 350) hE hJ1.2.2.2 hl hn hL dL_law_345 rfl dL_law_346 rfl dL_law_347 (by decide) (by decide) rfl dL_law_348 rfl dL_law_349 rfl ?_
  refine lw_ld (pc := 350) (kn := 2) (pc' := 355) hE hJ1.2.2.2 hl hn hL dL_law_350 rfl dL_law_351 rfl dL_law_352 (by decide) (by decide) rfl dL_law_353 rfl dL_law_354 rfl ?_
  refine lw_call (pc' := 358) (k := 1) (P := (fun w K => ∃ r : Int32, w = .int r ∧ f_X12_at (dv G Γ H1) (am : Int) (xs (n + 1)).toInt (xs (n + 2)).toInt = (r.toInt, ()) ∧ H1 = K)) hJ1 (th_runV (As := [.int (xs (n + 1)), .int (xs (n + 2))]) (rest := []) hE.1 mf_X12_at kl_30 im_X12_at se_X12_at (c_X12_at l G Γ H1 hJ1.1 hU am ham (xs (n + 1)) (xs (n + 2))) rfl rfl ⟨Nat.le_of_ble_eq_true rfl, Nat.le_of_ble_eq_true rfl⟩ hJ1.1 ham ro_46 rfl rfl hl.1 rfl (Nat.le_of_ble_eq_true rfl) dL_law_355 ⟨lw_f1 _, lw_f2 _⟩) (fun v K hp => by obtain ⟨r, rfl, -, -, hf1, rfl⟩ := hp; exact ⟨_, rfl, rfl, hJ1.1, hJ1.2.1, hJ1.2.2.1, ⟨r, rfl, hf1, rfl⟩⟩) rfl (fun w2 H2 locs hc2 hJ2 hP2 => ?_)
  obtain ⟨r2, rfl, e2, eK2⟩ := hP2
  refine lv_pop hx hb dL_law_358 hc2 ?_
  rw [eK2] at hq hr1
  exact lv_goto (tgt := 1239) hx hb dL_law_359 (by decide) (kk u _ locs hJ2 hq hr1)

set_option maxHeartbeats 4000000 in
set_option maxRecDepth 100000 in
theorem lw_c4 {p : Program} {e : Env} {s : State} {m : MethodId} {below : List Frame} {meth : Method} {c : Code} {Q : State → Prop} {G : th_G} {Γ : th_Ga} {ax am b L n : Nat} {xs : Nat → Int32} {ls : Array Slot} (l : Launch) (hE : lw_E p s m c b L xs G Γ ax am) (hL : L ≤ 384) (hn : n + 6 ≤ L) (hl : lv_has ls 4 [(3, .int (nI n)), (2, .ref am), (1, .ref ax), (0, .ref b)]) (hk : dv_U Γ ∧ lw_AR Γ ax ∧ Γ (ax + 78) = (27, 0) ∧ ∀ x y : Int, th_pm G x y) {u : Nat} {H : Heap} {locs : List Loc} (hJ : lw_J G Γ am s H locs u) (hq : RR (lw_A ax) (am : Int) (dv G Γ H) (dv G Γ H)) {t : Int} (hr : lx_rd G Γ ax t H) (ht : t + 100 + 100 < 2147483647) (kk : ∀ (u1 : Nat) (H1 : Heap) (locs1 : List Loc), lw_J G Γ am s H1 locs1 u1 → RR (lw_A ax) (am : Int) (dv G Γ H1) (dv G Γ H1) → lx_rd G Γ ax (t + 100) H1 → W p l e room_1 s m #[Value.ref b] below meth c H1 locs1 (600000 - th_pc u1) (7302250 - th_pq u1) Q (F0 m 1239 ls [])) : W p l e room_1 s m #[Value.ref b] below meth c H locs (600000 - th_pc u) (7302250 - th_pq u) Q (F0 m 362 ls []) := by
  have hx := hE.1.1
  have hb := hE.1.2.1
  have hax := hE.2.2.2.2.2.1
  have ham := hE.2.2.2.2.2.2.1
  have hU := hk.1
  have hA := hk.2.1
  have hsa := hk.2.2.1
  have hPT := hk.2.2.2
  refine lv_aload_n hx hb dL_law_362 rfl (lv_at hl 2 rfl) ?_
  refine lw_ld (pc := 363) (kn := 1) (pc' := 368) hE hJ.2.2.2 hl hn hL dL_law_363 rfl dL_law_364 rfl dL_law_365 (by decide) (by decide) rfl dL_law_366 rfl dL_law_367 rfl ?_
  refine lw_ld (pc := 368) (kn := 2) (pc' := 373) hE hJ.2.2.2 hl hn hL dL_law_368 rfl dL_law_369 rfl dL_law_370 (by decide) (by decide) rfl dL_law_371 rfl dL_law_372 rfl ?_
  refine lw_ld (pc := 373) (kn := 3) (pc' := 378) hE hJ.2.2.2 hl hn hL dL_law_373 rfl dL_law_374 rfl dL_law_375 (by decide) (by decide) rfl dL_law_376 rfl dL_law_377 rfl ?_
  refine lw_ld (pc := 378) (kn := 4) (pc' := 383) hE hJ.2.2.2 hl hn hL dL_law_378 rfl dL_law_379 rfl dL_law_380 (by decide) (by decide) rfl dL_law_381 rfl dL_law_382 rfl ?_
  refine lw_call (pc' := 386) (k := 1) (P := (fun w K => ∃ r : Int32, w = .int r ∧ f_X11_asks (dv G Γ H) (ax : Int) (xs (n + 1)).toInt (xs (n + 2)).toInt (xs (n + 3)).toInt (xs (n + 4)).toInt = ((dv G Γ K), r.toInt) ∧ wf (am : Int) nW (dv G Γ H) (dv G Γ K) ∧ lx_rd G Γ ax (t + 100) K)) hJ (th_runV (As := [.int (xs (n + 1)), .int (xs (n + 2)), .int (xs (n + 3)), .int (xs (n + 4))]) (rest := []) hE.1 mf_X11_asks kl_31 im_X11_asks se_X11_asks (c_X11_asks l G Γ H hJ.1 hJ.2.1.1 hU ax hax (xs (n + 1)) (xs (n + 2)) (xs (n + 3)) (xs (n + 4))) rfl rfl ⟨Nat.le_of_ble_eq_true rfl, Nat.le_of_ble_eq_true rfl⟩ hJ.1 hax ro_42 rfl rfl hl.1 rfl (Nat.le_of_ble_eq_true rfl) dL_law_383 ⟨lw_f1 _, lw_f2 _⟩) (fun v K hp => by obtain ⟨r, rfl, hI1, hF1, hR1, hf1⟩ := hp; exact ⟨_, rfl, rfl, hI1, th_RN_c hR1 hJ.2.1 hI1 ham hF1 (by decide), th_bits_F hF1 hJ.2.2.1 (by decide), ⟨r, rfl, hf1, lw_wf hJ.1 hI1 hF1 ham (by decide +kernel), lx_rdF hJ.1 hI1 hF1 hax hsa (by decide) (by omega) hr⟩⟩) rfl (fun w1 H1 locs hc1 hJ1 hP1 => ?_)
  obtain ⟨r1, rfl, e1, g1, d1⟩ := hP1
  have hr1 := d1
  refine lv_pop hx hb dL_law_386 hc1 ?_
  refine lv_aload_n hx hb dL_law_387 rfl (lv_at hl 1 rfl) ?_
  refine lw_ld (pc := 388) (kn := 1) (pc' := 393) hE hJ1.2.2.2 hl hn hL dL_law_388 rfl dL_law_389 rfl dL_law_390 (by decide) (by decide) rfl dL_law_391 rfl dL_law_392 rfl ?_
  refine lw_ld (pc := 393) (kn := 2) (pc' := 398) hE hJ1.2.2.2 hl hn hL dL_law_393 rfl dL_law_394 rfl dL_law_395 (by decide) (by decide) rfl dL_law_396 rfl dL_law_397 rfl ?_
  refine lw_ld (pc := 398) (kn := 3) (pc' := 403) hE hJ1.2.2.2 hl hn hL dL_law_398 rfl dL_law_399 rfl dL_law_400 (by decide) (by decide) rfl dL_law_401 rfl dL_law_402 rfl ?_
  refine lw_ld (pc := 403) (kn := 4) (pc' := 408) hE hJ1.2.2.2 hl hn hL dL_law_403 rfl dL_law_404 rfl dL_law_405 (by decide) (by decide) rfl dL_law_406 rfl dL_law_407 rfl ?_
  refine lw_call (pc' := 411) (k := 1) (P := (fun w K => ∃ r : Int32, w = .int r ∧ f_X12_asks (dv G Γ H1) (am : Int) (xs (n + 1)).toInt (xs (n + 2)).toInt (xs (n + 3)).toInt (xs (n + 4)).toInt = ((dv G Γ K), r.toInt) ∧ cf (lw_A ax) nV (dv G Γ H1) (dv G Γ K) ∧ lx_rd G Γ ax (t + 100) K)) hJ1 (th_runV (As := [.int (xs (n + 1)), .int (xs (n + 2)), .int (xs (n + 3)), .int (xs (n + 4))]) (rest := []) hE.1 mf_X12_asks kl_35 im_X12_asks se_X12_asks (c_X12_asks l G Γ H1 hJ1.1 hU am ham (th_NK hJ1.2.1) (xs (n + 1)) (xs (n + 2)) (xs (n + 3)) (xs (n + 4))) rfl rfl ⟨Nat.le_of_ble_eq_true rfl, Nat.le_of_ble_eq_true rfl⟩ hJ1.1 ham ro_46 rfl rfl hl.1 rfl (Nat.le_of_ble_eq_true rfl) dL_law_408 ⟨lw_f1 _, lw_f2 _⟩) (fun v K hp => by obtain ⟨r, rfl, hI1, hF1, hR1, hf1⟩ := hp; exact ⟨_, rfl, rfl, hI1, th_RN_c hR1.1 hJ1.2.1 hI1 ham hF1 (by decide), th_bits_F hF1 hJ1.2.2.1 (by decide), ⟨r, rfl, hf1, lw_cf hJ1.1 hI1 hF1 hA (by decide +kernel), lx_rdF hJ1.1 hI1 hF1 hax hsa (by decide) (by omega) hr1⟩⟩) rfl (fun w2 H2 locs hc2 hJ2 hP2 => ?_)
  obtain ⟨r2, rfl, e2, f2, d2⟩ := hP2
  refine lv_pop hx hb dL_law_411 hc2 ?_
  have hg := glue (r1 := r1.toInt) (r2 := r2.toInt) (fV := fun V => f_X11_asks V (lw_A ax 0) (xs (n + 1)).toInt (xs (n + 2)).toInt (xs (n + 3)).toInt (xs (n + 4)).toInt) (fW := fun V => f_X12_asks V (am : Int) (xs (n + 1)).toInt (xs (n + 2)).toInt (xs (n + 3)).toInt (xs (n + 4)).toInt) hq (fun V h => L_asks h) (by rw [lw_A0]; exact e1) g1 e2 f2
  exact lv_goto (tgt := 1239) hx hb dL_law_412 (by decide) (kk u _ locs hJ2 hg.2 d2)

set_option maxHeartbeats 4000000 in
set_option maxRecDepth 100000 in
theorem lw_c5 {p : Program} {e : Env} {s : State} {m : MethodId} {below : List Frame} {meth : Method} {c : Code} {Q : State → Prop} {G : th_G} {Γ : th_Ga} {ax am b L n : Nat} {xs : Nat → Int32} {ls : Array Slot} (l : Launch) (hE : lw_E p s m c b L xs G Γ ax am) (hL : L ≤ 384) (hn : n + 6 ≤ L) (hl : lv_has ls 4 [(3, .int (nI n)), (2, .ref am), (1, .ref ax), (0, .ref b)]) (hk : dv_U Γ ∧ lw_AR Γ ax ∧ Γ (ax + 78) = (27, 0) ∧ ∀ x y : Int, th_pm G x y) {u : Nat} {H : Heap} {locs : List Loc} (hJ : lw_J G Γ am s H locs u) (hq : RR (lw_A ax) (am : Int) (dv G Γ H) (dv G Γ H)) {t : Int} (hr : lx_rd G Γ ax t H) (ht : t + 100 + 100 < 2147483647) (kk : ∀ (u1 : Nat) (H1 : Heap) (locs1 : List Loc), lw_J G Γ am s H1 locs1 u1 → RR (lw_A ax) (am : Int) (dv G Γ H1) (dv G Γ H1) → lx_rd G Γ ax (t + 100) H1 → W p l e room_1 s m #[Value.ref b] below meth c H1 locs1 (600000 - th_pc u1) (7302250 - th_pq u1) Q (F0 m 1239 ls [])) : W p l e room_1 s m #[Value.ref b] below meth c H locs (600000 - th_pc u) (7302250 - th_pq u) Q (F0 m 415 ls []) := by
  have hx := hE.1.1
  have hb := hE.1.2.1
  have hax := hE.2.2.2.2.2.1
  have ham := hE.2.2.2.2.2.2.1
  have hU := hk.1
  have hA := hk.2.1
  have hsa := hk.2.2.1
  have hPT := hk.2.2.2
  refine lv_aload_n hx hb dL_law_415 rfl (lv_at hl 2 rfl) ?_
  refine lw_ld (pc := 416) (kn := 1) (pc' := 421) hE hJ.2.2.2 hl hn hL dL_law_416 rfl dL_law_417 rfl dL_law_418 (by decide) (by decide) rfl dL_law_419 rfl dL_law_420 rfl ?_
  refine lw_ld (pc := 421) (kn := 2) (pc' := 426) hE hJ.2.2.2 hl hn hL dL_law_421 rfl dL_law_422 rfl dL_law_423 (by decide) (by decide) rfl dL_law_424 rfl dL_law_425 rfl ?_
  refine lw_call (pc' := 429) (k := 1) (P := (fun w K => ∃ r : Int32, w = .int r ∧ f_X11_terms (dv G Γ H) (ax : Int) (xs (n + 1)).toInt (xs (n + 2)).toInt = ((dv G Γ K), r.toInt) ∧ wf (am : Int) nW (dv G Γ H) (dv G Γ K) ∧ lx_rd G Γ ax (t + 100) K)) hJ (th_runV (As := [.int (xs (n + 1)), .int (xs (n + 2))]) (rest := []) hE.1 mf_X11_terms kl_36 im_X11_terms se_X11_terms (c_X11_terms l G Γ H hJ.1 hJ.2.1.1 hU ax hax (xs (n + 1)) (xs (n + 2))) rfl rfl ⟨Nat.le_of_ble_eq_true rfl, Nat.le_of_ble_eq_true rfl⟩ hJ.1 hax ro_42 rfl rfl hl.1 rfl (Nat.le_of_ble_eq_true rfl) dL_law_426 ⟨lw_f1 _, lw_f2 _⟩) (fun v K hp => by obtain ⟨r, rfl, hI1, hF1, hR1, hf1⟩ := hp; exact ⟨_, rfl, rfl, hI1, th_RN_c hR1 hJ.2.1 hI1 ham hF1 (by decide), th_bits_F hF1 hJ.2.2.1 (by decide), ⟨r, rfl, hf1, lw_wf hJ.1 hI1 hF1 ham (by decide +kernel), lx_rdF hJ.1 hI1 hF1 hax hsa (by decide) (by omega) hr⟩⟩) rfl (fun w1 H1 locs hc1 hJ1 hP1 => ?_)
  obtain ⟨r1, rfl, e1, g1, d1⟩ := hP1
  have hr1 := d1
  refine lv_pop hx hb dL_law_429 hc1 ?_
  refine lv_aload_n hx hb dL_law_430 rfl (lv_at hl 1 rfl) ?_
  refine lw_ld (pc := 431) (kn := 1) (pc' := 436) hE hJ1.2.2.2 hl hn hL dL_law_431 rfl dL_law_432 rfl dL_law_433 (by decide) (by decide) rfl dL_law_434 rfl dL_law_435 rfl ?_
  refine lw_ld (pc := 436) (kn := 2) (pc' := 441) hE hJ1.2.2.2 hl hn hL dL_law_436 rfl dL_law_437 rfl dL_law_438 (by decide) (by decide) rfl dL_law_439 rfl dL_law_440 rfl ?_
  refine lw_call (pc' := 444) (k := 1) (P := (fun w K => ∃ r : Int32, w = .int r ∧ f_X12_terms (dv G Γ H1) (am : Int) (xs (n + 1)).toInt (xs (n + 2)).toInt = ((dv G Γ K), r.toInt) ∧ cf (lw_A ax) nV (dv G Γ H1) (dv G Γ K) ∧ lx_rd G Γ ax (t + 100) K)) hJ1 (th_runV (As := [.int (xs (n + 1)), .int (xs (n + 2))]) (rest := []) hE.1 mf_X12_terms kl_39 im_X12_terms se_X12_terms (c_X12_terms l G Γ H1 hJ1.1 hU am ham hJ1.2.1 (xs (n + 1)) (xs (n + 2))) rfl rfl ⟨Nat.le_of_ble_eq_true rfl, Nat.le_of_ble_eq_true rfl⟩ hJ1.1 ham ro_46 rfl rfl hl.1 rfl (Nat.le_of_ble_eq_true rfl) dL_law_441 ⟨lw_f1 _, lw_f2 _⟩) (fun v K hp => by obtain ⟨r, rfl, hI1, hF1, hR1, hf1⟩ := hp; exact ⟨_, rfl, rfl, hI1, hR1, th_bits_F hF1 hJ1.2.2.1 (by decide), ⟨r, rfl, hf1, lw_cf hJ1.1 hI1 hF1 hA (by decide +kernel), lx_rdF hJ1.1 hI1 hF1 hax hsa (by decide) (by omega) hr1⟩⟩) rfl (fun w2 H2 locs hc2 hJ2 hP2 => ?_)
  obtain ⟨r2, rfl, e2, f2, d2⟩ := hP2
  refine lv_pop hx hb dL_law_444 hc2 ?_
  have hg := glue (r1 := r1.toInt) (r2 := r2.toInt) (fV := fun V => f_X11_terms V (lw_A ax 0) (xs (n + 1)).toInt (xs (n + 2)).toInt) (fW := fun V => f_X12_terms V (am : Int) (xs (n + 1)).toInt (xs (n + 2)).toInt) hq (fun V h => L_terms h) (by rw [lw_A0]; exact e1) g1 e2 f2
  exact lv_goto (tgt := 1239) hx hb dL_law_445 (by decide) (kk u _ locs hJ2 hg.2 d2)

set_option maxHeartbeats 4000000 in
set_option maxRecDepth 100000 in
theorem lw_c6 {p : Program} {e : Env} {s : State} {m : MethodId} {below : List Frame} {meth : Method} {c : Code} {Q : State → Prop} {G : th_G} {Γ : th_Ga} {ax am b L n : Nat} {xs : Nat → Int32} {ls : Array Slot} (l : Launch) (hE : lw_E p s m c b L xs G Γ ax am) (hL : L ≤ 384) (hn : n + 6 ≤ L) (hl : lv_has ls 4 [(3, .int (nI n)), (2, .ref am), (1, .ref ax), (0, .ref b)]) (hk : dv_U Γ ∧ lw_AR Γ ax ∧ Γ (ax + 78) = (27, 0) ∧ ∀ x y : Int, th_pm G x y) {u : Nat} {H : Heap} {locs : List Loc} (hJ : lw_J G Γ am s H locs u) (hq : RR (lw_A ax) (am : Int) (dv G Γ H) (dv G Γ H)) {t : Int} (hr : lx_rd G Γ ax t H) (ht : t + 100 + 100 < 2147483647) (kk : ∀ (u1 : Nat) (H1 : Heap) (locs1 : List Loc), lw_J G Γ am s H1 locs1 u1 → RR (lw_A ax) (am : Int) (dv G Γ H1) (dv G Γ H1) → lx_rd G Γ ax (t + 100) H1 → W p l e room_1 s m #[Value.ref b] below meth c H1 locs1 (600000 - th_pc u1) (7302250 - th_pq u1) Q (F0 m 1239 ls [])) : W p l e room_1 s m #[Value.ref b] below meth c H locs (600000 - th_pc u) (7302250 - th_pq u) Q (F0 m 448 ls []) := by
  have hx := hE.1.1
  have hb := hE.1.2.1
  have hax := hE.2.2.2.2.2.1
  have ham := hE.2.2.2.2.2.2.1
  have hU := hk.1
  have hA := hk.2.1
  have hsa := hk.2.2.1
  have hPT := hk.2.2.2
  refine lv_aload_n hx hb dL_law_448 rfl (lv_at hl 2 rfl) ?_
  refine lw_ld (pc := 449) (kn := 1) (pc' := 454) hE hJ.2.2.2 hl hn hL dL_law_449 rfl dL_law_450 rfl dL_law_451 (by decide) (by decide) rfl dL_law_452 rfl dL_law_453 rfl ?_
  refine lw_ld (pc := 454) (kn := 2) (pc' := 459) hE hJ.2.2.2 hl hn hL dL_law_454 rfl dL_law_455 rfl dL_law_456 (by decide) (by decide) rfl dL_law_457 rfl dL_law_458 rfl ?_
  refine lw_ld (pc := 459) (kn := 3) (pc' := 464) hE hJ.2.2.2 hl hn hL dL_law_459 rfl dL_law_460 rfl dL_law_461 (by decide) (by decide) rfl dL_law_462 rfl dL_law_463 rfl ?_
  refine lw_ld (pc := 464) (kn := 4) (pc' := 469) hE hJ.2.2.2 hl hn hL dL_law_464 rfl dL_law_465 rfl dL_law_466 (by decide) (by decide) rfl dL_law_467 rfl dL_law_468 rfl ?_
  refine lw_ld (pc := 469) (kn := 5) (pc' := 474) hE hJ.2.2.2 hl hn hL dL_law_469 rfl dL_law_470 rfl dL_law_471 (by decide) (by decide) rfl dL_law_472 rfl dL_law_473 rfl ?_
  refine lw_call (pc' := 477) (k := 1) (P := (fun w K => ∃ r : Int32, w = .int r ∧ f_X11_feed (dv G Γ H) (ax : Int) (xs (n + 1)).toInt (xs (n + 2)).toInt (xs (n + 3)).toInt (xs (n + 4)).toInt (xs (n + 5)).toInt = ((dv G Γ K), r.toInt) ∧ wf (am : Int) nW (dv G Γ H) (dv G Γ K) ∧ lx_rd G Γ ax (t + 100) K)) hJ (th_runV (As := [.int (xs (n + 1)), .int (xs (n + 2)), .int (xs (n + 3)), .int (xs (n + 4)), .int (xs (n + 5))]) (rest := []) hE.1 mf_X11_feed kl_40 im_X11_feed se_X11_feed (c_X11_feed l G Γ H hJ.1 hJ.2.1.1 hU ax hax (xs (n + 1)) (xs (n + 2)) (xs (n + 3)) (xs (n + 4)) (xs (n + 5))) rfl rfl ⟨Nat.le_of_ble_eq_true rfl, Nat.le_of_ble_eq_true rfl⟩ hJ.1 hax ro_42 rfl rfl hl.1 rfl (Nat.le_of_ble_eq_true rfl) dL_law_474 ⟨lw_f1 _, lw_f2 _⟩) (fun v K hp => by obtain ⟨r, rfl, hI1, hF1, hR1, hf1⟩ := hp; exact ⟨_, rfl, rfl, hI1, th_RN_c hR1 hJ.2.1 hI1 ham hF1 (by decide), th_bits_F hF1 hJ.2.2.1 (by decide), ⟨r, rfl, hf1, lw_wf hJ.1 hI1 hF1 ham (by decide +kernel), lx_rdF hJ.1 hI1 hF1 hax hsa (by decide) (by omega) hr⟩⟩) rfl (fun w1 H1 locs hc1 hJ1 hP1 => ?_)
  obtain ⟨r1, rfl, e1, g1, d1⟩ := hP1
  have hr1 := d1
  refine lv_pop hx hb dL_law_477 hc1 ?_
  refine lv_aload_n hx hb dL_law_478 rfl (lv_at hl 1 rfl) ?_
  refine lw_ld (pc := 479) (kn := 1) (pc' := 484) hE hJ1.2.2.2 hl hn hL dL_law_479 rfl dL_law_480 rfl dL_law_481 (by decide) (by decide) rfl dL_law_482 rfl dL_law_483 rfl ?_
  refine lw_ld (pc := 484) (kn := 2) (pc' := 489) hE hJ1.2.2.2 hl hn hL dL_law_484 rfl dL_law_485 rfl dL_law_486 (by decide) (by decide) rfl dL_law_487 rfl dL_law_488 rfl ?_
  refine lw_ld (pc := 489) (kn := 3) (pc' := 494) hE hJ1.2.2.2 hl hn hL dL_law_489 rfl dL_law_490 rfl dL_law_491 (by decide) (by decide) rfl dL_law_492 rfl dL_law_493 rfl ?_
  refine lw_ld (pc := 494) (kn := 4) (pc' := 499) hE hJ1.2.2.2 hl hn hL dL_law_494 rfl dL_law_495 rfl dL_law_496 (by decide) (by decide) rfl dL_law_497 rfl dL_law_498 rfl ?_
  refine lw_ld (pc := 499) (kn := 5) (pc' := 504) hE hJ1.2.2.2 hl hn hL dL_law_499 rfl dL_law_500 rfl dL_law_501 (by decide) (by decide) rfl dL_law_502 rfl dL_law_503 rfl ?_
  refine lw_call (pc' := 507) (k := 1) (P := (fun w K => ∃ r : Int32, w = .int r ∧ f_X12_feed (dv G Γ H1) (am : Int) (xs (n + 1)).toInt (xs (n + 2)).toInt (xs (n + 3)).toInt (xs (n + 4)).toInt (xs (n + 5)).toInt = ((dv G Γ K), r.toInt) ∧ cf (lw_A ax) nV (dv G Γ H1) (dv G Γ K) ∧ lx_rd G Γ ax (t + 100) K)) hJ1 (th_runV (As := [.int (xs (n + 1)), .int (xs (n + 2)), .int (xs (n + 3)), .int (xs (n + 4)), .int (xs (n + 5))]) (rest := []) hE.1 mf_X12_feed kl_44 im_X12_feed se_X12_feed (c_X12_feed l G Γ H1 hJ1.1 hJ1.2.1.1 hU am ham (xs (n + 1)) (xs (n + 2)) (xs (n + 3)) (xs (n + 4)) (xs (n + 5))) rfl rfl ⟨Nat.le_of_ble_eq_true rfl, Nat.le_of_ble_eq_true rfl⟩ hJ1.1 ham ro_46 rfl rfl hl.1 rfl (Nat.le_of_ble_eq_true rfl) dL_law_504 ⟨lw_f1 _, lw_f2 _⟩) (fun v K hp => by obtain ⟨r, rfl, hI1, hF1, hR1, hf1⟩ := hp; exact ⟨_, rfl, rfl, hI1, th_RN_c hR1 hJ1.2.1 hI1 ham hF1 (by decide), th_bits_F hF1 hJ1.2.2.1 (by decide), ⟨r, rfl, hf1, lw_cf hJ1.1 hI1 hF1 hA (by decide +kernel), lx_rdF hJ1.1 hI1 hF1 hax hsa (by decide) (by omega) hr1⟩⟩) rfl (fun w2 H2 locs hc2 hJ2 hP2 => ?_)
  obtain ⟨r2, rfl, e2, f2, d2⟩ := hP2
  refine lv_pop hx hb dL_law_507 hc2 ?_
  have hg := glue (r1 := r1.toInt) (r2 := r2.toInt) (fV := fun V => f_X11_feed V (lw_A ax 0) (xs (n + 1)).toInt (xs (n + 2)).toInt (xs (n + 3)).toInt (xs (n + 4)).toInt (xs (n + 5)).toInt) (fW := fun V => f_X12_feed V (am : Int) (xs (n + 1)).toInt (xs (n + 2)).toInt (xs (n + 3)).toInt (xs (n + 4)).toInt (xs (n + 5)).toInt) hq (fun V h => L_feed h) (by rw [lw_A0]; exact e1) g1 e2 f2
  exact lv_goto (tgt := 1239) hx hb dL_law_508 (by decide) (kk u _ locs hJ2 hg.2 d2)

set_option maxHeartbeats 4000000 in
set_option maxRecDepth 100000 in
theorem lw_c7 {p : Program} {e : Env} {s : State} {m : MethodId} {below : List Frame} {meth : Method} {c : Code} {Q : State → Prop} {G : th_G} {Γ : th_Ga} {ax am b L n : Nat} {xs : Nat → Int32} {ls : Array Slot} (l : Launch) (hE : lw_E p s m c b L xs G Γ ax am) (hL : L ≤ 384) (hn : n + 6 ≤ L) (hl : lv_has ls 4 [(3, .int (nI n)), (2, .ref am), (1, .ref ax), (0, .ref b)]) (hk : dv_U Γ ∧ lw_AR Γ ax ∧ Γ (ax + 78) = (27, 0) ∧ ∀ x y : Int, th_pm G x y) {u : Nat} {H : Heap} {locs : List Loc} (hJ : lw_J G Γ am s H locs u) (hq : RR (lw_A ax) (am : Int) (dv G Γ H) (dv G Γ H)) {t : Int} (hr : lx_rd G Γ ax t H) (ht : t + 100 + 100 < 2147483647) (kk : ∀ (u1 : Nat) (H1 : Heap) (locs1 : List Loc), lw_J G Γ am s H1 locs1 u1 → RR (lw_A ax) (am : Int) (dv G Γ H1) (dv G Γ H1) → lx_rd G Γ ax (t + 100) H1 → W p l e room_1 s m #[Value.ref b] below meth c H1 locs1 (600000 - th_pc u1) (7302250 - th_pq u1) Q (F0 m 1239 ls [])) : W p l e room_1 s m #[Value.ref b] below meth c H locs (600000 - th_pc u) (7302250 - th_pq u) Q (F0 m 511 ls []) := by
  have hx := hE.1.1
  have hb := hE.1.2.1
  have hax := hE.2.2.2.2.2.1
  have ham := hE.2.2.2.2.2.2.1
  have hU := hk.1
  have hA := hk.2.1
  have hsa := hk.2.2.1
  have hPT := hk.2.2.2
  refine lv_aload_n hx hb dL_law_511 rfl (lv_at hl 2 rfl) ?_
  refine lw_ld (pc := 512) (kn := 1) (pc' := 517) hE hJ.2.2.2 hl hn hL dL_law_512 rfl dL_law_513 rfl dL_law_514 (by decide) (by decide) rfl dL_law_515 rfl dL_law_516 rfl ?_
  refine lw_call (pc' := 520) (k := 1) (P := (fun w K => ∃ r : Int32, w = .int r ∧ f_X11_end (dv G Γ H) (ax : Int) (xs (n + 1)).toInt = ((dv G Γ K), r.toInt) ∧ wf (am : Int) nW (dv G Γ H) (dv G Γ K) ∧ lx_rd G Γ ax (t + 100) K)) hJ (th_runV (As := [.int (xs (n + 1))]) (rest := []) hE.1 mf_X11_end kl_45 im_X11_end se_X11_end (c_X11_end l G Γ H hJ.1 hJ.2.1.1 hU ax hax (xs (n + 1))) rfl rfl ⟨Nat.le_of_ble_eq_true rfl, Nat.le_of_ble_eq_true rfl⟩ hJ.1 hax ro_42 rfl rfl hl.1 rfl (Nat.le_of_ble_eq_true rfl) dL_law_517 ⟨lw_f1 _, lw_f2 _⟩) (fun v K hp => by obtain ⟨r, rfl, hI1, hF1, hR1, hf1⟩ := hp; exact ⟨_, rfl, rfl, hI1, th_RN_c hR1 hJ.2.1 hI1 ham hF1 (by decide), th_bits_F hF1 hJ.2.2.1 (by decide), ⟨r, rfl, hf1, lw_wf hJ.1 hI1 hF1 ham (by decide +kernel), lx_rdF hJ.1 hI1 hF1 hax hsa (by decide) (by omega) hr⟩⟩) rfl (fun w1 H1 locs hc1 hJ1 hP1 => ?_)
  obtain ⟨r1, rfl, e1, g1, d1⟩ := hP1
  have hr1 := d1
  refine lv_pop hx hb dL_law_520 hc1 ?_
  refine lv_aload_n hx hb dL_law_521 rfl (lv_at hl 1 rfl) ?_
  refine lw_ld (pc := 522) (kn := 1) (pc' := 527) hE hJ1.2.2.2 hl hn hL dL_law_522 rfl dL_law_523 rfl dL_law_524 (by decide) (by decide) rfl dL_law_525 rfl dL_law_526 rfl ?_
  refine lw_call (pc' := 530) (k := 1) (P := (fun w K => ∃ r : Int32, w = .int r ∧ f_X12_end (dv G Γ H1) (am : Int) (xs (n + 1)).toInt = ((dv G Γ K), r.toInt) ∧ cf (lw_A ax) nV (dv G Γ H1) (dv G Γ K) ∧ lx_rd G Γ ax (t + 100) K)) hJ1 (th_runV (As := [.int (xs (n + 1))]) (rest := []) hE.1 mf_X12_end kl_49 im_X12_end se_X12_end (c_X12_end l G Γ H1 hJ1.1 hJ1.2.1.1 hU am ham (xs (n + 1))) rfl rfl ⟨Nat.le_of_ble_eq_true rfl, Nat.le_of_ble_eq_true rfl⟩ hJ1.1 ham ro_46 rfl rfl hl.1 rfl (Nat.le_of_ble_eq_true rfl) dL_law_527 ⟨lw_f1 _, lw_f2 _⟩) (fun v K hp => by obtain ⟨r, rfl, hI1, hF1, hR1, hf1⟩ := hp; exact ⟨_, rfl, rfl, hI1, th_RN_c hR1 hJ1.2.1 hI1 ham hF1 (by decide), th_bits_F hF1 hJ1.2.2.1 (by decide), ⟨r, rfl, hf1, lw_cf hJ1.1 hI1 hF1 hA (by decide +kernel), lx_rdF hJ1.1 hI1 hF1 hax hsa (by decide) (by omega) hr1⟩⟩) rfl (fun w2 H2 locs hc2 hJ2 hP2 => ?_)
  obtain ⟨r2, rfl, e2, f2, d2⟩ := hP2
  refine lv_pop hx hb dL_law_530 hc2 ?_
  have hg := glue (r1 := r1.toInt) (r2 := r2.toInt) (fV := fun V => f_X11_end V (lw_A ax 0) (xs (n + 1)).toInt) (fW := fun V => f_X12_end V (am : Int) (xs (n + 1)).toInt) hq (fun V h => L_end h) (by rw [lw_A0]; exact e1) g1 e2 f2
  exact lv_goto (tgt := 1239) hx hb dL_law_531 (by decide) (kk u _ locs hJ2 hg.2 d2)

set_option maxHeartbeats 4000000 in
set_option maxRecDepth 100000 in
theorem lw_c8 {p : Program} {e : Env} {s : State} {m : MethodId} {below : List Frame} {meth : Method} {c : Code} {Q : State → Prop} {G : th_G} {Γ : th_Ga} {ax am b L n : Nat} {xs : Nat → Int32} {ls : Array Slot} (l : Launch) (hE : lw_E p s m c b L xs G Γ ax am) (hL : L ≤ 384) (hn : n + 6 ≤ L) (hl : lv_has ls 4 [(3, .int (nI n)), (2, .ref am), (1, .ref ax), (0, .ref b)]) (hk : dv_U Γ ∧ lw_AR Γ ax ∧ Γ (ax + 78) = (27, 0) ∧ ∀ x y : Int, th_pm G x y) {u : Nat} {H : Heap} {locs : List Loc} (hJ : lw_J G Γ am s H locs u) (hq : RR (lw_A ax) (am : Int) (dv G Γ H) (dv G Γ H)) {t : Int} (hr : lx_rd G Γ ax t H) (ht : t + 100 + 100 < 2147483647) (kk : ∀ (u1 : Nat) (H1 : Heap) (locs1 : List Loc), lw_J G Γ am s H1 locs1 u1 → RR (lw_A ax) (am : Int) (dv G Γ H1) (dv G Γ H1) → lx_rd G Γ ax (t + 100) H1 → W p l e room_1 s m #[Value.ref b] below meth c H1 locs1 (600000 - th_pc u1) (7302250 - th_pq u1) Q (F0 m 1239 ls [])) : W p l e room_1 s m #[Value.ref b] below meth c H locs (600000 - th_pc u) (7302250 - th_pq u) Q (F0 m 534 ls []) := by
  have hx := hE.1.1
  have hb := hE.1.2.1
  have hax := hE.2.2.2.2.2.1
  have ham := hE.2.2.2.2.2.2.1
  have hU := hk.1
  have hA := hk.2.1
  have hsa := hk.2.2.1
  have hPT := hk.2.2.2
  refine lv_aload_n hx hb dL_law_534 rfl (lv_at hl 2 rfl) ?_
  refine lw_call (pc' := 538) (k := 1) (P := (fun w K => ∃ r : Int32, w = .int r ∧ f_X11_row (dv G Γ H) (ax : Int) = ((dv G Γ K), r.toInt) ∧ wf (am : Int) nW (dv G Γ H) (dv G Γ K) ∧ lx_rd G Γ ax (t + 100) K)) hJ (th_runV (As := []) (rest := []) hE.1 mf_X11_row kl_50 im_X11_row se_X11_row (c_X11_row l G Γ H hJ.1 hJ.2.1.1 hU ax hax) rfl rfl ⟨Nat.le_of_ble_eq_true rfl, Nat.le_of_ble_eq_true rfl⟩ hJ.1 hax ro_42 rfl rfl hl.1 rfl (Nat.le_of_ble_eq_true rfl) dL_law_535 ⟨lw_f1 _, lw_f2 _⟩) (fun v K hp => by obtain ⟨r, rfl, hI1, hF1, hR1, hf1⟩ := hp; exact ⟨_, rfl, rfl, hI1, th_RN_c hR1 hJ.2.1 hI1 ham hF1 (by decide), th_bits_F hF1 hJ.2.2.1 (by decide), ⟨r, rfl, hf1, lw_wf hJ.1 hI1 hF1 ham (by decide +kernel), lx_rdF hJ.1 hI1 hF1 hax hsa (by decide) (by omega) hr⟩⟩) rfl (fun w1 H1 locs hc1 hJ1 hP1 => ?_)
  obtain ⟨r1, rfl, e1, g1, d1⟩ := hP1
  have hr1 := d1
  refine lv_pop hx hb dL_law_538 hc1 ?_
  refine lv_aload_n hx hb dL_law_539 rfl (lv_at hl 1 rfl) ?_
  refine lw_call (pc' := 543) (k := 1) (P := (fun w K => ∃ r : Int32, w = .int r ∧ f_X12_row (dv G Γ H1) (am : Int) = ((dv G Γ K), r.toInt) ∧ cf (lw_A ax) nV (dv G Γ H1) (dv G Γ K) ∧ lx_rd G Γ ax (t + 100) K)) hJ1 (th_runV (As := []) (rest := []) hE.1 mf_X12_row kl_54 im_X12_row se_X12_row (c_X12_row l G Γ H1 hJ1.1 hU am ham hJ1.2.1) rfl rfl ⟨Nat.le_of_ble_eq_true rfl, Nat.le_of_ble_eq_true rfl⟩ hJ1.1 ham ro_46 rfl rfl hl.1 rfl (Nat.le_of_ble_eq_true rfl) dL_law_540 ⟨lw_f1 _, lw_f2 _⟩) (fun v K hp => by obtain ⟨r, rfl, hI1, hF1, hR1, hf1⟩ := hp; exact ⟨_, rfl, rfl, hI1, hR1, th_bits_F hF1 hJ1.2.2.1 (by decide), ⟨r, rfl, hf1, lw_cf hJ1.1 hI1 hF1 hA (by decide +kernel), lx_rdF hJ1.1 hI1 hF1 hax hsa (by decide) (by omega) hr1⟩⟩) rfl (fun w2 H2 locs hc2 hJ2 hP2 => ?_)
  obtain ⟨r2, rfl, e2, f2, d2⟩ := hP2
  refine lv_pop hx hb dL_law_543 hc2 ?_
  have hg := glue (r1 := r1.toInt) (r2 := r2.toInt) (fV := fun V => f_X11_row V (lw_A ax 0)) (fW := fun V => f_X12_row V (am : Int)) hq (fun V h => L_row h) (by rw [lw_A0]; exact e1) g1 e2 f2
  exact lv_goto (tgt := 1239) hx hb dL_law_544 (by decide) (kk u _ locs hJ2 hg.2 d2)

set_option maxHeartbeats 4000000 in
set_option maxRecDepth 100000 in
theorem lw_c9 {p : Program} {e : Env} {s : State} {m : MethodId} {below : List Frame} {meth : Method} {c : Code} {Q : State → Prop} {G : th_G} {Γ : th_Ga} {ax am b L n : Nat} {xs : Nat → Int32} {ls : Array Slot} (l : Launch) (hE : lw_E p s m c b L xs G Γ ax am) (hL : L ≤ 384) (hn : n + 6 ≤ L) (hl : lv_has ls 4 [(3, .int (nI n)), (2, .ref am), (1, .ref ax), (0, .ref b)]) (hk : dv_U Γ ∧ lw_AR Γ ax ∧ Γ (ax + 78) = (27, 0) ∧ ∀ x y : Int, th_pm G x y) {u : Nat} {H : Heap} {locs : List Loc} (hJ : lw_J G Γ am s H locs u) (hq : RR (lw_A ax) (am : Int) (dv G Γ H) (dv G Γ H)) {t : Int} (hr : lx_rd G Γ ax t H) (ht : t + 100 + 100 < 2147483647) (kk : ∀ (u1 : Nat) (H1 : Heap) (locs1 : List Loc), lw_J G Γ am s H1 locs1 u1 → RR (lw_A ax) (am : Int) (dv G Γ H1) (dv G Γ H1) → lx_rd G Γ ax (t + 100) H1 → W p l e room_1 s m #[Value.ref b] below meth c H1 locs1 (600000 - th_pc u1) (7302250 - th_pq u1) Q (F0 m 1239 ls [])) : W p l e room_1 s m #[Value.ref b] below meth c H locs (600000 - th_pc u) (7302250 - th_pq u) Q (F0 m 547 ls []) := by
  have hx := hE.1.1
  have hb := hE.1.2.1
  have hax := hE.2.2.2.2.2.1
  have ham := hE.2.2.2.2.2.2.1
  have hU := hk.1
  have hA := hk.2.1
  have hsa := hk.2.2.1
  have hPT := hk.2.2.2
  refine lv_aload_n hx hb dL_law_547 rfl (lv_at hl 2 rfl) ?_
  refine lw_call (pc' := 551) (k := 1) (P := (fun w K => ∃ r : Int32, w = .int r ∧ f_X11_fluff (dv G Γ H) (ax : Int) = (r.toInt, ()) ∧ H = K)) hJ (th_runV (As := []) (rest := []) hE.1 mf_X11_fluff kl_55 im_X11_fluff se_X11_fluff (c_X11_fluff l G Γ H hJ.1 hU ax hax) rfl rfl ⟨Nat.le_of_ble_eq_true rfl, Nat.le_of_ble_eq_true rfl⟩ hJ.1 hax ro_42 rfl rfl hl.1 rfl (Nat.le_of_ble_eq_true rfl) dL_law_548 ⟨lw_f1 _, lw_f2 _⟩) (fun v K hp => by obtain ⟨r, rfl, hf1, rfl⟩ := hp; exact ⟨_, rfl, rfl, hJ.1, hJ.2.1, hJ.2.2.1, ⟨r, rfl, hf1, rfl⟩⟩) rfl (fun w1 H1 locs hc1 hJ1 hP1 => ?_)
  obtain ⟨r1, rfl, e1, eK1⟩ := hP1
  have hr1 := lx_rdm hr (show t ≤ t + 100 by omega)
  rw [eK1] at e1 hq hr1
  refine lv_pop hx hb dL_law_551 hc1 ?_
  refine lv_aload_n hx hb dL_law_552 rfl (lv_at hl 1 rfl) ?_
  refine lw_call (pc' := 556) (k := 1) (P := (fun w K => ∃ r : Int32, w = .int r ∧ f_X12_fluff (dv G Γ H1) (am : Int) = (r.toInt, ()) ∧ H1 = K)) hJ1 (th_runV (As := []) (rest := []) hE.1 mf_X12_fluff kl_58 im_X12_fluff se_X12_fluff (c_X12_fluff l G Γ H1 hJ1.1 hU am ham) rfl rfl ⟨Nat.le_of_ble_eq_true rfl, Nat.le_of_ble_eq_true rfl⟩ hJ1.1 ham ro_46 rfl rfl hl.1 rfl (Nat.le_of_ble_eq_true rfl) dL_law_553 ⟨lw_f1 _, lw_f2 _⟩) (fun v K hp => by obtain ⟨r, rfl, hf1, rfl⟩ := hp; exact ⟨_, rfl, rfl, hJ1.1, hJ1.2.1, hJ1.2.2.1, ⟨r, rfl, hf1, rfl⟩⟩) rfl (fun w2 H2 locs hc2 hJ2 hP2 => ?_)
  obtain ⟨r2, rfl, e2, eK2⟩ := hP2
  refine lv_pop hx hb dL_law_556 hc2 ?_
  rw [eK2] at hq hr1
  exact lv_goto (tgt := 1239) hx hb dL_law_557 (by decide) (kk u _ locs hJ2 hq hr1)

set_option maxHeartbeats 4000000 in
set_option maxRecDepth 100000 in
theorem lw_c10 {p : Program} {e : Env} {s : State} {m : MethodId} {below : List Frame} {meth : Method} {c : Code} {Q : State → Prop} {G : th_G} {Γ : th_Ga} {ax am b L n : Nat} {xs : Nat → Int32} {ls : Array Slot} (l : Launch) (hE : lw_E p s m c b L xs G Γ ax am) (hL : L ≤ 384) (hn : n + 6 ≤ L) (hl : lv_has ls 4 [(3, .int (nI n)), (2, .ref am), (1, .ref ax), (0, .ref b)]) (hk : dv_U Γ ∧ lw_AR Γ ax ∧ Γ (ax + 78) = (27, 0) ∧ ∀ x y : Int, th_pm G x y) {u : Nat} {H : Heap} {locs : List Loc} (hJ : lw_J G Γ am s H locs u) (hq : RR (lw_A ax) (am : Int) (dv G Γ H) (dv G Γ H)) {t : Int} (hr : lx_rd G Γ ax t H) (ht : t + 100 + 100 < 2147483647) (kk : ∀ (u1 : Nat) (H1 : Heap) (locs1 : List Loc), lw_J G Γ am s H1 locs1 u1 → RR (lw_A ax) (am : Int) (dv G Γ H1) (dv G Γ H1) → lx_rd G Γ ax (t + 100) H1 → W p l e room_1 s m #[Value.ref b] below meth c H1 locs1 (600000 - th_pc u1) (7302250 - th_pq u1) Q (F0 m 1239 ls [])) : W p l e room_1 s m #[Value.ref b] below meth c H locs (600000 - th_pc u) (7302250 - th_pq u) Q (F0 m 560 ls []) := by
  have hx := hE.1.1
  have hb := hE.1.2.1
  have hax := hE.2.2.2.2.2.1
  have ham := hE.2.2.2.2.2.2.1
  have hU := hk.1
  have hA := hk.2.1
  have hsa := hk.2.2.1
  have hPT := hk.2.2.2
  refine lv_aload_n hx hb dL_law_560 rfl (lv_at hl 2 rfl) ?_
  refine lw_call (pc' := 564) (k := 1) (P := (fun w K => ∃ r : Int32, w = .int r ∧ f_X11_law (dv G Γ H) (ax : Int) = ((dv G Γ K), r.toInt) ∧ wf (am : Int) nW (dv G Γ H) (dv G Γ K) ∧ lx_rd G Γ ax (t + 100) K)) hJ (th_runVX (As := []) (rest := []) th_mvZ (th_Z_k hE.2.2.1 hJ.2.2.2) hE.1 mf_X11_law kl_59 im_X11_law se_X11_law (c_X11_law l G Γ H hJ.1 hJ.2.1.1 hU ax hax hE.2.2.2.2.2.2.2) rfl rfl ⟨Nat.le_of_ble_eq_true rfl, Nat.le_of_ble_eq_true rfl⟩ hJ.1 hax ro_42 rfl rfl hl.1 rfl (Nat.le_of_ble_eq_true rfl) dL_law_561 ⟨lw_f1 _, lw_f2 _⟩) (fun v K hp => by obtain ⟨r, rfl, hI1, hF1, hR1, hf1⟩ := hp; exact ⟨_, rfl, rfl, hI1, th_RN_c hR1 hJ.2.1 hI1 ham hF1 (by decide), th_bits_F hF1 hJ.2.2.1 (by decide), ⟨r, rfl, hf1, lw_wf hJ.1 hI1 hF1 ham (by decide +kernel), lx_rdF hJ.1 hI1 hF1 hax hsa (by decide) (by omega) hr⟩⟩) rfl (fun w1 H1 locs hc1 hJ1 hP1 => ?_)
  obtain ⟨r1, rfl, e1, g1, d1⟩ := hP1
  have hr1 := d1
  refine lv_pop hx hb dL_law_564 hc1 ?_
  refine lv_aload_n hx hb dL_law_565 rfl (lv_at hl 1 rfl) ?_
  refine lw_call (pc' := 569) (k := 1) (P := (fun w K => ∃ r : Int32, w = .int r ∧ f_X12_law (dv G Γ H1) (am : Int) = ((dv G Γ K), r.toInt) ∧ cf (lw_A ax) nV (dv G Γ H1) (dv G Γ K) ∧ lx_rd G Γ ax (t + 100) K)) hJ1 (th_runV (As := []) (rest := []) hE.1 mf_X12_law kl_62 im_X12_law se_X12_law (c_X12_law l G Γ H1 hJ1.1 hU am ham hJ1.2.1) rfl rfl ⟨Nat.le_of_ble_eq_true rfl, Nat.le_of_ble_eq_true rfl⟩ hJ1.1 ham ro_46 rfl rfl hl.1 rfl (Nat.le_of_ble_eq_true rfl) dL_law_566 ⟨lw_f1 _, lw_f2 _⟩) (fun v K hp => by obtain ⟨r, rfl, hI1, hF1, hR1, hf1⟩ := hp; exact ⟨_, rfl, rfl, hI1, hR1, th_bits_F hF1 hJ1.2.2.1 (by decide), ⟨r, rfl, hf1, lw_cf hJ1.1 hI1 hF1 hA (by decide +kernel), lx_rdF hJ1.1 hI1 hF1 hax hsa (by decide) (by omega) hr1⟩⟩) rfl (fun w2 H2 locs hc2 hJ2 hP2 => ?_)
  obtain ⟨r2, rfl, e2, f2, d2⟩ := hP2
  refine lv_pop hx hb dL_law_569 hc2 ?_
  have hg := glue (r1 := r1.toInt) (r2 := r2.toInt) (fV := fun V => f_X11_law V (lw_A ax 0)) (fW := fun V => f_X12_law V (am : Int)) hq (fun V h => L_law h) (by rw [lw_A0]; exact e1) g1 e2 f2
  exact lv_goto (tgt := 1239) hx hb dL_law_570 (by decide) (kk u _ locs hJ2 hg.2 d2)
end
section
set_option maxHeartbeats 4000000 in
set_option maxRecDepth 100000 in
theorem lw_c11 {p : Program} {e : Env} {s : State} {m : MethodId} {below : List Frame} {meth : Method} {c : Code} {Q : State → Prop} {G : th_G} {Γ : th_Ga} {ax am b L n : Nat} {xs : Nat → Int32} {ls : Array Slot} (l : Launch) (hE : lw_E p s m c b L xs G Γ ax am) (hL : L ≤ 384) (hn : n + 6 ≤ L) (hl : lv_has ls 4 [(3, .int (nI n)), (2, .ref am), (1, .ref ax), (0, .ref b)]) (hk : dv_U Γ ∧ lw_AR Γ ax ∧ Γ (ax + 78) = (27, 0) ∧ ∀ x y : Int, th_pm G x y) {u : Nat} {H : Heap} {locs : List Loc} (hJ : lw_J G Γ am s H locs u) (hq : RR (lw_A ax) (am : Int) (dv G Γ H) (dv G Γ H)) {t : Int} (hr : lx_rd G Γ ax t H) (ht : t + 100 + 100 < 2147483647) (kk : ∀ (u1 : Nat) (H1 : Heap) (locs1 : List Loc), lw_J G Γ am s H1 locs1 u1 → RR (lw_A ax) (am : Int) (dv G Γ H1) (dv G Γ H1) → lx_rd G Γ ax (t + 100) H1 → W p l e room_1 s m #[Value.ref b] below meth c H1 locs1 (600000 - th_pc u1) (7302250 - th_pq u1) Q (F0 m 1239 ls [])) : W p l e room_1 s m #[Value.ref b] below meth c H locs (600000 - th_pc u) (7302250 - th_pq u) Q (F0 m 573 ls []) := by
  have hx := hE.1.1
  have hb := hE.1.2.1
  have hax := hE.2.2.2.2.2.1
  have ham := hE.2.2.2.2.2.2.1
  have hU := hk.1
  have hA := hk.2.1
  have hsa := hk.2.2.1
  have hPT := hk.2.2.2
  refine lv_aload_n hx hb dL_law_573 rfl (lv_at hl 2 rfl) ?_
  refine lw_call (pc' := 577) (k := 1) (P := (fun w K => ∃ r : Int32, w = .int r ∧ f_X11_orders (dv G Γ H) (ax : Int) = ((dv G Γ K), r.toInt) ∧ wf (am : Int) nW (dv G Γ H) (dv G Γ K) ∧ lx_rd G Γ ax (t + 100) K)) hJ (th_runVX (As := []) (rest := []) th_mvZ (th_Z_k hE.2.2.1 hJ.2.2.2) hE.1 mf_X11_orders kl_63 im_X11_orders se_X11_orders (c_X11_orders l G Γ H hJ.1 hJ.2.1.1 hU ax hax hE.2.2.2.2.2.2.2) rfl rfl ⟨Nat.le_of_ble_eq_true rfl, Nat.le_of_ble_eq_true rfl⟩ hJ.1 hax ro_42 rfl rfl hl.1 rfl (Nat.le_of_ble_eq_true rfl) dL_law_574 ⟨lw_f1 _, lw_f2 _⟩) (fun v K hp => by obtain ⟨r, rfl, hI1, hF1, hR1, hf1⟩ := hp; exact ⟨_, rfl, rfl, hI1, th_RN_c hR1 hJ.2.1 hI1 ham hF1 (by decide), th_bits_F hF1 hJ.2.2.1 (by decide), ⟨r, rfl, hf1, lw_wf hJ.1 hI1 hF1 ham (by decide +kernel), lx_rdF hJ.1 hI1 hF1 hax hsa (by decide) (by omega) hr⟩⟩) rfl (fun w1 H1 locs hc1 hJ1 hP1 => ?_)
  obtain ⟨r1, rfl, e1, g1, d1⟩ := hP1
  have hr1 := d1
  refine lv_pop hx hb dL_law_577 hc1 ?_
  refine lv_aload_n hx hb dL_law_578 rfl (lv_at hl 1 rfl) ?_
  refine lw_call (pc' := 582) (k := 1) (P := (fun w K => ∃ r : Int32, w = .int r ∧ f_X12_orders (dv G Γ H1) (am : Int) = ((dv G Γ K), r.toInt) ∧ cf (lw_A ax) nV (dv G Γ H1) (dv G Γ K) ∧ lx_rd G Γ ax (t + 100) K)) hJ1 (th_runV (As := []) (rest := []) hE.1 mf_X12_orders kl_66 im_X12_orders se_X12_orders (c_X12_orders l G Γ H1 hJ1.1 hU am ham hJ1.2.1) rfl rfl ⟨Nat.le_of_ble_eq_true rfl, Nat.le_of_ble_eq_true rfl⟩ hJ1.1 ham ro_46 rfl rfl hl.1 rfl (Nat.le_of_ble_eq_true rfl) dL_law_579 ⟨lw_f1 _, lw_f2 _⟩) (fun v K hp => by obtain ⟨r, rfl, hI1, hF1, hR1, hf1⟩ := hp; exact ⟨_, rfl, rfl, hI1, hR1, th_bits_F hF1 hJ1.2.2.1 (by decide), ⟨r, rfl, hf1, lw_cf hJ1.1 hI1 hF1 hA (by decide +kernel), lx_rdF hJ1.1 hI1 hF1 hax hsa (by decide) (by omega) hr1⟩⟩) rfl (fun w2 H2 locs hc2 hJ2 hP2 => ?_)
  obtain ⟨r2, rfl, e2, f2, d2⟩ := hP2
  refine lv_pop hx hb dL_law_582 hc2 ?_
  have hg := glue (r1 := r1.toInt) (r2 := r2.toInt) (fV := fun V => f_X11_orders V (lw_A ax 0)) (fW := fun V => f_X12_orders V (am : Int)) hq (fun V h => L_orders h) (by rw [lw_A0]; exact e1) g1 e2 f2
  exact lv_goto (tgt := 1239) hx hb dL_law_583 (by decide) (kk u _ locs hJ2 hg.2 d2)

set_option maxHeartbeats 4000000 in
set_option maxRecDepth 100000 in
theorem lw_c12 {p : Program} {e : Env} {s : State} {m : MethodId} {below : List Frame} {meth : Method} {c : Code} {Q : State → Prop} {G : th_G} {Γ : th_Ga} {ax am b L n : Nat} {xs : Nat → Int32} {ls : Array Slot} (l : Launch) (hE : lw_E p s m c b L xs G Γ ax am) (hL : L ≤ 384) (hn : n + 6 ≤ L) (hl : lv_has ls 4 [(3, .int (nI n)), (2, .ref am), (1, .ref ax), (0, .ref b)]) (hk : dv_U Γ ∧ lw_AR Γ ax ∧ Γ (ax + 78) = (27, 0) ∧ ∀ x y : Int, th_pm G x y) {u : Nat} {H : Heap} {locs : List Loc} (hJ : lw_J G Γ am s H locs u) (hq : RR (lw_A ax) (am : Int) (dv G Γ H) (dv G Γ H)) {t : Int} (hr : lx_rd G Γ ax t H) (ht : t + 100 + 100 < 2147483647) (kk : ∀ (u1 : Nat) (H1 : Heap) (locs1 : List Loc), lw_J G Γ am s H1 locs1 u1 → RR (lw_A ax) (am : Int) (dv G Γ H1) (dv G Γ H1) → lx_rd G Γ ax (t + 100) H1 → W p l e room_1 s m #[Value.ref b] below meth c H1 locs1 (600000 - th_pc u1) (7302250 - th_pq u1) Q (F0 m 1239 ls [])) : W p l e room_1 s m #[Value.ref b] below meth c H locs (600000 - th_pc u) (7302250 - th_pq u) Q (F0 m 586 ls []) := by
  have hx := hE.1.1
  have hb := hE.1.2.1
  have hax := hE.2.2.2.2.2.1
  have ham := hE.2.2.2.2.2.2.1
  have hU := hk.1
  have hA := hk.2.1
  have hsa := hk.2.2.1
  have hPT := hk.2.2.2
  refine lv_aload_n hx hb dL_law_586 rfl (lv_at hl 2 rfl) ?_
  refine lw_call (pc' := 590) (k := 1) (P := (fun w K => ∃ r : Int32, w = .int r ∧ f_X11_fault (dv G Γ H) (ax : Int) = (r.toInt, ()) ∧ H = K)) hJ (th_runV (As := []) (rest := []) hE.1 mf_X11_fault kl_67 im_X11_fault se_X11_fault (c_X11_fault l G Γ H hJ.1 hU ax hax) rfl rfl ⟨Nat.le_of_ble_eq_true rfl, Nat.le_of_ble_eq_true rfl⟩ hJ.1 hax ro_42 rfl rfl hl.1 rfl (Nat.le_of_ble_eq_true rfl) dL_law_587 ⟨lw_f1 _, lw_f2 _⟩) (fun v K hp => by obtain ⟨r, rfl, hf1, rfl⟩ := hp; exact ⟨_, rfl, rfl, hJ.1, hJ.2.1, hJ.2.2.1, ⟨r, rfl, hf1, rfl⟩⟩) rfl (fun w1 H1 locs hc1 hJ1 hP1 => ?_)
  obtain ⟨r1, rfl, e1, eK1⟩ := hP1
  have hr1 := lx_rdm hr (show t ≤ t + 100 by omega)
  rw [eK1] at e1 hq hr1
  refine lv_pop hx hb dL_law_590 hc1 ?_
  refine lv_aload_n hx hb dL_law_591 rfl (lv_at hl 1 rfl) ?_
  refine lw_call (pc' := 595) (k := 1) (P := (fun w K => ∃ r : Int32, w = .int r ∧ f_X12_fault (dv G Γ H1) (am : Int) = (r.toInt, ()) ∧ H1 = K)) hJ1 (th_runV (As := []) (rest := []) hE.1 mf_X12_fault kl_70 im_X12_fault se_X12_fault (c_X12_fault l G Γ H1 hJ1.1 hU am ham) rfl rfl ⟨Nat.le_of_ble_eq_true rfl, Nat.le_of_ble_eq_true rfl⟩ hJ1.1 ham ro_46 rfl rfl hl.1 rfl (Nat.le_of_ble_eq_true rfl) dL_law_592 ⟨lw_f1 _, lw_f2 _⟩) (fun v K hp => by obtain ⟨r, rfl, hf1, rfl⟩ := hp; exact ⟨_, rfl, rfl, hJ1.1, hJ1.2.1, hJ1.2.2.1, ⟨r, rfl, hf1, rfl⟩⟩) rfl (fun w2 H2 locs hc2 hJ2 hP2 => ?_)
  obtain ⟨r2, rfl, e2, eK2⟩ := hP2
  refine lv_pop hx hb dL_law_595 hc2 ?_
  rw [eK2] at hq hr1
  exact lv_goto (tgt := 1239) hx hb dL_law_596 (by decide) (kk u _ locs hJ2 hq hr1)

set_option maxHeartbeats 4000000 in
set_option maxRecDepth 100000 in
theorem lw_c13 {p : Program} {e : Env} {s : State} {m : MethodId} {below : List Frame} {meth : Method} {c : Code} {Q : State → Prop} {G : th_G} {Γ : th_Ga} {ax am b L n : Nat} {xs : Nat → Int32} {ls : Array Slot} (l : Launch) (hE : lw_E p s m c b L xs G Γ ax am) (hL : L ≤ 384) (hn : n + 6 ≤ L) (hl : lv_has ls 4 [(3, .int (nI n)), (2, .ref am), (1, .ref ax), (0, .ref b)]) (hk : dv_U Γ ∧ lw_AR Γ ax ∧ Γ (ax + 78) = (27, 0) ∧ ∀ x y : Int, th_pm G x y) {u : Nat} {H : Heap} {locs : List Loc} (hJ : lw_J G Γ am s H locs u) (hq : RR (lw_A ax) (am : Int) (dv G Γ H) (dv G Γ H)) {t : Int} (hr : lx_rd G Γ ax t H) (ht : t + 100 + 100 < 2147483647) (kk : ∀ (u1 : Nat) (H1 : Heap) (locs1 : List Loc), lw_J G Γ am s H1 locs1 u1 → RR (lw_A ax) (am : Int) (dv G Γ H1) (dv G Γ H1) → lx_rd G Γ ax (t + 100) H1 → W p l e room_1 s m #[Value.ref b] below meth c H1 locs1 (600000 - th_pc u1) (7302250 - th_pq u1) Q (F0 m 1239 ls [])) : W p l e room_1 s m #[Value.ref b] below meth c H locs (600000 - th_pc u) (7302250 - th_pq u) Q (F0 m 599 ls []) := by
  have hx := hE.1.1
  have hb := hE.1.2.1
  have hax := hE.2.2.2.2.2.1
  have ham := hE.2.2.2.2.2.2.1
  have hU := hk.1
  have hA := hk.2.1
  have hsa := hk.2.2.1
  have hPT := hk.2.2.2
  refine lv_aload_n hx hb dL_law_599 rfl (lv_at hl 2 rfl) ?_
  refine lw_call (pc' := 603) (k := 1) (P := (fun w K => ∃ r : Int32, w = .int r ∧ f_X11_stopped (dv G Γ H) (ax : Int) = (r.toInt, ()) ∧ H = K)) hJ (th_runV (As := []) (rest := []) hE.1 mf_X11_stopped kl_71 im_X11_stopped se_X11_stopped (c_X11_stopped l G Γ H hJ.1 hU ax hax) rfl rfl ⟨Nat.le_of_ble_eq_true rfl, Nat.le_of_ble_eq_true rfl⟩ hJ.1 hax ro_42 rfl rfl hl.1 rfl (Nat.le_of_ble_eq_true rfl) dL_law_600 ⟨lw_f1 _, lw_f2 _⟩) (fun v K hp => by obtain ⟨r, rfl, hf1, rfl⟩ := hp; exact ⟨_, rfl, rfl, hJ.1, hJ.2.1, hJ.2.2.1, ⟨r, rfl, hf1, rfl⟩⟩) rfl (fun w1 H1 locs hc1 hJ1 hP1 => ?_)
  obtain ⟨r1, rfl, e1, eK1⟩ := hP1
  have hr1 := lx_rdm hr (show t ≤ t + 100 by omega)
  rw [eK1] at e1 hq hr1
  refine lv_pop hx hb dL_law_603 hc1 ?_
  refine lv_aload_n hx hb dL_law_604 rfl (lv_at hl 1 rfl) ?_
  refine lw_call (pc' := 608) (k := 1) (P := (fun w K => ∃ r : Int32, w = .int r ∧ f_X12_stopped (dv G Γ H1) (am : Int) = (r.toInt, ()) ∧ H1 = K)) hJ1 (th_runV (As := []) (rest := []) hE.1 mf_X12_stopped kl_74 im_X12_stopped se_X12_stopped (c_X12_stopped l G Γ H1 hJ1.1 hU am ham) rfl rfl ⟨Nat.le_of_ble_eq_true rfl, Nat.le_of_ble_eq_true rfl⟩ hJ1.1 ham ro_46 rfl rfl hl.1 rfl (Nat.le_of_ble_eq_true rfl) dL_law_605 ⟨lw_f1 _, lw_f2 _⟩) (fun v K hp => by obtain ⟨r, rfl, hf1, rfl⟩ := hp; exact ⟨_, rfl, rfl, hJ1.1, hJ1.2.1, hJ1.2.2.1, ⟨r, rfl, hf1, rfl⟩⟩) rfl (fun w2 H2 locs hc2 hJ2 hP2 => ?_)
  obtain ⟨r2, rfl, e2, eK2⟩ := hP2
  refine lv_pop hx hb dL_law_608 hc2 ?_
  rw [eK2] at hq hr1
  exact lv_goto (tgt := 1239) hx hb dL_law_609 (by decide) (kk u _ locs hJ2 hq hr1)

set_option maxHeartbeats 4000000 in
set_option maxRecDepth 100000 in
theorem lw_c14 {p : Program} {e : Env} {s : State} {m : MethodId} {below : List Frame} {meth : Method} {c : Code} {Q : State → Prop} {G : th_G} {Γ : th_Ga} {ax am b L n : Nat} {xs : Nat → Int32} {ls : Array Slot} (l : Launch) (hE : lw_E p s m c b L xs G Γ ax am) (hL : L ≤ 384) (hn : n + 6 ≤ L) (hl : lv_has ls 4 [(3, .int (nI n)), (2, .ref am), (1, .ref ax), (0, .ref b)]) (hk : dv_U Γ ∧ lw_AR Γ ax ∧ Γ (ax + 78) = (27, 0) ∧ ∀ x y : Int, th_pm G x y) {u : Nat} {H : Heap} {locs : List Loc} (hJ : lw_J G Γ am s H locs u) (hq : RR (lw_A ax) (am : Int) (dv G Γ H) (dv G Γ H)) {t : Int} (hr : lx_rd G Γ ax t H) (ht : t + 100 + 100 < 2147483647) (kk : ∀ (u1 : Nat) (H1 : Heap) (locs1 : List Loc), lw_J G Γ am s H1 locs1 u1 → RR (lw_A ax) (am : Int) (dv G Γ H1) (dv G Γ H1) → lx_rd G Γ ax (t + 100) H1 → W p l e room_1 s m #[Value.ref b] below meth c H1 locs1 (600000 - th_pc u1) (7302250 - th_pq u1) Q (F0 m 1239 ls [])) : W p l e room_1 s m #[Value.ref b] below meth c H locs (600000 - th_pc u) (7302250 - th_pq u) Q (F0 m 612 ls []) := by
  have hx := hE.1.1
  have hb := hE.1.2.1
  have hax := hE.2.2.2.2.2.1
  have ham := hE.2.2.2.2.2.2.1
  have hU := hk.1
  have hA := hk.2.1
  have hsa := hk.2.2.1
  have hPT := hk.2.2.2
  refine lv_aload_n hx hb dL_law_612 rfl (lv_at hl 2 rfl) ?_
  refine lw_ld (pc := 613) (kn := 1) (pc' := 618) hE hJ.2.2.2 hl hn hL dL_law_613 rfl dL_law_614 rfl dL_law_615 (by decide) (by decide) rfl dL_law_616 rfl dL_law_617 rfl ?_
  refine lw_call (pc' := 621) (k := 1) (P := (fun w K => ∃ r : Int32, w = .int r ∧ f_X11_force (dv G Γ H) (ax : Int) (xs (n + 1)).toInt = ((dv G Γ K), r.toInt) ∧ wf (am : Int) nW (dv G Γ H) (dv G Γ K) ∧ lx_rd G Γ ax (t + 100) K)) hJ (th_runV (As := [.int (xs (n + 1))]) (rest := []) hE.1 mf_X11_force kl_75 im_X11_force se_X11_force (c_X11_force l G Γ H hJ.1 hJ.2.1.1 hU ax hax (xs (n + 1))) rfl rfl ⟨Nat.le_of_ble_eq_true rfl, Nat.le_of_ble_eq_true rfl⟩ hJ.1 hax ro_42 rfl rfl hl.1 rfl (Nat.le_of_ble_eq_true rfl) dL_law_618 ⟨lw_f1 _, lw_f2 _⟩) (fun v K hp => by obtain ⟨r, rfl, hI1, hF1, hR1, hf1⟩ := hp; exact ⟨_, rfl, rfl, hI1, th_RN_c hR1 hJ.2.1 hI1 ham hF1 (by decide), th_bits_F hF1 hJ.2.2.1 (by decide), ⟨r, rfl, hf1, lw_wf hJ.1 hI1 hF1 ham (by decide +kernel), lx_rdF hJ.1 hI1 hF1 hax hsa (by decide) (by omega) hr⟩⟩) rfl (fun w1 H1 locs hc1 hJ1 hP1 => ?_)
  obtain ⟨r1, rfl, e1, g1, d1⟩ := hP1
  have hr1 := d1
  refine lv_pop hx hb dL_law_621 hc1 ?_
  refine lv_aload_n hx hb dL_law_622 rfl (lv_at hl 1 rfl) ?_
  refine lw_ld (pc := 623) (kn := 1) (pc' := 628) hE hJ1.2.2.2 hl hn hL dL_law_623 rfl dL_law_624 rfl dL_law_625 (by decide) (by decide) rfl dL_law_626 rfl dL_law_627 rfl ?_
  refine lw_call (pc' := 631) (k := 1) (P := (fun w K => ∃ r : Int32, w = .int r ∧ f_X12_force (dv G Γ H1) (am : Int) (xs (n + 1)).toInt = ((dv G Γ K), r.toInt) ∧ cf (lw_A ax) nV (dv G Γ H1) (dv G Γ K) ∧ lx_rd G Γ ax (t + 100) K)) hJ1 (th_runV (As := [.int (xs (n + 1))]) (rest := []) hE.1 mf_X12_force kl_78 im_X12_force se_X12_force (c_X12_force l G Γ H1 hJ1.1 hU am ham hJ1.2.1 (xs (n + 1))) rfl rfl ⟨Nat.le_of_ble_eq_true rfl, Nat.le_of_ble_eq_true rfl⟩ hJ1.1 ham ro_46 rfl rfl hl.1 rfl (Nat.le_of_ble_eq_true rfl) dL_law_628 ⟨lw_f1 _, lw_f2 _⟩) (fun v K hp => by obtain ⟨r, rfl, hI1, hF1, hR1, hf1⟩ := hp; exact ⟨_, rfl, rfl, hI1, hR1, th_bits_F hF1 hJ1.2.2.1 (by decide), ⟨r, rfl, hf1, lw_cf hJ1.1 hI1 hF1 hA (by decide +kernel), lx_rdF hJ1.1 hI1 hF1 hax hsa (by decide) (by omega) hr1⟩⟩) rfl (fun w2 H2 locs hc2 hJ2 hP2 => ?_)
  obtain ⟨r2, rfl, e2, f2, d2⟩ := hP2
  refine lv_pop hx hb dL_law_631 hc2 ?_
  have hg := glue (r1 := r1.toInt) (r2 := r2.toInt) (fV := fun V => f_X11_force V (lw_A ax 0) (xs (n + 1)).toInt) (fW := fun V => f_X12_force V (am : Int) (xs (n + 1)).toInt) hq (fun V h => L_force h) (by rw [lw_A0]; exact e1) g1 e2 f2
  exact lv_goto (tgt := 1239) hx hb dL_law_632 (by decide) (kk u _ locs hJ2 hg.2 d2)

set_option maxHeartbeats 4000000 in
set_option maxRecDepth 100000 in
theorem lw_c15 {p : Program} {e : Env} {s : State} {m : MethodId} {below : List Frame} {meth : Method} {c : Code} {Q : State → Prop} {G : th_G} {Γ : th_Ga} {ax am b L n : Nat} {xs : Nat → Int32} {ls : Array Slot} (l : Launch) (hE : lw_E p s m c b L xs G Γ ax am) (hL : L ≤ 384) (hn : n + 6 ≤ L) (hl : lv_has ls 4 [(3, .int (nI n)), (2, .ref am), (1, .ref ax), (0, .ref b)]) (hk : dv_U Γ ∧ lw_AR Γ ax ∧ Γ (ax + 78) = (27, 0) ∧ ∀ x y : Int, th_pm G x y) {u : Nat} {H : Heap} {locs : List Loc} (hJ : lw_J G Γ am s H locs u) (hq : RR (lw_A ax) (am : Int) (dv G Γ H) (dv G Γ H)) {t : Int} (hr : lx_rd G Γ ax t H) (ht : t + 100 + 100 < 2147483647) (kk : ∀ (u1 : Nat) (H1 : Heap) (locs1 : List Loc), lw_J G Γ am s H1 locs1 u1 → RR (lw_A ax) (am : Int) (dv G Γ H1) (dv G Γ H1) → lx_rd G Γ ax (t + 100) H1 → W p l e room_1 s m #[Value.ref b] below meth c H1 locs1 (600000 - th_pc u1) (7302250 - th_pq u1) Q (F0 m 1239 ls [])) : W p l e room_1 s m #[Value.ref b] below meth c H locs (600000 - th_pc u) (7302250 - th_pq u) Q (F0 m 635 ls []) := by
  have hx := hE.1.1
  have hb := hE.1.2.1
  have hax := hE.2.2.2.2.2.1
  have ham := hE.2.2.2.2.2.2.1
  have hU := hk.1
  have hA := hk.2.1
  have hsa := hk.2.2.1
  have hPT := hk.2.2.2
  refine lv_aload_n hx hb dL_law_635 rfl (lv_at hl 2 rfl) ?_
  refine lw_ld (pc := 636) (kn := 1) (pc' := 641) hE hJ.2.2.2 hl hn hL dL_law_636 rfl dL_law_637 rfl dL_law_638 (by decide) (by decide) rfl dL_law_639 rfl dL_law_640 rfl ?_
  refine lw_ld (pc := 641) (kn := 2) (pc' := 646) hE hJ.2.2.2 hl hn hL dL_law_641 rfl dL_law_642 rfl dL_law_643 (by decide) (by decide) rfl dL_law_644 rfl dL_law_645 rfl ?_
  refine lw_ld (pc := 646) (kn := 3) (pc' := 651) hE hJ.2.2.2 hl hn hL dL_law_646 rfl dL_law_647 rfl dL_law_648 (by decide) (by decide) rfl dL_law_649 rfl dL_law_650 rfl ?_
  refine lw_call (pc' := 654) (k := 1) (P := (fun w K => ∃ r : Int32, w = .int r ∧ f_X11_lay (dv G Γ H) (ax : Int) (xs (n + 1)).toInt (xs (n + 2)).toInt (xs (n + 3)).toInt = ((dv G Γ K), r.toInt) ∧ wf (am : Int) nW (dv G Γ H) (dv G Γ K) ∧ lx_rd G Γ ax (t + 100) K)) hJ (th_runV (As := [.int (xs (n + 1)), .int (xs (n + 2)), .int (xs (n + 3))]) (rest := []) hE.1 mf_X11_lay kl_79 im_X11_lay se_X11_lay (c_X11_lay l G Γ H hJ.1 hJ.2.1.1 hU ax hax (xs (n + 1)) (xs (n + 2)) (xs (n + 3))) rfl rfl ⟨Nat.le_of_ble_eq_true rfl, Nat.le_of_ble_eq_true rfl⟩ hJ.1 hax ro_42 rfl rfl hl.1 rfl (Nat.le_of_ble_eq_true rfl) dL_law_651 ⟨lw_f1 _, lw_f2 _⟩) (fun v K hp => by obtain ⟨r, rfl, hI1, hF1, hR1, hf1⟩ := hp; exact ⟨_, rfl, rfl, hI1, th_RN_c hR1 hJ.2.1 hI1 ham hF1 (by decide), th_bits_F hF1 hJ.2.2.1 (by decide), ⟨r, rfl, hf1, lw_wf hJ.1 hI1 hF1 ham (by decide +kernel), lx_rdF hJ.1 hI1 hF1 hax hsa (by decide) (by omega) hr⟩⟩) rfl (fun w1 H1 locs hc1 hJ1 hP1 => ?_)
  obtain ⟨r1, rfl, e1, g1, d1⟩ := hP1
  have hr1 := d1
  refine lv_pop hx hb dL_law_654 hc1 ?_
  refine lv_aload_n hx hb dL_law_655 rfl (lv_at hl 1 rfl) ?_
  refine lw_ld (pc := 656) (kn := 1) (pc' := 661) hE hJ1.2.2.2 hl hn hL dL_law_656 rfl dL_law_657 rfl dL_law_658 (by decide) (by decide) rfl dL_law_659 rfl dL_law_660 rfl ?_
  refine lw_ld (pc := 661) (kn := 2) (pc' := 666) hE hJ1.2.2.2 hl hn hL dL_law_661 rfl dL_law_662 rfl dL_law_663 (by decide) (by decide) rfl dL_law_664 rfl dL_law_665 rfl ?_
  refine lw_ld (pc := 666) (kn := 3) (pc' := 671) hE hJ1.2.2.2 hl hn hL dL_law_666 rfl dL_law_667 rfl dL_law_668 (by decide) (by decide) rfl dL_law_669 rfl dL_law_670 rfl ?_
  refine lw_call (pc' := 674) (k := 1) (P := (fun w K => ∃ r : Int32, w = .int r ∧ f_X12_lay (dv G Γ H1) (am : Int) (xs (n + 1)).toInt (xs (n + 2)).toInt (xs (n + 3)).toInt = ((dv G Γ K), r.toInt) ∧ cf (lw_A ax) nV (dv G Γ H1) (dv G Γ K) ∧ lx_rd G Γ ax (t + 100) K)) hJ1 (th_runV (As := [.int (xs (n + 1)), .int (xs (n + 2)), .int (xs (n + 3))]) (rest := []) hE.1 mf_X12_lay kl_82 im_X12_lay se_X12_lay (c_X12_lay l G Γ H1 hJ1.1 hU am ham hJ1.2.1 (xs (n + 1)) (xs (n + 2)) (xs (n + 3))) rfl rfl ⟨Nat.le_of_ble_eq_true rfl, Nat.le_of_ble_eq_true rfl⟩ hJ1.1 ham ro_46 rfl rfl hl.1 rfl (Nat.le_of_ble_eq_true rfl) dL_law_671 ⟨lw_f1 _, lw_f2 _⟩) (fun v K hp => by obtain ⟨r, rfl, hI1, hF1, hR1, hf1⟩ := hp; exact ⟨_, rfl, rfl, hI1, hR1, th_bits_F hF1 hJ1.2.2.1 (by decide), ⟨r, rfl, hf1, lw_cf hJ1.1 hI1 hF1 hA (by decide +kernel), lx_rdF hJ1.1 hI1 hF1 hax hsa (by decide) (by omega) hr1⟩⟩) rfl (fun w2 H2 locs hc2 hJ2 hP2 => ?_)
  obtain ⟨r2, rfl, e2, f2, d2⟩ := hP2
  refine lv_pop hx hb dL_law_674 hc2 ?_
  have hg := glue (r1 := r1.toInt) (r2 := r2.toInt) (fV := fun V => f_X11_lay V (lw_A ax 0) (xs (n + 1)).toInt (xs (n + 2)).toInt (xs (n + 3)).toInt) (fW := fun V => f_X12_lay V (am : Int) (xs (n + 1)).toInt (xs (n + 2)).toInt (xs (n + 3)).toInt) hq (fun V h => L_lay h) (by rw [lw_A0]; exact e1) g1 e2 f2
  exact lv_goto (tgt := 1239) hx hb dL_law_675 (by decide) (kk u _ locs hJ2 hg.2 d2)

set_option maxHeartbeats 4000000 in
set_option maxRecDepth 100000 in
theorem lw_c16 {p : Program} {e : Env} {s : State} {m : MethodId} {below : List Frame} {meth : Method} {c : Code} {Q : State → Prop} {G : th_G} {Γ : th_Ga} {ax am b L n : Nat} {xs : Nat → Int32} {ls : Array Slot} (l : Launch) (hE : lw_E p s m c b L xs G Γ ax am) (hL : L ≤ 384) (hn : n + 6 ≤ L) (hl : lv_has ls 4 [(3, .int (nI n)), (2, .ref am), (1, .ref ax), (0, .ref b)]) (hk : dv_U Γ ∧ lw_AR Γ ax ∧ Γ (ax + 78) = (27, 0) ∧ ∀ x y : Int, th_pm G x y) {u : Nat} {H : Heap} {locs : List Loc} (hJ : lw_J G Γ am s H locs u) (hq : RR (lw_A ax) (am : Int) (dv G Γ H) (dv G Γ H)) {t : Int} (hr : lx_rd G Γ ax t H) (ht : t + 100 + 100 < 2147483647) (kk : ∀ (u1 : Nat) (H1 : Heap) (locs1 : List Loc), lw_J G Γ am s H1 locs1 u1 → RR (lw_A ax) (am : Int) (dv G Γ H1) (dv G Γ H1) → lx_rd G Γ ax (t + 100) H1 → W p l e room_1 s m #[Value.ref b] below meth c H1 locs1 (600000 - th_pc u1) (7302250 - th_pq u1) Q (F0 m 1239 ls [])) : W p l e room_1 s m #[Value.ref b] below meth c H locs (600000 - th_pc u) (7302250 - th_pq u) Q (F0 m 678 ls []) := by
  have hx := hE.1.1
  have hb := hE.1.2.1
  have hax := hE.2.2.2.2.2.1
  have ham := hE.2.2.2.2.2.2.1
  have hU := hk.1
  have hA := hk.2.1
  have hsa := hk.2.2.1
  have hPT := hk.2.2.2
  refine lv_aload_n hx hb dL_law_678 rfl (lv_at hl 2 rfl) ?_
  refine lw_ld (pc := 679) (kn := 1) (pc' := 684) hE hJ.2.2.2 hl hn hL dL_law_679 rfl dL_law_680 rfl dL_law_681 (by decide) (by decide) rfl dL_law_682 rfl dL_law_683 rfl ?_
  refine lw_call (pc' := 687) (k := 1) (P := (fun w K => ∃ r : Int32, w = .int r ∧ f_X11_roll (dv G Γ H) (ax : Int) (xs (n + 1)).toInt = ((dv G Γ K), r.toInt) ∧ wf (am : Int) nW (dv G Γ H) (dv G Γ K) ∧ lx_rd G Γ ax (t + 100) K)) hJ (th_runV (As := [.int (xs (n + 1))]) (rest := []) hE.1 mf_X11_roll kl_83 im_X11_roll se_X11_roll (c_X11_roll l G Γ H hJ.1 hJ.2.1.1 hU ax hax (xs (n + 1))) rfl rfl ⟨Nat.le_of_ble_eq_true rfl, Nat.le_of_ble_eq_true rfl⟩ hJ.1 hax ro_42 rfl rfl hl.1 rfl (Nat.le_of_ble_eq_true rfl) dL_law_684 ⟨lw_f1 _, lw_f2 _⟩) (fun v K hp => by obtain ⟨r, rfl, hI1, hF1, hR1, hf1⟩ := hp; exact ⟨_, rfl, rfl, hI1, th_RN_c hR1 hJ.2.1 hI1 ham hF1 (by decide), th_bits_F hF1 hJ.2.2.1 (by decide), ⟨r, rfl, hf1, lw_wf hJ.1 hI1 hF1 ham (by decide +kernel), lx_rdF hJ.1 hI1 hF1 hax hsa (by decide) (by omega) hr⟩⟩) rfl (fun w1 H1 locs hc1 hJ1 hP1 => ?_)
  obtain ⟨r1, rfl, e1, g1, d1⟩ := hP1
  have hr1 := d1
  refine lv_pop hx hb dL_law_687 hc1 ?_
  refine lv_aload_n hx hb dL_law_688 rfl (lv_at hl 1 rfl) ?_
  refine lw_ld (pc := 689) (kn := 1) (pc' := 694) hE hJ1.2.2.2 hl hn hL dL_law_689 rfl dL_law_690 rfl dL_law_691 (by decide) (by decide) rfl dL_law_692 rfl dL_law_693 rfl ?_
  refine lw_call (pc' := 697) (k := 1) (P := (fun w K => ∃ r : Int32, w = .int r ∧ f_X12_roll (dv G Γ H1) (am : Int) (xs (n + 1)).toInt = ((dv G Γ K), r.toInt) ∧ cf (lw_A ax) nV (dv G Γ H1) (dv G Γ K) ∧ lx_rd G Γ ax (t + 100) K)) hJ1 (th_runV (As := [.int (xs (n + 1))]) (rest := []) hE.1 mf_X12_roll kl_86 im_X12_roll se_X12_roll (c_X12_roll l G Γ H1 hJ1.1 hU am ham hJ1.2.1 (xs (n + 1))) rfl rfl ⟨Nat.le_of_ble_eq_true rfl, Nat.le_of_ble_eq_true rfl⟩ hJ1.1 ham ro_46 rfl rfl hl.1 rfl (Nat.le_of_ble_eq_true rfl) dL_law_694 ⟨lw_f1 _, lw_f2 _⟩) (fun v K hp => by obtain ⟨r, rfl, hI1, hF1, hR1, hf1⟩ := hp; exact ⟨_, rfl, rfl, hI1, hR1, th_bits_F hF1 hJ1.2.2.1 (by decide), ⟨r, rfl, hf1, lw_cf hJ1.1 hI1 hF1 hA (by decide +kernel), lx_rdF hJ1.1 hI1 hF1 hax hsa (by decide) (by omega) hr1⟩⟩) rfl (fun w2 H2 locs hc2 hJ2 hP2 => ?_)
  obtain ⟨r2, rfl, e2, f2, d2⟩ := hP2
  refine lv_pop hx hb dL_law_697 hc2 ?_
  have hg := glue (r1 := r1.toInt) (r2 := r2.toInt) (fV := fun V => f_X11_roll V (lw_A ax 0) (xs (n + 1)).toInt) (fW := fun V => f_X12_roll V (am : Int) (xs (n + 1)).toInt) hq (fun V h => L_roll h) (by rw [lw_A0]; exact e1) g1 e2 f2
  exact lv_goto (tgt := 1239) hx hb dL_law_698 (by decide) (kk u _ locs hJ2 hg.2 d2)

set_option maxHeartbeats 4000000 in
set_option maxRecDepth 100000 in
theorem lw_c17 {p : Program} {e : Env} {s : State} {m : MethodId} {below : List Frame} {meth : Method} {c : Code} {Q : State → Prop} {G : th_G} {Γ : th_Ga} {ax am b L n : Nat} {xs : Nat → Int32} {ls : Array Slot} (l : Launch) (hE : lw_E p s m c b L xs G Γ ax am) (hL : L ≤ 384) (hn : n + 6 ≤ L) (hl : lv_has ls 4 [(3, .int (nI n)), (2, .ref am), (1, .ref ax), (0, .ref b)]) (hk : dv_U Γ ∧ lw_AR Γ ax ∧ Γ (ax + 78) = (27, 0) ∧ ∀ x y : Int, th_pm G x y) {u : Nat} {H : Heap} {locs : List Loc} (hJ : lw_J G Γ am s H locs u) (hq : RR (lw_A ax) (am : Int) (dv G Γ H) (dv G Γ H)) {t : Int} (hr : lx_rd G Γ ax t H) (ht : t + 100 + 100 < 2147483647) (kk : ∀ (u1 : Nat) (H1 : Heap) (locs1 : List Loc), lw_J G Γ am s H1 locs1 u1 → RR (lw_A ax) (am : Int) (dv G Γ H1) (dv G Γ H1) → lx_rd G Γ ax (t + 100) H1 → W p l e room_1 s m #[Value.ref b] below meth c H1 locs1 (600000 - th_pc u1) (7302250 - th_pq u1) Q (F0 m 1239 ls [])) : W p l e room_1 s m #[Value.ref b] below meth c H locs (600000 - th_pc u) (7302250 - th_pq u) Q (F0 m 701 ls []) := by
  have hx := hE.1.1
  have hb := hE.1.2.1
  have hax := hE.2.2.2.2.2.1
  have ham := hE.2.2.2.2.2.2.1
  have hU := hk.1
  have hA := hk.2.1
  have hsa := hk.2.2.1
  have hPT := hk.2.2.2
  refine lv_aload_n hx hb dL_law_701 rfl (lv_at hl 2 rfl) ?_
  refine lw_call (pc' := 705) (k := 1) (P := (fun w K => ∃ r : Int32, w = .int r ∧ f_X11_mirror (dv G Γ H) (ax : Int) = ((dv G Γ K), r.toInt) ∧ wf (am : Int) nW (dv G Γ H) (dv G Γ K) ∧ lx_rd G Γ ax (t + 100) K)) hJ (th_runV (As := []) (rest := []) hE.1 mf_X11_mirror kl_87 im_X11_mirror se_X11_mirror (c_X11_mirror l G Γ H hJ.1 hJ.2.1.1 hU ax hax) rfl rfl ⟨Nat.le_of_ble_eq_true rfl, Nat.le_of_ble_eq_true rfl⟩ hJ.1 hax ro_42 rfl rfl hl.1 rfl (Nat.le_of_ble_eq_true rfl) dL_law_702 ⟨lw_f1 _, lw_f2 _⟩) (fun v K hp => by obtain ⟨r, rfl, hI1, hF1, hR1, hf1⟩ := hp; exact ⟨_, rfl, rfl, hI1, th_RN_c hR1 hJ.2.1 hI1 ham hF1 (by decide), th_bits_F hF1 hJ.2.2.1 (by decide), ⟨r, rfl, hf1, lw_wf hJ.1 hI1 hF1 ham (by decide +kernel), lx_rdF hJ.1 hI1 hF1 hax hsa (by decide) (by omega) hr⟩⟩) rfl (fun w1 H1 locs hc1 hJ1 hP1 => ?_)
  obtain ⟨r1, rfl, e1, g1, d1⟩ := hP1
  have hr1 := d1
  refine lv_pop hx hb dL_law_705 hc1 ?_
  refine lv_aload_n hx hb dL_law_706 rfl (lv_at hl 1 rfl) ?_
  refine lw_call (pc' := 710) (k := 1) (P := (fun w K => ∃ r : Int32, w = .int r ∧ f_X12_mirror (dv G Γ H1) (am : Int) = ((dv G Γ K), r.toInt) ∧ cf (lw_A ax) nV (dv G Γ H1) (dv G Γ K) ∧ lx_rd G Γ ax (t + 100) K)) hJ1 (th_runV (As := []) (rest := []) hE.1 mf_X12_mirror kl_90 im_X12_mirror se_X12_mirror (c_X12_mirror l G Γ H1 hJ1.1 hU am ham hJ1.2.1) rfl rfl ⟨Nat.le_of_ble_eq_true rfl, Nat.le_of_ble_eq_true rfl⟩ hJ1.1 ham ro_46 rfl rfl hl.1 rfl (Nat.le_of_ble_eq_true rfl) dL_law_707 ⟨lw_f1 _, lw_f2 _⟩) (fun v K hp => by obtain ⟨r, rfl, hI1, hF1, hR1, hf1⟩ := hp; exact ⟨_, rfl, rfl, hI1, hR1, th_bits_F hF1 hJ1.2.2.1 (by decide), ⟨r, rfl, hf1, lw_cf hJ1.1 hI1 hF1 hA (by decide +kernel), lx_rdF hJ1.1 hI1 hF1 hax hsa (by decide) (by omega) hr1⟩⟩) rfl (fun w2 H2 locs hc2 hJ2 hP2 => ?_)
  obtain ⟨r2, rfl, e2, f2, d2⟩ := hP2
  refine lv_pop hx hb dL_law_710 hc2 ?_
  have hg := glue (r1 := r1.toInt) (r2 := r2.toInt) (fV := fun V => f_X11_mirror V (lw_A ax 0)) (fW := fun V => f_X12_mirror V (am : Int)) hq (fun V h => L_mirror h) (by rw [lw_A0]; exact e1) g1 e2 f2
  exact lv_goto (tgt := 1239) hx hb dL_law_711 (by decide) (kk u _ locs hJ2 hg.2 d2)

set_option maxHeartbeats 4000000 in
set_option maxRecDepth 100000 in
theorem lw_c18 {p : Program} {e : Env} {s : State} {m : MethodId} {below : List Frame} {meth : Method} {c : Code} {Q : State → Prop} {G : th_G} {Γ : th_Ga} {ax am b L n : Nat} {xs : Nat → Int32} {ls : Array Slot} (l : Launch) (hE : lw_E p s m c b L xs G Γ ax am) (hL : L ≤ 384) (hn : n + 6 ≤ L) (hl : lv_has ls 4 [(3, .int (nI n)), (2, .ref am), (1, .ref ax), (0, .ref b)]) (hk : dv_U Γ ∧ lw_AR Γ ax ∧ Γ (ax + 78) = (27, 0) ∧ ∀ x y : Int, th_pm G x y) {u : Nat} {H : Heap} {locs : List Loc} (hJ : lw_J G Γ am s H locs u) (hq : RR (lw_A ax) (am : Int) (dv G Γ H) (dv G Γ H)) {t : Int} (hr : lx_rd G Γ ax t H) (ht : t + 100 + 100 < 2147483647) (kk : ∀ (u1 : Nat) (H1 : Heap) (locs1 : List Loc), lw_J G Γ am s H1 locs1 u1 → RR (lw_A ax) (am : Int) (dv G Γ H1) (dv G Γ H1) → lx_rd G Γ ax (t + 100) H1 → W p l e room_1 s m #[Value.ref b] below meth c H1 locs1 (600000 - th_pc u1) (7302250 - th_pq u1) Q (F0 m 1239 ls [])) : W p l e room_1 s m #[Value.ref b] below meth c H locs (600000 - th_pc u) (7302250 - th_pq u) Q (F0 m 714 ls []) := by
  have hx := hE.1.1
  have hb := hE.1.2.1
  have hax := hE.2.2.2.2.2.1
  have ham := hE.2.2.2.2.2.2.1
  have hU := hk.1
  have hA := hk.2.1
  have hsa := hk.2.2.1
  have hPT := hk.2.2.2
  refine lv_aload_n hx hb dL_law_714 rfl (lv_at hl 2 rfl) ?_
  refine lw_call (pc' := 718) (k := 1) (P := (fun w K => ∃ r : Int32, w = .int r ∧ f_X11_pass (dv G Γ H) (ax : Int) = ((dv G Γ K), r.toInt) ∧ wf (am : Int) nW (dv G Γ H) (dv G Γ K) ∧ lx_rd G Γ ax (t + 100) K)) hJ (th_runV (As := []) (rest := []) hE.1 mf_X11_pass kl_91 im_X11_pass se_X11_pass (c_X11_pass l G Γ H hJ.1 hJ.2.1.1 hU ax hax) rfl rfl ⟨Nat.le_of_ble_eq_true rfl, Nat.le_of_ble_eq_true rfl⟩ hJ.1 hax ro_42 rfl rfl hl.1 rfl (Nat.le_of_ble_eq_true rfl) dL_law_715 ⟨lw_f1 _, lw_f2 _⟩) (fun v K hp => by obtain ⟨r, rfl, hI1, hF1, hR1, hf1⟩ := hp; exact ⟨_, rfl, rfl, hI1, th_RN_c hR1 hJ.2.1 hI1 ham hF1 (by decide), th_bits_F hF1 hJ.2.2.1 (by decide), ⟨r, rfl, hf1, lw_wf hJ.1 hI1 hF1 ham (by decide +kernel), lx_rdF hJ.1 hI1 hF1 hax hsa (by decide) (by omega) hr⟩⟩) rfl (fun w1 H1 locs hc1 hJ1 hP1 => ?_)
  obtain ⟨r1, rfl, e1, g1, d1⟩ := hP1
  have hr1 := d1
  refine lv_pop hx hb dL_law_718 hc1 ?_
  refine lv_aload_n hx hb dL_law_719 rfl (lv_at hl 1 rfl) ?_
  refine lw_call (pc' := 723) (k := 1) (P := (fun w K => ∃ r : Int32, w = .int r ∧ f_X12_pass (dv G Γ H1) (am : Int) = ((dv G Γ K), r.toInt) ∧ cf (lw_A ax) nV (dv G Γ H1) (dv G Γ K) ∧ lx_rd G Γ ax (t + 100) K)) hJ1 (th_runV (As := []) (rest := []) hE.1 mf_X12_pass kl_94 im_X12_pass se_X12_pass (c_X12_pass l G Γ H1 hJ1.1 hU am ham hJ1.2.1) rfl rfl ⟨Nat.le_of_ble_eq_true rfl, Nat.le_of_ble_eq_true rfl⟩ hJ1.1 ham ro_46 rfl rfl hl.1 rfl (Nat.le_of_ble_eq_true rfl) dL_law_720 ⟨lw_f1 _, lw_f2 _⟩) (fun v K hp => by obtain ⟨r, rfl, hI1, hF1, hR1, hf1⟩ := hp; exact ⟨_, rfl, rfl, hI1, hR1, th_bits_F hF1 hJ1.2.2.1 (by decide), ⟨r, rfl, hf1, lw_cf hJ1.1 hI1 hF1 hA (by decide +kernel), lx_rdF hJ1.1 hI1 hF1 hax hsa (by decide) (by omega) hr1⟩⟩) rfl (fun w2 H2 locs hc2 hJ2 hP2 => ?_)
  obtain ⟨r2, rfl, e2, f2, d2⟩ := hP2
  refine lv_pop hx hb dL_law_723 hc2 ?_
  have hg := glue (r1 := r1.toInt) (r2 := r2.toInt) (fV := fun V => f_X11_pass V (lw_A ax 0)) (fW := fun V => f_X12_pass V (am : Int)) hq (fun V h => L_pass h) (by rw [lw_A0]; exact e1) g1 e2 f2
  exact lv_goto (tgt := 1239) hx hb dL_law_724 (by decide) (kk u _ locs hJ2 hg.2 d2)

set_option maxHeartbeats 4000000 in
set_option maxRecDepth 100000 in
theorem lw_c19 {p : Program} {e : Env} {s : State} {m : MethodId} {below : List Frame} {meth : Method} {c : Code} {Q : State → Prop} {G : th_G} {Γ : th_Ga} {ax am b L n : Nat} {xs : Nat → Int32} {ls : Array Slot} (l : Launch) (hE : lw_E p s m c b L xs G Γ ax am) (hL : L ≤ 384) (hn : n + 6 ≤ L) (hl : lv_has ls 4 [(3, .int (nI n)), (2, .ref am), (1, .ref ax), (0, .ref b)]) (hk : dv_U Γ ∧ lw_AR Γ ax ∧ Γ (ax + 78) = (27, 0) ∧ ∀ x y : Int, th_pm G x y) {u : Nat} {H : Heap} {locs : List Loc} (hJ : lw_J G Γ am s H locs u) (hq : RR (lw_A ax) (am : Int) (dv G Γ H) (dv G Γ H)) {t : Int} (hr : lx_rd G Γ ax t H) (ht : t + 100 + 100 < 2147483647) (kk : ∀ (u1 : Nat) (H1 : Heap) (locs1 : List Loc), lw_J G Γ am s H1 locs1 u1 → RR (lw_A ax) (am : Int) (dv G Γ H1) (dv G Γ H1) → lx_rd G Γ ax (t + 100) H1 → W p l e room_1 s m #[Value.ref b] below meth c H1 locs1 (600000 - th_pc u1) (7302250 - th_pq u1) Q (F0 m 1239 ls [])) : W p l e room_1 s m #[Value.ref b] below meth c H locs (600000 - th_pc u) (7302250 - th_pq u) Q (F0 m 727 ls []) := by
  have hx := hE.1.1
  have hb := hE.1.2.1
  have hax := hE.2.2.2.2.2.1
  have ham := hE.2.2.2.2.2.2.1
  have hU := hk.1
  have hA := hk.2.1
  have hsa := hk.2.2.1
  have hPT := hk.2.2.2
  refine lv_aload_n hx hb dL_law_727 rfl (lv_at hl 2 rfl) ?_
  refine lw_call (pc' := 731) (k := 1) (P := (fun w K => ∃ r : Int32, w = .int r ∧ f_X11_undo (dv G Γ H) (ax : Int) = ((dv G Γ K), r.toInt) ∧ wf (am : Int) nW (dv G Γ H) (dv G Γ K) ∧ lx_rd G Γ ax (t + 100) K)) hJ (th_runV (As := []) (rest := []) hE.1 mf_X11_undo kl_95 im_X11_undo se_X11_undo (c_X11_undo l G Γ H hJ.1 hJ.2.1.1 hU ax hax) rfl rfl ⟨Nat.le_of_ble_eq_true rfl, Nat.le_of_ble_eq_true rfl⟩ hJ.1 hax ro_42 rfl rfl hl.1 rfl (Nat.le_of_ble_eq_true rfl) dL_law_728 ⟨lw_f1 _, lw_f2 _⟩) (fun v K hp => by obtain ⟨r, rfl, hI1, hF1, hR1, hf1⟩ := hp; exact ⟨_, rfl, rfl, hI1, th_RN_c hR1 hJ.2.1 hI1 ham hF1 (by decide), th_bits_F hF1 hJ.2.2.1 (by decide), ⟨r, rfl, hf1, lw_wf hJ.1 hI1 hF1 ham (by decide +kernel), lx_rdF hJ.1 hI1 hF1 hax hsa (by decide) (by omega) hr⟩⟩) rfl (fun w1 H1 locs hc1 hJ1 hP1 => ?_)
  obtain ⟨r1, rfl, e1, g1, d1⟩ := hP1
  have hr1 := d1
  refine lv_pop hx hb dL_law_731 hc1 ?_
  refine lv_aload_n hx hb dL_law_732 rfl (lv_at hl 1 rfl) ?_
  refine lw_call (pc' := 736) (k := 1) (P := (fun w K => ∃ r : Int32, w = .int r ∧ f_X12_undo (dv G Γ H1) (am : Int) = ((dv G Γ K), r.toInt) ∧ cf (lw_A ax) nV (dv G Γ H1) (dv G Γ K) ∧ lx_rd G Γ ax (t + 100) K)) hJ1 (th_runV (As := []) (rest := []) hE.1 mf_X12_undo kl_98 im_X12_undo se_X12_undo (c_X12_undo l G Γ H1 hJ1.1 hU am ham hJ1.2.1) rfl rfl ⟨Nat.le_of_ble_eq_true rfl, Nat.le_of_ble_eq_true rfl⟩ hJ1.1 ham ro_46 rfl rfl hl.1 rfl (Nat.le_of_ble_eq_true rfl) dL_law_733 ⟨lw_f1 _, lw_f2 _⟩) (fun v K hp => by obtain ⟨r, rfl, hI1, hF1, hR1, hf1⟩ := hp; exact ⟨_, rfl, rfl, hI1, hR1, th_bits_F hF1 hJ1.2.2.1 (by decide), ⟨r, rfl, hf1, lw_cf hJ1.1 hI1 hF1 hA (by decide +kernel), lx_rdF hJ1.1 hI1 hF1 hax hsa (by decide) (by omega) hr1⟩⟩) rfl (fun w2 H2 locs hc2 hJ2 hP2 => ?_)
  obtain ⟨r2, rfl, e2, f2, d2⟩ := hP2
  refine lv_pop hx hb dL_law_736 hc2 ?_
  have hg := glue (r1 := r1.toInt) (r2 := r2.toInt) (fV := fun V => f_X11_undo V (lw_A ax 0)) (fW := fun V => f_X12_undo V (am : Int)) hq (fun V h => L_undo h) (by rw [lw_A0]; exact e1) g1 e2 f2
  exact lv_goto (tgt := 1239) hx hb dL_law_737 (by decide) (kk u _ locs hJ2 hg.2 d2)

set_option maxHeartbeats 4000000 in
set_option maxRecDepth 100000 in
theorem lw_c20 {p : Program} {e : Env} {s : State} {m : MethodId} {below : List Frame} {meth : Method} {c : Code} {Q : State → Prop} {G : th_G} {Γ : th_Ga} {ax am b L n : Nat} {xs : Nat → Int32} {ls : Array Slot} (l : Launch) (hE : lw_E p s m c b L xs G Γ ax am) (hL : L ≤ 384) (hn : n + 6 ≤ L) (hl : lv_has ls 4 [(3, .int (nI n)), (2, .ref am), (1, .ref ax), (0, .ref b)]) (hk : dv_U Γ ∧ lw_AR Γ ax ∧ Γ (ax + 78) = (27, 0) ∧ ∀ x y : Int, th_pm G x y) {u : Nat} {H : Heap} {locs : List Loc} (hJ : lw_J G Γ am s H locs u) (hq : RR (lw_A ax) (am : Int) (dv G Γ H) (dv G Γ H)) {t : Int} (hr : lx_rd G Γ ax t H) (ht : t + 100 + 100 < 2147483647) (kk : ∀ (u1 : Nat) (H1 : Heap) (locs1 : List Loc), lw_J G Γ am s H1 locs1 u1 → RR (lw_A ax) (am : Int) (dv G Γ H1) (dv G Γ H1) → lx_rd G Γ ax (t + 100) H1 → W p l e room_1 s m #[Value.ref b] below meth c H1 locs1 (600000 - th_pc u1) (7302250 - th_pq u1) Q (F0 m 1239 ls [])) : W p l e room_1 s m #[Value.ref b] below meth c H locs (600000 - th_pc u) (7302250 - th_pq u) Q (F0 m 740 ls []) := by
  have hx := hE.1.1
  have hb := hE.1.2.1
  have hax := hE.2.2.2.2.2.1
  have ham := hE.2.2.2.2.2.2.1
  have hU := hk.1
  have hA := hk.2.1
  have hsa := hk.2.2.1
  have hPT := hk.2.2.2
  refine lv_aload_n hx hb dL_law_740 rfl (lv_at hl 2 rfl) ?_
  refine lw_ld (pc := 741) (kn := 1) (pc' := 746) hE hJ.2.2.2 hl hn hL dL_law_741 rfl dL_law_742 rfl dL_law_743 (by decide) (by decide) rfl dL_law_744 rfl dL_law_745 rfl ?_
  refine lw_call (pc' := 749) (k := 1) (P := (fun w K => ∃ r : Int32, w = .int r ∧ f_X11_bare (dv G Γ H) (ax : Int) (xs (n + 1)).toInt = ((dv G Γ K), r.toInt) ∧ cf (lw_A ax) cs_L (dv G Γ H) (dv G Γ K) ∧ wf (am : Int) nW (dv G Γ H) (dv G Γ K) ∧ lx_rd G Γ ax (t + 100) K)) hJ (th_runV (As := [.int (xs (n + 1))]) (rest := []) hE.1 mf_X11_bare kl_99 im_X11_bare se_X11_bare (c_X11_bare l G Γ H hJ.1 hJ.2.1.1 hU ax hax (xs (n + 1))) rfl rfl ⟨Nat.le_of_ble_eq_true rfl, Nat.le_of_ble_eq_true rfl⟩ hJ.1 hax ro_42 rfl rfl hl.1 rfl (Nat.le_of_ble_eq_true rfl) dL_law_746 ⟨lw_f1 _, lw_f2 _⟩) (fun v K hp => by obtain ⟨r, rfl, hI1, hF1, hR1, hf1⟩ := hp; exact ⟨_, rfl, rfl, hI1, th_RN_c hR1 hJ.2.1 hI1 ham hF1 (by decide), th_bits_F hF1 hJ.2.2.1 (by decide), ⟨r, rfl, hf1, lw_cf hJ.1 hI1 hF1 hA (by decide +kernel), lw_wf hJ.1 hI1 hF1 ham (by decide +kernel), lx_rdF hJ.1 hI1 hF1 hax hsa (by decide) (by omega) hr⟩⟩) rfl (fun w1 H1 locs hc1 hJ1 hP1 => ?_)
  obtain ⟨r1, rfl, e1, f1, g1, d1⟩ := hP1
  have hr1 := d1
  refine lv_pop hx hb dL_law_749 hc1 ?_
  refine lv_aload_n hx hb dL_law_750 rfl (lv_at hl 1 rfl) ?_
  refine lw_ld (pc := 751) (kn := 1) (pc' := 756) hE hJ1.2.2.2 hl hn hL dL_law_751 rfl dL_law_752 rfl dL_law_753 (by decide) (by decide) rfl dL_law_754 rfl dL_law_755 rfl ?_
  refine lw_call (pc' := 759) (k := 1) (P := (fun w K => ∃ r : Int32, w = .int r ∧ f_X12_bare (dv G Γ H1) (am : Int) (xs (n + 1)).toInt = ((dv G Γ K), r.toInt) ∧ cf (lw_A ax) nV (dv G Γ H1) (dv G Γ K) ∧ lx_rd G Γ ax (t + 100) K)) hJ1 (th_runV (As := [.int (xs (n + 1))]) (rest := []) hE.1 mf_X12_bare kl_102 im_X12_bare se_X12_bare (c_X12_bare l G Γ H1 hJ1.1 hU am ham (th_NK hJ1.2.1) (xs (n + 1))) rfl rfl ⟨Nat.le_of_ble_eq_true rfl, Nat.le_of_ble_eq_true rfl⟩ hJ1.1 ham ro_46 rfl rfl hl.1 rfl (Nat.le_of_ble_eq_true rfl) dL_law_756 ⟨lw_f1 _, lw_f2 _⟩) (fun v K hp => by obtain ⟨r, rfl, hI1, hF1, hR1, hf1⟩ := hp; exact ⟨_, rfl, rfl, hI1, th_RN_c hR1.1 hJ1.2.1 hI1 ham hF1 (by decide), th_bits_F hF1 hJ1.2.2.1 (by decide), ⟨r, rfl, hf1, lw_cf hJ1.1 hI1 hF1 hA (by decide +kernel), lx_rdF hJ1.1 hI1 hF1 hax hsa (by decide) (by omega) hr1⟩⟩) rfl (fun w2 H2 locs hc2 hJ2 hP2 => ?_)
  obtain ⟨r2, rfl, e2, f2, d2⟩ := hP2
  refine lv_pop hx hb dL_law_759 hc2 ?_
  have hq1 := glue_C hq f1 (lw_kwA hJ1.1 hA) g1
  have hg := glue_S (fW := fun V => f_X12_bare V (am : Int) (xs (n + 1)).toInt) hq1 (sk_of (fW := fun V => f_X12_bare V (am : Int) (xs (n + 1)).toInt) (F_bare (RR_JX hq1))) e2 f2
  exact lv_goto (tgt := 1239) hx hb dL_law_760 (by decide) (kk u _ locs hJ2 hg d2)

set_option maxHeartbeats 4000000 in
set_option maxRecDepth 100000 in
theorem lw_c21 {p : Program} {e : Env} {s : State} {m : MethodId} {below : List Frame} {meth : Method} {c : Code} {Q : State → Prop} {G : th_G} {Γ : th_Ga} {ax am b L n : Nat} {xs : Nat → Int32} {ls : Array Slot} (l : Launch) (hE : lw_E p s m c b L xs G Γ ax am) (hL : L ≤ 384) (hn : n + 6 ≤ L) (hl : lv_has ls 4 [(3, .int (nI n)), (2, .ref am), (1, .ref ax), (0, .ref b)]) (hk : dv_U Γ ∧ lw_AR Γ ax ∧ Γ (ax + 78) = (27, 0) ∧ ∀ x y : Int, th_pm G x y) {u : Nat} {H : Heap} {locs : List Loc} (hJ : lw_J G Γ am s H locs u) (hq : RR (lw_A ax) (am : Int) (dv G Γ H) (dv G Γ H)) {t : Int} (hr : lx_rd G Γ ax t H) (ht : t + 100 + 100 < 2147483647) (kk : ∀ (u1 : Nat) (H1 : Heap) (locs1 : List Loc), lw_J G Γ am s H1 locs1 u1 → RR (lw_A ax) (am : Int) (dv G Γ H1) (dv G Γ H1) → lx_rd G Γ ax (t + 100) H1 → W p l e room_1 s m #[Value.ref b] below meth c H1 locs1 (600000 - th_pc u1) (7302250 - th_pq u1) Q (F0 m 1239 ls [])) : W p l e room_1 s m #[Value.ref b] below meth c H locs (600000 - th_pc u) (7302250 - th_pq u) Q (F0 m 763 ls []) := by
  have hx := hE.1.1
  have hb := hE.1.2.1
  have hax := hE.2.2.2.2.2.1
  have ham := hE.2.2.2.2.2.2.1
  have hU := hk.1
  have hA := hk.2.1
  have hsa := hk.2.2.1
  have hPT := hk.2.2.2
  refine lv_aload_n hx hb dL_law_763 rfl (lv_at hl 2 rfl) ?_
  refine lw_ld (pc := 764) (kn := 1) (pc' := 769) hE hJ.2.2.2 hl hn hL dL_law_764 rfl dL_law_765 rfl dL_law_766 (by decide) (by decide) rfl dL_law_767 rfl dL_law_768 rfl ?_
  refine lw_callb (pc' := 772) (k := 1) (P := (fun w K => ∃ r : Int32, w = .int r ∧ RS (lw_A ax) (am : Int) ((ax + 78 : Nat) : Int) (t + 100) (lx_M Γ) (dv G Γ K) (dv G Γ H) ∧ wf (am : Int) nW (dv G Γ H) (dv G Γ K))) hJ (th_runV (As := [.int (xs (n + 1))]) (rest := []) hE.1 mf_X11_fill kl_103 im_X11_fill se_X11_fill (c_X11_fill_S l G Γ H hJ.1 hJ.2.1.1 hU ax hax (xs (n + 1)) hPT (lw_A ax) (am : Int) ((ax + 78 : Nat) : Int) t (lx_M Γ) (dv G Γ H) (lx_RS hJ.1 hA hsa hq hr) lw_A0 (fun _ => Iff.rfl) (by omega) u hJ.2.2.1) rfl rfl ⟨Nat.le_of_ble_eq_true rfl, Nat.le_of_ble_eq_true rfl⟩ hJ.1 hax ro_42 rfl rfl hl.1 rfl (Nat.le_of_ble_eq_true rfl) dL_law_769 ⟨lw_f3 hJ.2.2.1.1, lw_f4 hJ.2.2.1.1⟩) (fun v K hp => by obtain ⟨r, rfl, hI1, hF1, hR1, hRS, hbp⟩ := hp; exact ⟨_, rfl, rfl, hI1, th_RN_c hR1 hJ.2.1 hI1 ham hF1 (by decide), hbp, ⟨r, rfl, hRS, lw_wf hJ.1 hI1 hF1 ham (by decide +kernel)⟩⟩) rfl (fun u1 w1 H1 locs hc1 hJ1 hP1 => ?_)
  obtain ⟨r1, rfl, f1, g1⟩ := hP1
  have hr1 : lx_rd G Γ ax (t + 100) H1 := ⟨by rw [← lw_A0]; exact f1.2.1.1, f1.2.2.2.1⟩
  refine lv_pop hx hb dL_law_772 hc1 ?_
  refine lv_aload_n hx hb dL_law_773 rfl (lv_at hl 1 rfl) ?_
  refine lw_ld (pc := 774) (kn := 1) (pc' := 779) hE hJ1.2.2.2 hl hn hL dL_law_774 rfl dL_law_775 rfl dL_law_776 (by decide) (by decide) rfl dL_law_777 rfl dL_law_778 rfl ?_
  refine lw_call (pc' := 782) (k := 1) (P := (fun w K => ∃ r : Int32, w = .int r ∧ f_X12_fill (dv G Γ H1) (am : Int) (xs (n + 1)).toInt = ((dv G Γ K), r.toInt) ∧ cf (lw_A ax) nV (dv G Γ H1) (dv G Γ K) ∧ lx_rd G Γ ax (t + 100) K)) hJ1 (th_runV (As := [.int (xs (n + 1))]) (rest := []) hE.1 mf_X12_fill kl_106 im_X12_fill se_X12_fill (c_X12_fill l G Γ H1 hJ1.1 hU am ham (th_NK hJ1.2.1) (xs (n + 1))) rfl rfl ⟨Nat.le_of_ble_eq_true rfl, Nat.le_of_ble_eq_true rfl⟩ hJ1.1 ham ro_46 rfl rfl hl.1 rfl (Nat.le_of_ble_eq_true rfl) dL_law_779 ⟨lw_f1 _, lw_f2 _⟩) (fun v K hp => by obtain ⟨r, rfl, hI1, hF1, hR1, hf1⟩ := hp; exact ⟨_, rfl, rfl, hI1, th_RN_c hR1.1 hJ1.2.1 hI1 ham hF1 (by decide), th_bits_F hF1 hJ1.2.2.1 (by decide), ⟨r, rfl, hf1, lw_cf hJ1.1 hI1 hF1 hA (by decide +kernel), lx_rdF hJ1.1 hI1 hF1 hax hsa (by decide) (by omega) hr1⟩⟩) rfl (fun w2 H2 locs hc2 hJ2 hP2 => ?_)
  obtain ⟨r2, rfl, e2, f2, d2⟩ := hP2
  refine lv_pop hx hb dL_law_782 hc2 ?_
  have hq1 := RR_VW f1.1 cf_r g1
  have hg := glue_S (fW := fun V => f_X12_fill V (am : Int) (xs (n + 1)).toInt) hq1 (sk_of (fW := fun V => f_X12_fill V (am : Int) (xs (n + 1)).toInt) (F_fill (RR_JX hq1))) e2 f2
  exact lv_goto (tgt := 1239) hx hb dL_law_783 (by decide) (kk u1 _ locs hJ2 hg d2)
end
section
set_option maxHeartbeats 4000000 in
set_option maxRecDepth 100000 in
theorem lw_c22 {p : Program} {e : Env} {s : State} {m : MethodId} {below : List Frame} {meth : Method} {c : Code} {Q : State → Prop} {G : th_G} {Γ : th_Ga} {ax am b L n : Nat} {xs : Nat → Int32} {ls : Array Slot} (l : Launch) (hE : lw_E p s m c b L xs G Γ ax am) (hL : L ≤ 384) (hn : n + 6 ≤ L) (hl : lv_has ls 4 [(3, .int (nI n)), (2, .ref am), (1, .ref ax), (0, .ref b)]) (hk : dv_U Γ ∧ lw_AR Γ ax ∧ Γ (ax + 78) = (27, 0) ∧ ∀ x y : Int, th_pm G x y) {u : Nat} {H : Heap} {locs : List Loc} (hJ : lw_J G Γ am s H locs u) (hq : RR (lw_A ax) (am : Int) (dv G Γ H) (dv G Γ H)) {t : Int} (hr : lx_rd G Γ ax t H) (ht : t + 100 + 100 < 2147483647) (kk : ∀ (u1 : Nat) (H1 : Heap) (locs1 : List Loc), lw_J G Γ am s H1 locs1 u1 → RR (lw_A ax) (am : Int) (dv G Γ H1) (dv G Γ H1) → lx_rd G Γ ax (t + 100) H1 → W p l e room_1 s m #[Value.ref b] below meth c H1 locs1 (600000 - th_pc u1) (7302250 - th_pq u1) Q (F0 m 1239 ls [])) : W p l e room_1 s m #[Value.ref b] below meth c H locs (600000 - th_pc u) (7302250 - th_pq u) Q (F0 m 786 ls []) := by
  have hx := hE.1.1
  have hb := hE.1.2.1
  have hax := hE.2.2.2.2.2.1
  have ham := hE.2.2.2.2.2.2.1
  have hU := hk.1
  have hA := hk.2.1
  have hsa := hk.2.2.1
  have hPT := hk.2.2.2
  refine lv_aload_n hx hb dL_law_786 rfl (lv_at hl 2 rfl) ?_
  refine lw_callb (pc' := 790) (k := 1) (P := (fun w K => ∃ r : Int32, w = .int r ∧ RS (lw_A ax) (am : Int) ((ax + 78 : Nat) : Int) (t + 100) (lx_M Γ) (dv G Γ K) (dv G Γ H) ∧ wf (am : Int) nW (dv G Γ H) (dv G Γ K))) hJ (th_runV (As := []) (rest := []) hE.1 mf_X11_ways kl_107 im_X11_ways se_X11_ways (c_X11_ways_S l G Γ H hJ.1 hJ.2.1.1 hU ax hax hPT (lw_A ax) (am : Int) ((ax + 78 : Nat) : Int) t (lx_M Γ) (dv G Γ H) (lx_RS hJ.1 hA hsa hq hr) lw_A0 (fun _ => Iff.rfl) (by omega) u hJ.2.2.1) rfl rfl ⟨Nat.le_of_ble_eq_true rfl, Nat.le_of_ble_eq_true rfl⟩ hJ.1 hax ro_42 rfl rfl hl.1 rfl (Nat.le_of_ble_eq_true rfl) dL_law_787 ⟨lw_f3 hJ.2.2.1.1, lw_f4 hJ.2.2.1.1⟩) (fun v K hp => by obtain ⟨r, rfl, hI1, hF1, hR1, hRS, -, hbp⟩ := hp; exact ⟨_, rfl, rfl, hI1, th_RN_c hR1 hJ.2.1 hI1 ham hF1 (by decide), hbp, ⟨r, rfl, hRS, lw_wf hJ.1 hI1 hF1 ham (by decide +kernel)⟩⟩) rfl (fun u1 w1 H1 locs hc1 hJ1 hP1 => ?_)
  obtain ⟨r1, rfl, f1, g1⟩ := hP1
  have hr1 : lx_rd G Γ ax (t + 100) H1 := ⟨by rw [← lw_A0]; exact f1.2.1.1, f1.2.2.2.1⟩
  refine lv_pop hx hb dL_law_790 hc1 ?_
  refine lv_aload_n hx hb dL_law_791 rfl (lv_at hl 1 rfl) ?_
  refine lw_call (pc' := 795) (k := 1) (P := (fun w K => ∃ r : Int32, w = .int r ∧ f_X12_ways (dv G Γ H1) (am : Int) = ((dv G Γ K), r.toInt) ∧ cf (lw_A ax) nV (dv G Γ H1) (dv G Γ K) ∧ lx_rd G Γ ax (t + 100) K)) hJ1 (th_runV (As := []) (rest := []) hE.1 mf_X12_ways kl_110 im_X12_ways se_X12_ways (c_X12_ways l G Γ H1 hJ1.1 hU am ham (th_NK hJ1.2.1)) rfl rfl ⟨Nat.le_of_ble_eq_true rfl, Nat.le_of_ble_eq_true rfl⟩ hJ1.1 ham ro_46 rfl rfl hl.1 rfl (Nat.le_of_ble_eq_true rfl) dL_law_792 ⟨lw_f1 _, lw_f2 _⟩) (fun v K hp => by obtain ⟨r, rfl, hI1, hF1, hR1, hf1⟩ := hp; exact ⟨_, rfl, rfl, hI1, th_RN_c hR1.1 hJ1.2.1 hI1 ham hF1 (by decide), th_bits_F hF1 hJ1.2.2.1 (by decide), ⟨r, rfl, hf1, lw_cf hJ1.1 hI1 hF1 hA (by decide +kernel), lx_rdF hJ1.1 hI1 hF1 hax hsa (by decide) (by omega) hr1⟩⟩) rfl (fun w2 H2 locs hc2 hJ2 hP2 => ?_)
  obtain ⟨r2, rfl, e2, f2, d2⟩ := hP2
  refine lv_pop hx hb dL_law_795 hc2 ?_
  have hq1 := RR_VW f1.1 cf_r g1
  have hg := glue_S (fW := fun V => f_X12_ways V (am : Int)) hq1 (sk_of (fW := fun V => f_X12_ways V (am : Int)) (F_ways (RR_JX hq1))) e2 f2
  exact lv_goto (tgt := 1239) hx hb dL_law_796 (by decide) (kk u1 _ locs hJ2 hg d2)

set_option maxHeartbeats 4000000 in
set_option maxRecDepth 100000 in
theorem lw_c23 {p : Program} {e : Env} {s : State} {m : MethodId} {below : List Frame} {meth : Method} {c : Code} {Q : State → Prop} {G : th_G} {Γ : th_Ga} {ax am b L n : Nat} {xs : Nat → Int32} {ls : Array Slot} (l : Launch) (hE : lw_E p s m c b L xs G Γ ax am) (hL : L ≤ 384) (hn : n + 6 ≤ L) (hl : lv_has ls 4 [(3, .int (nI n)), (2, .ref am), (1, .ref ax), (0, .ref b)]) (hk : dv_U Γ ∧ lw_AR Γ ax ∧ Γ (ax + 78) = (27, 0) ∧ ∀ x y : Int, th_pm G x y) {u : Nat} {H : Heap} {locs : List Loc} (hJ : lw_J G Γ am s H locs u) (hq : RR (lw_A ax) (am : Int) (dv G Γ H) (dv G Γ H)) {t : Int} (hr : lx_rd G Γ ax t H) (ht : t + 100 + 100 < 2147483647) (kk : ∀ (u1 : Nat) (H1 : Heap) (locs1 : List Loc), lw_J G Γ am s H1 locs1 u1 → RR (lw_A ax) (am : Int) (dv G Γ H1) (dv G Γ H1) → lx_rd G Γ ax (t + 100) H1 → W p l e room_1 s m #[Value.ref b] below meth c H1 locs1 (600000 - th_pc u1) (7302250 - th_pq u1) Q (F0 m 1239 ls [])) : W p l e room_1 s m #[Value.ref b] below meth c H locs (600000 - th_pc u) (7302250 - th_pq u) Q (F0 m 799 ls []) := by
  have hx := hE.1.1
  have hb := hE.1.2.1
  have hax := hE.2.2.2.2.2.1
  have ham := hE.2.2.2.2.2.2.1
  have hU := hk.1
  have hA := hk.2.1
  have hsa := hk.2.2.1
  have hPT := hk.2.2.2
  refine lv_aload_n hx hb dL_law_799 rfl (lv_at hl 2 rfl) ?_
  refine lw_callb (pc' := 803) (k := 1) (P := (fun w K => ∃ r : Int32, w = .int r ∧ RS (lw_A ax) (am : Int) ((ax + 78 : Nat) : Int) (t + 100) (lx_M Γ) (dv G Γ K) (dv G Γ H) ∧ wf (am : Int) nW (dv G Γ H) (dv G Γ K))) hJ (th_runV (As := []) (rest := []) hE.1 mf_X11_cheapest kl_111 im_X11_cheapest se_X11_cheapest (c_X11_cheapest_S l G Γ H hJ.1 hJ.2.1.1 hU ax hax hPT (lw_A ax) (am : Int) ((ax + 78 : Nat) : Int) t (lx_M Γ) (dv G Γ H) (lx_RS hJ.1 hA hsa hq hr) lw_A0 (fun _ => Iff.rfl) (by omega) u hJ.2.2.1) rfl rfl ⟨Nat.le_of_ble_eq_true rfl, Nat.le_of_ble_eq_true rfl⟩ hJ.1 hax ro_42 rfl rfl hl.1 rfl (Nat.le_of_ble_eq_true rfl) dL_law_800 ⟨lw_f3 hJ.2.2.1.1, lw_f4 hJ.2.2.1.1⟩) (fun v K hp => by obtain ⟨r, rfl, hI1, hF1, hR1, hRS, -, hbp⟩ := hp; exact ⟨_, rfl, rfl, hI1, th_RN_c hR1 hJ.2.1 hI1 ham hF1 (by decide), hbp, ⟨r, rfl, hRS, lw_wf hJ.1 hI1 hF1 ham (by decide +kernel)⟩⟩) rfl (fun u1 w1 H1 locs hc1 hJ1 hP1 => ?_)
  obtain ⟨r1, rfl, f1, g1⟩ := hP1
  have hr1 : lx_rd G Γ ax (t + 100) H1 := ⟨by rw [← lw_A0]; exact f1.2.1.1, f1.2.2.2.1⟩
  refine lv_pop hx hb dL_law_803 hc1 ?_
  refine lv_aload_n hx hb dL_law_804 rfl (lv_at hl 1 rfl) ?_
  refine lw_call (pc' := 808) (k := 1) (P := (fun w K => ∃ r : Int32, w = .int r ∧ f_X12_cheapest (dv G Γ H1) (am : Int) = ((dv G Γ K), r.toInt) ∧ cf (lw_A ax) nV (dv G Γ H1) (dv G Γ K) ∧ lx_rd G Γ ax (t + 100) K)) hJ1 (th_runV (As := []) (rest := []) hE.1 mf_X12_cheapest kl_114 im_X12_cheapest se_X12_cheapest (c_X12_cheapest l G Γ H1 hJ1.1 hU am ham (th_NK hJ1.2.1)) rfl rfl ⟨Nat.le_of_ble_eq_true rfl, Nat.le_of_ble_eq_true rfl⟩ hJ1.1 ham ro_46 rfl rfl hl.1 rfl (Nat.le_of_ble_eq_true rfl) dL_law_805 ⟨lw_f1 _, lw_f2 _⟩) (fun v K hp => by obtain ⟨r, rfl, hI1, hF1, hR1, hf1⟩ := hp; exact ⟨_, rfl, rfl, hI1, th_RN_c hR1.1 hJ1.2.1 hI1 ham hF1 (by decide), th_bits_F hF1 hJ1.2.2.1 (by decide), ⟨r, rfl, hf1, lw_cf hJ1.1 hI1 hF1 hA (by decide +kernel), lx_rdF hJ1.1 hI1 hF1 hax hsa (by decide) (by omega) hr1⟩⟩) rfl (fun w2 H2 locs hc2 hJ2 hP2 => ?_)
  obtain ⟨r2, rfl, e2, f2, d2⟩ := hP2
  refine lv_pop hx hb dL_law_808 hc2 ?_
  have hq1 := RR_VW f1.1 cf_r g1
  have hg := glue_S (fW := fun V => f_X12_cheapest V (am : Int)) hq1 (sk_of (fW := fun V => f_X12_cheapest V (am : Int)) (F_cheapest (RR_JX hq1))) e2 f2
  exact lv_goto (tgt := 1239) hx hb dL_law_809 (by decide) (kk u1 _ locs hJ2 hg d2)

set_option maxHeartbeats 4000000 in
set_option maxRecDepth 100000 in
theorem lw_c24 {p : Program} {e : Env} {s : State} {m : MethodId} {below : List Frame} {meth : Method} {c : Code} {Q : State → Prop} {G : th_G} {Γ : th_Ga} {ax am b L n : Nat} {xs : Nat → Int32} {ls : Array Slot} (l : Launch) (hE : lw_E p s m c b L xs G Γ ax am) (hL : L ≤ 384) (hn : n + 6 ≤ L) (hl : lv_has ls 4 [(3, .int (nI n)), (2, .ref am), (1, .ref ax), (0, .ref b)]) (hk : dv_U Γ ∧ lw_AR Γ ax ∧ Γ (ax + 78) = (27, 0) ∧ ∀ x y : Int, th_pm G x y) {u : Nat} {H : Heap} {locs : List Loc} (hJ : lw_J G Γ am s H locs u) (hq : RR (lw_A ax) (am : Int) (dv G Γ H) (dv G Γ H)) {t : Int} (hr : lx_rd G Γ ax t H) (ht : t + 100 + 100 < 2147483647) (kk : ∀ (u1 : Nat) (H1 : Heap) (locs1 : List Loc), lw_J G Γ am s H1 locs1 u1 → RR (lw_A ax) (am : Int) (dv G Γ H1) (dv G Γ H1) → lx_rd G Γ ax (t + 100) H1 → W p l e room_1 s m #[Value.ref b] below meth c H1 locs1 (600000 - th_pc u1) (7302250 - th_pq u1) Q (F0 m 1239 ls [])) : W p l e room_1 s m #[Value.ref b] below meth c H locs (600000 - th_pc u) (7302250 - th_pq u) Q (F0 m 812 ls []) := by
  have hx := hE.1.1
  have hb := hE.1.2.1
  have hax := hE.2.2.2.2.2.1
  have ham := hE.2.2.2.2.2.2.1
  have hU := hk.1
  have hA := hk.2.1
  have hsa := hk.2.2.1
  have hPT := hk.2.2.2
  refine lv_aload_n hx hb dL_law_812 rfl (lv_at hl 2 rfl) ?_
  refine lw_ld (pc := 813) (kn := 1) (pc' := 818) hE hJ.2.2.2 hl hn hL dL_law_813 rfl dL_law_814 rfl dL_law_815 (by decide) (by decide) rfl dL_law_816 rfl dL_law_817 rfl ?_
  refine lw_callb (pc' := 821) (k := 1) (P := (fun w K => ∃ r : Int32, w = .int r ∧ RS (lw_A ax) (am : Int) ((ax + 78 : Nat) : Int) (t + 100) (lx_M Γ) (dv G Γ K) (dv G Γ H) ∧ wf (am : Int) nW (dv G Γ H) (dv G Γ K))) hJ (th_runV (As := [.int (xs (n + 1))]) (rest := []) hE.1 mf_X11_halls kl_115 im_X11_halls se_X11_halls (c_X11_halls_S l G Γ H hJ.1 hJ.2.1.1 hU ax hax (xs (n + 1)) hPT (lw_A ax) (am : Int) ((ax + 78 : Nat) : Int) t (lx_M Γ) (dv G Γ H) (lx_RS hJ.1 hA hsa hq hr) lw_A0 (fun _ => Iff.rfl) (by omega) u hJ.2.2.1) rfl rfl ⟨Nat.le_of_ble_eq_true rfl, Nat.le_of_ble_eq_true rfl⟩ hJ.1 hax ro_42 rfl rfl hl.1 rfl (Nat.le_of_ble_eq_true rfl) dL_law_818 ⟨lw_f3 hJ.2.2.1.1, lw_f4 hJ.2.2.1.1⟩) (fun v K hp => by obtain ⟨r, rfl, hI1, hF1, hR1, hRS, hbp⟩ := hp; exact ⟨_, rfl, rfl, hI1, th_RN_c hR1 hJ.2.1 hI1 ham hF1 (by decide), hbp, ⟨r, rfl, hRS, lw_wf hJ.1 hI1 hF1 ham (by decide +kernel)⟩⟩) rfl (fun u1 w1 H1 locs hc1 hJ1 hP1 => ?_)
  obtain ⟨r1, rfl, f1, g1⟩ := hP1
  have hr1 : lx_rd G Γ ax (t + 100) H1 := ⟨by rw [← lw_A0]; exact f1.2.1.1, f1.2.2.2.1⟩
  refine lv_pop hx hb dL_law_821 hc1 ?_
  refine lv_aload_n hx hb dL_law_822 rfl (lv_at hl 1 rfl) ?_
  refine lw_ld (pc := 823) (kn := 1) (pc' := 828) hE hJ1.2.2.2 hl hn hL dL_law_823 rfl dL_law_824 rfl dL_law_825 (by decide) (by decide) rfl dL_law_826 rfl dL_law_827 rfl ?_
  refine lw_call (pc' := 831) (k := 1) (P := (fun w K => ∃ r : Int32, w = .int r ∧ f_X12_halls (dv G Γ H1) (am : Int) (xs (n + 1)).toInt = ((dv G Γ K), r.toInt) ∧ cf (lw_A ax) nV (dv G Γ H1) (dv G Γ K) ∧ lx_rd G Γ ax (t + 100) K)) hJ1 (th_runV (As := [.int (xs (n + 1))]) (rest := []) hE.1 mf_X12_halls kl_118 im_X12_halls se_X12_halls (c_X12_halls l G Γ H1 hJ1.1 hU am ham (th_NK hJ1.2.1) (xs (n + 1))) rfl rfl ⟨Nat.le_of_ble_eq_true rfl, Nat.le_of_ble_eq_true rfl⟩ hJ1.1 ham ro_46 rfl rfl hl.1 rfl (Nat.le_of_ble_eq_true rfl) dL_law_828 ⟨lw_f1 _, lw_f2 _⟩) (fun v K hp => by obtain ⟨r, rfl, hI1, hF1, hR1, hf1⟩ := hp; exact ⟨_, rfl, rfl, hI1, th_RN_c hR1.1 hJ1.2.1 hI1 ham hF1 (by decide), th_bits_F hF1 hJ1.2.2.1 (by decide), ⟨r, rfl, hf1, lw_cf hJ1.1 hI1 hF1 hA (by decide +kernel), lx_rdF hJ1.1 hI1 hF1 hax hsa (by decide) (by omega) hr1⟩⟩) rfl (fun w2 H2 locs hc2 hJ2 hP2 => ?_)
  obtain ⟨r2, rfl, e2, f2, d2⟩ := hP2
  refine lv_pop hx hb dL_law_831 hc2 ?_
  have hq1 := RR_VW f1.1 cf_r g1
  have hg := glue_S (fW := fun V => f_X12_halls V (am : Int) (xs (n + 1)).toInt) hq1 (sk_of (fW := fun V => f_X12_halls V (am : Int) (xs (n + 1)).toInt) (F_halls (RR_JX hq1))) e2 f2
  exact lv_goto (tgt := 1239) hx hb dL_law_832 (by decide) (kk u1 _ locs hJ2 hg d2)

set_option maxHeartbeats 4000000 in
set_option maxRecDepth 100000 in
theorem lw_c25 {p : Program} {e : Env} {s : State} {m : MethodId} {below : List Frame} {meth : Method} {c : Code} {Q : State → Prop} {G : th_G} {Γ : th_Ga} {ax am b L n : Nat} {xs : Nat → Int32} {ls : Array Slot} (l : Launch) (hE : lw_E p s m c b L xs G Γ ax am) (hL : L ≤ 384) (hn : n + 6 ≤ L) (hl : lv_has ls 4 [(3, .int (nI n)), (2, .ref am), (1, .ref ax), (0, .ref b)]) (hk : dv_U Γ ∧ lw_AR Γ ax ∧ Γ (ax + 78) = (27, 0) ∧ ∀ x y : Int, th_pm G x y) {u : Nat} {H : Heap} {locs : List Loc} (hJ : lw_J G Γ am s H locs u) (hq : RR (lw_A ax) (am : Int) (dv G Γ H) (dv G Γ H)) {t : Int} (hr : lx_rd G Γ ax t H) (ht : t + 100 + 100 < 2147483647) (kk : ∀ (u1 : Nat) (H1 : Heap) (locs1 : List Loc), lw_J G Γ am s H1 locs1 u1 → RR (lw_A ax) (am : Int) (dv G Γ H1) (dv G Γ H1) → lx_rd G Γ ax (t + 100) H1 → W p l e room_1 s m #[Value.ref b] below meth c H1 locs1 (600000 - th_pc u1) (7302250 - th_pq u1) Q (F0 m 1239 ls [])) : W p l e room_1 s m #[Value.ref b] below meth c H locs (600000 - th_pc u) (7302250 - th_pq u) Q (F0 m 835 ls []) := by
  have hx := hE.1.1
  have hb := hE.1.2.1
  have hax := hE.2.2.2.2.2.1
  have ham := hE.2.2.2.2.2.2.1
  have hU := hk.1
  have hA := hk.2.1
  have hsa := hk.2.2.1
  have hPT := hk.2.2.2
  refine lv_aload_n hx hb dL_law_835 rfl (lv_at hl 2 rfl) ?_
  refine lw_call (pc' := 839) (k := 1) (P := (fun w K => ∃ r : Int32, w = .int r ∧ f_X11_inner (dv G Γ H) (ax : Int) = (r.toInt, ()) ∧ H = K)) hJ (th_runV (As := []) (rest := []) hE.1 mf_X11_inner kl_119 im_X11_inner se_X11_inner (c_X11_inner l G Γ H hJ.1 hU ax hax) rfl rfl ⟨Nat.le_of_ble_eq_true rfl, Nat.le_of_ble_eq_true rfl⟩ hJ.1 hax ro_42 rfl rfl hl.1 rfl (Nat.le_of_ble_eq_true rfl) dL_law_836 ⟨lw_f1 _, lw_f2 _⟩) (fun v K hp => by obtain ⟨r, rfl, hf1, rfl⟩ := hp; exact ⟨_, rfl, rfl, hJ.1, hJ.2.1, hJ.2.2.1, ⟨r, rfl, hf1, rfl⟩⟩) rfl (fun w1 H1 locs hc1 hJ1 hP1 => ?_)
  obtain ⟨r1, rfl, e1, eK1⟩ := hP1
  have hr1 := lx_rdm hr (show t ≤ t + 100 by omega)
  rw [eK1] at e1 hq hr1
  refine lv_pop hx hb dL_law_839 hc1 ?_
  refine lv_aload_n hx hb dL_law_840 rfl (lv_at hl 1 rfl) ?_
  refine lw_call (pc' := 844) (k := 1) (P := (fun w K => ∃ r : Int32, w = .int r ∧ f_X12_inner (dv G Γ H1) (am : Int) = (r.toInt, ()) ∧ H1 = K)) hJ1 (th_runV (As := []) (rest := []) hE.1 mf_X12_inner kl_122 im_X12_inner se_X12_inner (c_X12_inner l G Γ H1 hJ1.1 hU am ham) rfl rfl ⟨Nat.le_of_ble_eq_true rfl, Nat.le_of_ble_eq_true rfl⟩ hJ1.1 ham ro_46 rfl rfl hl.1 rfl (Nat.le_of_ble_eq_true rfl) dL_law_841 ⟨lw_f1 _, lw_f2 _⟩) (fun v K hp => by obtain ⟨r, rfl, hf1, rfl⟩ := hp; exact ⟨_, rfl, rfl, hJ1.1, hJ1.2.1, hJ1.2.2.1, ⟨r, rfl, hf1, rfl⟩⟩) rfl (fun w2 H2 locs hc2 hJ2 hP2 => ?_)
  obtain ⟨r2, rfl, e2, eK2⟩ := hP2
  refine lv_pop hx hb dL_law_844 hc2 ?_
  rw [eK2] at hq hr1
  exact lv_goto (tgt := 1239) hx hb dL_law_845 (by decide) (kk u _ locs hJ2 hq hr1)

set_option maxHeartbeats 4000000 in
set_option maxRecDepth 100000 in
theorem lw_c26 {p : Program} {e : Env} {s : State} {m : MethodId} {below : List Frame} {meth : Method} {c : Code} {Q : State → Prop} {G : th_G} {Γ : th_Ga} {ax am b L n : Nat} {xs : Nat → Int32} {ls : Array Slot} (l : Launch) (hE : lw_E p s m c b L xs G Γ ax am) (hL : L ≤ 384) (hn : n + 6 ≤ L) (hl : lv_has ls 4 [(3, .int (nI n)), (2, .ref am), (1, .ref ax), (0, .ref b)]) (hk : dv_U Γ ∧ lw_AR Γ ax ∧ Γ (ax + 78) = (27, 0) ∧ ∀ x y : Int, th_pm G x y) {u : Nat} {H : Heap} {locs : List Loc} (hJ : lw_J G Γ am s H locs u) (hq : RR (lw_A ax) (am : Int) (dv G Γ H) (dv G Γ H)) {t : Int} (hr : lx_rd G Γ ax t H) (ht : t + 100 + 100 < 2147483647) (kk : ∀ (u1 : Nat) (H1 : Heap) (locs1 : List Loc), lw_J G Γ am s H1 locs1 u1 → RR (lw_A ax) (am : Int) (dv G Γ H1) (dv G Γ H1) → lx_rd G Γ ax (t + 100) H1 → W p l e room_1 s m #[Value.ref b] below meth c H1 locs1 (600000 - th_pc u1) (7302250 - th_pq u1) Q (F0 m 1239 ls [])) : W p l e room_1 s m #[Value.ref b] below meth c H locs (600000 - th_pc u) (7302250 - th_pq u) Q (F0 m 848 ls []) := by
  have hx := hE.1.1
  have hb := hE.1.2.1
  have hax := hE.2.2.2.2.2.1
  have ham := hE.2.2.2.2.2.2.1
  have hU := hk.1
  have hA := hk.2.1
  have hsa := hk.2.2.1
  have hPT := hk.2.2.2
  refine lv_aload_n hx hb dL_law_848 rfl (lv_at hl 2 rfl) ?_
  refine lw_call (pc' := 852) (k := 1) (P := (fun w K => ∃ r : Int32, w = .int r ∧ f_X11_crosses (dv G Γ H) (ax : Int) = (r.toInt, ()) ∧ H = K)) hJ (th_runV (As := []) (rest := []) hE.1 mf_X11_crosses kl_123 im_X11_crosses se_X11_crosses (c_X11_crosses l G Γ H hJ.1 hU ax hax) rfl rfl ⟨Nat.le_of_ble_eq_true rfl, Nat.le_of_ble_eq_true rfl⟩ hJ.1 hax ro_42 rfl rfl hl.1 rfl (Nat.le_of_ble_eq_true rfl) dL_law_849 ⟨lw_f1 _, lw_f2 _⟩) (fun v K hp => by obtain ⟨r, rfl, hf1, rfl⟩ := hp; exact ⟨_, rfl, rfl, hJ.1, hJ.2.1, hJ.2.2.1, ⟨r, rfl, hf1, rfl⟩⟩) rfl (fun w1 H1 locs hc1 hJ1 hP1 => ?_)
  obtain ⟨r1, rfl, e1, eK1⟩ := hP1
  have hr1 := lx_rdm hr (show t ≤ t + 100 by omega)
  rw [eK1] at e1 hq hr1
  refine lv_pop hx hb dL_law_852 hc1 ?_
  refine lv_aload_n hx hb dL_law_853 rfl (lv_at hl 1 rfl) ?_
  refine lw_call (pc' := 857) (k := 1) (P := (fun w K => ∃ r : Int32, w = .int r ∧ f_X12_crosses (dv G Γ H1) (am : Int) = (r.toInt, ()) ∧ H1 = K)) hJ1 (th_runV (As := []) (rest := []) hE.1 mf_X12_crosses kl_126 im_X12_crosses se_X12_crosses (c_X12_crosses l G Γ H1 hJ1.1 hU am ham) rfl rfl ⟨Nat.le_of_ble_eq_true rfl, Nat.le_of_ble_eq_true rfl⟩ hJ1.1 ham ro_46 rfl rfl hl.1 rfl (Nat.le_of_ble_eq_true rfl) dL_law_854 ⟨lw_f1 _, lw_f2 _⟩) (fun v K hp => by obtain ⟨r, rfl, hf1, rfl⟩ := hp; exact ⟨_, rfl, rfl, hJ1.1, hJ1.2.1, hJ1.2.2.1, ⟨r, rfl, hf1, rfl⟩⟩) rfl (fun w2 H2 locs hc2 hJ2 hP2 => ?_)
  obtain ⟨r2, rfl, e2, eK2⟩ := hP2
  refine lv_pop hx hb dL_law_857 hc2 ?_
  rw [eK2] at hq hr1
  exact lv_goto (tgt := 1239) hx hb dL_law_858 (by decide) (kk u _ locs hJ2 hq hr1)

set_option maxHeartbeats 4000000 in
set_option maxRecDepth 100000 in
theorem lw_c27 {p : Program} {e : Env} {s : State} {m : MethodId} {below : List Frame} {meth : Method} {c : Code} {Q : State → Prop} {G : th_G} {Γ : th_Ga} {ax am b L n : Nat} {xs : Nat → Int32} {ls : Array Slot} (l : Launch) (hE : lw_E p s m c b L xs G Γ ax am) (hL : L ≤ 384) (hn : n + 6 ≤ L) (hl : lv_has ls 4 [(3, .int (nI n)), (2, .ref am), (1, .ref ax), (0, .ref b)]) (hk : dv_U Γ ∧ lw_AR Γ ax ∧ Γ (ax + 78) = (27, 0) ∧ ∀ x y : Int, th_pm G x y) {u : Nat} {H : Heap} {locs : List Loc} (hJ : lw_J G Γ am s H locs u) (hq : RR (lw_A ax) (am : Int) (dv G Γ H) (dv G Γ H)) {t : Int} (hr : lx_rd G Γ ax t H) (ht : t + 100 + 100 < 2147483647) (kk : ∀ (u1 : Nat) (H1 : Heap) (locs1 : List Loc), lw_J G Γ am s H1 locs1 u1 → RR (lw_A ax) (am : Int) (dv G Γ H1) (dv G Γ H1) → lx_rd G Γ ax (t + 100) H1 → W p l e room_1 s m #[Value.ref b] below meth c H1 locs1 (600000 - th_pc u1) (7302250 - th_pq u1) Q (F0 m 1239 ls [])) : W p l e room_1 s m #[Value.ref b] below meth c H locs (600000 - th_pc u) (7302250 - th_pq u) Q (F0 m 861 ls []) := by
  have hx := hE.1.1
  have hb := hE.1.2.1
  have hax := hE.2.2.2.2.2.1
  have ham := hE.2.2.2.2.2.2.1
  have hU := hk.1
  have hA := hk.2.1
  have hsa := hk.2.2.1
  have hPT := hk.2.2.2
  refine lv_aload_n hx hb dL_law_861 rfl (lv_at hl 2 rfl) ?_
  refine lw_ld (pc := 862) (kn := 1) (pc' := 867) hE hJ.2.2.2 hl hn hL dL_law_862 rfl dL_law_863 rfl dL_law_864 (by decide) (by decide) rfl dL_law_865 rfl dL_law_866 rfl ?_
  refine lw_ld (pc := 867) (kn := 2) (pc' := 872) hE hJ.2.2.2 hl hn hL dL_law_867 rfl dL_law_868 rfl dL_law_869 (by decide) (by decide) rfl dL_law_870 rfl dL_law_871 rfl ?_
  refine lw_call (pc' := 875) (k := 1) (P := (fun w K => ∃ r : Int32, w = .int r ∧ f_X11_currents (dv G Γ H) (ax : Int) (xs (n + 1)).toInt (xs (n + 2)).toInt = (r.toInt, ()) ∧ H = K)) hJ (th_runV (As := [.int (xs (n + 1)), .int (xs (n + 2))]) (rest := []) hE.1 mf_X11_currents kl_127 im_X11_currents se_X11_currents (c_X11_currents l G Γ H hJ.1 hU ax hax (xs (n + 1)) (xs (n + 2))) rfl rfl ⟨Nat.le_of_ble_eq_true rfl, Nat.le_of_ble_eq_true rfl⟩ hJ.1 hax ro_42 rfl rfl hl.1 rfl (Nat.le_of_ble_eq_true rfl) dL_law_872 ⟨lw_f1 _, lw_f2 _⟩) (fun v K hp => by obtain ⟨r, rfl, hf1, rfl⟩ := hp; exact ⟨_, rfl, rfl, hJ.1, hJ.2.1, hJ.2.2.1, ⟨r, rfl, hf1, rfl⟩⟩) rfl (fun w1 H1 locs hc1 hJ1 hP1 => ?_)
  obtain ⟨r1, rfl, e1, eK1⟩ := hP1
  have hr1 := lx_rdm hr (show t ≤ t + 100 by omega)
  rw [eK1] at e1 hq hr1
  refine lv_pop hx hb dL_law_875 hc1 ?_
  refine lv_aload_n hx hb dL_law_876 rfl (lv_at hl 1 rfl) ?_
  refine lw_ld (pc := 877) (kn := 1) (pc' := 882) hE hJ1.2.2.2 hl hn hL dL_law_877 rfl dL_law_878 rfl dL_law_879 (by decide) (by decide) rfl dL_law_880 rfl dL_law_881 rfl ?_
  refine lw_ld (pc := 882) (kn := 2) (pc' := 887) hE hJ1.2.2.2 hl hn hL dL_law_882 rfl dL_law_883 rfl dL_law_884 (by decide) (by decide) rfl dL_law_885 rfl dL_law_886 rfl ?_
  refine lw_call (pc' := 890) (k := 1) (P := (fun w K => ∃ r : Int32, w = .int r ∧ f_X12_currents (dv G Γ H1) (am : Int) (xs (n + 1)).toInt (xs (n + 2)).toInt = (r.toInt, ()) ∧ H1 = K)) hJ1 (th_runV (As := [.int (xs (n + 1)), .int (xs (n + 2))]) (rest := []) hE.1 mf_X12_currents kl_130 im_X12_currents se_X12_currents (c_X12_currents l G Γ H1 hJ1.1 hU am ham (xs (n + 1)) (xs (n + 2))) rfl rfl ⟨Nat.le_of_ble_eq_true rfl, Nat.le_of_ble_eq_true rfl⟩ hJ1.1 ham ro_46 rfl rfl hl.1 rfl (Nat.le_of_ble_eq_true rfl) dL_law_887 ⟨lw_f1 _, lw_f2 _⟩) (fun v K hp => by obtain ⟨r, rfl, hf1, rfl⟩ := hp; exact ⟨_, rfl, rfl, hJ1.1, hJ1.2.1, hJ1.2.2.1, ⟨r, rfl, hf1, rfl⟩⟩) rfl (fun w2 H2 locs hc2 hJ2 hP2 => ?_)
  obtain ⟨r2, rfl, e2, eK2⟩ := hP2
  refine lv_pop hx hb dL_law_890 hc2 ?_
  rw [eK2] at hq hr1
  exact lv_goto (tgt := 1239) hx hb dL_law_891 (by decide) (kk u _ locs hJ2 hq hr1)

set_option maxHeartbeats 4000000 in
set_option maxRecDepth 100000 in
theorem lw_c28 {p : Program} {e : Env} {s : State} {m : MethodId} {below : List Frame} {meth : Method} {c : Code} {Q : State → Prop} {G : th_G} {Γ : th_Ga} {ax am b L n : Nat} {xs : Nat → Int32} {ls : Array Slot} (l : Launch) (hE : lw_E p s m c b L xs G Γ ax am) (hL : L ≤ 384) (hn : n + 6 ≤ L) (hl : lv_has ls 4 [(3, .int (nI n)), (2, .ref am), (1, .ref ax), (0, .ref b)]) (hk : dv_U Γ ∧ lw_AR Γ ax ∧ Γ (ax + 78) = (27, 0) ∧ ∀ x y : Int, th_pm G x y) {u : Nat} {H : Heap} {locs : List Loc} (hJ : lw_J G Γ am s H locs u) (hq : RR (lw_A ax) (am : Int) (dv G Γ H) (dv G Γ H)) {t : Int} (hr : lx_rd G Γ ax t H) (ht : t + 100 + 100 < 2147483647) (kk : ∀ (u1 : Nat) (H1 : Heap) (locs1 : List Loc), lw_J G Γ am s H1 locs1 u1 → RR (lw_A ax) (am : Int) (dv G Γ H1) (dv G Γ H1) → lx_rd G Γ ax (t + 100) H1 → W p l e room_1 s m #[Value.ref b] below meth c H1 locs1 (600000 - th_pc u1) (7302250 - th_pq u1) Q (F0 m 1239 ls [])) : W p l e room_1 s m #[Value.ref b] below meth c H locs (600000 - th_pc u) (7302250 - th_pq u) Q (F0 m 894 ls []) := by
  have hx := hE.1.1
  have hb := hE.1.2.1
  have hax := hE.2.2.2.2.2.1
  have ham := hE.2.2.2.2.2.2.1
  have hU := hk.1
  have hA := hk.2.1
  have hsa := hk.2.2.1
  have hPT := hk.2.2.2
  refine lv_aload_n hx hb dL_law_894 rfl (lv_at hl 2 rfl) ?_
  refine lw_ld (pc := 895) (kn := 1) (pc' := 900) hE hJ.2.2.2 hl hn hL dL_law_895 rfl dL_law_896 rfl dL_law_897 (by decide) (by decide) rfl dL_law_898 rfl dL_law_899 rfl ?_
  refine lw_call (pc' := 903) (k := 1) (P := (fun w K => ∃ r : Int32, w = .int r ∧ f_X11_fitting (dv G Γ H) (ax : Int) (xs (n + 1)).toInt = ((dv G Γ K), r.toInt) ∧ cf (lw_A ax) cs_L (dv G Γ H) (dv G Γ K) ∧ wf (am : Int) nW (dv G Γ H) (dv G Γ K) ∧ lx_rd G Γ ax (t + 100) K)) hJ (th_runV (As := [.int (xs (n + 1))]) (rest := []) hE.1 mf_X11_fitting kl_131 im_X11_fitting se_X11_fitting (c_X11_fitting l G Γ H hJ.1 hJ.2.1.1 hU ax hax (xs (n + 1))) rfl rfl ⟨Nat.le_of_ble_eq_true rfl, Nat.le_of_ble_eq_true rfl⟩ hJ.1 hax ro_42 rfl rfl hl.1 rfl (Nat.le_of_ble_eq_true rfl) dL_law_900 ⟨lw_f1 _, lw_f2 _⟩) (fun v K hp => by obtain ⟨r, rfl, hI1, hF1, hR1, hf1⟩ := hp; exact ⟨_, rfl, rfl, hI1, th_RN_c hR1 hJ.2.1 hI1 ham hF1 (by decide), th_bits_F hF1 hJ.2.2.1 (by decide), ⟨r, rfl, hf1, lw_cf hJ.1 hI1 hF1 hA (by decide +kernel), lw_wf hJ.1 hI1 hF1 ham (by decide +kernel), lx_rdF hJ.1 hI1 hF1 hax hsa (by decide) (by omega) hr⟩⟩) rfl (fun w1 H1 locs hc1 hJ1 hP1 => ?_)
  obtain ⟨r1, rfl, e1, f1, g1, d1⟩ := hP1
  have hr1 := d1
  refine lv_pop hx hb dL_law_903 hc1 ?_
  refine lv_aload_n hx hb dL_law_904 rfl (lv_at hl 1 rfl) ?_
  refine lw_ld (pc := 905) (kn := 1) (pc' := 910) hE hJ1.2.2.2 hl hn hL dL_law_905 rfl dL_law_906 rfl dL_law_907 (by decide) (by decide) rfl dL_law_908 rfl dL_law_909 rfl ?_
  refine lw_call (pc' := 913) (k := 1) (P := (fun w K => ∃ r : Int32, w = .int r ∧ f_X12_fitting (dv G Γ H1) (am : Int) (xs (n + 1)).toInt = ((dv G Γ K), r.toInt) ∧ cf (lw_A ax) nV (dv G Γ H1) (dv G Γ K) ∧ lx_rd G Γ ax (t + 100) K)) hJ1 (th_runV (As := [.int (xs (n + 1))]) (rest := []) hE.1 mf_X12_fitting kl_134 im_X12_fitting se_X12_fitting (c_X12_fitting l G Γ H1 hJ1.1 hU am ham (th_NK hJ1.2.1) (xs (n + 1))) rfl rfl ⟨Nat.le_of_ble_eq_true rfl, Nat.le_of_ble_eq_true rfl⟩ hJ1.1 ham ro_46 rfl rfl hl.1 rfl (Nat.le_of_ble_eq_true rfl) dL_law_910 ⟨lw_f1 _, lw_f2 _⟩) (fun v K hp => by obtain ⟨r, rfl, hI1, hF1, hR1, hf1⟩ := hp; exact ⟨_, rfl, rfl, hI1, th_RN_c hR1.1 hJ1.2.1 hI1 ham hF1 (by decide), th_bits_F hF1 hJ1.2.2.1 (by decide), ⟨r, rfl, hf1, lw_cf hJ1.1 hI1 hF1 hA (by decide +kernel), lx_rdF hJ1.1 hI1 hF1 hax hsa (by decide) (by omega) hr1⟩⟩) rfl (fun w2 H2 locs hc2 hJ2 hP2 => ?_)
  obtain ⟨r2, rfl, e2, f2, d2⟩ := hP2
  refine lv_pop hx hb dL_law_913 hc2 ?_
  have hq1 := glue_C hq f1 (lw_kwA hJ1.1 hA) g1
  have hg := glue_S (fW := fun V => f_X12_fitting V (am : Int) (xs (n + 1)).toInt) hq1 (sk_of (fW := fun V => f_X12_fitting V (am : Int) (xs (n + 1)).toInt) (F_fitting (RR_JX hq1))) e2 f2
  exact lv_goto (tgt := 1239) hx hb dL_law_914 (by decide) (kk u _ locs hJ2 hg d2)

set_option maxHeartbeats 4000000 in
set_option maxRecDepth 100000 in
theorem lw_c29 {p : Program} {e : Env} {s : State} {m : MethodId} {below : List Frame} {meth : Method} {c : Code} {Q : State → Prop} {G : th_G} {Γ : th_Ga} {ax am b L n : Nat} {xs : Nat → Int32} {ls : Array Slot} (l : Launch) (hE : lw_E p s m c b L xs G Γ ax am) (hL : L ≤ 384) (hn : n + 6 ≤ L) (hl : lv_has ls 4 [(3, .int (nI n)), (2, .ref am), (1, .ref ax), (0, .ref b)]) (hk : dv_U Γ ∧ lw_AR Γ ax ∧ Γ (ax + 78) = (27, 0) ∧ ∀ x y : Int, th_pm G x y) {u : Nat} {H : Heap} {locs : List Loc} (hJ : lw_J G Γ am s H locs u) (hq : RR (lw_A ax) (am : Int) (dv G Γ H) (dv G Γ H)) {t : Int} (hr : lx_rd G Γ ax t H) (ht : t + 100 + 100 < 2147483647) (kk : ∀ (u1 : Nat) (H1 : Heap) (locs1 : List Loc), lw_J G Γ am s H1 locs1 u1 → RR (lw_A ax) (am : Int) (dv G Γ H1) (dv G Γ H1) → lx_rd G Γ ax (t + 100) H1 → W p l e room_1 s m #[Value.ref b] below meth c H1 locs1 (600000 - th_pc u1) (7302250 - th_pq u1) Q (F0 m 1239 ls [])) : W p l e room_1 s m #[Value.ref b] below meth c H locs (600000 - th_pc u) (7302250 - th_pq u) Q (F0 m 917 ls []) := by
  have hx := hE.1.1
  have hb := hE.1.2.1
  have hax := hE.2.2.2.2.2.1
  have ham := hE.2.2.2.2.2.2.1
  have hU := hk.1
  have hA := hk.2.1
  have hsa := hk.2.2.1
  have hPT := hk.2.2.2
  refine lv_aload_n hx hb dL_law_917 rfl (lv_at hl 2 rfl) ?_
  refine lw_call (pc' := 921) (k := 1) (P := (fun w K => ∃ r : Int32, w = .int r ∧ f_X11_alike (dv G Γ H) (ax : Int) = (r.toInt, ()) ∧ H = K)) hJ (th_runV (As := []) (rest := []) hE.1 mf_X11_alike kl_135 im_X11_alike se_X11_alike (c_X11_alike l G Γ H hJ.1 hU ax hax) rfl rfl ⟨Nat.le_of_ble_eq_true rfl, Nat.le_of_ble_eq_true rfl⟩ hJ.1 hax ro_42 rfl rfl hl.1 rfl (Nat.le_of_ble_eq_true rfl) dL_law_918 ⟨lw_f1 _, lw_f2 _⟩) (fun v K hp => by obtain ⟨r, rfl, hf1, rfl⟩ := hp; exact ⟨_, rfl, rfl, hJ.1, hJ.2.1, hJ.2.2.1, ⟨r, rfl, hf1, rfl⟩⟩) rfl (fun w1 H1 locs hc1 hJ1 hP1 => ?_)
  obtain ⟨r1, rfl, e1, eK1⟩ := hP1
  have hr1 := lx_rdm hr (show t ≤ t + 100 by omega)
  rw [eK1] at e1 hq hr1
  refine lv_pop hx hb dL_law_921 hc1 ?_
  refine lv_aload_n hx hb dL_law_922 rfl (lv_at hl 1 rfl) ?_
  refine lw_call (pc' := 926) (k := 1) (P := (fun w K => ∃ r : Int32, w = .int r ∧ f_X12_alike (dv G Γ H1) (am : Int) = (r.toInt, ()) ∧ H1 = K)) hJ1 (th_runV (As := []) (rest := []) hE.1 mf_X12_alike kl_138 im_X12_alike se_X12_alike (c_X12_alike l G Γ H1 hJ1.1 hU am ham) rfl rfl ⟨Nat.le_of_ble_eq_true rfl, Nat.le_of_ble_eq_true rfl⟩ hJ1.1 ham ro_46 rfl rfl hl.1 rfl (Nat.le_of_ble_eq_true rfl) dL_law_923 ⟨lw_f1 _, lw_f2 _⟩) (fun v K hp => by obtain ⟨r, rfl, hf1, rfl⟩ := hp; exact ⟨_, rfl, rfl, hJ1.1, hJ1.2.1, hJ1.2.2.1, ⟨r, rfl, hf1, rfl⟩⟩) rfl (fun w2 H2 locs hc2 hJ2 hP2 => ?_)
  obtain ⟨r2, rfl, e2, eK2⟩ := hP2
  refine lv_pop hx hb dL_law_926 hc2 ?_
  rw [eK2] at hq hr1
  exact lv_goto (tgt := 1239) hx hb dL_law_927 (by decide) (kk u _ locs hJ2 hq hr1)

set_option maxHeartbeats 4000000 in
set_option maxRecDepth 100000 in
theorem lw_c30 {p : Program} {e : Env} {s : State} {m : MethodId} {below : List Frame} {meth : Method} {c : Code} {Q : State → Prop} {G : th_G} {Γ : th_Ga} {ax am b L n : Nat} {xs : Nat → Int32} {ls : Array Slot} (l : Launch) (hE : lw_E p s m c b L xs G Γ ax am) (hL : L ≤ 384) (hn : n + 6 ≤ L) (hl : lv_has ls 4 [(3, .int (nI n)), (2, .ref am), (1, .ref ax), (0, .ref b)]) (hk : dv_U Γ ∧ lw_AR Γ ax ∧ Γ (ax + 78) = (27, 0) ∧ ∀ x y : Int, th_pm G x y) {u : Nat} {H : Heap} {locs : List Loc} (hJ : lw_J G Γ am s H locs u) (hq : RR (lw_A ax) (am : Int) (dv G Γ H) (dv G Γ H)) {t : Int} (hr : lx_rd G Γ ax t H) (ht : t + 100 + 100 < 2147483647) (kk : ∀ (u1 : Nat) (H1 : Heap) (locs1 : List Loc), lw_J G Γ am s H1 locs1 u1 → RR (lw_A ax) (am : Int) (dv G Γ H1) (dv G Γ H1) → lx_rd G Γ ax (t + 100) H1 → W p l e room_1 s m #[Value.ref b] below meth c H1 locs1 (600000 - th_pc u1) (7302250 - th_pq u1) Q (F0 m 1239 ls [])) : W p l e room_1 s m #[Value.ref b] below meth c H locs (600000 - th_pc u) (7302250 - th_pq u) Q (F0 m 930 ls []) := by
  have hx := hE.1.1
  have hb := hE.1.2.1
  have hax := hE.2.2.2.2.2.1
  have ham := hE.2.2.2.2.2.2.1
  have hU := hk.1
  have hA := hk.2.1
  have hsa := hk.2.2.1
  have hPT := hk.2.2.2
  refine lv_aload_n hx hb dL_law_930 rfl (lv_at hl 2 rfl) ?_
  refine lw_callb (pc' := 934) (k := 1) (P := (fun w K => ∃ r : Int32, w = .int r ∧ RS (lw_A ax) (am : Int) ((ax + 78 : Nat) : Int) (t + 100) (lx_M Γ) (dv G Γ K) (dv G Γ H) ∧ wf (am : Int) nW (dv G Γ H) (dv G Γ K))) hJ (th_runV (As := []) (rest := []) hE.1 mf_X11_free kl_139 im_X11_free se_X11_free (c_X11_free_S l G Γ H hJ.1 hJ.2.1.1 hU ax hax hPT (lw_A ax) (am : Int) ((ax + 78 : Nat) : Int) t (lx_M Γ) (dv G Γ H) (lx_RS hJ.1 hA hsa hq hr) lw_A0 (fun _ => Iff.rfl) (by omega) u hJ.2.2.1) rfl rfl ⟨Nat.le_of_ble_eq_true rfl, Nat.le_of_ble_eq_true rfl⟩ hJ.1 hax ro_42 rfl rfl hl.1 rfl (Nat.le_of_ble_eq_true rfl) dL_law_931 ⟨lw_f3 hJ.2.2.1.1, lw_f4 hJ.2.2.1.1⟩) (fun v K hp => by obtain ⟨r, rfl, hI1, hF1, hR1, hRS, hbp⟩ := hp; exact ⟨_, rfl, rfl, hI1, th_RN_c hR1 hJ.2.1 hI1 ham hF1 (by decide), hbp, ⟨r, rfl, hRS, lw_wf hJ.1 hI1 hF1 ham (by decide +kernel)⟩⟩) rfl (fun u1 w1 H1 locs hc1 hJ1 hP1 => ?_)
  obtain ⟨r1, rfl, f1, g1⟩ := hP1
  have hr1 : lx_rd G Γ ax (t + 100) H1 := ⟨by rw [← lw_A0]; exact f1.2.1.1, f1.2.2.2.1⟩
  refine lv_pop hx hb dL_law_934 hc1 ?_
  refine lv_aload_n hx hb dL_law_935 rfl (lv_at hl 1 rfl) ?_
  refine lw_call (pc' := 939) (k := 1) (P := (fun w K => ∃ r : Int32, w = .int r ∧ f_X12_free (dv G Γ H1) (am : Int) = ((dv G Γ K), r.toInt) ∧ cf (lw_A ax) nV (dv G Γ H1) (dv G Γ K) ∧ lx_rd G Γ ax (t + 100) K)) hJ1 (th_runV (As := []) (rest := []) hE.1 mf_X12_free kl_142 im_X12_free se_X12_free (c_X12_free l G Γ H1 hJ1.1 hU am ham hJ1.2.1) rfl rfl ⟨Nat.le_of_ble_eq_true rfl, Nat.le_of_ble_eq_true rfl⟩ hJ1.1 ham ro_46 rfl rfl hl.1 rfl (Nat.le_of_ble_eq_true rfl) dL_law_936 ⟨lw_f1 _, lw_f2 _⟩) (fun v K hp => by obtain ⟨r, rfl, hI1, hF1, hR1, hf1⟩ := hp; exact ⟨_, rfl, rfl, hI1, hR1, th_bits_F hF1 hJ1.2.2.1 (by decide), ⟨r, rfl, hf1, lw_cf hJ1.1 hI1 hF1 hA (by decide +kernel), lx_rdF hJ1.1 hI1 hF1 hax hsa (by decide) (by omega) hr1⟩⟩) rfl (fun w2 H2 locs hc2 hJ2 hP2 => ?_)
  obtain ⟨r2, rfl, e2, f2, d2⟩ := hP2
  refine lv_pop hx hb dL_law_939 hc2 ?_
  have hq1 := RR_VW f1.1 cf_r g1
  have hg := glue_S (fW := fun V => f_X12_free V (am : Int)) hq1 (F_free hq1) e2 f2
  exact lv_goto (tgt := 1239) hx hb dL_law_940 (by decide) (kk u1 _ locs hJ2 hg d2)

set_option maxHeartbeats 4000000 in
set_option maxRecDepth 100000 in
theorem lw_c31 {p : Program} {e : Env} {s : State} {m : MethodId} {below : List Frame} {meth : Method} {c : Code} {Q : State → Prop} {G : th_G} {Γ : th_Ga} {ax am b L n : Nat} {xs : Nat → Int32} {ls : Array Slot} (l : Launch) (hE : lw_E p s m c b L xs G Γ ax am) (hL : L ≤ 384) (hn : n + 6 ≤ L) (hl : lv_has ls 4 [(3, .int (nI n)), (2, .ref am), (1, .ref ax), (0, .ref b)]) (hk : dv_U Γ ∧ lw_AR Γ ax ∧ Γ (ax + 78) = (27, 0) ∧ ∀ x y : Int, th_pm G x y) {u : Nat} {H : Heap} {locs : List Loc} (hJ : lw_J G Γ am s H locs u) (hq : RR (lw_A ax) (am : Int) (dv G Γ H) (dv G Γ H)) {t : Int} (hr : lx_rd G Γ ax t H) (ht : t + 100 + 100 < 2147483647) (kk : ∀ (u1 : Nat) (H1 : Heap) (locs1 : List Loc), lw_J G Γ am s H1 locs1 u1 → RR (lw_A ax) (am : Int) (dv G Γ H1) (dv G Γ H1) → lx_rd G Γ ax (t + 100) H1 → W p l e room_1 s m #[Value.ref b] below meth c H1 locs1 (600000 - th_pc u1) (7302250 - th_pq u1) Q (F0 m 1239 ls [])) : W p l e room_1 s m #[Value.ref b] below meth c H locs (600000 - th_pc u) (7302250 - th_pq u) Q (F0 m 943 ls []) := by
  have hx := hE.1.1
  have hb := hE.1.2.1
  have hax := hE.2.2.2.2.2.1
  have ham := hE.2.2.2.2.2.2.1
  have hU := hk.1
  have hA := hk.2.1
  have hsa := hk.2.2.1
  have hPT := hk.2.2.2
  refine lv_aload_n hx hb dL_law_943 rfl (lv_at hl 2 rfl) ?_
  refine lw_ld (pc := 944) (kn := 1) (pc' := 949) hE hJ.2.2.2 hl hn hL dL_law_944 rfl dL_law_945 rfl dL_law_946 (by decide) (by decide) rfl dL_law_947 rfl dL_law_948 rfl ?_
  refine lw_ld (pc := 949) (kn := 2) (pc' := 954) hE hJ.2.2.2 hl hn hL dL_law_949 rfl dL_law_950 rfl dL_law_951 (by decide) (by decide) rfl dL_law_952 rfl dL_law_953 rfl ?_
  refine lw_ld (pc := 954) (kn := 3) (pc' := 959) hE hJ.2.2.2 hl hn hL dL_law_954 rfl dL_law_955 rfl dL_law_956 (by decide) (by decide) rfl dL_law_957 rfl dL_law_958 rfl ?_
  refine lw_call (pc' := 962) (k := 1) (P := (fun w K => ∃ r : Int32, w = .int r ∧ f_X11_seen (dv G Γ H) (ax : Int) (xs (n + 1)).toInt (xs (n + 2)).toInt (xs (n + 3)).toInt = ((dv G Γ K), r.toInt) ∧ wf (am : Int) nW (dv G Γ H) (dv G Γ K) ∧ lx_rd G Γ ax (t + 100) K)) hJ (th_runV (As := [.int (xs (n + 1)), .int (xs (n + 2)), .int (xs (n + 3))]) (rest := []) hE.1 mf_X11_seen kl_143 im_X11_seen se_X11_seen (c_X11_seen l G Γ H hJ.1 hJ.2.1.1 hU ax hax (xs (n + 1)) (xs (n + 2)) (xs (n + 3))) rfl rfl ⟨Nat.le_of_ble_eq_true rfl, Nat.le_of_ble_eq_true rfl⟩ hJ.1 hax ro_42 rfl rfl hl.1 rfl (Nat.le_of_ble_eq_true rfl) dL_law_959 ⟨lw_f1 _, lw_f2 _⟩) (fun v K hp => by obtain ⟨r, rfl, hI1, hF1, hR1, hf1⟩ := hp; exact ⟨_, rfl, rfl, hI1, th_RN_c hR1 hJ.2.1 hI1 ham hF1 (by decide), th_bits_F hF1 hJ.2.2.1 (by decide), ⟨r, rfl, hf1, lw_wf hJ.1 hI1 hF1 ham (by decide +kernel), lx_rdF hJ.1 hI1 hF1 hax hsa (by decide) (by omega) hr⟩⟩) rfl (fun w1 H1 locs hc1 hJ1 hP1 => ?_)
  obtain ⟨r1, rfl, e1, g1, d1⟩ := hP1
  have hr1 := d1
  refine lv_pop hx hb dL_law_962 hc1 ?_
  refine lv_aload_n hx hb dL_law_963 rfl (lv_at hl 1 rfl) ?_
  refine lw_ld (pc := 964) (kn := 1) (pc' := 969) hE hJ1.2.2.2 hl hn hL dL_law_964 rfl dL_law_965 rfl dL_law_966 (by decide) (by decide) rfl dL_law_967 rfl dL_law_968 rfl ?_
  refine lw_ld (pc := 969) (kn := 2) (pc' := 974) hE hJ1.2.2.2 hl hn hL dL_law_969 rfl dL_law_970 rfl dL_law_971 (by decide) (by decide) rfl dL_law_972 rfl dL_law_973 rfl ?_
  refine lw_ld (pc := 974) (kn := 3) (pc' := 979) hE hJ1.2.2.2 hl hn hL dL_law_974 rfl dL_law_975 rfl dL_law_976 (by decide) (by decide) rfl dL_law_977 rfl dL_law_978 rfl ?_
  refine lw_call (pc' := 982) (k := 1) (P := (fun w K => ∃ r : Int32, w = .int r ∧ f_X12_seen (dv G Γ H1) (am : Int) (xs (n + 1)).toInt (xs (n + 2)).toInt (xs (n + 3)).toInt = ((dv G Γ K), r.toInt) ∧ cf (lw_A ax) nV (dv G Γ H1) (dv G Γ K) ∧ lx_rd G Γ ax (t + 100) K)) hJ1 (th_runV (As := [.int (xs (n + 1)), .int (xs (n + 2)), .int (xs (n + 3))]) (rest := []) hE.1 mf_X12_seen kl_146 im_X12_seen se_X12_seen (c_X12_seen l G Γ H1 hJ1.1 hU am ham hJ1.2.1 (xs (n + 1)) (xs (n + 2)) (xs (n + 3))) rfl rfl ⟨Nat.le_of_ble_eq_true rfl, Nat.le_of_ble_eq_true rfl⟩ hJ1.1 ham ro_46 rfl rfl hl.1 rfl (Nat.le_of_ble_eq_true rfl) dL_law_979 ⟨lw_f1 _, lw_f2 _⟩) (fun v K hp => by obtain ⟨r, rfl, hI1, hF1, hR1, hf1⟩ := hp; exact ⟨_, rfl, rfl, hI1, hR1, th_bits_F hF1 hJ1.2.2.1 (by decide), ⟨r, rfl, hf1, lw_cf hJ1.1 hI1 hF1 hA (by decide +kernel), lx_rdF hJ1.1 hI1 hF1 hax hsa (by decide) (by omega) hr1⟩⟩) rfl (fun w2 H2 locs hc2 hJ2 hP2 => ?_)
  obtain ⟨r2, rfl, e2, f2, d2⟩ := hP2
  refine lv_pop hx hb dL_law_982 hc2 ?_
  have hg := glue (r1 := r1.toInt) (r2 := r2.toInt) (fV := fun V => f_X11_seen V (lw_A ax 0) (xs (n + 1)).toInt (xs (n + 2)).toInt (xs (n + 3)).toInt) (fW := fun V => f_X12_seen V (am : Int) (xs (n + 1)).toInt (xs (n + 2)).toInt (xs (n + 3)).toInt) hq (fun V h => L_seen h) (by rw [lw_A0]; exact e1) g1 e2 f2
  exact lv_goto (tgt := 1239) hx hb dL_law_983 (by decide) (kk u _ locs hJ2 hg.2 d2)

set_option maxHeartbeats 4000000 in
set_option maxRecDepth 100000 in
theorem lw_c32 {p : Program} {e : Env} {s : State} {m : MethodId} {below : List Frame} {meth : Method} {c : Code} {Q : State → Prop} {G : th_G} {Γ : th_Ga} {ax am b L n : Nat} {xs : Nat → Int32} {ls : Array Slot} (l : Launch) (hE : lw_E p s m c b L xs G Γ ax am) (hL : L ≤ 384) (hn : n + 6 ≤ L) (hl : lv_has ls 4 [(3, .int (nI n)), (2, .ref am), (1, .ref ax), (0, .ref b)]) (hk : dv_U Γ ∧ lw_AR Γ ax ∧ Γ (ax + 78) = (27, 0) ∧ ∀ x y : Int, th_pm G x y) {u : Nat} {H : Heap} {locs : List Loc} (hJ : lw_J G Γ am s H locs u) (hq : RR (lw_A ax) (am : Int) (dv G Γ H) (dv G Γ H)) {t : Int} (hr : lx_rd G Γ ax t H) (ht : t + 100 + 100 < 2147483647) (kk : ∀ (u1 : Nat) (H1 : Heap) (locs1 : List Loc), lw_J G Γ am s H1 locs1 u1 → RR (lw_A ax) (am : Int) (dv G Γ H1) (dv G Γ H1) → lx_rd G Γ ax (t + 100) H1 → W p l e room_1 s m #[Value.ref b] below meth c H1 locs1 (600000 - th_pc u1) (7302250 - th_pq u1) Q (F0 m 1239 ls [])) : W p l e room_1 s m #[Value.ref b] below meth c H locs (600000 - th_pc u) (7302250 - th_pq u) Q (F0 m 986 ls []) := by
  have hx := hE.1.1
  have hb := hE.1.2.1
  have hax := hE.2.2.2.2.2.1
  have ham := hE.2.2.2.2.2.2.1
  have hU := hk.1
  have hA := hk.2.1
  have hsa := hk.2.2.1
  have hPT := hk.2.2.2
  refine lv_aload_n hx hb dL_law_986 rfl (lv_at hl 2 rfl) ?_
  refine lw_call (pc' := 990) (k := 1) (P := (fun w K => ∃ r : Int32, w = .int r ∧ f_X11_forget (dv G Γ H) (ax : Int) = ((dv G Γ K), r.toInt) ∧ wf (am : Int) nW (dv G Γ H) (dv G Γ K) ∧ lx_rd G Γ ax (t + 100) K)) hJ (th_runV (As := []) (rest := []) hE.1 mf_X11_forget kl_147 im_X11_forget se_X11_forget (c_X11_forget l G Γ H hJ.1 hJ.2.1.1 hU ax hax) rfl rfl ⟨Nat.le_of_ble_eq_true rfl, Nat.le_of_ble_eq_true rfl⟩ hJ.1 hax ro_42 rfl rfl hl.1 rfl (Nat.le_of_ble_eq_true rfl) dL_law_987 ⟨lw_f1 _, lw_f2 _⟩) (fun v K hp => by obtain ⟨r, rfl, hI1, hF1, hR1, hf1⟩ := hp; exact ⟨_, rfl, rfl, hI1, th_RN_c hR1 hJ.2.1 hI1 ham hF1 (by decide), th_bits_F hF1 hJ.2.2.1 (by decide), ⟨r, rfl, hf1, lw_wf hJ.1 hI1 hF1 ham (by decide +kernel), lx_rdF hJ.1 hI1 hF1 hax hsa (by decide) (by omega) hr⟩⟩) rfl (fun w1 H1 locs hc1 hJ1 hP1 => ?_)
  obtain ⟨r1, rfl, e1, g1, d1⟩ := hP1
  have hr1 := d1
  refine lv_pop hx hb dL_law_990 hc1 ?_
  refine lv_aload_n hx hb dL_law_991 rfl (lv_at hl 1 rfl) ?_
  refine lw_call (pc' := 995) (k := 1) (P := (fun w K => ∃ r : Int32, w = .int r ∧ f_X12_forget (dv G Γ H1) (am : Int) = ((dv G Γ K), r.toInt) ∧ cf (lw_A ax) nV (dv G Γ H1) (dv G Γ K) ∧ lx_rd G Γ ax (t + 100) K)) hJ1 (th_runV (As := []) (rest := []) hE.1 mf_X12_forget kl_150 im_X12_forget se_X12_forget (c_X12_forget l G Γ H1 hJ1.1 hU am ham hJ1.2.1) rfl rfl ⟨Nat.le_of_ble_eq_true rfl, Nat.le_of_ble_eq_true rfl⟩ hJ1.1 ham ro_46 rfl rfl hl.1 rfl (Nat.le_of_ble_eq_true rfl) dL_law_992 ⟨lw_f1 _, lw_f2 _⟩) (fun v K hp => by obtain ⟨r, rfl, hI1, hF1, hR1, hf1⟩ := hp; exact ⟨_, rfl, rfl, hI1, hR1, th_bits_F hF1 hJ1.2.2.1 (by decide), ⟨r, rfl, hf1, lw_cf hJ1.1 hI1 hF1 hA (by decide +kernel), lx_rdF hJ1.1 hI1 hF1 hax hsa (by decide) (by omega) hr1⟩⟩) rfl (fun w2 H2 locs hc2 hJ2 hP2 => ?_)
  obtain ⟨r2, rfl, e2, f2, d2⟩ := hP2
  refine lv_pop hx hb dL_law_995 hc2 ?_
  have hg := glue (r1 := r1.toInt) (r2 := r2.toInt) (fV := fun V => f_X11_forget V (lw_A ax 0)) (fW := fun V => f_X12_forget V (am : Int)) hq (fun V h => L_forget h) (by rw [lw_A0]; exact e1) g1 e2 f2
  exact lv_goto (tgt := 1239) hx hb dL_law_996 (by decide) (kk u _ locs hJ2 hg.2 d2)
end
section
set_option maxHeartbeats 4000000 in
set_option maxRecDepth 100000 in
theorem lw_c33 {p : Program} {e : Env} {s : State} {m : MethodId} {below : List Frame} {meth : Method} {c : Code} {Q : State → Prop} {G : th_G} {Γ : th_Ga} {ax am b L n : Nat} {xs : Nat → Int32} {ls : Array Slot} (l : Launch) (hE : lw_E p s m c b L xs G Γ ax am) (hL : L ≤ 384) (hn : n + 6 ≤ L) (hl : lv_has ls 4 [(3, .int (nI n)), (2, .ref am), (1, .ref ax), (0, .ref b)]) (hk : dv_U Γ ∧ lw_AR Γ ax ∧ Γ (ax + 78) = (27, 0) ∧ ∀ x y : Int, th_pm G x y) {u : Nat} {H : Heap} {locs : List Loc} (hJ : lw_J G Γ am s H locs u) (hq : RR (lw_A ax) (am : Int) (dv G Γ H) (dv G Γ H)) {t : Int} (hr : lx_rd G Γ ax t H) (ht : t + 100 + 100 < 2147483647) (kk : ∀ (u1 : Nat) (H1 : Heap) (locs1 : List Loc), lw_J G Γ am s H1 locs1 u1 → RR (lw_A ax) (am : Int) (dv G Γ H1) (dv G Γ H1) → lx_rd G Γ ax (t + 100) H1 → W p l e room_1 s m #[Value.ref b] below meth c H1 locs1 (600000 - th_pc u1) (7302250 - th_pq u1) Q (F0 m 1239 ls [])) : W p l e room_1 s m #[Value.ref b] below meth c H locs (600000 - th_pc u) (7302250 - th_pq u) Q (F0 m 999 ls []) := by
  have hx := hE.1.1
  have hb := hE.1.2.1
  have hax := hE.2.2.2.2.2.1
  have ham := hE.2.2.2.2.2.2.1
  have hU := hk.1
  have hA := hk.2.1
  have hsa := hk.2.2.1
  have hPT := hk.2.2.2
  refine lv_aload_n hx hb dL_law_999 rfl (lv_at hl 2 rfl) ?_
  refine lw_callb (pc' := 1003) (k := 1) (P := (fun w K => ∃ r : Int32, w = .int r ∧ RS (lw_A ax) (am : Int) ((ax + 78 : Nat) : Int) (t + 100) (lx_M Γ) (dv G Γ K) (dv G Γ H) ∧ wf (am : Int) nW (dv G Γ H) (dv G Γ K))) hJ (th_runV (As := []) (rest := []) hE.1 mf_X11_floors kl_151 im_X11_floors se_X11_floors (c_X11_floors_S l G Γ H hJ.1 hJ.2.1.1 hU ax hax hPT (lw_A ax) (am : Int) ((ax + 78 : Nat) : Int) t (lx_M Γ) (dv G Γ H) (lx_RS hJ.1 hA hsa hq hr) lw_A0 (fun _ => Iff.rfl) (by omega) u hJ.2.2.1) rfl rfl ⟨Nat.le_of_ble_eq_true rfl, Nat.le_of_ble_eq_true rfl⟩ hJ.1 hax ro_42 rfl rfl hl.1 rfl (Nat.le_of_ble_eq_true rfl) dL_law_1000 ⟨lw_f3 hJ.2.2.1.1, lw_f4 hJ.2.2.1.1⟩) (fun v K hp => by obtain ⟨r, rfl, hI1, hF1, hR1, hRS, -, hbp⟩ := hp; exact ⟨_, rfl, rfl, hI1, th_RN_c hR1 hJ.2.1 hI1 ham hF1 (by decide), hbp, ⟨r, rfl, hRS, lw_wf hJ.1 hI1 hF1 ham (by decide +kernel)⟩⟩) rfl (fun u1 w1 H1 locs hc1 hJ1 hP1 => ?_)
  obtain ⟨r1, rfl, f1, g1⟩ := hP1
  have hr1 : lx_rd G Γ ax (t + 100) H1 := ⟨by rw [← lw_A0]; exact f1.2.1.1, f1.2.2.2.1⟩
  refine lv_pop hx hb dL_law_1003 hc1 ?_
  refine lv_aload_n hx hb dL_law_1004 rfl (lv_at hl 1 rfl) ?_
  refine lw_call (pc' := 1008) (k := 1) (P := (fun w K => ∃ r : Int32, w = .int r ∧ f_X12_floors (dv G Γ H1) (am : Int) = ((dv G Γ K), r.toInt) ∧ cf (lw_A ax) nV (dv G Γ H1) (dv G Γ K) ∧ lx_rd G Γ ax (t + 100) K)) hJ1 (th_runV (As := []) (rest := []) hE.1 mf_X12_floors kl_154 im_X12_floors se_X12_floors (c_X12_floors l G Γ H1 hJ1.1 hU am ham (th_NK hJ1.2.1)) rfl rfl ⟨Nat.le_of_ble_eq_true rfl, Nat.le_of_ble_eq_true rfl⟩ hJ1.1 ham ro_46 rfl rfl hl.1 rfl (Nat.le_of_ble_eq_true rfl) dL_law_1005 ⟨lw_f1 _, lw_f2 _⟩) (fun v K hp => by obtain ⟨r, rfl, hI1, hF1, hR1, hf1⟩ := hp; exact ⟨_, rfl, rfl, hI1, th_RN_c hR1.1 hJ1.2.1 hI1 ham hF1 (by decide), th_bits_F hF1 hJ1.2.2.1 (by decide), ⟨r, rfl, hf1, lw_cf hJ1.1 hI1 hF1 hA (by decide +kernel), lx_rdF hJ1.1 hI1 hF1 hax hsa (by decide) (by omega) hr1⟩⟩) rfl (fun w2 H2 locs hc2 hJ2 hP2 => ?_)
  obtain ⟨r2, rfl, e2, f2, d2⟩ := hP2
  refine lv_pop hx hb dL_law_1008 hc2 ?_
  have hq1 := RR_VW f1.1 cf_r g1
  have hg := glue_S (fW := fun V => f_X12_floors V (am : Int)) hq1 (sk_of (fW := fun V => f_X12_floors V (am : Int)) (F_floors (RR_JX hq1))) e2 f2
  exact lv_goto (tgt := 1239) hx hb dL_law_1009 (by decide) (kk u1 _ locs hJ2 hg d2)

set_option maxHeartbeats 4000000 in
set_option maxRecDepth 100000 in
theorem lw_c34 {p : Program} {e : Env} {s : State} {m : MethodId} {below : List Frame} {meth : Method} {c : Code} {Q : State → Prop} {G : th_G} {Γ : th_Ga} {ax am b L n : Nat} {xs : Nat → Int32} {ls : Array Slot} (l : Launch) (hE : lw_E p s m c b L xs G Γ ax am) (hL : L ≤ 384) (hn : n + 6 ≤ L) (hl : lv_has ls 4 [(3, .int (nI n)), (2, .ref am), (1, .ref ax), (0, .ref b)]) (hk : dv_U Γ ∧ lw_AR Γ ax ∧ Γ (ax + 78) = (27, 0) ∧ ∀ x y : Int, th_pm G x y) {u : Nat} {H : Heap} {locs : List Loc} (hJ : lw_J G Γ am s H locs u) (hq : RR (lw_A ax) (am : Int) (dv G Γ H) (dv G Γ H)) {t : Int} (hr : lx_rd G Γ ax t H) (ht : t + 100 + 100 < 2147483647) (kk : ∀ (u1 : Nat) (H1 : Heap) (locs1 : List Loc), lw_J G Γ am s H1 locs1 u1 → RR (lw_A ax) (am : Int) (dv G Γ H1) (dv G Γ H1) → lx_rd G Γ ax (t + 100) H1 → W p l e room_1 s m #[Value.ref b] below meth c H1 locs1 (600000 - th_pc u1) (7302250 - th_pq u1) Q (F0 m 1239 ls [])) : W p l e room_1 s m #[Value.ref b] below meth c H locs (600000 - th_pc u) (7302250 - th_pq u) Q (F0 m 1012 ls []) := by
  have hx := hE.1.1
  have hb := hE.1.2.1
  have hax := hE.2.2.2.2.2.1
  have ham := hE.2.2.2.2.2.2.1
  have hU := hk.1
  have hA := hk.2.1
  have hsa := hk.2.2.1
  have hPT := hk.2.2.2
  refine lv_aload_n hx hb dL_law_1012 rfl (lv_at hl 2 rfl) ?_
  refine lw_ld (pc := 1013) (kn := 1) (pc' := 1018) hE hJ.2.2.2 hl hn hL dL_law_1013 rfl dL_law_1014 rfl dL_law_1015 (by decide) (by decide) rfl dL_law_1016 rfl dL_law_1017 rfl ?_
  refine lw_callb (pc' := 1021) (k := 1) (P := (fun w K => ∃ r : Int32, w = .int r ∧ RS (lw_A ax) (am : Int) ((ax + 78 : Nat) : Int) (t + 100) (lx_M Γ) (dv G Γ K) (dv G Γ H) ∧ wf (am : Int) nW (dv G Γ H) (dv G Γ K))) hJ (th_runV (As := [.int (xs (n + 1))]) (rest := []) hE.1 mf_X11_look kl_155 im_X11_look se_X11_look (c_X11_look_S l G Γ H hJ.1 hJ.2.1.1 hU ax hax (xs (n + 1)) hPT (lw_A ax) (am : Int) ((ax + 78 : Nat) : Int) t (lx_M Γ) (dv G Γ H) (lx_RS hJ.1 hA hsa hq hr) lw_A0 (fun _ => Iff.rfl) (by omega) u hJ.2.2.1) rfl rfl ⟨Nat.le_of_ble_eq_true rfl, Nat.le_of_ble_eq_true rfl⟩ hJ.1 hax ro_42 rfl rfl hl.1 rfl (Nat.le_of_ble_eq_true rfl) dL_law_1018 ⟨lw_f3 hJ.2.2.1.1, lw_f4 hJ.2.2.1.1⟩) (fun v K hp => by obtain ⟨r, rfl, hI1, hF1, hR1, hRS, hbp⟩ := hp; exact ⟨_, rfl, rfl, hI1, th_RN_c hR1 hJ.2.1 hI1 ham hF1 (by decide), hbp, ⟨r, rfl, hRS, lw_wf hJ.1 hI1 hF1 ham (by decide +kernel)⟩⟩) rfl (fun u1 w1 H1 locs hc1 hJ1 hP1 => ?_)
  obtain ⟨r1, rfl, f1, g1⟩ := hP1
  have hr1 : lx_rd G Γ ax (t + 100) H1 := ⟨by rw [← lw_A0]; exact f1.2.1.1, f1.2.2.2.1⟩
  refine lv_pop hx hb dL_law_1021 hc1 ?_
  refine lv_aload_n hx hb dL_law_1022 rfl (lv_at hl 1 rfl) ?_
  refine lw_ld (pc := 1023) (kn := 1) (pc' := 1028) hE hJ1.2.2.2 hl hn hL dL_law_1023 rfl dL_law_1024 rfl dL_law_1025 (by decide) (by decide) rfl dL_law_1026 rfl dL_law_1027 rfl ?_
  refine lw_call (pc' := 1031) (k := 1) (P := (fun w K => ∃ r : Int32, w = .int r ∧ f_X12_look (dv G Γ H1) (am : Int) (xs (n + 1)).toInt = ((dv G Γ K), r.toInt) ∧ cf (lw_A ax) nV (dv G Γ H1) (dv G Γ K) ∧ lx_rd G Γ ax (t + 100) K)) hJ1 (th_runV (As := [.int (xs (n + 1))]) (rest := []) hE.1 mf_X12_look kl_158 im_X12_look se_X12_look (c_X12_look l G Γ H1 hJ1.1 hU am ham (th_NK hJ1.2.1) (xs (n + 1))) rfl rfl ⟨Nat.le_of_ble_eq_true rfl, Nat.le_of_ble_eq_true rfl⟩ hJ1.1 ham ro_46 rfl rfl hl.1 rfl (Nat.le_of_ble_eq_true rfl) dL_law_1028 ⟨lw_f1 _, lw_f2 _⟩) (fun v K hp => by obtain ⟨r, rfl, hI1, hF1, hR1, hf1⟩ := hp; exact ⟨_, rfl, rfl, hI1, th_RN_c hR1.1 hJ1.2.1 hI1 ham hF1 (by decide), th_bits_F hF1 hJ1.2.2.1 (by decide), ⟨r, rfl, hf1, lw_cf hJ1.1 hI1 hF1 hA (by decide +kernel), lx_rdF hJ1.1 hI1 hF1 hax hsa (by decide) (by omega) hr1⟩⟩) rfl (fun w2 H2 locs hc2 hJ2 hP2 => ?_)
  obtain ⟨r2, rfl, e2, f2, d2⟩ := hP2
  refine lv_pop hx hb dL_law_1031 hc2 ?_
  have hq1 := RR_VW f1.1 cf_r g1
  have hg := glue_S (fW := fun V => f_X12_look V (am : Int) (xs (n + 1)).toInt) hq1 (sk_of (fW := fun V => f_X12_look V (am : Int) (xs (n + 1)).toInt) (F_look (RR_JX hq1))) e2 f2
  exact lv_goto (tgt := 1239) hx hb dL_law_1032 (by decide) (kk u1 _ locs hJ2 hg d2)

set_option maxHeartbeats 4000000 in
set_option maxRecDepth 100000 in
theorem lw_c35 {p : Program} {e : Env} {s : State} {m : MethodId} {below : List Frame} {meth : Method} {c : Code} {Q : State → Prop} {G : th_G} {Γ : th_Ga} {ax am b L n : Nat} {xs : Nat → Int32} {ls : Array Slot} (l : Launch) (hE : lw_E p s m c b L xs G Γ ax am) (hL : L ≤ 384) (hn : n + 6 ≤ L) (hl : lv_has ls 4 [(3, .int (nI n)), (2, .ref am), (1, .ref ax), (0, .ref b)]) (hk : dv_U Γ ∧ lw_AR Γ ax ∧ Γ (ax + 78) = (27, 0) ∧ ∀ x y : Int, th_pm G x y) {u : Nat} {H : Heap} {locs : List Loc} (hJ : lw_J G Γ am s H locs u) (hq : RR (lw_A ax) (am : Int) (dv G Γ H) (dv G Γ H)) {t : Int} (hr : lx_rd G Γ ax t H) (ht : t + 100 + 100 < 2147483647) (kk : ∀ (u1 : Nat) (H1 : Heap) (locs1 : List Loc), lw_J G Γ am s H1 locs1 u1 → RR (lw_A ax) (am : Int) (dv G Γ H1) (dv G Γ H1) → lx_rd G Γ ax (t + 100) H1 → W p l e room_1 s m #[Value.ref b] below meth c H1 locs1 (600000 - th_pc u1) (7302250 - th_pq u1) Q (F0 m 1239 ls [])) : W p l e room_1 s m #[Value.ref b] below meth c H locs (600000 - th_pc u) (7302250 - th_pq u) Q (F0 m 1035 ls []) := by
  have hx := hE.1.1
  have hb := hE.1.2.1
  have hax := hE.2.2.2.2.2.1
  have ham := hE.2.2.2.2.2.2.1
  have hU := hk.1
  have hA := hk.2.1
  have hsa := hk.2.2.1
  have hPT := hk.2.2.2
  refine lv_aload_n hx hb dL_law_1035 rfl (lv_at hl 2 rfl) ?_
  refine lw_ld (pc := 1036) (kn := 1) (pc' := 1041) hE hJ.2.2.2 hl hn hL dL_law_1036 rfl dL_law_1037 rfl dL_law_1038 (by decide) (by decide) rfl dL_law_1039 rfl dL_law_1040 rfl ?_
  refine lw_ld (pc := 1041) (kn := 2) (pc' := 1046) hE hJ.2.2.2 hl hn hL dL_law_1041 rfl dL_law_1042 rfl dL_law_1043 (by decide) (by decide) rfl dL_law_1044 rfl dL_law_1045 rfl ?_
  refine lw_call (pc' := 1049) (k := 2) (P := (fun w K => ∃ r : Int64, w = .long r ∧ cf (lw_A ax) cs_L (dv G Γ H) (dv G Γ K) ∧ wf (am : Int) nW (dv G Γ H) (dv G Γ K) ∧ lx_rd G Γ ax (t + 100) K)) hJ (th_runV (As := [.int (xs (n + 1)), .int (xs (n + 2))]) (rest := []) hE.1 mf_X11_few kl_159 im_X11_few se_X11_few (c_X11_few l G Γ H hJ.1 hJ.2.1.1 hU ax hax (xs (n + 1)) (xs (n + 2))) rfl rfl ⟨Nat.le_of_ble_eq_true rfl, Nat.le_of_ble_eq_true rfl⟩ hJ.1 hax ro_42 rfl rfl hl.1 rfl (Nat.le_of_ble_eq_true rfl) dL_law_1046 ⟨lw_f1 _, lw_f2 _⟩) (fun v K hp => by obtain ⟨r, rfl, hI1, hF1, hR1⟩ := hp; exact ⟨_, rfl, rfl, hI1, th_RN_c hR1 hJ.2.1 hI1 ham hF1 (by decide), th_bits_F hF1 hJ.2.2.1 (by decide), ⟨r, rfl, lw_cf hJ.1 hI1 hF1 hA (by decide +kernel), lw_wf hJ.1 hI1 hF1 ham (by decide +kernel), lx_rdF hJ.1 hI1 hF1 hax hsa (by decide) (by omega) hr⟩⟩) rfl (fun w1 H1 locs hc1 hJ1 hP1 => ?_)
  obtain ⟨r1, rfl, f1, g1, d1⟩ := hP1
  have hr1 := d1
  refine lv_pop2_2 hx hb dL_law_1049 hc1 ?_
  refine lv_aload_n hx hb dL_law_1050 rfl (lv_at hl 1 rfl) ?_
  refine lw_ld (pc := 1051) (kn := 1) (pc' := 1056) hE hJ1.2.2.2 hl hn hL dL_law_1051 rfl dL_law_1052 rfl dL_law_1053 (by decide) (by decide) rfl dL_law_1054 rfl dL_law_1055 rfl ?_
  refine lw_ld (pc := 1056) (kn := 2) (pc' := 1061) hE hJ1.2.2.2 hl hn hL dL_law_1056 rfl dL_law_1057 rfl dL_law_1058 (by decide) (by decide) rfl dL_law_1059 rfl dL_law_1060 rfl ?_
  refine lw_call (pc' := 1064) (k := 2) (P := (fun w K => ∃ r : Int64, w = .long r ∧ wf (am : Int) (fun j => j == 46) (dv G Γ H1) (dv G Γ K) ∧ cf (lw_A ax) nV (dv G Γ H1) (dv G Γ K) ∧ lx_rd G Γ ax (t + 100) K)) hJ1 (th_runV (As := [.int (xs (n + 1)), .int (xs (n + 2))]) (rest := []) hE.1 mf_X12_few kl_163 im_X12_few se_X12_few (c_X12_few l G Γ H1 hJ1.1 hJ1.2.1.1 hU am ham (xs (n + 1)) (xs (n + 2))) rfl rfl ⟨Nat.le_of_ble_eq_true rfl, Nat.le_of_ble_eq_true rfl⟩ hJ1.1 ham ro_46 rfl rfl hl.1 rfl (Nat.le_of_ble_eq_true rfl) dL_law_1061 ⟨lw_f1 _, lw_f2 _⟩) (fun v K hp => by obtain ⟨r, rfl, hI1, hF1, hR1⟩ := hp; exact ⟨_, rfl, rfl, hI1, th_RN_c hR1 hJ1.2.1 hI1 ham hF1 (by decide), th_bits_F hF1 hJ1.2.2.1 (by decide), ⟨r, rfl, lw_wf hJ1.1 hI1 hF1 ham (by decide +kernel), lw_cf hJ1.1 hI1 hF1 hA (by decide +kernel), lx_rdF hJ1.1 hI1 hF1 hax hsa (by decide) (by omega) hr1⟩⟩) rfl (fun w2 H2 locs hc2 hJ2 hP2 => ?_)
  obtain ⟨r2, rfl, g2, f2, d2⟩ := hP2
  refine lv_pop2_2 hx hb dL_law_1064 hc2 ?_
  have hq1 := glue_C hq f1 (lw_kwA hJ1.1 hA) g1
  have hg := RR_VW (RR_46 hq1 g2) f2 wf_r
  exact lv_goto (tgt := 1239) hx hb dL_law_1065 (by decide) (kk u _ locs hJ2 hg d2)

set_option maxHeartbeats 4000000 in
set_option maxRecDepth 100000 in
theorem lw_c36 {p : Program} {e : Env} {s : State} {m : MethodId} {below : List Frame} {meth : Method} {c : Code} {Q : State → Prop} {G : th_G} {Γ : th_Ga} {ax am b L n : Nat} {xs : Nat → Int32} {ls : Array Slot} (l : Launch) (hE : lw_E p s m c b L xs G Γ ax am) (hL : L ≤ 384) (hn : n + 6 ≤ L) (hl : lv_has ls 4 [(3, .int (nI n)), (2, .ref am), (1, .ref ax), (0, .ref b)]) (hk : dv_U Γ ∧ lw_AR Γ ax ∧ Γ (ax + 78) = (27, 0) ∧ ∀ x y : Int, th_pm G x y) {u : Nat} {H : Heap} {locs : List Loc} (hJ : lw_J G Γ am s H locs u) (hq : RR (lw_A ax) (am : Int) (dv G Γ H) (dv G Γ H)) {t : Int} (hr : lx_rd G Γ ax t H) (ht : t + 100 + 100 < 2147483647) (kk : ∀ (u1 : Nat) (H1 : Heap) (locs1 : List Loc), lw_J G Γ am s H1 locs1 u1 → RR (lw_A ax) (am : Int) (dv G Γ H1) (dv G Γ H1) → lx_rd G Γ ax (t + 100) H1 → W p l e room_1 s m #[Value.ref b] below meth c H1 locs1 (600000 - th_pc u1) (7302250 - th_pq u1) Q (F0 m 1239 ls [])) : W p l e room_1 s m #[Value.ref b] below meth c H locs (600000 - th_pc u) (7302250 - th_pq u) Q (F0 m 1068 ls []) := by
  have hx := hE.1.1
  have hb := hE.1.2.1
  have hax := hE.2.2.2.2.2.1
  have ham := hE.2.2.2.2.2.2.1
  have hU := hk.1
  have hA := hk.2.1
  have hsa := hk.2.2.1
  have hPT := hk.2.2.2
  refine lv_aload_n hx hb dL_law_1068 rfl (lv_at hl 2 rfl) ?_
  refine lw_ld (pc := 1069) (kn := 1) (pc' := 1074) hE hJ.2.2.2 hl hn hL dL_law_1069 rfl dL_law_1070 rfl dL_law_1071 (by decide) (by decide) rfl dL_law_1072 rfl dL_law_1073 rfl ?_
  refine lw_callb (pc' := 1077) (k := 1) (P := (fun w K => ∃ r : Int32, w = .int r ∧ RS (lw_A ax) (am : Int) ((ax + 78 : Nat) : Int) (t + 100) (lx_M Γ) (dv G Γ K) (dv G Γ H) ∧ wf (am : Int) nW (dv G Γ H) (dv G Γ K) ∧ (-1 ≤ (xs (n + 1)).toInt ∧ (xs (n + 1)).toInt < dv G Γ H (am : Int) 2 71 → r.toInt = rL (dv G Γ H (lw_A ax 4)) (prW (dv_u (dv G Γ H) (am : Int) 2 72 (xs (n + 1)).toInt) (am : Int)) noag) ∧ (¬ (-1 ≤ (xs (n + 1)).toInt ∧ (xs (n + 1)).toInt < dv G Γ H (am : Int) 2 71) → r.toInt = -1))) hJ (th_runV (As := [.int (xs (n + 1))]) (rest := []) hE.1 mf_X11_compare kl_164 im_X11_compare se_X11_compare (c_X11_compare_S l G Γ H hJ.1 hJ.2.1.1 hU ax hax (xs (n + 1)) hPT (lw_A ax) (am : Int) ((ax + 78 : Nat) : Int) t (lx_M Γ) (dv G Γ H) (lx_RS hJ.1 hA hsa hq hr) lw_A0 (fun _ => Iff.rfl) (by omega) u hJ.2.2.1) rfl rfl ⟨Nat.le_of_ble_eq_true rfl, Nat.le_of_ble_eq_true rfl⟩ hJ.1 hax ro_42 rfl rfl hl.1 rfl (Nat.le_of_ble_eq_true rfl) dL_law_1074 ⟨lw_f3 hJ.2.2.1.1, lw_f4 hJ.2.2.1.1⟩) (fun v K hp => by obtain ⟨r, rfl, hI1, hF1, hR1, hRS, ha0, hbp⟩ := hp; exact ⟨_, rfl, rfl, hI1, th_RN_c hR1 hJ.2.1 hI1 ham hF1 (by decide), hbp, ⟨r, rfl, hRS, lw_wf hJ.1 hI1 hF1 ham (by decide +kernel), ha0⟩⟩) rfl (fun u1 w1 H1 locs hc1 hJ1 hP1 => ?_)
  obtain ⟨r1, rfl, f1, g1, a1⟩ := hP1
  have hr1 : lx_rd G Γ ax (t + 100) H1 := ⟨by rw [← lw_A0]; exact f1.2.1.1, f1.2.2.2.1⟩
  refine lv_aload_n hx hb dL_law_1077 rfl (lv_at hl 1 rfl) ?_
  refine lw_ld (pc := 1078) (kn := 1) (pc' := 1083) hE hJ1.2.2.2 hl hn hL dL_law_1078 rfl dL_law_1079 rfl dL_law_1080 (by decide) (by decide) rfl dL_law_1081 rfl dL_law_1082 rfl ?_
  refine lw_call (pc' := 1086) (k := 1) (P := (fun w K => ∃ r : Int32, w = .int r ∧ f_X12_compare (dv G Γ H1) (am : Int) (xs (n + 1)).toInt = ((dv G Γ K), r.toInt) ∧ cf (lw_A ax) nV (dv G Γ H1) (dv G Γ K) ∧ lx_rd G Γ ax (t + 100) K)) hJ1 (th_runV (As := [.int (xs (n + 1))]) (rest := [.int r1]) hE.1 mf_X12_compare kl_167 im_X12_compare se_X12_compare (c_X12_compare l G Γ H1 hJ1.1 hU am ham hJ1.2.1 (xs (n + 1))) rfl rfl ⟨Nat.le_of_ble_eq_true rfl, Nat.le_of_ble_eq_true rfl⟩ hJ1.1 ham ro_46 rfl rfl hl.1 rfl (Nat.le_of_ble_eq_true rfl) dL_law_1083 ⟨lw_f1 _, lw_f2 _⟩) (fun v K hp => by obtain ⟨r, rfl, hI1, hF1, hR1, hf1⟩ := hp; exact ⟨_, rfl, rfl, hI1, hR1, th_bits_F hF1 hJ1.2.2.1 (by decide), ⟨r, rfl, hf1, lw_cf hJ1.1 hI1 hF1 hA (by decide +kernel), lx_rdF hJ1.1 hI1 hF1 hax hsa (by decide) (by omega) hr1⟩⟩) rfl (fun w2 H2 locs hc2 hJ2 hP2 => ?_)
  obtain ⟨r2, rfl, e2, f2, d2⟩ := hP2
  have hq1 := RR_VW f1.1 cf_r g1
  have hg := glue_S (fW := fun V => f_X12_compare V (am : Int) (xs (n + 1)).toInt) hq1 (F_compare hq1) e2 f2
  have he := g_compare hq (RR_VW hq cf_r g1) a1 e2
  refine tr_icmp_eq (tgt := 1239) hx hb dL_law_1086 (by decide) rfl rfl (fun _ => kk u1 _ locs hJ2 hg d2) (fun w => absurd ?_ w)
  first | exact he | exact (he).symm

set_option maxHeartbeats 4000000 in
set_option maxRecDepth 100000 in
theorem lw_c37 {p : Program} {e : Env} {s : State} {m : MethodId} {below : List Frame} {meth : Method} {c : Code} {Q : State → Prop} {G : th_G} {Γ : th_Ga} {ax am b L n : Nat} {xs : Nat → Int32} {ls : Array Slot} (l : Launch) (hE : lw_E p s m c b L xs G Γ ax am) (hL : L ≤ 384) (hn : n + 6 ≤ L) (hl : lv_has ls 4 [(3, .int (nI n)), (2, .ref am), (1, .ref ax), (0, .ref b)]) (hk : dv_U Γ ∧ lw_AR Γ ax ∧ Γ (ax + 78) = (27, 0) ∧ ∀ x y : Int, th_pm G x y) {u : Nat} {H : Heap} {locs : List Loc} (hJ : lw_J G Γ am s H locs u) (hq : RR (lw_A ax) (am : Int) (dv G Γ H) (dv G Γ H)) {t : Int} (hr : lx_rd G Γ ax t H) (ht : t + 100 + 100 < 2147483647) (kk : ∀ (u1 : Nat) (H1 : Heap) (locs1 : List Loc), lw_J G Γ am s H1 locs1 u1 → RR (lw_A ax) (am : Int) (dv G Γ H1) (dv G Γ H1) → lx_rd G Γ ax (t + 100) H1 → W p l e room_1 s m #[Value.ref b] below meth c H1 locs1 (600000 - th_pc u1) (7302250 - th_pq u1) Q (F0 m 1239 ls [])) : W p l e room_1 s m #[Value.ref b] below meth c H locs (600000 - th_pc u) (7302250 - th_pq u) Q (F0 m 1091 ls []) := by
  have hx := hE.1.1
  have hb := hE.1.2.1
  have hax := hE.2.2.2.2.2.1
  have ham := hE.2.2.2.2.2.2.1
  have hU := hk.1
  have hA := hk.2.1
  have hsa := hk.2.2.1
  have hPT := hk.2.2.2
  refine lv_aload_n hx hb dL_law_1091 rfl (lv_at hl 2 rfl) ?_
  refine lw_ld (pc := 1092) (kn := 1) (pc' := 1097) hE hJ.2.2.2 hl hn hL dL_law_1092 rfl dL_law_1093 rfl dL_law_1094 (by decide) (by decide) rfl dL_law_1095 rfl dL_law_1096 rfl ?_
  refine lw_ld (pc := 1097) (kn := 2) (pc' := 1102) hE hJ.2.2.2 hl hn hL dL_law_1097 rfl dL_law_1098 rfl dL_law_1099 (by decide) (by decide) rfl dL_law_1100 rfl dL_law_1101 rfl ?_
  refine lw_call (pc' := 1105) (k := 1) (P := (fun w K => ∃ r : Int32, w = .int r ∧ f_X11_years (dv G Γ H) (ax : Int) (xs (n + 1)).toInt (xs (n + 2)).toInt = ((dv G Γ K), r.toInt) ∧ wf (am : Int) nW (dv G Γ H) (dv G Γ K) ∧ lx_rd G Γ ax (t + 100) K)) hJ (th_runV (As := [.int (xs (n + 1)), .int (xs (n + 2))]) (rest := []) hE.1 mf_X11_years kl_168 im_X11_years se_X11_years (c_X11_years l G Γ H hJ.1 hJ.2.1.1 hU ax hax (xs (n + 1)) (xs (n + 2))) rfl rfl ⟨Nat.le_of_ble_eq_true rfl, Nat.le_of_ble_eq_true rfl⟩ hJ.1 hax ro_42 rfl rfl hl.1 rfl (Nat.le_of_ble_eq_true rfl) dL_law_1102 ⟨lw_f1 _, lw_f2 _⟩) (fun v K hp => by obtain ⟨r, rfl, hI1, hF1, hR1, hf1⟩ := hp; exact ⟨_, rfl, rfl, hI1, th_RN_c hR1 hJ.2.1 hI1 ham hF1 (by decide), th_bits_F hF1 hJ.2.2.1 (by decide), ⟨r, rfl, hf1, lw_wf hJ.1 hI1 hF1 ham (by decide +kernel), lx_rdF hJ.1 hI1 hF1 hax hsa (by decide) (by omega) hr⟩⟩) rfl (fun w1 H1 locs hc1 hJ1 hP1 => ?_)
  obtain ⟨r1, rfl, e1, g1, d1⟩ := hP1
  have hr1 := d1
  refine lv_pop hx hb dL_law_1105 hc1 ?_
  refine lv_aload_n hx hb dL_law_1106 rfl (lv_at hl 1 rfl) ?_
  refine lw_ld (pc := 1107) (kn := 1) (pc' := 1112) hE hJ1.2.2.2 hl hn hL dL_law_1107 rfl dL_law_1108 rfl dL_law_1109 (by decide) (by decide) rfl dL_law_1110 rfl dL_law_1111 rfl ?_
  refine lw_ld (pc := 1112) (kn := 2) (pc' := 1117) hE hJ1.2.2.2 hl hn hL dL_law_1112 rfl dL_law_1113 rfl dL_law_1114 (by decide) (by decide) rfl dL_law_1115 rfl dL_law_1116 rfl ?_
  refine lw_call (pc' := 1120) (k := 1) (P := (fun w K => ∃ r : Int32, w = .int r ∧ f_X12_years (dv G Γ H1) (am : Int) (xs (n + 1)).toInt (xs (n + 2)).toInt = ((dv G Γ K), r.toInt) ∧ cf (lw_A ax) nV (dv G Γ H1) (dv G Γ K) ∧ lx_rd G Γ ax (t + 100) K)) hJ1 (th_runV (As := [.int (xs (n + 1)), .int (xs (n + 2))]) (rest := []) hE.1 mf_X12_years kl_171 im_X12_years se_X12_years (c_X12_years l G Γ H1 hJ1.1 hU am ham hJ1.2.1 (xs (n + 1)) (xs (n + 2))) rfl rfl ⟨Nat.le_of_ble_eq_true rfl, Nat.le_of_ble_eq_true rfl⟩ hJ1.1 ham ro_46 rfl rfl hl.1 rfl (Nat.le_of_ble_eq_true rfl) dL_law_1117 ⟨lw_f1 _, lw_f2 _⟩) (fun v K hp => by obtain ⟨r, rfl, hI1, hF1, hR1, hf1⟩ := hp; exact ⟨_, rfl, rfl, hI1, hR1, th_bits_F hF1 hJ1.2.2.1 (by decide), ⟨r, rfl, hf1, lw_cf hJ1.1 hI1 hF1 hA (by decide +kernel), lx_rdF hJ1.1 hI1 hF1 hax hsa (by decide) (by omega) hr1⟩⟩) rfl (fun w2 H2 locs hc2 hJ2 hP2 => ?_)
  obtain ⟨r2, rfl, e2, f2, d2⟩ := hP2
  refine lv_pop hx hb dL_law_1120 hc2 ?_
  have hg := glue (r1 := r1.toInt) (r2 := r2.toInt) (fV := fun V => f_X11_years V (lw_A ax 0) (xs (n + 1)).toInt (xs (n + 2)).toInt) (fW := fun V => f_X12_years V (am : Int) (xs (n + 1)).toInt (xs (n + 2)).toInt) hq (fun V h => L_years h) (by rw [lw_A0]; exact e1) g1 e2 f2
  exact lv_goto (tgt := 1239) hx hb dL_law_1121 (by decide) (kk u _ locs hJ2 hg.2 d2)

set_option maxHeartbeats 4000000 in
set_option maxRecDepth 100000 in
theorem lw_c38 {p : Program} {e : Env} {s : State} {m : MethodId} {below : List Frame} {meth : Method} {c : Code} {Q : State → Prop} {G : th_G} {Γ : th_Ga} {ax am b L n : Nat} {xs : Nat → Int32} {ls : Array Slot} (l : Launch) (hE : lw_E p s m c b L xs G Γ ax am) (hL : L ≤ 384) (hn : n + 6 ≤ L) (hl : lv_has ls 4 [(3, .int (nI n)), (2, .ref am), (1, .ref ax), (0, .ref b)]) (hk : dv_U Γ ∧ lw_AR Γ ax ∧ Γ (ax + 78) = (27, 0) ∧ ∀ x y : Int, th_pm G x y) {u : Nat} {H : Heap} {locs : List Loc} (hJ : lw_J G Γ am s H locs u) (hq : RR (lw_A ax) (am : Int) (dv G Γ H) (dv G Γ H)) {t : Int} (hr : lx_rd G Γ ax t H) (ht : t + 100 + 100 < 2147483647) (kk : ∀ (u1 : Nat) (H1 : Heap) (locs1 : List Loc), lw_J G Γ am s H1 locs1 u1 → RR (lw_A ax) (am : Int) (dv G Γ H1) (dv G Γ H1) → lx_rd G Γ ax (t + 100) H1 → W p l e room_1 s m #[Value.ref b] below meth c H1 locs1 (600000 - th_pc u1) (7302250 - th_pq u1) Q (F0 m 1239 ls [])) : W p l e room_1 s m #[Value.ref b] below meth c H locs (600000 - th_pc u) (7302250 - th_pq u) Q (F0 m 1124 ls []) := by
  have hx := hE.1.1
  have hb := hE.1.2.1
  have hax := hE.2.2.2.2.2.1
  have ham := hE.2.2.2.2.2.2.1
  have hU := hk.1
  have hA := hk.2.1
  have hsa := hk.2.2.1
  have hPT := hk.2.2.2
  refine lv_aload_n hx hb dL_law_1124 rfl (lv_at hl 2 rfl) ?_
  refine lw_ld (pc := 1125) (kn := 1) (pc' := 1130) hE hJ.2.2.2 hl hn hL dL_law_1125 rfl dL_law_1126 rfl dL_law_1127 (by decide) (by decide) rfl dL_law_1128 rfl dL_law_1129 rfl ?_
  refine lw_ld (pc := 1130) (kn := 2) (pc' := 1135) hE hJ.2.2.2 hl hn hL dL_law_1130 rfl dL_law_1131 rfl dL_law_1132 (by decide) (by decide) rfl dL_law_1133 rfl dL_law_1134 rfl ?_
  refine lw_call (pc' := 1138) (k := 1) (P := (fun w K => ∃ r : Int32, w = .int r ∧ f_X11_drawn (dv G Γ H) (ax : Int) (xs (n + 1)).toInt (xs (n + 2)).toInt = (r.toInt, ()) ∧ H = K)) hJ (th_runV (As := [.int (xs (n + 1)), .int (xs (n + 2))]) (rest := []) hE.1 mf_X11_drawn kl_172 im_X11_drawn se_X11_drawn (c_X11_drawn l G Γ H hJ.1 hU ax hax (xs (n + 1)) (xs (n + 2))) rfl rfl ⟨Nat.le_of_ble_eq_true rfl, Nat.le_of_ble_eq_true rfl⟩ hJ.1 hax ro_42 rfl rfl hl.1 rfl (Nat.le_of_ble_eq_true rfl) dL_law_1135 ⟨lw_f1 _, lw_f2 _⟩) (fun v K hp => by obtain ⟨r, rfl, hf1, rfl⟩ := hp; exact ⟨_, rfl, rfl, hJ.1, hJ.2.1, hJ.2.2.1, ⟨r, rfl, hf1, rfl⟩⟩) rfl (fun w1 H1 locs hc1 hJ1 hP1 => ?_)
  obtain ⟨r1, rfl, e1, eK1⟩ := hP1
  have hr1 := lx_rdm hr (show t ≤ t + 100 by omega)
  rw [eK1] at e1 hq hr1
  refine lv_pop hx hb dL_law_1138 hc1 ?_
  refine lv_aload_n hx hb dL_law_1139 rfl (lv_at hl 1 rfl) ?_
  refine lw_ld (pc := 1140) (kn := 1) (pc' := 1145) hE hJ1.2.2.2 hl hn hL dL_law_1140 rfl dL_law_1141 rfl dL_law_1142 (by decide) (by decide) rfl dL_law_1143 rfl dL_law_1144 rfl ?_
  refine lw_ld (pc := 1145) (kn := 2) (pc' := 1150) hE hJ1.2.2.2 hl hn hL dL_law_1145 rfl dL_law_1146 rfl dL_law_1147 (by decide) (by decide) rfl dL_law_1148 rfl dL_law_1149 rfl ?_
  refine lw_call (pc' := 1153) (k := 1) (P := (fun w K => ∃ r : Int32, w = .int r ∧ f_X12_drawn (dv G Γ H1) (am : Int) (xs (n + 1)).toInt (xs (n + 2)).toInt = (r.toInt, ()) ∧ H1 = K)) hJ1 (th_runV (As := [.int (xs (n + 1)), .int (xs (n + 2))]) (rest := []) hE.1 mf_X12_drawn kl_175 im_X12_drawn se_X12_drawn (c_X12_drawn l G Γ H1 hJ1.1 hU am ham (xs (n + 1)) (xs (n + 2))) rfl rfl ⟨Nat.le_of_ble_eq_true rfl, Nat.le_of_ble_eq_true rfl⟩ hJ1.1 ham ro_46 rfl rfl hl.1 rfl (Nat.le_of_ble_eq_true rfl) dL_law_1150 ⟨lw_f1 _, lw_f2 _⟩) (fun v K hp => by obtain ⟨r, rfl, hf1, rfl⟩ := hp; exact ⟨_, rfl, rfl, hJ1.1, hJ1.2.1, hJ1.2.2.1, ⟨r, rfl, hf1, rfl⟩⟩) rfl (fun w2 H2 locs hc2 hJ2 hP2 => ?_)
  obtain ⟨r2, rfl, e2, eK2⟩ := hP2
  refine lv_pop hx hb dL_law_1153 hc2 ?_
  rw [eK2] at hq hr1
  exact lv_goto (tgt := 1239) hx hb dL_law_1154 (by decide) (kk u _ locs hJ2 hq hr1)

set_option maxHeartbeats 4000000 in
set_option maxRecDepth 100000 in
theorem lw_c39 {p : Program} {e : Env} {s : State} {m : MethodId} {below : List Frame} {meth : Method} {c : Code} {Q : State → Prop} {G : th_G} {Γ : th_Ga} {ax am b L n : Nat} {xs : Nat → Int32} {ls : Array Slot} (l : Launch) (hE : lw_E p s m c b L xs G Γ ax am) (hL : L ≤ 384) (hn : n + 6 ≤ L) (hl : lv_has ls 4 [(3, .int (nI n)), (2, .ref am), (1, .ref ax), (0, .ref b)]) (hk : dv_U Γ ∧ lw_AR Γ ax ∧ Γ (ax + 78) = (27, 0) ∧ ∀ x y : Int, th_pm G x y) {u : Nat} {H : Heap} {locs : List Loc} (hJ : lw_J G Γ am s H locs u) (hq : RR (lw_A ax) (am : Int) (dv G Γ H) (dv G Γ H)) {t : Int} (hr : lx_rd G Γ ax t H) (ht : t + 100 + 100 < 2147483647) (kk : ∀ (u1 : Nat) (H1 : Heap) (locs1 : List Loc), lw_J G Γ am s H1 locs1 u1 → RR (lw_A ax) (am : Int) (dv G Γ H1) (dv G Γ H1) → lx_rd G Γ ax (t + 100) H1 → W p l e room_1 s m #[Value.ref b] below meth c H1 locs1 (600000 - th_pc u1) (7302250 - th_pq u1) Q (F0 m 1239 ls [])) : W p l e room_1 s m #[Value.ref b] below meth c H locs (600000 - th_pc u) (7302250 - th_pq u) Q (F0 m 1157 ls []) := by
  have hx := hE.1.1
  have hb := hE.1.2.1
  have hax := hE.2.2.2.2.2.1
  have ham := hE.2.2.2.2.2.2.1
  have hU := hk.1
  have hA := hk.2.1
  have hsa := hk.2.2.1
  have hPT := hk.2.2.2
  refine lv_aload_n hx hb dL_law_1157 rfl (lv_at hl 2 rfl) ?_
  refine lw_ld (pc := 1158) (kn := 1) (pc' := 1163) hE hJ.2.2.2 hl hn hL dL_law_1158 rfl dL_law_1159 rfl dL_law_1160 (by decide) (by decide) rfl dL_law_1161 rfl dL_law_1162 rfl ?_
  refine lw_call (pc' := 1166) (k := 1) (P := (fun w K => ∃ r : Int32, w = .int r ∧ f_X11_image (dv G Γ H) (ax : Int) (xs (n + 1)).toInt = ((dv G Γ K), r.toInt) ∧ wf (am : Int) nW (dv G Γ H) (dv G Γ K) ∧ lx_rd G Γ ax (t + 100) K)) hJ (th_runV (As := [.int (xs (n + 1))]) (rest := []) hE.1 mf_X11_image kl_176 im_X11_image se_X11_image (c_X11_image l G Γ H hJ.1 hJ.2.1.1 hU ax hax (xs (n + 1))) rfl rfl ⟨Nat.le_of_ble_eq_true rfl, Nat.le_of_ble_eq_true rfl⟩ hJ.1 hax ro_42 rfl rfl hl.1 rfl (Nat.le_of_ble_eq_true rfl) dL_law_1163 ⟨lw_f1 _, lw_f2 _⟩) (fun v K hp => by obtain ⟨r, rfl, -, -, hI1, hF1, hR1, hf1⟩ := hp; exact ⟨_, rfl, rfl, hI1, th_RN_c hR1 hJ.2.1 hI1 ham hF1 (by decide), th_bits_F hF1 hJ.2.2.1 (by decide), ⟨r, rfl, hf1, lw_wf hJ.1 hI1 hF1 ham (by decide +kernel), lx_rdF hJ.1 hI1 hF1 hax hsa (by decide) (by omega) hr⟩⟩) rfl (fun w1 H1 locs hc1 hJ1 hP1 => ?_)
  obtain ⟨r1, rfl, e1, g1, d1⟩ := hP1
  have hr1 := d1
  refine lv_pop hx hb dL_law_1166 hc1 ?_
  refine lv_aload_n hx hb dL_law_1167 rfl (lv_at hl 1 rfl) ?_
  refine lw_ld (pc := 1168) (kn := 1) (pc' := 1173) hE hJ1.2.2.2 hl hn hL dL_law_1168 rfl dL_law_1169 rfl dL_law_1170 (by decide) (by decide) rfl dL_law_1171 rfl dL_law_1172 rfl ?_
  refine lw_call (pc' := 1176) (k := 1) (P := (fun w K => ∃ r : Int32, w = .int r ∧ f_X12_image (dv G Γ H1) (am : Int) (xs (n + 1)).toInt = ((dv G Γ K), r.toInt) ∧ cf (lw_A ax) nV (dv G Γ H1) (dv G Γ K) ∧ lx_rd G Γ ax (t + 100) K)) hJ1 (th_runV (As := [.int (xs (n + 1))]) (rest := []) hE.1 mf_X12_image kl_179 im_X12_image se_X12_image (c_X12_image l G Γ H1 hJ1.1 hU am ham hJ1.2.1 (xs (n + 1))) rfl rfl ⟨Nat.le_of_ble_eq_true rfl, Nat.le_of_ble_eq_true rfl⟩ hJ1.1 ham ro_46 rfl rfl hl.1 rfl (Nat.le_of_ble_eq_true rfl) dL_law_1173 ⟨lw_f1 _, lw_f2 _⟩) (fun v K hp => by obtain ⟨r, rfl, -, -, hI1, hF1, hR1, hf1⟩ := hp; exact ⟨_, rfl, rfl, hI1, hR1, th_bits_F hF1 hJ1.2.2.1 (by decide), ⟨r, rfl, hf1, lw_cf hJ1.1 hI1 hF1 hA (by decide +kernel), lx_rdF hJ1.1 hI1 hF1 hax hsa (by decide) (by omega) hr1⟩⟩) rfl (fun w2 H2 locs hc2 hJ2 hP2 => ?_)
  obtain ⟨r2, rfl, e2, f2, d2⟩ := hP2
  refine lv_pop hx hb dL_law_1176 hc2 ?_
  have hg := glue (r1 := r1.toInt) (r2 := r2.toInt) (fV := fun V => f_X11_image V (lw_A ax 0) (xs (n + 1)).toInt) (fW := fun V => f_X12_image V (am : Int) (xs (n + 1)).toInt) hq (fun V h => L_image h lw_NG) (by rw [lw_A0]; exact e1) g1 e2 f2
  exact lv_goto (tgt := 1239) hx hb dL_law_1177 (by decide) (kk u _ locs hJ2 hg.2 d2)

set_option maxHeartbeats 4000000 in
set_option maxRecDepth 100000 in
theorem lw_c40 {p : Program} {e : Env} {s : State} {m : MethodId} {below : List Frame} {meth : Method} {c : Code} {Q : State → Prop} {G : th_G} {Γ : th_Ga} {ax am b L n : Nat} {xs : Nat → Int32} {ls : Array Slot} (l : Launch) (hE : lw_E p s m c b L xs G Γ ax am) (hL : L ≤ 384) (hn : n + 6 ≤ L) (hl : lv_has ls 4 [(3, .int (nI n)), (2, .ref am), (1, .ref ax), (0, .ref b)]) (hk : dv_U Γ ∧ lw_AR Γ ax ∧ Γ (ax + 78) = (27, 0) ∧ ∀ x y : Int, th_pm G x y) {u : Nat} {H : Heap} {locs : List Loc} (hJ : lw_J G Γ am s H locs u) (hq : RR (lw_A ax) (am : Int) (dv G Γ H) (dv G Γ H)) {t : Int} (hr : lx_rd G Γ ax t H) (ht : t + 100 + 100 < 2147483647) (kk : ∀ (u1 : Nat) (H1 : Heap) (locs1 : List Loc), lw_J G Γ am s H1 locs1 u1 → RR (lw_A ax) (am : Int) (dv G Γ H1) (dv G Γ H1) → lx_rd G Γ ax (t + 100) H1 → W p l e room_1 s m #[Value.ref b] below meth c H1 locs1 (600000 - th_pc u1) (7302250 - th_pq u1) Q (F0 m 1239 ls [])) : W p l e room_1 s m #[Value.ref b] below meth c H locs (600000 - th_pc u) (7302250 - th_pq u) Q (F0 m 1180 ls []) := by
  have hx := hE.1.1
  have hb := hE.1.2.1
  have hax := hE.2.2.2.2.2.1
  have ham := hE.2.2.2.2.2.2.1
  have hU := hk.1
  have hA := hk.2.1
  have hsa := hk.2.2.1
  have hPT := hk.2.2.2
  refine lv_aload_n hx hb dL_law_1180 rfl (lv_at hl 2 rfl) ?_
  refine lw_ld (pc := 1181) (kn := 1) (pc' := 1186) hE hJ.2.2.2 hl hn hL dL_law_1181 rfl dL_law_1182 rfl dL_law_1183 (by decide) (by decide) rfl dL_law_1184 rfl dL_law_1185 rfl ?_
  refine lw_call (pc' := 1189) (k := 1) (P := (fun w K => ∃ r : Int32, w = .int r ∧ f_X11_back (dv G Γ H) (ax : Int) (xs (n + 1)).toInt = ((dv G Γ K), r.toInt) ∧ wf (am : Int) nW (dv G Γ H) (dv G Γ K) ∧ lx_rd G Γ ax (t + 100) K)) hJ (th_runV (As := [.int (xs (n + 1))]) (rest := []) hE.1 mf_X11_back kl_180 im_X11_back se_X11_back (c_X11_back l G Γ H hJ.1 hJ.2.1.1 hU ax hax (xs (n + 1))) rfl rfl ⟨Nat.le_of_ble_eq_true rfl, Nat.le_of_ble_eq_true rfl⟩ hJ.1 hax ro_42 rfl rfl hl.1 rfl (Nat.le_of_ble_eq_true rfl) dL_law_1186 ⟨lw_f1 _, lw_f2 _⟩) (fun v K hp => by obtain ⟨r, rfl, hI1, hF1, hR1, hf1⟩ := hp; exact ⟨_, rfl, rfl, hI1, th_RN_c hR1 hJ.2.1 hI1 ham hF1 (by decide), th_bits_F hF1 hJ.2.2.1 (by decide), ⟨r, rfl, hf1, lw_wf hJ.1 hI1 hF1 ham (by decide +kernel), lx_rdF hJ.1 hI1 hF1 hax hsa (by decide) (by omega) hr⟩⟩) rfl (fun w1 H1 locs hc1 hJ1 hP1 => ?_)
  obtain ⟨r1, rfl, e1, g1, d1⟩ := hP1
  have hr1 := d1
  refine lv_pop hx hb dL_law_1189 hc1 ?_
  refine lv_aload_n hx hb dL_law_1190 rfl (lv_at hl 1 rfl) ?_
  refine lw_ld (pc := 1191) (kn := 1) (pc' := 1196) hE hJ1.2.2.2 hl hn hL dL_law_1191 rfl dL_law_1192 rfl dL_law_1193 (by decide) (by decide) rfl dL_law_1194 rfl dL_law_1195 rfl ?_
  refine lw_call (pc' := 1199) (k := 1) (P := (fun w K => ∃ r : Int32, w = .int r ∧ f_X12_back (dv G Γ H1) (am : Int) (xs (n + 1)).toInt = ((dv G Γ K), r.toInt) ∧ cf (lw_A ax) nV (dv G Γ H1) (dv G Γ K) ∧ lx_rd G Γ ax (t + 100) K)) hJ1 (th_runV (As := [.int (xs (n + 1))]) (rest := []) hE.1 mf_X12_back kl_183 im_X12_back se_X12_back (c_X12_back l G Γ H1 hJ1.1 hU am ham hJ1.2.1 (xs (n + 1))) rfl rfl ⟨Nat.le_of_ble_eq_true rfl, Nat.le_of_ble_eq_true rfl⟩ hJ1.1 ham ro_46 rfl rfl hl.1 rfl (Nat.le_of_ble_eq_true rfl) dL_law_1196 ⟨lw_f1 _, lw_f2 _⟩) (fun v K hp => by obtain ⟨r, rfl, hI1, hF1, hR1, hf1⟩ := hp; exact ⟨_, rfl, rfl, hI1, hR1, th_bits_F hF1 hJ1.2.2.1 (by decide), ⟨r, rfl, hf1, lw_cf hJ1.1 hI1 hF1 hA (by decide +kernel), lx_rdF hJ1.1 hI1 hF1 hax hsa (by decide) (by omega) hr1⟩⟩) rfl (fun w2 H2 locs hc2 hJ2 hP2 => ?_)
  obtain ⟨r2, rfl, e2, f2, d2⟩ := hP2
  refine lv_pop hx hb dL_law_1199 hc2 ?_
  have hg := glue (r1 := r1.toInt) (r2 := r2.toInt) (fV := fun V => f_X11_back V (lw_A ax 0) (xs (n + 1)).toInt) (fW := fun V => f_X12_back V (am : Int) (xs (n + 1)).toInt) hq (fun V h => L_back h lw_NG) (by rw [lw_A0]; exact e1) g1 e2 f2
  exact lv_goto (tgt := 1239) hx hb dL_law_1200 (by decide) (kk u _ locs hJ2 hg.2 d2)

set_option maxHeartbeats 4000000 in
set_option maxRecDepth 100000 in
theorem lw_c41 {p : Program} {e : Env} {s : State} {m : MethodId} {below : List Frame} {meth : Method} {c : Code} {Q : State → Prop} {G : th_G} {Γ : th_Ga} {ax am b L n : Nat} {xs : Nat → Int32} {ls : Array Slot} (l : Launch) (hE : lw_E p s m c b L xs G Γ ax am) (hL : L ≤ 384) (hn : n + 6 ≤ L) (hl : lv_has ls 4 [(3, .int (nI n)), (2, .ref am), (1, .ref ax), (0, .ref b)]) (hk : dv_U Γ ∧ lw_AR Γ ax ∧ Γ (ax + 78) = (27, 0) ∧ ∀ x y : Int, th_pm G x y) {u : Nat} {H : Heap} {locs : List Loc} (hJ : lw_J G Γ am s H locs u) (hq : RR (lw_A ax) (am : Int) (dv G Γ H) (dv G Γ H)) {t : Int} (hr : lx_rd G Γ ax t H) (ht : t + 100 + 100 < 2147483647) (kk : ∀ (u1 : Nat) (H1 : Heap) (locs1 : List Loc), lw_J G Γ am s H1 locs1 u1 → RR (lw_A ax) (am : Int) (dv G Γ H1) (dv G Γ H1) → lx_rd G Γ ax (t + 100) H1 → W p l e room_1 s m #[Value.ref b] below meth c H1 locs1 (600000 - th_pc u1) (7302250 - th_pq u1) Q (F0 m 1239 ls [])) : W p l e room_1 s m #[Value.ref b] below meth c H locs (600000 - th_pc u) (7302250 - th_pq u) Q (F0 m 1203 ls []) := by
  have hx := hE.1.1
  have hb := hE.1.2.1
  have hax := hE.2.2.2.2.2.1
  have ham := hE.2.2.2.2.2.2.1
  have hU := hk.1
  have hA := hk.2.1
  have hsa := hk.2.2.1
  have hPT := hk.2.2.2
  refine lv_aload_n hx hb dL_law_1203 rfl (lv_at hl 2 rfl) ?_
  refine lw_ld (pc := 1204) (kn := 1) (pc' := 1209) hE hJ.2.2.2 hl hn hL dL_law_1204 rfl dL_law_1205 rfl dL_law_1206 (by decide) (by decide) rfl dL_law_1207 rfl dL_law_1208 rfl ?_
  refine lw_call (pc' := 1212) (k := 1) (P := (fun w K => ∃ r : Int32, w = .int r ∧ f_X11_count (dv G Γ H) (ax : Int) (xs (n + 1)).toInt = (r.toInt, ()) ∧ H = K)) hJ (th_runV (As := [.int (xs (n + 1))]) (rest := []) hE.1 mf_X11_count kl_184 im_X11_count se_X11_count (c_X11_count l G Γ H hJ.1 hU ax hax (xs (n + 1))) rfl rfl ⟨Nat.le_of_ble_eq_true rfl, Nat.le_of_ble_eq_true rfl⟩ hJ.1 hax ro_42 rfl rfl hl.1 rfl (Nat.le_of_ble_eq_true rfl) dL_law_1209 ⟨lw_f1 _, lw_f2 _⟩) (fun v K hp => by obtain ⟨r, rfl, hf1, rfl⟩ := hp; exact ⟨_, rfl, rfl, hJ.1, hJ.2.1, hJ.2.2.1, ⟨r, rfl, hf1, rfl⟩⟩) rfl (fun w1 H1 locs hc1 hJ1 hP1 => ?_)
  obtain ⟨r1, rfl, e1, eK1⟩ := hP1
  have hr1 := lx_rdm hr (show t ≤ t + 100 by omega)
  rw [eK1] at e1 hq hr1
  refine lv_pop hx hb dL_law_1212 hc1 ?_
  refine lv_aload_n hx hb dL_law_1213 rfl (lv_at hl 1 rfl) ?_
  refine lw_ld (pc := 1214) (kn := 1) (pc' := 1219) hE hJ1.2.2.2 hl hn hL dL_law_1214 rfl dL_law_1215 rfl dL_law_1216 (by decide) (by decide) rfl dL_law_1217 rfl dL_law_1218 rfl ?_
  refine lw_call (pc' := 1222) (k := 1) (P := (fun w K => ∃ r : Int32, w = .int r ∧ f_X12_count (dv G Γ H1) (am : Int) (xs (n + 1)).toInt = (r.toInt, ()) ∧ H1 = K)) hJ1 (th_runV (As := [.int (xs (n + 1))]) (rest := []) hE.1 mf_X12_count kl_187 im_X12_count se_X12_count (c_X12_count l G Γ H1 hJ1.1 hU am ham (xs (n + 1))) rfl rfl ⟨Nat.le_of_ble_eq_true rfl, Nat.le_of_ble_eq_true rfl⟩ hJ1.1 ham ro_46 rfl rfl hl.1 rfl (Nat.le_of_ble_eq_true rfl) dL_law_1219 ⟨lw_f1 _, lw_f2 _⟩) (fun v K hp => by obtain ⟨r, rfl, hf1, rfl⟩ := hp; exact ⟨_, rfl, rfl, hJ1.1, hJ1.2.1, hJ1.2.2.1, ⟨r, rfl, hf1, rfl⟩⟩) rfl (fun w2 H2 locs hc2 hJ2 hP2 => ?_)
  obtain ⟨r2, rfl, e2, eK2⟩ := hP2
  refine lv_pop hx hb dL_law_1222 hc2 ?_
  rw [eK2] at hq hr1
  exact lv_goto (tgt := 1239) hx hb dL_law_1223 (by decide) (kk u _ locs hJ2 hq hr1)

set_option maxHeartbeats 4000000 in
set_option maxRecDepth 100000 in
theorem lw_c42 {p : Program} {e : Env} {s : State} {m : MethodId} {below : List Frame} {meth : Method} {c : Code} {Q : State → Prop} {G : th_G} {Γ : th_Ga} {ax am b L n : Nat} {xs : Nat → Int32} {ls : Array Slot} (l : Launch) (hE : lw_E p s m c b L xs G Γ ax am) (hL : L ≤ 384) (hn : n + 6 ≤ L) (hl : lv_has ls 4 [(3, .int (nI n)), (2, .ref am), (1, .ref ax), (0, .ref b)]) (hk : dv_U Γ ∧ lw_AR Γ ax ∧ Γ (ax + 78) = (27, 0) ∧ ∀ x y : Int, th_pm G x y) {u : Nat} {H : Heap} {locs : List Loc} (hJ : lw_J G Γ am s H locs u) (hq : RR (lw_A ax) (am : Int) (dv G Γ H) (dv G Γ H)) {t : Int} (hr : lx_rd G Γ ax t H) (ht : t + 100 + 100 < 2147483647) (kk : ∀ (u1 : Nat) (H1 : Heap) (locs1 : List Loc), lw_J G Γ am s H1 locs1 u1 → RR (lw_A ax) (am : Int) (dv G Γ H1) (dv G Γ H1) → lx_rd G Γ ax (t + 100) H1 → W p l e room_1 s m #[Value.ref b] below meth c H1 locs1 (600000 - th_pc u1) (7302250 - th_pq u1) Q (F0 m 1239 ls [])) : W p l e room_1 s m #[Value.ref b] below meth c H locs (600000 - th_pc u) (7302250 - th_pq u) Q (F0 m 1226 ls []) := by
  have hx := hE.1.1
  have hb := hE.1.2.1
  have hax := hE.2.2.2.2.2.1
  have ham := hE.2.2.2.2.2.2.1
  have hU := hk.1
  have hA := hk.2.1
  have hsa := hk.2.2.1
  have hPT := hk.2.2.2
  refine lv_aload_n hx hb dL_law_1226 rfl (lv_at hl 2 rfl) ?_
  refine lw_call (pc' := 1230) (k := 1) (P := (fun w K => ∃ r : Int32, w = .int r ∧ f_X11_status (dv G Γ H) (ax : Int) = (r.toInt, ()) ∧ H = K)) hJ (th_runV (As := []) (rest := []) hE.1 mf_X11_status kl_188 im_X11_status se_X11_status (c_X11_status l G Γ H hJ.1 hU ax hax) rfl rfl ⟨Nat.le_of_ble_eq_true rfl, Nat.le_of_ble_eq_true rfl⟩ hJ.1 hax ro_42 rfl rfl hl.1 rfl (Nat.le_of_ble_eq_true rfl) dL_law_1227 ⟨lw_f1 _, lw_f2 _⟩) (fun v K hp => by obtain ⟨r, rfl, hf1, rfl⟩ := hp; exact ⟨_, rfl, rfl, hJ.1, hJ.2.1, hJ.2.2.1, ⟨r, rfl, hf1, rfl⟩⟩) rfl (fun w1 H1 locs hc1 hJ1 hP1 => ?_)
  obtain ⟨r1, rfl, e1, eK1⟩ := hP1
  have hr1 := lx_rdm hr (show t ≤ t + 100 by omega)
  rw [eK1] at e1 hq hr1
  refine lv_pop hx hb dL_law_1230 hc1 ?_
  refine lv_aload_n hx hb dL_law_1231 rfl (lv_at hl 1 rfl) ?_
  refine lw_call (pc' := 1235) (k := 1) (P := (fun w K => ∃ r : Int32, w = .int r ∧ f_X12_status (dv G Γ H1) (am : Int) = (r.toInt, ()) ∧ H1 = K)) hJ1 (th_runV (As := []) (rest := []) hE.1 mf_X12_status kl_191 im_X12_status se_X12_status (c_X12_status l G Γ H1 hJ1.1 hU am ham) rfl rfl ⟨Nat.le_of_ble_eq_true rfl, Nat.le_of_ble_eq_true rfl⟩ hJ1.1 ham ro_46 rfl rfl hl.1 rfl (Nat.le_of_ble_eq_true rfl) dL_law_1232 ⟨lw_f1 _, lw_f2 _⟩) (fun v K hp => by obtain ⟨r, rfl, hf1, rfl⟩ := hp; exact ⟨_, rfl, rfl, hJ1.1, hJ1.2.1, hJ1.2.2.1, ⟨r, rfl, hf1, rfl⟩⟩) rfl (fun w2 H2 locs hc2 hJ2 hP2 => ?_)
  obtain ⟨r2, rfl, e2, eK2⟩ := hP2
  refine lv_pop hx hb dL_law_1235 hc2 ?_
  rw [eK2] at hq hr1
  exact lv_goto (tgt := 1239) hx hb dL_law_1236 (by decide) (kk u _ locs hJ2 hq hr1)
end
