set_option maxHeartbeats 4000000 in
set_option maxRecDepth 100000 in
theorem lw_c0 {p : Program} {e : Env} {s : State} {m : MethodId} {below : List Frame} {meth : Method} {c : Code} {Q : State → Prop} {G : th_G} {Γ : th_Ga} {ax am b L n : Nat} {xs : Nat → Int32} {ls : Array Slot} (l : Launch) (hE : lw_E p s m c b L xs G Γ ax am) (hL : L ≤ 384) (hn : n + 6 ≤ L) (hl : lv_has ls 4 [(3, .int (nI n)), (2, .ref am), (1, .ref ax), (0, .ref b)]) (hk : dv_U Γ ∧ lw_AR Γ ax) {u : Nat} {H : Heap} {locs : List Loc} (hJ : lw_J G Γ am s H locs u) (hq : RR (lw_A ax) (am : Int) (dv G Γ H) (dv G Γ H)) (kk : ∀ (u1 : Nat) (H1 : Heap) (locs1 : List Loc), lw_J G Γ am s H1 locs1 u1 → RR (lw_A ax) (am : Int) (dv G Γ H1) (dv G Γ H1) → W p l e room_1 s m #[Value.ref b] below meth c H1 locs1 (600000 - th_pc u1) (7302250 - th_pq u1) Q (F0 m 1239 ls [])) : W p l e room_1 s m #[Value.ref b] below meth c H locs (600000 - th_pc u) (7302250 - th_pq u) Q (F0 m 220 ls []) := by
  have hx := hE.1.1
  have hb := hE.1.2.1
  have hax := hE.2.2.2.2.2.1
  have ham := hE.2.2.2.2.2.2.1
  have hU := hk.1
  have hA := hk.2
  refine lv_aload_n hx hb dL_law_220 rfl (lv_at hl 2 rfl) ?_
  refine lw_ld (pc := 221) (kn := 1) (pc' := 226) hE hJ.2.2.2 hl hn hL dL_law_221 rfl dL_law_222 rfl dL_law_223 (by decide) (by decide) rfl dL_law_224 rfl dL_law_225 rfl ?_
  refine lw_ld (pc := 226) (kn := 2) (pc' := 231) hE hJ.2.2.2 hl hn hL dL_law_226 rfl dL_law_227 rfl dL_law_228 (by decide) (by decide) rfl dL_law_229 rfl dL_law_230 rfl ?_
  refine lw_ld (pc := 231) (kn := 3) (pc' := 236) hE hJ.2.2.2 hl hn hL dL_law_231 rfl dL_law_232 rfl dL_law_233 (by decide) (by decide) rfl dL_law_234 rfl dL_law_235 rfl ?_
  refine lw_call (pc' := 239) (k := 1) (P := (fun w K => ∃ r : Int32, w = .int r ∧ f_X11_carpet (dv G Γ H) (ax : Int) (xs (n + 1)).toInt (xs (n + 2)).toInt (xs (n + 3)).toInt = ((dv G Γ K), r.toInt) ∧ wf (am : Int) nW (dv G Γ H) (dv G Γ K))) hJ (th_runV (As := [.int (xs (n + 1)), .int (xs (n + 2)), .int (xs (n + 3))]) (rest := []) hE.1 mf_X11_carpet kl_13 im_X11_carpet se_X11_carpet (c_X11_carpet l G Γ H hJ.1 hJ.2.1.1 hU ax hax (xs (n + 1)) (xs (n + 2)) (xs (n + 3))) rfl rfl ⟨Nat.le_of_ble_eq_true rfl, Nat.le_of_ble_eq_true rfl⟩ hJ.1 hax ro_42 rfl rfl hl.1 rfl (Nat.le_of_ble_eq_true rfl) dL_law_236 ⟨lw_f1 _, lw_f2 _⟩) (fun v K hp => by obtain ⟨r, rfl, hI1, hF1, hR1, hf1⟩ := hp; exact ⟨_, rfl, rfl, hI1, th_RN_c hR1 hJ.2.1 hI1 ham hF1 (by decide), th_bits_F hF1 hJ.2.2.1 (by decide), ⟨r, rfl, hf1, lw_wf hJ.1 hI1 hF1 ham (by decide +kernel)⟩⟩) rfl (fun w1 H1 locs hc1 hJ1 hP1 => ?_)
  obtain ⟨r1, rfl, e1, g1⟩ := hP1
  refine lv_aload_n hx hb dL_law_239 rfl (lv_at hl 1 rfl) ?_
  refine lw_ld (pc := 240) (kn := 1) (pc' := 245) hE hJ1.2.2.2 hl hn hL dL_law_240 rfl dL_law_241 rfl dL_law_242 (by decide) (by decide) rfl dL_law_243 rfl dL_law_244 rfl ?_
  refine lw_ld (pc := 245) (kn := 2) (pc' := 250) hE hJ1.2.2.2 hl hn hL dL_law_245 rfl dL_law_246 rfl dL_law_247 (by decide) (by decide) rfl dL_law_248 rfl dL_law_249 rfl ?_
  refine lw_ld (pc := 250) (kn := 3) (pc' := 255) hE hJ1.2.2.2 hl hn hL dL_law_250 rfl dL_law_251 rfl dL_law_252 (by decide) (by decide) rfl dL_law_253 rfl dL_law_254 rfl ?_
  refine lw_call (pc' := 258) (k := 1) (P := (fun w K => ∃ r : Int32, w = .int r ∧ f_X12_carpet (dv G Γ H1) (am : Int) (xs (n + 1)).toInt (xs (n + 2)).toInt (xs (n + 3)).toInt = ((dv G Γ K), r.toInt) ∧ cf (lw_A ax) nV (dv G Γ H1) (dv G Γ K))) hJ1 (th_runV (As := [.int (xs (n + 1)), .int (xs (n + 2)), .int (xs (n + 3))]) (rest := [.int r1]) hE.1 mf_X12_carpet kl_17 im_X12_carpet se_X12_carpet (c_X12_carpet l G Γ H1 hJ1.1 hU am ham hJ1.2.1 (xs (n + 1)) (xs (n + 2)) (xs (n + 3))) rfl rfl ⟨Nat.le_of_ble_eq_true rfl, Nat.le_of_ble_eq_true rfl⟩ hJ1.1 ham ro_46 rfl rfl hl.1 rfl (Nat.le_of_ble_eq_true rfl) dL_law_255 ⟨lw_f1 _, lw_f2 _⟩) (fun v K hp => by obtain ⟨r, rfl, hI1, hF1, hR1, hf1⟩ := hp; exact ⟨_, rfl, rfl, hI1, hR1, th_bits_F hF1 hJ1.2.2.1 (by decide), ⟨r, rfl, hf1, lw_cf hJ1.1 hI1 hF1 hA (by decide +kernel)⟩⟩) rfl (fun w2 H2 locs hc2 hJ2 hP2 => ?_)
  obtain ⟨r2, rfl, e2, f2⟩ := hP2
  have hg := glue (r1 := r1.toInt) (r2 := r2.toInt) (fV := fun V => f_X11_carpet V (lw_A ax 0) (xs (n + 1)).toInt (xs (n + 2)).toInt (xs (n + 3)).toInt) (fW := fun V => f_X12_carpet V (am : Int) (xs (n + 1)).toInt (xs (n + 2)).toInt (xs (n + 3)).toInt) hq (fun V h => L_carpet h) (by rw [lw_A0]; exact e1) g1 e2 f2
  refine tr_icmp_eq (tgt := 1239) hx hb dL_law_258 (by decide) rfl rfl (fun _ => kk u _ locs hJ2 hg.2) (fun w => absurd ?_ w)
  first | exact hg.1 | exact (hg.1).symm

set_option maxHeartbeats 4000000 in
set_option maxRecDepth 100000 in
theorem lw_c1 {p : Program} {e : Env} {s : State} {m : MethodId} {below : List Frame} {meth : Method} {c : Code} {Q : State → Prop} {G : th_G} {Γ : th_Ga} {ax am b L n : Nat} {xs : Nat → Int32} {ls : Array Slot} (l : Launch) (hE : lw_E p s m c b L xs G Γ ax am) (hL : L ≤ 384) (hn : n + 6 ≤ L) (hl : lv_has ls 4 [(3, .int (nI n)), (2, .ref am), (1, .ref ax), (0, .ref b)]) (hk : dv_U Γ ∧ lw_AR Γ ax) {u : Nat} {H : Heap} {locs : List Loc} (hJ : lw_J G Γ am s H locs u) (hq : RR (lw_A ax) (am : Int) (dv G Γ H) (dv G Γ H)) (kk : ∀ (u1 : Nat) (H1 : Heap) (locs1 : List Loc), lw_J G Γ am s H1 locs1 u1 → RR (lw_A ax) (am : Int) (dv G Γ H1) (dv G Γ H1) → W p l e room_1 s m #[Value.ref b] below meth c H1 locs1 (600000 - th_pc u1) (7302250 - th_pq u1) Q (F0 m 1239 ls [])) : W p l e room_1 s m #[Value.ref b] below meth c H locs (600000 - th_pc u) (7302250 - th_pq u) Q (F0 m 263 ls []) := by
  have hx := hE.1.1
  have hb := hE.1.2.1
  have hax := hE.2.2.2.2.2.1
  have ham := hE.2.2.2.2.2.2.1
  have hU := hk.1
  have hA := hk.2
  refine lv_aload_n hx hb dL_law_263 rfl (lv_at hl 2 rfl) ?_
  refine lw_ld (pc := 264) (kn := 1) (pc' := 269) hE hJ.2.2.2 hl hn hL dL_law_264 rfl dL_law_265 rfl dL_law_266 (by decide) (by decide) rfl dL_law_267 rfl dL_law_268 rfl ?_
  refine lw_ld (pc := 269) (kn := 2) (pc' := 274) hE hJ.2.2.2 hl hn hL dL_law_269 rfl dL_law_270 rfl dL_law_271 (by decide) (by decide) rfl dL_law_272 rfl dL_law_273 rfl ?_
  refine lw_call (pc' := 277) (k := 1) (P := (fun w K => ∃ r : Int32, w = .int r ∧ f_X11_of (dv G Γ H) (ax : Int) (xs (n + 1)).toInt (xs (n + 2)).toInt = ((dv G Γ K), r.toInt) ∧ wf (am : Int) nW (dv G Γ H) (dv G Γ K))) hJ (th_runV (As := [.int (xs (n + 1)), .int (xs (n + 2))]) (rest := []) hE.1 mf_X11_of kl_18 im_X11_of se_X11_of (c_X11_of l G Γ H hJ.1 hJ.2.1.1 hU ax hax (xs (n + 1)) (xs (n + 2))) rfl rfl ⟨Nat.le_of_ble_eq_true rfl, Nat.le_of_ble_eq_true rfl⟩ hJ.1 hax ro_42 rfl rfl hl.1 rfl (Nat.le_of_ble_eq_true rfl) dL_law_274 ⟨lw_f1 _, lw_f2 _⟩) (fun v K hp => by obtain ⟨r, rfl, hI1, hF1, hR1, hf1⟩ := hp; exact ⟨_, rfl, rfl, hI1, th_RN_c hR1 hJ.2.1 hI1 ham hF1 (by decide), th_bits_F hF1 hJ.2.2.1 (by decide), ⟨r, rfl, hf1, lw_wf hJ.1 hI1 hF1 ham (by decide +kernel)⟩⟩) rfl (fun w1 H1 locs hc1 hJ1 hP1 => ?_)
  obtain ⟨r1, rfl, e1, g1⟩ := hP1
  refine lv_pop hx hb dL_law_277 hc1 ?_
  refine lv_aload_n hx hb dL_law_278 rfl (lv_at hl 1 rfl) ?_
  refine lw_ld (pc := 279) (kn := 1) (pc' := 284) hE hJ1.2.2.2 hl hn hL dL_law_279 rfl dL_law_280 rfl dL_law_281 (by decide) (by decide) rfl dL_law_282 rfl dL_law_283 rfl ?_
  refine lw_ld (pc := 284) (kn := 2) (pc' := 289) hE hJ1.2.2.2 hl hn hL dL_law_284 rfl dL_law_285 rfl dL_law_286 (by decide) (by decide) rfl dL_law_287 rfl dL_law_288 rfl ?_
  refine lw_call (pc' := 292) (k := 1) (P := (fun w K => ∃ r : Int32, w = .int r ∧ f_X12_of (dv G Γ H1) (am : Int) (xs (n + 1)).toInt (xs (n + 2)).toInt = ((dv G Γ K), r.toInt) ∧ cf (lw_A ax) nV (dv G Γ H1) (dv G Γ K))) hJ1 (th_runV (As := [.int (xs (n + 1)), .int (xs (n + 2))]) (rest := []) hE.1 mf_X12_of kl_22 im_X12_of se_X12_of (c_X12_of l G Γ H1 hJ1.1 hU am ham (th_NE hJ1.2.1) (xs (n + 1)) (xs (n + 2))) rfl rfl ⟨Nat.le_of_ble_eq_true rfl, Nat.le_of_ble_eq_true rfl⟩ hJ1.1 ham ro_46 rfl rfl hl.1 rfl (Nat.le_of_ble_eq_true rfl) dL_law_289 ⟨lw_f1 _, lw_f2 _⟩) (fun v K hp => by obtain ⟨r, rfl, hI1, hF1, hR1, hf1⟩ := hp; exact ⟨_, rfl, rfl, hI1, th_RN_c hR1.1 hJ1.2.1 hI1 ham hF1 (by decide), th_bits_F hF1 hJ1.2.2.1 (by decide), ⟨r, rfl, hf1, lw_cf hJ1.1 hI1 hF1 hA (by decide +kernel)⟩⟩) rfl (fun w2 H2 locs hc2 hJ2 hP2 => ?_)
  obtain ⟨r2, rfl, e2, f2⟩ := hP2
  refine lv_pop hx hb dL_law_292 hc2 ?_
  have hg := glue (r1 := r1.toInt) (r2 := r2.toInt) (fV := fun V => f_X11_of V (lw_A ax 0) (xs (n + 1)).toInt (xs (n + 2)).toInt) (fW := fun V => f_X12_of V (am : Int) (xs (n + 1)).toInt (xs (n + 2)).toInt) hq (fun V h => L_of h) (by rw [lw_A0]; exact e1) g1 e2 f2
  exact lv_goto (tgt := 1239) hx hb dL_law_293 (by decide) (kk u _ locs hJ2 hg.2)

set_option maxHeartbeats 4000000 in
set_option maxRecDepth 100000 in
theorem lw_c2 {p : Program} {e : Env} {s : State} {m : MethodId} {below : List Frame} {meth : Method} {c : Code} {Q : State → Prop} {G : th_G} {Γ : th_Ga} {ax am b L n : Nat} {xs : Nat → Int32} {ls : Array Slot} (l : Launch) (hE : lw_E p s m c b L xs G Γ ax am) (hL : L ≤ 384) (hn : n + 6 ≤ L) (hl : lv_has ls 4 [(3, .int (nI n)), (2, .ref am), (1, .ref ax), (0, .ref b)]) (hk : dv_U Γ ∧ lw_AR Γ ax) {u : Nat} {H : Heap} {locs : List Loc} (hJ : lw_J G Γ am s H locs u) (hq : RR (lw_A ax) (am : Int) (dv G Γ H) (dv G Γ H)) (kk : ∀ (u1 : Nat) (H1 : Heap) (locs1 : List Loc), lw_J G Γ am s H1 locs1 u1 → RR (lw_A ax) (am : Int) (dv G Γ H1) (dv G Γ H1) → W p l e room_1 s m #[Value.ref b] below meth c H1 locs1 (600000 - th_pc u1) (7302250 - th_pq u1) Q (F0 m 1239 ls [])) : W p l e room_1 s m #[Value.ref b] below meth c H locs (600000 - th_pc u) (7302250 - th_pq u) Q (F0 m 296 ls []) := by
  have hx := hE.1.1
  have hb := hE.1.2.1
  have hax := hE.2.2.2.2.2.1
  have ham := hE.2.2.2.2.2.2.1
  have hU := hk.1
  have hA := hk.2
  refine lv_aload_n hx hb dL_law_296 rfl (lv_at hl 2 rfl) ?_
  refine lw_ld (pc := 297) (kn := 1) (pc' := 302) hE hJ.2.2.2 hl hn hL dL_law_297 rfl dL_law_298 rfl dL_law_299 (by decide) (by decide) rfl dL_law_300 rfl dL_law_301 rfl ?_
  refine lw_ld (pc := 302) (kn := 2) (pc' := 307) hE hJ.2.2.2 hl hn hL dL_law_302 rfl dL_law_303 rfl dL_law_304 (by decide) (by decide) rfl dL_law_305 rfl dL_law_306 rfl ?_
  refine lw_call (pc' := 310) (k := 1) (P := (fun w K => ∃ r : Int32, w = .int r ∧ f_X11_hall (dv G Γ H) (ax : Int) (xs (n + 1)).toInt (xs (n + 2)).toInt = ((dv G Γ K), r.toInt) ∧ wf (am : Int) nW (dv G Γ H) (dv G Γ K))) hJ (th_runV (As := [.int (xs (n + 1)), .int (xs (n + 2))]) (rest := []) hE.1 mf_X11_hall kl_23 im_X11_hall se_X11_hall (c_X11_hall l G Γ H hJ.1 hJ.2.1.1 hU ax hax (xs (n + 1)) (xs (n + 2))) rfl rfl ⟨Nat.le_of_ble_eq_true rfl, Nat.le_of_ble_eq_true rfl⟩ hJ.1 hax ro_42 rfl rfl hl.1 rfl (Nat.le_of_ble_eq_true rfl) dL_law_307 ⟨lw_f1 _, lw_f2 _⟩) (fun v K hp => by obtain ⟨r, rfl, hI1, hF1, hR1, hf1⟩ := hp; exact ⟨_, rfl, rfl, hI1, th_RN_c hR1 hJ.2.1 hI1 ham hF1 (by decide), th_bits_F hF1 hJ.2.2.1 (by decide), ⟨r, rfl, hf1, lw_wf hJ.1 hI1 hF1 ham (by decide +kernel)⟩⟩) rfl (fun w1 H1 locs hc1 hJ1 hP1 => ?_)
  obtain ⟨r1, rfl, e1, g1⟩ := hP1
  refine lv_pop hx hb dL_law_310 hc1 ?_
  refine lv_aload_n hx hb dL_law_311 rfl (lv_at hl 1 rfl) ?_
  refine lw_ld (pc := 312) (kn := 1) (pc' := 317) hE hJ1.2.2.2 hl hn hL dL_law_312 rfl dL_law_313 rfl dL_law_314 (by decide) (by decide) rfl dL_law_315 rfl dL_law_316 rfl ?_
  refine lw_ld (pc := 317) (kn := 2) (pc' := 322) hE hJ1.2.2.2 hl hn hL dL_law_317 rfl dL_law_318 rfl dL_law_319 (by decide) (by decide) rfl dL_law_320 rfl dL_law_321 rfl ?_
  refine lw_call (pc' := 325) (k := 1) (P := (fun w K => ∃ r : Int32, w = .int r ∧ f_X12_hall (dv G Γ H1) (am : Int) (xs (n + 1)).toInt (xs (n + 2)).toInt = ((dv G Γ K), r.toInt) ∧ cf (lw_A ax) nV (dv G Γ H1) (dv G Γ K))) hJ1 (th_runV (As := [.int (xs (n + 1)), .int (xs (n + 2))]) (rest := []) hE.1 mf_X12_hall kl_26 im_X12_hall se_X12_hall (c_X12_hall l G Γ H1 hJ1.1 hU am ham hJ1.2.1 (xs (n + 1)) (xs (n + 2))) rfl rfl ⟨Nat.le_of_ble_eq_true rfl, Nat.le_of_ble_eq_true rfl⟩ hJ1.1 ham ro_46 rfl rfl hl.1 rfl (Nat.le_of_ble_eq_true rfl) dL_law_322 ⟨lw_f1 _, lw_f2 _⟩) (fun v K hp => by obtain ⟨r, rfl, hI1, hF1, hR1, hf1⟩ := hp; exact ⟨_, rfl, rfl, hI1, hR1, th_bits_F hF1 hJ1.2.2.1 (by decide), ⟨r, rfl, hf1, lw_cf hJ1.1 hI1 hF1 hA (by decide +kernel)⟩⟩) rfl (fun w2 H2 locs hc2 hJ2 hP2 => ?_)
  obtain ⟨r2, rfl, e2, f2⟩ := hP2
  refine lv_pop hx hb dL_law_325 hc2 ?_
  have hg := glue (r1 := r1.toInt) (r2 := r2.toInt) (fV := fun V => f_X11_hall V (lw_A ax 0) (xs (n + 1)).toInt (xs (n + 2)).toInt) (fW := fun V => f_X12_hall V (am : Int) (xs (n + 1)).toInt (xs (n + 2)).toInt) hq (fun V h => L_hall h) (by rw [lw_A0]; exact e1) g1 e2 f2
  exact lv_goto (tgt := 1239) hx hb dL_law_326 (by decide) (kk u _ locs hJ2 hg.2)

set_option maxHeartbeats 4000000 in
set_option maxRecDepth 100000 in
theorem lw_c3 {p : Program} {e : Env} {s : State} {m : MethodId} {below : List Frame} {meth : Method} {c : Code} {Q : State → Prop} {G : th_G} {Γ : th_Ga} {ax am b L n : Nat} {xs : Nat → Int32} {ls : Array Slot} (l : Launch) (hE : lw_E p s m c b L xs G Γ ax am) (hL : L ≤ 384) (hn : n + 6 ≤ L) (hl : lv_has ls 4 [(3, .int (nI n)), (2, .ref am), (1, .ref ax), (0, .ref b)]) (hk : dv_U Γ ∧ lw_AR Γ ax) {u : Nat} {H : Heap} {locs : List Loc} (hJ : lw_J G Γ am s H locs u) (hq : RR (lw_A ax) (am : Int) (dv G Γ H) (dv G Γ H)) (kk : ∀ (u1 : Nat) (H1 : Heap) (locs1 : List Loc), lw_J G Γ am s H1 locs1 u1 → RR (lw_A ax) (am : Int) (dv G Γ H1) (dv G Γ H1) → W p l e room_1 s m #[Value.ref b] below meth c H1 locs1 (600000 - th_pc u1) (7302250 - th_pq u1) Q (F0 m 1239 ls [])) : W p l e room_1 s m #[Value.ref b] below meth c H locs (600000 - th_pc u) (7302250 - th_pq u) Q (F0 m 329 ls []) := by
  have hx := hE.1.1
  have hb := hE.1.2.1
  have hax := hE.2.2.2.2.2.1
  have ham := hE.2.2.2.2.2.2.1
  have hU := hk.1
  have hA := hk.2
  refine lv_aload_n hx hb dL_law_329 rfl (lv_at hl 2 rfl) ?_
  refine lw_ld (pc := 330) (kn := 1) (pc' := 335) hE hJ.2.2.2 hl hn hL dL_law_330 rfl dL_law_331 rfl dL_law_332 (by decide) (by decide) rfl dL_law_333 rfl dL_law_334 rfl ?_
  refine lw_ld (pc := 335) (kn := 2) (pc' := 340) hE hJ.2.2.2 hl hn hL dL_law_335 rfl dL_law_336 rfl dL_law_337 (by decide) (by decide) rfl dL_law_338 rfl dL_law_339 rfl ?_
  refine lw_call (pc' := 343) (k := 1) (P := (fun w K => ∃ r : Int32, w = .int r ∧ f_X11_at (dv G Γ H) (ax : Int) (xs (n + 1)).toInt (xs (n + 2)).toInt = (r.toInt, ()) ∧ H = K)) hJ (th_runV (As := [.int (xs (n + 1)), .int (xs (n + 2))]) (rest := []) hE.1 mf_X11_at kl_27 im_X11_at se_X11_at (c_X11_at l G Γ H hJ.1 hU ax hax (xs (n + 1)) (xs (n + 2))) rfl rfl ⟨Nat.le_of_ble_eq_true rfl, Nat.le_of_ble_eq_true rfl⟩ hJ.1 hax ro_42 rfl rfl hl.1 rfl (Nat.le_of_ble_eq_true rfl) dL_law_340 ⟨lw_f1 _, lw_f2 _⟩) (fun v K hp => by obtain ⟨r, rfl, hf1, rfl⟩ := hp; exact ⟨_, rfl, rfl, hJ.1, hJ.2.1, hJ.2.2.1, ⟨r, rfl, hf1, rfl⟩⟩) rfl (fun w1 H1 locs hc1 hJ1 hP1 => ?_)
  obtain ⟨r1, rfl, e1, eK1⟩ := hP1
  rw [eK1] at e1 hq
  refine lv_pop hx hb dL_law_343 hc1 ?_
  refine lv_aload_n hx hb dL_law_344 rfl (lv_at hl 1 rfl) ?_
  refine lw_ld (pc := 345) (kn := 1) (pc' := 350) hE hJ1.2.2.2 hl hn hL dL_law_345 rfl dL_law_346 rfl dL_law_347 (by decide) (by decide) rfl dL_law_348 rfl dL_law_349 rfl ?_
  refine lw_ld (pc := 350) (kn := 2) (pc' := 355) hE hJ1.2.2.2 hl hn hL dL_law_350 rfl dL_law_351 rfl dL_law_352 (by decide) (by decide) rfl dL_law_353 rfl dL_law_354 rfl ?_
  refine lw_call (pc' := 358) (k := 1) (P := (fun w K => ∃ r : Int32, w = .int r ∧ f_X12_at (dv G Γ H1) (am : Int) (xs (n + 1)).toInt (xs (n + 2)).toInt = (r.toInt, ()) ∧ H1 = K)) hJ1 (th_runV (As := [.int (xs (n + 1)), .int (xs (n + 2))]) (rest := []) hE.1 mf_X12_at kl_30 im_X12_at se_X12_at (c_X12_at l G Γ H1 hJ1.1 hU am ham (xs (n + 1)) (xs (n + 2))) rfl rfl ⟨Nat.le_of_ble_eq_true rfl, Nat.le_of_ble_eq_true rfl⟩ hJ1.1 ham ro_46 rfl rfl hl.1 rfl (Nat.le_of_ble_eq_true rfl) dL_law_355 ⟨lw_f1 _, lw_f2 _⟩) (fun v K hp => by obtain ⟨r, rfl, -, -, hf1, rfl⟩ := hp; exact ⟨_, rfl, rfl, hJ1.1, hJ1.2.1, hJ1.2.2.1, ⟨r, rfl, hf1, rfl⟩⟩) rfl (fun w2 H2 locs hc2 hJ2 hP2 => ?_)
  obtain ⟨r2, rfl, e2, eK2⟩ := hP2
  refine lv_pop hx hb dL_law_358 hc2 ?_
  rw [eK2] at hq
  exact lv_goto (tgt := 1239) hx hb dL_law_359 (by decide) (kk u _ locs hJ2 hq)

set_option maxHeartbeats 4000000 in
set_option maxRecDepth 100000 in
theorem lw_c4 {p : Program} {e : Env} {s : State} {m : MethodId} {below : List Frame} {meth : Method} {c : Code} {Q : State → Prop} {G : th_G} {Γ : th_Ga} {ax am b L n : Nat} {xs : Nat → Int32} {ls : Array Slot} (l : Launch) (hE : lw_E p s m c b L xs G Γ ax am) (hL : L ≤ 384) (hn : n + 6 ≤ L) (hl : lv_has ls 4 [(3, .int (nI n)), (2, .ref am), (1, .ref ax), (0, .ref b)]) (hk : dv_U Γ ∧ lw_AR Γ ax) {u : Nat} {H : Heap} {locs : List Loc} (hJ : lw_J G Γ am s H locs u) (hq : RR (lw_A ax) (am : Int) (dv G Γ H) (dv G Γ H)) (kk : ∀ (u1 : Nat) (H1 : Heap) (locs1 : List Loc), lw_J G Γ am s H1 locs1 u1 → RR (lw_A ax) (am : Int) (dv G Γ H1) (dv G Γ H1) → W p l e room_1 s m #[Value.ref b] below meth c H1 locs1 (600000 - th_pc u1) (7302250 - th_pq u1) Q (F0 m 1239 ls [])) : W p l e room_1 s m #[Value.ref b] below meth c H locs (600000 - th_pc u) (7302250 - th_pq u) Q (F0 m 362 ls []) := by
  have hx := hE.1.1
  have hb := hE.1.2.1
  have hax := hE.2.2.2.2.2.1
  have ham := hE.2.2.2.2.2.2.1
  have hU := hk.1
  have hA := hk.2
  refine lv_aload_n hx hb dL_law_362 rfl (lv_at hl 2 rfl) ?_
  refine lw_ld (pc := 363) (kn := 1) (pc' := 368) hE hJ.2.2.2 hl hn hL dL_law_363 rfl dL_law_364 rfl dL_law_365 (by decide) (by decide) rfl dL_law_366 rfl dL_law_367 rfl ?_
  refine lw_ld (pc := 368) (kn := 2) (pc' := 373) hE hJ.2.2.2 hl hn hL dL_law_368 rfl dL_law_369 rfl dL_law_370 (by decide) (by decide) rfl dL_law_371 rfl dL_law_372 rfl ?_
  refine lw_ld (pc := 373) (kn := 3) (pc' := 378) hE hJ.2.2.2 hl hn hL dL_law_373 rfl dL_law_374 rfl dL_law_375 (by decide) (by decide) rfl dL_law_376 rfl dL_law_377 rfl ?_
  refine lw_ld (pc := 378) (kn := 4) (pc' := 383) hE hJ.2.2.2 hl hn hL dL_law_378 rfl dL_law_379 rfl dL_law_380 (by decide) (by decide) rfl dL_law_381 rfl dL_law_382 rfl ?_
  refine lw_call (pc' := 386) (k := 1) (P := (fun w K => ∃ r : Int32, w = .int r ∧ f_X11_asks (dv G Γ H) (ax : Int) (xs (n + 1)).toInt (xs (n + 2)).toInt (xs (n + 3)).toInt (xs (n + 4)).toInt = ((dv G Γ K), r.toInt) ∧ wf (am : Int) nW (dv G Γ H) (dv G Γ K))) hJ (th_runV (As := [.int (xs (n + 1)), .int (xs (n + 2)), .int (xs (n + 3)), .int (xs (n + 4))]) (rest := []) hE.1 mf_X11_asks kl_31 im_X11_asks se_X11_asks (c_X11_asks l G Γ H hJ.1 hJ.2.1.1 hU ax hax (xs (n + 1)) (xs (n + 2)) (xs (n + 3)) (xs (n + 4))) rfl rfl ⟨Nat.le_of_ble_eq_true rfl, Nat.le_of_ble_eq_true rfl⟩ hJ.1 hax ro_42 rfl rfl hl.1 rfl (Nat.le_of_ble_eq_true rfl) dL_law_383 ⟨lw_f1 _, lw_f2 _⟩) (fun v K hp => by obtain ⟨r, rfl, hI1, hF1, hR1, hf1⟩ := hp; exact ⟨_, rfl, rfl, hI1, th_RN_c hR1 hJ.2.1 hI1 ham hF1 (by decide), th_bits_F hF1 hJ.2.2.1 (by decide), ⟨r, rfl, hf1, lw_wf hJ.1 hI1 hF1 ham (by decide +kernel)⟩⟩) rfl (fun w1 H1 locs hc1 hJ1 hP1 => ?_)
  obtain ⟨r1, rfl, e1, g1⟩ := hP1
  refine lv_pop hx hb dL_law_386 hc1 ?_
  refine lv_aload_n hx hb dL_law_387 rfl (lv_at hl 1 rfl) ?_
  refine lw_ld (pc := 388) (kn := 1) (pc' := 393) hE hJ1.2.2.2 hl hn hL dL_law_388 rfl dL_law_389 rfl dL_law_390 (by decide) (by decide) rfl dL_law_391 rfl dL_law_392 rfl ?_
  refine lw_ld (pc := 393) (kn := 2) (pc' := 398) hE hJ1.2.2.2 hl hn hL dL_law_393 rfl dL_law_394 rfl dL_law_395 (by decide) (by decide) rfl dL_law_396 rfl dL_law_397 rfl ?_
  refine lw_ld (pc := 398) (kn := 3) (pc' := 403) hE hJ1.2.2.2 hl hn hL dL_law_398 rfl dL_law_399 rfl dL_law_400 (by decide) (by decide) rfl dL_law_401 rfl dL_law_402 rfl ?_
  refine lw_ld (pc := 403) (kn := 4) (pc' := 408) hE hJ1.2.2.2 hl hn hL dL_law_403 rfl dL_law_404 rfl dL_law_405 (by decide) (by decide) rfl dL_law_406 rfl dL_law_407 rfl ?_
  refine lw_call (pc' := 411) (k := 1) (P := (fun w K => ∃ r : Int32, w = .int r ∧ f_X12_asks (dv G Γ H1) (am : Int) (xs (n + 1)).toInt (xs (n + 2)).toInt (xs (n + 3)).toInt (xs (n + 4)).toInt = ((dv G Γ K), r.toInt) ∧ cf (lw_A ax) nV (dv G Γ H1) (dv G Γ K))) hJ1 (th_runV (As := [.int (xs (n + 1)), .int (xs (n + 2)), .int (xs (n + 3)), .int (xs (n + 4))]) (rest := []) hE.1 mf_X12_asks kl_35 im_X12_asks se_X12_asks (c_X12_asks l G Γ H1 hJ1.1 hU am ham (th_NK hJ1.2.1) (xs (n + 1)) (xs (n + 2)) (xs (n + 3)) (xs (n + 4))) rfl rfl ⟨Nat.le_of_ble_eq_true rfl, Nat.le_of_ble_eq_true rfl⟩ hJ1.1 ham ro_46 rfl rfl hl.1 rfl (Nat.le_of_ble_eq_true rfl) dL_law_408 ⟨lw_f1 _, lw_f2 _⟩) (fun v K hp => by obtain ⟨r, rfl, hI1, hF1, hR1, hf1⟩ := hp; exact ⟨_, rfl, rfl, hI1, th_RN_c hR1.1 hJ1.2.1 hI1 ham hF1 (by decide), th_bits_F hF1 hJ1.2.2.1 (by decide), ⟨r, rfl, hf1, lw_cf hJ1.1 hI1 hF1 hA (by decide +kernel)⟩⟩) rfl (fun w2 H2 locs hc2 hJ2 hP2 => ?_)
  obtain ⟨r2, rfl, e2, f2⟩ := hP2
  refine lv_pop hx hb dL_law_411 hc2 ?_
  have hg := glue (r1 := r1.toInt) (r2 := r2.toInt) (fV := fun V => f_X11_asks V (lw_A ax 0) (xs (n + 1)).toInt (xs (n + 2)).toInt (xs (n + 3)).toInt (xs (n + 4)).toInt) (fW := fun V => f_X12_asks V (am : Int) (xs (n + 1)).toInt (xs (n + 2)).toInt (xs (n + 3)).toInt (xs (n + 4)).toInt) hq (fun V h => L_asks h) (by rw [lw_A0]; exact e1) g1 e2 f2
  exact lv_goto (tgt := 1239) hx hb dL_law_412 (by decide) (kk u _ locs hJ2 hg.2)

set_option maxHeartbeats 4000000 in
set_option maxRecDepth 100000 in
theorem lw_c5 {p : Program} {e : Env} {s : State} {m : MethodId} {below : List Frame} {meth : Method} {c : Code} {Q : State → Prop} {G : th_G} {Γ : th_Ga} {ax am b L n : Nat} {xs : Nat → Int32} {ls : Array Slot} (l : Launch) (hE : lw_E p s m c b L xs G Γ ax am) (hL : L ≤ 384) (hn : n + 6 ≤ L) (hl : lv_has ls 4 [(3, .int (nI n)), (2, .ref am), (1, .ref ax), (0, .ref b)]) (hk : dv_U Γ ∧ lw_AR Γ ax) {u : Nat} {H : Heap} {locs : List Loc} (hJ : lw_J G Γ am s H locs u) (hq : RR (lw_A ax) (am : Int) (dv G Γ H) (dv G Γ H)) (kk : ∀ (u1 : Nat) (H1 : Heap) (locs1 : List Loc), lw_J G Γ am s H1 locs1 u1 → RR (lw_A ax) (am : Int) (dv G Γ H1) (dv G Γ H1) → W p l e room_1 s m #[Value.ref b] below meth c H1 locs1 (600000 - th_pc u1) (7302250 - th_pq u1) Q (F0 m 1239 ls [])) : W p l e room_1 s m #[Value.ref b] below meth c H locs (600000 - th_pc u) (7302250 - th_pq u) Q (F0 m 415 ls []) := by
  have hx := hE.1.1
  have hb := hE.1.2.1
  have hax := hE.2.2.2.2.2.1
  have ham := hE.2.2.2.2.2.2.1
  have hU := hk.1
  have hA := hk.2
  refine lv_aload_n hx hb dL_law_415 rfl (lv_at hl 2 rfl) ?_
  refine lw_ld (pc := 416) (kn := 1) (pc' := 421) hE hJ.2.2.2 hl hn hL dL_law_416 rfl dL_law_417 rfl dL_law_418 (by decide) (by decide) rfl dL_law_419 rfl dL_law_420 rfl ?_
  refine lw_ld (pc := 421) (kn := 2) (pc' := 426) hE hJ.2.2.2 hl hn hL dL_law_421 rfl dL_law_422 rfl dL_law_423 (by decide) (by decide) rfl dL_law_424 rfl dL_law_425 rfl ?_
  refine lw_call (pc' := 429) (k := 1) (P := (fun w K => ∃ r : Int32, w = .int r ∧ f_X11_terms (dv G Γ H) (ax : Int) (xs (n + 1)).toInt (xs (n + 2)).toInt = ((dv G Γ K), r.toInt) ∧ wf (am : Int) nW (dv G Γ H) (dv G Γ K))) hJ (th_runV (As := [.int (xs (n + 1)), .int (xs (n + 2))]) (rest := []) hE.1 mf_X11_terms kl_36 im_X11_terms se_X11_terms (c_X11_terms l G Γ H hJ.1 hJ.2.1.1 hU ax hax (xs (n + 1)) (xs (n + 2))) rfl rfl ⟨Nat.le_of_ble_eq_true rfl, Nat.le_of_ble_eq_true rfl⟩ hJ.1 hax ro_42 rfl rfl hl.1 rfl (Nat.le_of_ble_eq_true rfl) dL_law_426 ⟨lw_f1 _, lw_f2 _⟩) (fun v K hp => by obtain ⟨r, rfl, hI1, hF1, hR1, hf1⟩ := hp; exact ⟨_, rfl, rfl, hI1, th_RN_c hR1 hJ.2.1 hI1 ham hF1 (by decide), th_bits_F hF1 hJ.2.2.1 (by decide), ⟨r, rfl, hf1, lw_wf hJ.1 hI1 hF1 ham (by decide +kernel)⟩⟩) rfl (fun w1 H1 locs hc1 hJ1 hP1 => ?_)
  obtain ⟨r1, rfl, e1, g1⟩ := hP1
  refine lv_pop hx hb dL_law_429 hc1 ?_
  refine lv_aload_n hx hb dL_law_430 rfl (lv_at hl 1 rfl) ?_
  refine lw_ld (pc := 431) (kn := 1) (pc' := 436) hE hJ1.2.2.2 hl hn hL dL_law_431 rfl dL_law_432 rfl dL_law_433 (by decide) (by decide) rfl dL_law_434 rfl dL_law_435 rfl ?_
  refine lw_ld (pc := 436) (kn := 2) (pc' := 441) hE hJ1.2.2.2 hl hn hL dL_law_436 rfl dL_law_437 rfl dL_law_438 (by decide) (by decide) rfl dL_law_439 rfl dL_law_440 rfl ?_
  refine lw_call (pc' := 444) (k := 1) (P := (fun w K => ∃ r : Int32, w = .int r ∧ f_X12_terms (dv G Γ H1) (am : Int) (xs (n + 1)).toInt (xs (n + 2)).toInt = ((dv G Γ K), r.toInt) ∧ cf (lw_A ax) nV (dv G Γ H1) (dv G Γ K))) hJ1 (th_runV (As := [.int (xs (n + 1)), .int (xs (n + 2))]) (rest := []) hE.1 mf_X12_terms kl_39 im_X12_terms se_X12_terms (c_X12_terms l G Γ H1 hJ1.1 hU am ham hJ1.2.1 (xs (n + 1)) (xs (n + 2))) rfl rfl ⟨Nat.le_of_ble_eq_true rfl, Nat.le_of_ble_eq_true rfl⟩ hJ1.1 ham ro_46 rfl rfl hl.1 rfl (Nat.le_of_ble_eq_true rfl) dL_law_441 ⟨lw_f1 _, lw_f2 _⟩) (fun v K hp => by obtain ⟨r, rfl, hI1, hF1, hR1, hf1⟩ := hp; exact ⟨_, rfl, rfl, hI1, hR1, th_bits_F hF1 hJ1.2.2.1 (by decide), ⟨r, rfl, hf1, lw_cf hJ1.1 hI1 hF1 hA (by decide +kernel)⟩⟩) rfl (fun w2 H2 locs hc2 hJ2 hP2 => ?_)
  obtain ⟨r2, rfl, e2, f2⟩ := hP2
  refine lv_pop hx hb dL_law_444 hc2 ?_
  have hg := glue (r1 := r1.toInt) (r2 := r2.toInt) (fV := fun V => f_X11_terms V (lw_A ax 0) (xs (n + 1)).toInt (xs (n + 2)).toInt) (fW := fun V => f_X12_terms V (am : Int) (xs (n + 1)).toInt (xs (n + 2)).toInt) hq (fun V h => L_terms h) (by rw [lw_A0]; exact e1) g1 e2 f2
  exact lv_goto (tgt := 1239) hx hb dL_law_445 (by decide) (kk u _ locs hJ2 hg.2)

set_option maxHeartbeats 4000000 in
set_option maxRecDepth 100000 in
theorem lw_c6 {p : Program} {e : Env} {s : State} {m : MethodId} {below : List Frame} {meth : Method} {c : Code} {Q : State → Prop} {G : th_G} {Γ : th_Ga} {ax am b L n : Nat} {xs : Nat → Int32} {ls : Array Slot} (l : Launch) (hE : lw_E p s m c b L xs G Γ ax am) (hL : L ≤ 384) (hn : n + 6 ≤ L) (hl : lv_has ls 4 [(3, .int (nI n)), (2, .ref am), (1, .ref ax), (0, .ref b)]) (hk : dv_U Γ ∧ lw_AR Γ ax) {u : Nat} {H : Heap} {locs : List Loc} (hJ : lw_J G Γ am s H locs u) (hq : RR (lw_A ax) (am : Int) (dv G Γ H) (dv G Γ H)) (kk : ∀ (u1 : Nat) (H1 : Heap) (locs1 : List Loc), lw_J G Γ am s H1 locs1 u1 → RR (lw_A ax) (am : Int) (dv G Γ H1) (dv G Γ H1) → W p l e room_1 s m #[Value.ref b] below meth c H1 locs1 (600000 - th_pc u1) (7302250 - th_pq u1) Q (F0 m 1239 ls [])) : W p l e room_1 s m #[Value.ref b] below meth c H locs (600000 - th_pc u) (7302250 - th_pq u) Q (F0 m 448 ls []) := by
  have hx := hE.1.1
  have hb := hE.1.2.1
  have hax := hE.2.2.2.2.2.1
  have ham := hE.2.2.2.2.2.2.1
  have hU := hk.1
  have hA := hk.2
  refine lv_aload_n hx hb dL_law_448 rfl (lv_at hl 2 rfl) ?_
  refine lw_ld (pc := 449) (kn := 1) (pc' := 454) hE hJ.2.2.2 hl hn hL dL_law_449 rfl dL_law_450 rfl dL_law_451 (by decide) (by decide) rfl dL_law_452 rfl dL_law_453 rfl ?_
  refine lw_ld (pc := 454) (kn := 2) (pc' := 459) hE hJ.2.2.2 hl hn hL dL_law_454 rfl dL_law_455 rfl dL_law_456 (by decide) (by decide) rfl dL_law_457 rfl dL_law_458 rfl ?_
  refine lw_ld (pc := 459) (kn := 3) (pc' := 464) hE hJ.2.2.2 hl hn hL dL_law_459 rfl dL_law_460 rfl dL_law_461 (by decide) (by decide) rfl dL_law_462 rfl dL_law_463 rfl ?_
  refine lw_ld (pc := 464) (kn := 4) (pc' := 469) hE hJ.2.2.2 hl hn hL dL_law_464 rfl dL_law_465 rfl dL_law_466 (by decide) (by decide) rfl dL_law_467 rfl dL_law_468 rfl ?_
  refine lw_ld (pc := 469) (kn := 5) (pc' := 474) hE hJ.2.2.2 hl hn hL dL_law_469 rfl dL_law_470 rfl dL_law_471 (by decide) (by decide) rfl dL_law_472 rfl dL_law_473 rfl ?_
  refine lw_call (pc' := 477) (k := 1) (P := (fun w K => ∃ r : Int32, w = .int r ∧ f_X11_feed (dv G Γ H) (ax : Int) (xs (n + 1)).toInt (xs (n + 2)).toInt (xs (n + 3)).toInt (xs (n + 4)).toInt (xs (n + 5)).toInt = ((dv G Γ K), r.toInt) ∧ wf (am : Int) nW (dv G Γ H) (dv G Γ K))) hJ (th_runV (As := [.int (xs (n + 1)), .int (xs (n + 2)), .int (xs (n + 3)), .int (xs (n + 4)), .int (xs (n + 5))]) (rest := []) hE.1 mf_X11_feed kl_40 im_X11_feed se_X11_feed (c_X11_feed l G Γ H hJ.1 hJ.2.1.1 hU ax hax (xs (n + 1)) (xs (n + 2)) (xs (n + 3)) (xs (n + 4)) (xs (n + 5))) rfl rfl ⟨Nat.le_of_ble_eq_true rfl, Nat.le_of_ble_eq_true rfl⟩ hJ.1 hax ro_42 rfl rfl hl.1 rfl (Nat.le_of_ble_eq_true rfl) dL_law_474 ⟨lw_f1 _, lw_f2 _⟩) (fun v K hp => by obtain ⟨r, rfl, hI1, hF1, hR1, hf1⟩ := hp; exact ⟨_, rfl, rfl, hI1, th_RN_c hR1 hJ.2.1 hI1 ham hF1 (by decide), th_bits_F hF1 hJ.2.2.1 (by decide), ⟨r, rfl, hf1, lw_wf hJ.1 hI1 hF1 ham (by decide +kernel)⟩⟩) rfl (fun w1 H1 locs hc1 hJ1 hP1 => ?_)
  obtain ⟨r1, rfl, e1, g1⟩ := hP1
  refine lv_pop hx hb dL_law_477 hc1 ?_
  refine lv_aload_n hx hb dL_law_478 rfl (lv_at hl 1 rfl) ?_
  refine lw_ld (pc := 479) (kn := 1) (pc' := 484) hE hJ1.2.2.2 hl hn hL dL_law_479 rfl dL_law_480 rfl dL_law_481 (by decide) (by decide) rfl dL_law_482 rfl dL_law_483 rfl ?_
  refine lw_ld (pc := 484) (kn := 2) (pc' := 489) hE hJ1.2.2.2 hl hn hL dL_law_484 rfl dL_law_485 rfl dL_law_486 (by decide) (by decide) rfl dL_law_487 rfl dL_law_488 rfl ?_
  refine lw_ld (pc := 489) (kn := 3) (pc' := 494) hE hJ1.2.2.2 hl hn hL dL_law_489 rfl dL_law_490 rfl dL_law_491 (by decide) (by decide) rfl dL_law_492 rfl dL_law_493 rfl ?_
  refine lw_ld (pc := 494) (kn := 4) (pc' := 499) hE hJ1.2.2.2 hl hn hL dL_law_494 rfl dL_law_495 rfl dL_law_496 (by decide) (by decide) rfl dL_law_497 rfl dL_law_498 rfl ?_
  refine lw_ld (pc := 499) (kn := 5) (pc' := 504) hE hJ1.2.2.2 hl hn hL dL_law_499 rfl dL_law_500 rfl dL_law_501 (by decide) (by decide) rfl dL_law_502 rfl dL_law_503 rfl ?_
  refine lw_call (pc' := 507) (k := 1) (P := (fun w K => ∃ r : Int32, w = .int r ∧ f_X12_feed (dv G Γ H1) (am : Int) (xs (n + 1)).toInt (xs (n + 2)).toInt (xs (n + 3)).toInt (xs (n + 4)).toInt (xs (n + 5)).toInt = ((dv G Γ K), r.toInt) ∧ cf (lw_A ax) nV (dv G Γ H1) (dv G Γ K))) hJ1 (th_runV (As := [.int (xs (n + 1)), .int (xs (n + 2)), .int (xs (n + 3)), .int (xs (n + 4)), .int (xs (n + 5))]) (rest := []) hE.1 mf_X12_feed kl_44 im_X12_feed se_X12_feed (c_X12_feed l G Γ H1 hJ1.1 hJ1.2.1.1 hU am ham (xs (n + 1)) (xs (n + 2)) (xs (n + 3)) (xs (n + 4)) (xs (n + 5))) rfl rfl ⟨Nat.le_of_ble_eq_true rfl, Nat.le_of_ble_eq_true rfl⟩ hJ1.1 ham ro_46 rfl rfl hl.1 rfl (Nat.le_of_ble_eq_true rfl) dL_law_504 ⟨lw_f1 _, lw_f2 _⟩) (fun v K hp => by obtain ⟨r, rfl, hI1, hF1, hR1, hf1⟩ := hp; exact ⟨_, rfl, rfl, hI1, th_RN_c hR1 hJ1.2.1 hI1 ham hF1 (by decide), th_bits_F hF1 hJ1.2.2.1 (by decide), ⟨r, rfl, hf1, lw_cf hJ1.1 hI1 hF1 hA (by decide +kernel)⟩⟩) rfl (fun w2 H2 locs hc2 hJ2 hP2 => ?_)
  obtain ⟨r2, rfl, e2, f2⟩ := hP2
  refine lv_pop hx hb dL_law_507 hc2 ?_
  have hg := glue (r1 := r1.toInt) (r2 := r2.toInt) (fV := fun V => f_X11_feed V (lw_A ax 0) (xs (n + 1)).toInt (xs (n + 2)).toInt (xs (n + 3)).toInt (xs (n + 4)).toInt (xs (n + 5)).toInt) (fW := fun V => f_X12_feed V (am : Int) (xs (n + 1)).toInt (xs (n + 2)).toInt (xs (n + 3)).toInt (xs (n + 4)).toInt (xs (n + 5)).toInt) hq (fun V h => L_feed h) (by rw [lw_A0]; exact e1) g1 e2 f2
  exact lv_goto (tgt := 1239) hx hb dL_law_508 (by decide) (kk u _ locs hJ2 hg.2)

set_option maxHeartbeats 4000000 in
set_option maxRecDepth 100000 in
theorem lw_c7 {p : Program} {e : Env} {s : State} {m : MethodId} {below : List Frame} {meth : Method} {c : Code} {Q : State → Prop} {G : th_G} {Γ : th_Ga} {ax am b L n : Nat} {xs : Nat → Int32} {ls : Array Slot} (l : Launch) (hE : lw_E p s m c b L xs G Γ ax am) (hL : L ≤ 384) (hn : n + 6 ≤ L) (hl : lv_has ls 4 [(3, .int (nI n)), (2, .ref am), (1, .ref ax), (0, .ref b)]) (hk : dv_U Γ ∧ lw_AR Γ ax) {u : Nat} {H : Heap} {locs : List Loc} (hJ : lw_J G Γ am s H locs u) (hq : RR (lw_A ax) (am : Int) (dv G Γ H) (dv G Γ H)) (kk : ∀ (u1 : Nat) (H1 : Heap) (locs1 : List Loc), lw_J G Γ am s H1 locs1 u1 → RR (lw_A ax) (am : Int) (dv G Γ H1) (dv G Γ H1) → W p l e room_1 s m #[Value.ref b] below meth c H1 locs1 (600000 - th_pc u1) (7302250 - th_pq u1) Q (F0 m 1239 ls [])) : W p l e room_1 s m #[Value.ref b] below meth c H locs (600000 - th_pc u) (7302250 - th_pq u) Q (F0 m 511 ls []) := by
  have hx := hE.1.1
  have hb := hE.1.2.1
  have hax := hE.2.2.2.2.2.1
  have ham := hE.2.2.2.2.2.2.1
  have hU := hk.1
  have hA := hk.2
  refine lv_aload_n hx hb dL_law_511 rfl (lv_at hl 2 rfl) ?_
  refine lw_ld (pc := 512) (kn := 1) (pc' := 517) hE hJ.2.2.2 hl hn hL dL_law_512 rfl dL_law_513 rfl dL_law_514 (by decide) (by decide) rfl dL_law_515 rfl dL_law_516 rfl ?_
  refine lw_call (pc' := 520) (k := 1) (P := (fun w K => ∃ r : Int32, w = .int r ∧ f_X11_end (dv G Γ H) (ax : Int) (xs (n + 1)).toInt = ((dv G Γ K), r.toInt) ∧ wf (am : Int) nW (dv G Γ H) (dv G Γ K))) hJ (th_runV (As := [.int (xs (n + 1))]) (rest := []) hE.1 mf_X11_end kl_45 im_X11_end se_X11_end (c_X11_end l G Γ H hJ.1 hJ.2.1.1 hU ax hax (xs (n + 1))) rfl rfl ⟨Nat.le_of_ble_eq_true rfl, Nat.le_of_ble_eq_true rfl⟩ hJ.1 hax ro_42 rfl rfl hl.1 rfl (Nat.le_of_ble_eq_true rfl) dL_law_517 ⟨lw_f1 _, lw_f2 _⟩) (fun v K hp => by obtain ⟨r, rfl, hI1, hF1, hR1, hf1⟩ := hp; exact ⟨_, rfl, rfl, hI1, th_RN_c hR1 hJ.2.1 hI1 ham hF1 (by decide), th_bits_F hF1 hJ.2.2.1 (by decide), ⟨r, rfl, hf1, lw_wf hJ.1 hI1 hF1 ham (by decide +kernel)⟩⟩) rfl (fun w1 H1 locs hc1 hJ1 hP1 => ?_)
  obtain ⟨r1, rfl, e1, g1⟩ := hP1
  refine lv_pop hx hb dL_law_520 hc1 ?_
  refine lv_aload_n hx hb dL_law_521 rfl (lv_at hl 1 rfl) ?_
  refine lw_ld (pc := 522) (kn := 1) (pc' := 527) hE hJ1.2.2.2 hl hn hL dL_law_522 rfl dL_law_523 rfl dL_law_524 (by decide) (by decide) rfl dL_law_525 rfl dL_law_526 rfl ?_
  refine lw_call (pc' := 530) (k := 1) (P := (fun w K => ∃ r : Int32, w = .int r ∧ f_X12_end (dv G Γ H1) (am : Int) (xs (n + 1)).toInt = ((dv G Γ K), r.toInt) ∧ cf (lw_A ax) nV (dv G Γ H1) (dv G Γ K))) hJ1 (th_runV (As := [.int (xs (n + 1))]) (rest := []) hE.1 mf_X12_end kl_49 im_X12_end se_X12_end (c_X12_end l G Γ H1 hJ1.1 hJ1.2.1.1 hU am ham (xs (n + 1))) rfl rfl ⟨Nat.le_of_ble_eq_true rfl, Nat.le_of_ble_eq_true rfl⟩ hJ1.1 ham ro_46 rfl rfl hl.1 rfl (Nat.le_of_ble_eq_true rfl) dL_law_527 ⟨lw_f1 _, lw_f2 _⟩) (fun v K hp => by obtain ⟨r, rfl, hI1, hF1, hR1, hf1⟩ := hp; exact ⟨_, rfl, rfl, hI1, th_RN_c hR1 hJ1.2.1 hI1 ham hF1 (by decide), th_bits_F hF1 hJ1.2.2.1 (by decide), ⟨r, rfl, hf1, lw_cf hJ1.1 hI1 hF1 hA (by decide +kernel)⟩⟩) rfl (fun w2 H2 locs hc2 hJ2 hP2 => ?_)
  obtain ⟨r2, rfl, e2, f2⟩ := hP2
  refine lv_pop hx hb dL_law_530 hc2 ?_
  have hg := glue (r1 := r1.toInt) (r2 := r2.toInt) (fV := fun V => f_X11_end V (lw_A ax 0) (xs (n + 1)).toInt) (fW := fun V => f_X12_end V (am : Int) (xs (n + 1)).toInt) hq (fun V h => L_end h) (by rw [lw_A0]; exact e1) g1 e2 f2
  exact lv_goto (tgt := 1239) hx hb dL_law_531 (by decide) (kk u _ locs hJ2 hg.2)

set_option maxHeartbeats 4000000 in
set_option maxRecDepth 100000 in
theorem lw_c8 {p : Program} {e : Env} {s : State} {m : MethodId} {below : List Frame} {meth : Method} {c : Code} {Q : State → Prop} {G : th_G} {Γ : th_Ga} {ax am b L n : Nat} {xs : Nat → Int32} {ls : Array Slot} (l : Launch) (hE : lw_E p s m c b L xs G Γ ax am) (hL : L ≤ 384) (hn : n + 6 ≤ L) (hl : lv_has ls 4 [(3, .int (nI n)), (2, .ref am), (1, .ref ax), (0, .ref b)]) (hk : dv_U Γ ∧ lw_AR Γ ax) {u : Nat} {H : Heap} {locs : List Loc} (hJ : lw_J G Γ am s H locs u) (hq : RR (lw_A ax) (am : Int) (dv G Γ H) (dv G Γ H)) (kk : ∀ (u1 : Nat) (H1 : Heap) (locs1 : List Loc), lw_J G Γ am s H1 locs1 u1 → RR (lw_A ax) (am : Int) (dv G Γ H1) (dv G Γ H1) → W p l e room_1 s m #[Value.ref b] below meth c H1 locs1 (600000 - th_pc u1) (7302250 - th_pq u1) Q (F0 m 1239 ls [])) : W p l e room_1 s m #[Value.ref b] below meth c H locs (600000 - th_pc u) (7302250 - th_pq u) Q (F0 m 534 ls []) := by
  have hx := hE.1.1
  have hb := hE.1.2.1
  have hax := hE.2.2.2.2.2.1
  have ham := hE.2.2.2.2.2.2.1
  have hU := hk.1
  have hA := hk.2
  refine lv_aload_n hx hb dL_law_534 rfl (lv_at hl 2 rfl) ?_
  refine lw_call (pc' := 538) (k := 1) (P := (fun w K => ∃ r : Int32, w = .int r ∧ f_X11_row (dv G Γ H) (ax : Int) = ((dv G Γ K), r.toInt) ∧ wf (am : Int) nW (dv G Γ H) (dv G Γ K))) hJ (th_runV (As := []) (rest := []) hE.1 mf_X11_row kl_50 im_X11_row se_X11_row (c_X11_row l G Γ H hJ.1 hJ.2.1.1 hU ax hax) rfl rfl ⟨Nat.le_of_ble_eq_true rfl, Nat.le_of_ble_eq_true rfl⟩ hJ.1 hax ro_42 rfl rfl hl.1 rfl (Nat.le_of_ble_eq_true rfl) dL_law_535 ⟨lw_f1 _, lw_f2 _⟩) (fun v K hp => by obtain ⟨r, rfl, hI1, hF1, hR1, hf1⟩ := hp; exact ⟨_, rfl, rfl, hI1, th_RN_c hR1 hJ.2.1 hI1 ham hF1 (by decide), th_bits_F hF1 hJ.2.2.1 (by decide), ⟨r, rfl, hf1, lw_wf hJ.1 hI1 hF1 ham (by decide +kernel)⟩⟩) rfl (fun w1 H1 locs hc1 hJ1 hP1 => ?_)
  obtain ⟨r1, rfl, e1, g1⟩ := hP1
  refine lv_pop hx hb dL_law_538 hc1 ?_
  refine lv_aload_n hx hb dL_law_539 rfl (lv_at hl 1 rfl) ?_
  refine lw_call (pc' := 543) (k := 1) (P := (fun w K => ∃ r : Int32, w = .int r ∧ f_X12_row (dv G Γ H1) (am : Int) = ((dv G Γ K), r.toInt) ∧ cf (lw_A ax) nV (dv G Γ H1) (dv G Γ K))) hJ1 (th_runV (As := []) (rest := []) hE.1 mf_X12_row kl_54 im_X12_row se_X12_row (c_X12_row l G Γ H1 hJ1.1 hU am ham hJ1.2.1) rfl rfl ⟨Nat.le_of_ble_eq_true rfl, Nat.le_of_ble_eq_true rfl⟩ hJ1.1 ham ro_46 rfl rfl hl.1 rfl (Nat.le_of_ble_eq_true rfl) dL_law_540 ⟨lw_f1 _, lw_f2 _⟩) (fun v K hp => by obtain ⟨r, rfl, hI1, hF1, hR1, hf1⟩ := hp; exact ⟨_, rfl, rfl, hI1, hR1, th_bits_F hF1 hJ1.2.2.1 (by decide), ⟨r, rfl, hf1, lw_cf hJ1.1 hI1 hF1 hA (by decide +kernel)⟩⟩) rfl (fun w2 H2 locs hc2 hJ2 hP2 => ?_)
  obtain ⟨r2, rfl, e2, f2⟩ := hP2
  refine lv_pop hx hb dL_law_543 hc2 ?_
  have hg := glue (r1 := r1.toInt) (r2 := r2.toInt) (fV := fun V => f_X11_row V (lw_A ax 0)) (fW := fun V => f_X12_row V (am : Int)) hq (fun V h => L_row h) (by rw [lw_A0]; exact e1) g1 e2 f2
  exact lv_goto (tgt := 1239) hx hb dL_law_544 (by decide) (kk u _ locs hJ2 hg.2)

set_option maxHeartbeats 4000000 in
set_option maxRecDepth 100000 in
theorem lw_c9 {p : Program} {e : Env} {s : State} {m : MethodId} {below : List Frame} {meth : Method} {c : Code} {Q : State → Prop} {G : th_G} {Γ : th_Ga} {ax am b L n : Nat} {xs : Nat → Int32} {ls : Array Slot} (l : Launch) (hE : lw_E p s m c b L xs G Γ ax am) (hL : L ≤ 384) (hn : n + 6 ≤ L) (hl : lv_has ls 4 [(3, .int (nI n)), (2, .ref am), (1, .ref ax), (0, .ref b)]) (hk : dv_U Γ ∧ lw_AR Γ ax) {u : Nat} {H : Heap} {locs : List Loc} (hJ : lw_J G Γ am s H locs u) (hq : RR (lw_A ax) (am : Int) (dv G Γ H) (dv G Γ H)) (kk : ∀ (u1 : Nat) (H1 : Heap) (locs1 : List Loc), lw_J G Γ am s H1 locs1 u1 → RR (lw_A ax) (am : Int) (dv G Γ H1) (dv G Γ H1) → W p l e room_1 s m #[Value.ref b] below meth c H1 locs1 (600000 - th_pc u1) (7302250 - th_pq u1) Q (F0 m 1239 ls [])) : W p l e room_1 s m #[Value.ref b] below meth c H locs (600000 - th_pc u) (7302250 - th_pq u) Q (F0 m 547 ls []) := by
  have hx := hE.1.1
  have hb := hE.1.2.1
  have hax := hE.2.2.2.2.2.1
  have ham := hE.2.2.2.2.2.2.1
  have hU := hk.1
  have hA := hk.2
  refine lv_aload_n hx hb dL_law_547 rfl (lv_at hl 2 rfl) ?_
  refine lw_call (pc' := 551) (k := 1) (P := (fun w K => ∃ r : Int32, w = .int r ∧ f_X11_fluff (dv G Γ H) (ax : Int) = (r.toInt, ()) ∧ H = K)) hJ (th_runV (As := []) (rest := []) hE.1 mf_X11_fluff kl_55 im_X11_fluff se_X11_fluff (c_X11_fluff l G Γ H hJ.1 hU ax hax) rfl rfl ⟨Nat.le_of_ble_eq_true rfl, Nat.le_of_ble_eq_true rfl⟩ hJ.1 hax ro_42 rfl rfl hl.1 rfl (Nat.le_of_ble_eq_true rfl) dL_law_548 ⟨lw_f1 _, lw_f2 _⟩) (fun v K hp => by obtain ⟨r, rfl, hf1, rfl⟩ := hp; exact ⟨_, rfl, rfl, hJ.1, hJ.2.1, hJ.2.2.1, ⟨r, rfl, hf1, rfl⟩⟩) rfl (fun w1 H1 locs hc1 hJ1 hP1 => ?_)
  obtain ⟨r1, rfl, e1, eK1⟩ := hP1
  rw [eK1] at e1 hq
  refine lv_pop hx hb dL_law_551 hc1 ?_
  refine lv_aload_n hx hb dL_law_552 rfl (lv_at hl 1 rfl) ?_
  refine lw_call (pc' := 556) (k := 1) (P := (fun w K => ∃ r : Int32, w = .int r ∧ f_X12_fluff (dv G Γ H1) (am : Int) = (r.toInt, ()) ∧ H1 = K)) hJ1 (th_runV (As := []) (rest := []) hE.1 mf_X12_fluff kl_58 im_X12_fluff se_X12_fluff (c_X12_fluff l G Γ H1 hJ1.1 hU am ham) rfl rfl ⟨Nat.le_of_ble_eq_true rfl, Nat.le_of_ble_eq_true rfl⟩ hJ1.1 ham ro_46 rfl rfl hl.1 rfl (Nat.le_of_ble_eq_true rfl) dL_law_553 ⟨lw_f1 _, lw_f2 _⟩) (fun v K hp => by obtain ⟨r, rfl, hf1, rfl⟩ := hp; exact ⟨_, rfl, rfl, hJ1.1, hJ1.2.1, hJ1.2.2.1, ⟨r, rfl, hf1, rfl⟩⟩) rfl (fun w2 H2 locs hc2 hJ2 hP2 => ?_)
  obtain ⟨r2, rfl, e2, eK2⟩ := hP2
  refine lv_pop hx hb dL_law_556 hc2 ?_
  rw [eK2] at hq
  exact lv_goto (tgt := 1239) hx hb dL_law_557 (by decide) (kk u _ locs hJ2 hq)

set_option maxHeartbeats 4000000 in
set_option maxRecDepth 100000 in
theorem lw_c10 {p : Program} {e : Env} {s : State} {m : MethodId} {below : List Frame} {meth : Method} {c : Code} {Q : State → Prop} {G : th_G} {Γ : th_Ga} {ax am b L n : Nat} {xs : Nat → Int32} {ls : Array Slot} (l : Launch) (hE : lw_E p s m c b L xs G Γ ax am) (hL : L ≤ 384) (hn : n + 6 ≤ L) (hl : lv_has ls 4 [(3, .int (nI n)), (2, .ref am), (1, .ref ax), (0, .ref b)]) (hk : dv_U Γ ∧ lw_AR Γ ax) {u : Nat} {H : Heap} {locs : List Loc} (hJ : lw_J G Γ am s H locs u) (hq : RR (lw_A ax) (am : Int) (dv G Γ H) (dv G Γ H)) (kk : ∀ (u1 : Nat) (H1 : Heap) (locs1 : List Loc), lw_J G Γ am s H1 locs1 u1 → RR (lw_A ax) (am : Int) (dv G Γ H1) (dv G Γ H1) → W p l e room_1 s m #[Value.ref b] below meth c H1 locs1 (600000 - th_pc u1) (7302250 - th_pq u1) Q (F0 m 1239 ls [])) : W p l e room_1 s m #[Value.ref b] below meth c H locs (600000 - th_pc u) (7302250 - th_pq u) Q (F0 m 560 ls []) := by
  have hx := hE.1.1
  have hb := hE.1.2.1
  have hax := hE.2.2.2.2.2.1
  have ham := hE.2.2.2.2.2.2.1
  have hU := hk.1
  have hA := hk.2
  refine lv_aload_n hx hb dL_law_560 rfl (lv_at hl 2 rfl) ?_
  refine lw_call (pc' := 564) (k := 1) (P := (fun w K => ∃ r : Int32, w = .int r ∧ f_X11_law (dv G Γ H) (ax : Int) = ((dv G Γ K), r.toInt) ∧ wf (am : Int) nW (dv G Γ H) (dv G Γ K))) hJ (th_runVX (As := []) (rest := []) th_mvZ (th_Z_k hE.2.2.1 hJ.2.2.2) hE.1 mf_X11_law kl_59 im_X11_law se_X11_law (c_X11_law l G Γ H hJ.1 hJ.2.1.1 hU ax hax hE.2.2.2.2.2.2.2) rfl rfl ⟨Nat.le_of_ble_eq_true rfl, Nat.le_of_ble_eq_true rfl⟩ hJ.1 hax ro_42 rfl rfl hl.1 rfl (Nat.le_of_ble_eq_true rfl) dL_law_561 ⟨lw_f1 _, lw_f2 _⟩) (fun v K hp => by obtain ⟨r, rfl, hI1, hF1, hR1, hf1⟩ := hp; exact ⟨_, rfl, rfl, hI1, th_RN_c hR1 hJ.2.1 hI1 ham hF1 (by decide), th_bits_F hF1 hJ.2.2.1 (by decide), ⟨r, rfl, hf1, lw_wf hJ.1 hI1 hF1 ham (by decide +kernel)⟩⟩) rfl (fun w1 H1 locs hc1 hJ1 hP1 => ?_)
  obtain ⟨r1, rfl, e1, g1⟩ := hP1
  refine lv_pop hx hb dL_law_564 hc1 ?_
  refine lv_aload_n hx hb dL_law_565 rfl (lv_at hl 1 rfl) ?_
  refine lw_call (pc' := 569) (k := 1) (P := (fun w K => ∃ r : Int32, w = .int r ∧ f_X12_law (dv G Γ H1) (am : Int) = ((dv G Γ K), r.toInt) ∧ cf (lw_A ax) nV (dv G Γ H1) (dv G Γ K))) hJ1 (th_runV (As := []) (rest := []) hE.1 mf_X12_law kl_62 im_X12_law se_X12_law (c_X12_law l G Γ H1 hJ1.1 hU am ham hJ1.2.1) rfl rfl ⟨Nat.le_of_ble_eq_true rfl, Nat.le_of_ble_eq_true rfl⟩ hJ1.1 ham ro_46 rfl rfl hl.1 rfl (Nat.le_of_ble_eq_true rfl) dL_law_566 ⟨lw_f1 _, lw_f2 _⟩) (fun v K hp => by obtain ⟨r, rfl, hI1, hF1, hR1, hf1⟩ := hp; exact ⟨_, rfl, rfl, hI1, hR1, th_bits_F hF1 hJ1.2.2.1 (by decide), ⟨r, rfl, hf1, lw_cf hJ1.1 hI1 hF1 hA (by decide +kernel)⟩⟩) rfl (fun w2 H2 locs hc2 hJ2 hP2 => ?_)
  obtain ⟨r2, rfl, e2, f2⟩ := hP2
  refine lv_pop hx hb dL_law_569 hc2 ?_
  have hg := glue (r1 := r1.toInt) (r2 := r2.toInt) (fV := fun V => f_X11_law V (lw_A ax 0)) (fW := fun V => f_X12_law V (am : Int)) hq (fun V h => L_law h) (by rw [lw_A0]; exact e1) g1 e2 f2
  exact lv_goto (tgt := 1239) hx hb dL_law_570 (by decide) (kk u _ locs hJ2 hg.2)
