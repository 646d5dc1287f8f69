set_option maxHeartbeats 4000000 in
set_option maxRecDepth 100000 in
theorem c_X11_ways_S (l : Launch) (G : th_G) (Γ : th_Ga) (H0 : Heap) (hI : th_I G Γ H0) (hR : th_RC G Γ H0) (hU : dv_U Γ) (a0 : Nat) (h0 : Γ a0 = (42, 0)) (hP8 : ∀ x y : Int, th_pm G x y) (gA : Nat → Int) (ga gsa gt : Int) (gM : Int → Prop) (gW : dV) (hR8 : RS gA ga gsa gt gM (dv G Γ H0) gW) (hA8 : gA 0 = (a0 : Int)) (hM8 : ∀ b : Int, gM b ↔ ∃ a o : Nat, b = (a : Int) ∧ Γ a = (12, o)) (hT8 : gt + 100 < 2147483647) (u0 : Nat) (hu0 : th_bits G Γ H0 u0) : Met l yX11_ways (.code yX11_ways cX11_ways 1 (some FieldType.int) :: th_tb) ({ frames := 16, cells := (th_pc u0), slots := (th_pq u0), locals := 451 } : Room) (th_P [.ref a0] G H0) (th_Q (fun (v : Option Value) (H1 : Heap) => ∃ r : Int32, v = some (.int r) ∧ th_I G Γ H1 ∧ th_F G Γ [(24, 0), (23, 3), (26, 0), (25, 0), (28, 0), (29, 0), (12, 0), (12, 1), (12, 2), (12, 3), (12, 4), (12, 5), (12, 6), (31, 0), (27, 5), (27, 6), (27, 7), (27, 8), (27, 9), (27, 10), (27, 11), (27, 12), (27, 13), (10, 0)] H0 H1 ∧ th_RC G Γ H1 ∧ (RS gA ga gsa (gt + 100) gM (dv G Γ H1) gW) ∧ (r.toInt = rN (dv G Γ H0 (gA 4)) (prW gW ga) noag) ∧ th_bp G Γ H0 H1 u0) G) (th_pc u0) (th_pq u0) (fun q => G.1.2.2 ≤ q) := by
  refine th_met RX11 (by decide) rfl (Nat.le_of_ble_eq_true rfl) ?_
  intro p e s m below meth c hC hH hr hlocks hnm ls hl
  have hx := hC.1
  have hb := hC.2.1
  have hB : th_B G Γ Γ [(24, 0), (23, 3), (26, 0), (25, 0), (28, 0), (29, 0), (12, 0), (12, 1), (12, 2), (12, 3), (12, 4), (12, 5), (12, 6), (31, 0), (27, 5), (27, 6), (27, 7), (27, 8), (27, 9), (27, 10), (27, 11), (27, 12), (27, 13), (10, 0)] H0 H0 [] := ⟨hI, va_S.rf, th_F_rf⟩
  have hl : lv_has ls 1 [(0, .ref a0)] := hl
  have ku0 : th_pc u0 ≤ th_pc u0 ∧ th_pq u0 ≤ th_pq u0 := ⟨Nat.le_refl _, Nat.le_refl _⟩
  refine W.widen (k := th_pc u0 - th_pc u0) (n := th_pq u0 - th_pq u0) (Nat.zero_le _) (Nat.zero_le _) ?_
  refine lv_aload_n hx hb gX11_ways_0.1 rfl (lv_at hl 0 rfl) ?_
  refine th_getR (j := 11) (r2 := 27) hC cf_X11 hB.1 h0 ro_42 rfl rfl kf_X11_79 gX11_ways_0.2.1 (fun b1 mb1 hb1 => ?_)
  obtain rfl : gsa = (b1 : Int) := (RS_ad hR8).2.2.2.2.symm.trans (by rw [hA8]; exact dv_getR h0 ro_42 (j := 11) rfl mb1 (by decide))
  refine lv_aload_n hx hb gX11_ways_0.2.2.1 rfl (lv_at hl 0 rfl) ?_
  refine th_getR (j := 0) (r2 := 32) hC cf_X11 hB.1 h0 ro_42 rfl rfl kf_X11_12 gX11_ways_0.2.2.2.1 (fun b2 mb2 hb2 => ?_)
  have e2 : gA 1 = (b2 : Int) := (RS_ad hR8).1.symm.trans (by rw [hA8]; exact dv_getR h0 ro_42 (j := 0) rfl mb2 (by decide))
  refine th_getR (j := 0) (r2 := 3) hC cf_X8 hB.1 hb2 ro_32 rfl rfl kf_X11_107 gX11_ways_0.2.2.2.2.1 (fun b3 mb3 hb3 => ?_)
  have e3 : gA 4 = (b3 : Int) := (RS_ad hR8).2.1.symm.trans (by rw [e2]; exact dv_getR hb2 ro_32 (j := 0) rfl mb3 (by decide))
  refine lv_aload_n hx hb gX11_ways_0.2.2.2.2.2.1 rfl (lv_at hl 0 rfl) ?_
  refine th_getK hC cf_X11 hB.1 h0 ro_42 rfl (j := 0) (by decide) mb2 kf_X11_12 gX11_ways_0.2.2.2.2.2.2.1 ?_
  refine th_call (th_runV (As := []) (rest := [.ref b3, .ref b1]) hC mf_X8_forcedLaw km_X11_143 im_X8_forcedLaw se_X8_forcedLaw (c_X8_forcedLaw l G Γ H0 hB.1 hU b2 hb2) rfl rfl ⟨Nat.le_of_ble_eq_true rfl, Nat.le_of_ble_eq_true rfl⟩ hB.1 hb2 ro_32 rfl rfl hl.1 rfl (Nat.le_of_ble_eq_true rfl) gX11_ways_0.2.2.2.2.2.2.2 ⟨by dsimp only; omega, by dsimp only; omega⟩) hB.2.1 (fun v15 H15 locs hp hz hS => ?_)
  obtain ⟨v4, rfl, hv4, q15_0, rfl⟩ := hp
  have hB := th_B_s hB hS
  refine W.eq (g2 := F0 m 18 ls [v4, .ref b3, .ref b1]) rfl ?_
  have hl9 : f_X8_forcedLaw (dv G Γ H0) (gA 1) = ((dv_iv v4), ()) := by rw [e2]; exact q15_0
  refine lv_aload_n hx hb gX11_ways_1.1 rfl (lv_at hl 0 rfl) ?_
  refine th_getR (j := 9) (r2 := 11) hC cf_X11 hB.1 h0 ro_42 rfl rfl kf_X11_65 gX11_ways_1.2.1 (fun b5 mb5 hb5 => ?_)
  have e5 : gA 13 = (b5 : Int) := (RS_ad hR8).2.2.2.1.symm.trans (by rw [hA8]; exact dv_getR h0 ro_42 (j := 9) rfl mb5 (by decide))
  refine th_call (th_runV (As := [.ref b3, v4, .ref b5]) (rest := []) hC mf_X7_prepare km_X11_255 im_X7_prepare se_X7_prepare (c_X7_prepare l G Γ H0 hB.1 hR hU b1 hb1 b3 hb3 v4 hv4 b5 hb5) rfl rfl ⟨Nat.le_of_ble_eq_true rfl, Nat.le_of_ble_eq_true rfl⟩ hB.1 hb1 ro_27 rfl rfl hl.1 rfl (Nat.le_of_ble_eq_true rfl) gX11_ways_1.2.2.1 ⟨by dsimp only; omega, by dsimp only; omega⟩) hB.2.1 (fun v22 H22 locs hp hz hS => ?_)
  obtain ⟨rfl, hI1, hf, hR, z22_0, z22_1, z22_2⟩ := hp
  have hB := th_B_c hB hI1 hS hf (by decide)
  have mm6 := (th_F_o hf h0 ro_42 (j := 11) (by decide) (by decide)).trans mb1
  have mm7 := (th_F_o hf h0 ro_42 (j := 0) (by decide) (by decide)).trans mb2
  have mu8 := th_bits_F hf hu0 (by decide)
  refine W.eq (g2 := F0 m 25 ls []) rfl ?_
  have hp9 : f_X7_prepare (dv G Γ H0) (b1 : Int) (gA 4) (dv_iv v4) (gA 13) = (dv G Γ H22, 0) := by rw [e3, e5]; exact z22_2
  obtain ⟨hb9, hs9, hd9⟩ := p_all hR8 (by omega) (JX_lx (RR_JX hR8.1) hl9).2 (law_lx hR8.1 (forced_lx hl9)) (Or.inl rfl) (RR_n hR8.1).1 fsm_r hp9
  refine lv_aload_n hx hb gX11_ways_1.2.2.2.1 rfl (lv_at hl 0 rfl) ?_
  refine th_getK hC cf_X11 hB.1 h0 ro_42 rfl (j := 11) (by decide) mm6 kf_X11_79 gX11_ways_1.2.2.2.2.1 ?_
  refine lv_ldcw (v := 1000000000) hx hb hC.2.2.2.1 (hC.2.2.2.2.1 _ kw_999) gX11_ways_1.2.2.2.2.2.1 ?_
  refine W.count (fun hc1 hc2 => ?_)
  refine th_call (th_runV (As := [.int 1000000000]) (rest := []) hC mf_X7_number km_X11_259 im_X7_number se_X7_number (c_X7_number_S l G Γ H22 hB.1 hR hU b1 hb1 1000000000 ⟨_, z22_0, hb5⟩ ⟨_, z22_1, hb3⟩ (xM gM (gA 14)) (fun a o q m z => Or.inl ((hM8 _).mpr ⟨a, o, rfl, q⟩)) (fun m z => xM_n hR8.2.2.1.1 (Ne.symm (hR8.2.1.2.2 14 (by decide)))) (gA 4) (-1) _ _ _ (hs9 0 _) hb9 (by first | exact (by decide) | omega) hP8 u0 mu8) rfl rfl ⟨Nat.le_of_ble_eq_true rfl, Nat.le_of_ble_eq_true rfl⟩ hB.1 hb1 ro_27 rfl rfl hl.1 rfl (Nat.le_of_ble_eq_true rfl) gX11_ways_1.2.2.2.2.2.2.1 ⟨by dsimp only; omega, by dsimp only; omega⟩) hB.2.1 (fun v32 H32 locs hp hz hS => ?_)
  obtain ⟨x9, rfl, hI1, hf, hR, z32_0, ⟨u32, hu32, ka32, kb32, kc32, kd32⟩⟩ := hp
  have hB := th_B_c hB hI1 hS hf (by decide)
  have mm10 := (th_F_o hf h0 ro_42 (j := 11) (by decide) (by decide)).trans mm6
  have mm11 := (th_F_o hf h0 ro_42 (j := 0) (by decide) (by decide)).trans mm7
  have mm12 := (th_F_o hf hb1 ro_27 (j := 7) (by decide) (by decide)).trans z22_0
  have mm13 := (th_F_o hf hb1 ro_27 (j := 8) (by decide) (by decide)).trans z22_1
  have ku32 : th_pc u32 ≤ th_pc u0 ∧ th_pq u32 ≤ th_pq u0 := by omega
  refine W.tight (k := th_pc u0 - th_pc u32) (n := th_pq u0 - th_pq u32) (by omega) (by omega) ?_
  refine W.eq (g2 := F0 m 35 ls [.int x9]) rfl ?_
  obtain ⟨U9, u1, u2, u3⟩ := z32_0
  have r1_32 := (hd9 0 _ U9 _ _ u1 u2 u3).1
  have r3_32 := (hd9 0 _ U9 _ _ u1 u2 u3).2.2
  refine W.count (fun hc1 hc2 => ?_)
  rw [hH] at hc1 hc2
  refine W.widen (k := th_pc u0) (n := th_pq u0) (Nat.sub_le _ _) (Nat.sub_le _ _) ?_
  exact th_iret hC hH hr hlocks rfl hB.2.1 ⟨_, rfl, hB.1, hB.2.2, hR, RS_m r1_32 (by omega), ((r3_32.1 rfl).1 (by have w1 := (rN_b (pr := prW gW ga) (ag := noag) (RR_n hR8.1).1.1).2; have w2 : (1000000000 : Int32).toInt = 1000000000 := rfl; omega)), ⟨u32, hu32, ku32.1, ku32.2, by omega, by omega⟩⟩ gX11_ways_1.2.2.2.2.2.2.2

set_option maxHeartbeats 4000000 in
set_option maxRecDepth 100000 in
theorem c_X11_cheapest_S (l : Launch) (G : th_G) (Γ : th_Ga) (H0 : Heap) (hI : th_I G Γ H0) (hR : th_RC G Γ H0) (hU : dv_U Γ) (a0 : Nat) (h0 : Γ a0 = (42, 0)) (hP8 : ∀ x y : Int, th_pm G x y) (gA : Nat → Int) (ga gsa gt : Int) (gM : Int → Prop) (gW : dV) (hR8 : RS gA ga gsa gt gM (dv G Γ H0) gW) (hA8 : gA 0 = (a0 : Int)) (hM8 : ∀ b : Int, gM b ↔ ∃ a o : Nat, b = (a : Int) ∧ Γ a = (12, o)) (hT8 : gt + 100 < 2147483647) (u0 : Nat) (hu0 : th_bits G Γ H0 u0) : Met l yX11_cheapest (.code yX11_cheapest cX11_cheapest 1 (some FieldType.int) :: th_tb) ({ frames := 16, cells := (th_pc u0), slots := (th_pq u0), locals := 450 } : Room) (th_P [.ref a0] G H0) (th_Q (fun (v : Option Value) (H1 : Heap) => ∃ r : Int32, v = some (.int r) ∧ th_I G Γ H1 ∧ th_F G Γ [(24, 0), (23, 3), (26, 0), (25, 0), (28, 0), (29, 0), (12, 0), (12, 1), (12, 2), (12, 3), (12, 4), (12, 5), (12, 6), (31, 0), (27, 5), (27, 6), (27, 7), (27, 8), (27, 9), (27, 10), (27, 11), (27, 12), (27, 13), (10, 0)] H0 H1 ∧ th_RC G Γ H1 ∧ (RS gA ga gsa (gt + 100) gM (dv G Γ H1) gW) ∧ (r.toInt = rL (dv G Γ H0 (gA 4)) (prW gW ga) noag) ∧ th_bp G Γ H0 H1 u0) G) (th_pc u0) (th_pq u0) (fun q => G.1.2.2 ≤ q) := by
  refine th_met RX11 (by decide) rfl (Nat.le_of_ble_eq_true rfl) ?_
  intro p e s m below meth c hC hH hr hlocks hnm ls hl
  have hx := hC.1
  have hb := hC.2.1
  have hB : th_B G Γ Γ [(24, 0), (23, 3), (26, 0), (25, 0), (28, 0), (29, 0), (12, 0), (12, 1), (12, 2), (12, 3), (12, 4), (12, 5), (12, 6), (31, 0), (27, 5), (27, 6), (27, 7), (27, 8), (27, 9), (27, 10), (27, 11), (27, 12), (27, 13), (10, 0)] H0 H0 [] := ⟨hI, va_S.rf, th_F_rf⟩
  have hl : lv_has ls 1 [(0, .ref a0)] := hl
  have ku0 : th_pc u0 ≤ th_pc u0 ∧ th_pq u0 ≤ th_pq u0 := ⟨Nat.le_refl _, Nat.le_refl _⟩
  refine W.widen (k := th_pc u0 - th_pc u0) (n := th_pq u0 - th_pq u0) (Nat.zero_le _) (Nat.zero_le _) ?_
  refine lv_aload_n hx hb gX11_cheapest_0.1 rfl (lv_at hl 0 rfl) ?_
  refine th_getR (j := 11) (r2 := 27) hC cf_X11 hB.1 h0 ro_42 rfl rfl kf_X11_79 gX11_cheapest_0.2.1 (fun b1 mb1 hb1 => ?_)
  obtain rfl : gsa = (b1 : Int) := (RS_ad hR8).2.2.2.2.symm.trans (by rw [hA8]; exact dv_getR h0 ro_42 (j := 11) rfl mb1 (by decide))
  refine lv_aload_n hx hb gX11_cheapest_0.2.2.1 rfl (lv_at hl 0 rfl) ?_
  refine th_getR (j := 0) (r2 := 32) hC cf_X11 hB.1 h0 ro_42 rfl rfl kf_X11_12 gX11_cheapest_0.2.2.2.1 (fun b2 mb2 hb2 => ?_)
  have e2 : gA 1 = (b2 : Int) := (RS_ad hR8).1.symm.trans (by rw [hA8]; exact dv_getR h0 ro_42 (j := 0) rfl mb2 (by decide))
  refine th_getR (j := 0) (r2 := 3) hC cf_X8 hB.1 hb2 ro_32 rfl rfl kf_X11_107 gX11_cheapest_0.2.2.2.2.1 (fun b3 mb3 hb3 => ?_)
  have e3 : gA 4 = (b3 : Int) := (RS_ad hR8).2.1.symm.trans (by rw [e2]; exact dv_getR hb2 ro_32 (j := 0) rfl mb3 (by decide))
  refine lv_aload_n hx hb gX11_cheapest_0.2.2.2.2.2.1 rfl (lv_at hl 0 rfl) ?_
  refine th_getK hC cf_X11 hB.1 h0 ro_42 rfl (j := 0) (by decide) mb2 kf_X11_12 gX11_cheapest_0.2.2.2.2.2.2.1 ?_
  refine th_call (th_runV (As := []) (rest := [.ref b3, .ref b1]) hC mf_X8_forcedLaw km_X11_143 im_X8_forcedLaw se_X8_forcedLaw (c_X8_forcedLaw l G Γ H0 hB.1 hU b2 hb2) rfl rfl ⟨Nat.le_of_ble_eq_true rfl, Nat.le_of_ble_eq_true rfl⟩ hB.1 hb2 ro_32 rfl rfl hl.1 rfl (Nat.le_of_ble_eq_true rfl) gX11_cheapest_0.2.2.2.2.2.2.2 ⟨by dsimp only; omega, by dsimp only; omega⟩) hB.2.1 (fun v15 H15 locs hp hz hS => ?_)
  obtain ⟨v4, rfl, hv4, q15_0, rfl⟩ := hp
  have hB := th_B_s hB hS
  refine W.eq (g2 := F0 m 18 ls [v4, .ref b3, .ref b1]) rfl ?_
  have hl9 : f_X8_forcedLaw (dv G Γ H0) (gA 1) = ((dv_iv v4), ()) := by rw [e2]; exact q15_0
  refine lv_aload_n hx hb gX11_cheapest_1.1 rfl (lv_at hl 0 rfl) ?_
  refine th_getR (j := 9) (r2 := 11) hC cf_X11 hB.1 h0 ro_42 rfl rfl kf_X11_65 gX11_cheapest_1.2.1 (fun b5 mb5 hb5 => ?_)
  have e5 : gA 13 = (b5 : Int) := (RS_ad hR8).2.2.2.1.symm.trans (by rw [hA8]; exact dv_getR h0 ro_42 (j := 9) rfl mb5 (by decide))
  refine th_call (th_runV (As := [.ref b3, v4, .ref b5]) (rest := []) hC mf_X7_prepare km_X11_255 im_X7_prepare se_X7_prepare (c_X7_prepare l G Γ H0 hB.1 hR hU b1 hb1 b3 hb3 v4 hv4 b5 hb5) rfl rfl ⟨Nat.le_of_ble_eq_true rfl, Nat.le_of_ble_eq_true rfl⟩ hB.1 hb1 ro_27 rfl rfl hl.1 rfl (Nat.le_of_ble_eq_true rfl) gX11_cheapest_1.2.2.1 ⟨by dsimp only; omega, by dsimp only; omega⟩) hB.2.1 (fun v22 H22 locs hp hz hS => ?_)
  obtain ⟨rfl, hI1, hf, hR, z22_0, z22_1, z22_2⟩ := hp
  have hB := th_B_c hB hI1 hS hf (by decide)
  have mm6 := (th_F_o hf h0 ro_42 (j := 11) (by decide) (by decide)).trans mb1
  have mm7 := (th_F_o hf h0 ro_42 (j := 0) (by decide) (by decide)).trans mb2
  have mu8 := th_bits_F hf hu0 (by decide)
  refine W.eq (g2 := F0 m 25 ls []) rfl ?_
  have hp9 : f_X7_prepare (dv G Γ H0) (b1 : Int) (gA 4) (dv_iv v4) (gA 13) = (dv G Γ H22, 0) := by rw [e3, e5]; exact z22_2
  obtain ⟨hb9, hs9, hd9⟩ := p_all hR8 (by omega) (JX_lx (RR_JX hR8.1) hl9).2 (law_lx hR8.1 (forced_lx hl9)) (Or.inl rfl) (RR_n hR8.1).1 fsm_r hp9
  refine lv_aload_n hx hb gX11_cheapest_1.2.2.2.1 rfl (lv_at hl 0 rfl) ?_
  refine th_getK hC cf_X11 hB.1 h0 ro_42 rfl (j := 11) (by decide) mm6 kf_X11_79 gX11_cheapest_1.2.2.2.2.1 ?_
  refine W.count (fun hc1 hc2 => ?_)
  refine th_call (th_runV (As := []) (rest := []) hC mf_X7_leastCost km_X11_269 im_X7_leastCost se_X7_leastCost (c_X7_leastCost_S l G Γ H22 hB.1 hR hU b1 hb1 ⟨_, z22_0, hb5⟩ ⟨_, z22_1, hb3⟩ (xM gM (gA 14)) (fun a o q m z => Or.inl ((hM8 _).mpr ⟨a, o, rfl, q⟩)) (fun m z => xM_n hR8.2.2.1.1 (Ne.symm (hR8.2.1.2.2 14 (by decide)))) (gA 4) (-1) _ _ _ (hs9 1 1) hb9 (by first | exact (by decide) | omega) hP8 u0 mu8) rfl rfl ⟨Nat.le_of_ble_eq_true rfl, Nat.le_of_ble_eq_true rfl⟩ hB.1 hb1 ro_27 rfl rfl hl.1 rfl (Nat.le_of_ble_eq_true rfl) gX11_cheapest_1.2.2.2.2.2.1 ⟨by dsimp only; omega, by dsimp only; omega⟩) hB.2.1 (fun v29 H29 locs hp hz hS => ?_)
  obtain ⟨x9, rfl, hI1, hf, hR, z29_0, ⟨u29, hu29, ka29, kb29, kc29, kd29⟩⟩ := hp
  have hB := th_B_c hB hI1 hS hf (by decide)
  have mm10 := (th_F_o hf h0 ro_42 (j := 11) (by decide) (by decide)).trans mm6
  have mm11 := (th_F_o hf h0 ro_42 (j := 0) (by decide) (by decide)).trans mm7
  have mm12 := (th_F_o hf hb1 ro_27 (j := 7) (by decide) (by decide)).trans z22_0
  have mm13 := (th_F_o hf hb1 ro_27 (j := 8) (by decide) (by decide)).trans z22_1
  have ku29 : th_pc u29 ≤ th_pc u0 ∧ th_pq u29 ≤ th_pq u0 := by omega
  refine W.tight (k := th_pc u0 - th_pc u29) (n := th_pq u0 - th_pq u29) (by omega) (by omega) ?_
  refine W.eq (g2 := F0 m 32 ls [.int x9]) rfl ?_
  obtain ⟨U9, u1, u2, u3⟩ := z29_0
  have r1_29 := (hd9 1 1 U9 _ _ u1 u2 u3).1
  have r3_29 := (hd9 1 1 U9 _ _ u1 u2 u3).2.2
  refine W.count (fun hc1 hc2 => ?_)
  rw [hH] at hc1 hc2
  refine W.widen (k := th_pc u0) (n := th_pq u0) (Nat.sub_le _ _) (Nat.sub_le _ _) ?_
  exact th_iret hC hH hr hlocks rfl hB.2.1 ⟨_, rfl, hB.1, hB.2.2, hR, RS_m r1_29 (by omega), (r3_29.2 (by decide)), ⟨u29, hu29, ku29.1, ku29.2, by omega, by omega⟩⟩ gX11_cheapest_1.2.2.2.2.2.2

set_option maxHeartbeats 4000000 in
set_option maxRecDepth 100000 in
theorem c_X11_fill_S (l : Launch) (G : th_G) (Γ : th_Ga) (H0 : Heap) (hI : th_I G Γ H0) (hR : th_RC G Γ H0) (hU : dv_U Γ) (a0 : Nat) (h0 : Γ a0 = (42, 0)) (p1 : Int32) (hP8 : ∀ x y : Int, th_pm G x y) (gA : Nat → Int) (ga gsa gt : Int) (gM : Int → Prop) (gW : dV) (hR8 : RS gA ga gsa gt gM (dv G Γ H0) gW) (hA8 : gA 0 = (a0 : Int)) (hM8 : ∀ b : Int, gM b ↔ ∃ a o : Nat, b = (a : Int) ∧ Γ a = (12, o)) (hT8 : gt + 100 < 2147483647) (u0 : Nat) (hu0 : th_bits G Γ H0 u0) : Met l yX11_fill (.code yX11_fill cX11_fill 2 (some FieldType.int) :: th_tb) ({ frames := 16, cells := (th_pc u0), slots := (th_pq u0), locals := 451 } : Room) (th_P [.ref a0, .int p1] G H0) (th_Q (fun (v : Option Value) (H1 : Heap) => ∃ r : Int32, v = some (.int r) ∧ th_I G Γ H1 ∧ th_F G Γ [(24, 0), (23, 3), (26, 0), (25, 0), (28, 0), (29, 0), (12, 0), (12, 1), (12, 2), (12, 3), (12, 4), (12, 5), (12, 6), (31, 0), (27, 5), (27, 6), (27, 7), (27, 8), (27, 9), (27, 10), (27, 11), (27, 12), (27, 13), (10, 0)] H0 H1 ∧ th_RC G Γ H1 ∧ (RS gA ga gsa (gt + 100) gM (dv G Γ H1) gW) ∧ th_bp G Γ H0 H1 u0) G) (th_pc u0) (th_pq u0) (fun q => G.1.2.2 ≤ q) := by
  refine th_met RX11 (by decide) rfl (Nat.le_of_ble_eq_true rfl) ?_
  intro p e s m below meth c hC hH hr hlocks hnm ls hl
  have hx := hC.1
  have hb := hC.2.1
  have hB : th_B G Γ Γ [(24, 0), (23, 3), (26, 0), (25, 0), (28, 0), (29, 0), (12, 0), (12, 1), (12, 2), (12, 3), (12, 4), (12, 5), (12, 6), (31, 0), (27, 5), (27, 6), (27, 7), (27, 8), (27, 9), (27, 10), (27, 11), (27, 12), (27, 13), (10, 0)] H0 H0 [] := ⟨hI, va_S.rf, th_F_rf⟩
  have hl : lv_has ls 2 [(0, .ref a0), (1, .int p1)] := hl
  have lp1 := ti_lo p1; have up1 := ti_hi p1
  have ku0 : th_pc u0 ≤ th_pc u0 ∧ th_pq u0 ≤ th_pq u0 := ⟨Nat.le_refl _, Nat.le_refl _⟩
  refine W.widen (k := th_pc u0 - th_pc u0) (n := th_pq u0 - th_pq u0) (Nat.zero_le _) (Nat.zero_le _) ?_
  refine lv_aload_n hx hb gX11_fill_0.1 rfl (lv_at hl 0 rfl) ?_
  refine th_getR (j := 11) (r2 := 27) hC cf_X11 hB.1 h0 ro_42 rfl rfl kf_X11_79 gX11_fill_0.2.1 (fun b1 mb1 hb1 => ?_)
  obtain rfl : gsa = (b1 : Int) := (RS_ad hR8).2.2.2.2.symm.trans (by rw [hA8]; exact dv_getR h0 ro_42 (j := 11) rfl mb1 (by decide))
  refine lv_aload_n hx hb gX11_fill_0.2.2.1 rfl (lv_at hl 0 rfl) ?_
  refine th_getR (j := 0) (r2 := 32) hC cf_X11 hB.1 h0 ro_42 rfl rfl kf_X11_12 gX11_fill_0.2.2.2.1 (fun b2 mb2 hb2 => ?_)
  have e2 : gA 1 = (b2 : Int) := (RS_ad hR8).1.symm.trans (by rw [hA8]; exact dv_getR h0 ro_42 (j := 0) rfl mb2 (by decide))
  refine th_getR (j := 0) (r2 := 3) hC cf_X8 hB.1 hb2 ro_32 rfl rfl kf_X11_107 gX11_fill_0.2.2.2.2.1 (fun b3 mb3 hb3 => ?_)
  have e3 : gA 4 = (b3 : Int) := (RS_ad hR8).2.1.symm.trans (by rw [e2]; exact dv_getR hb2 ro_32 (j := 0) rfl mb3 (by decide))
  refine lv_aload_n hx hb gX11_fill_0.2.2.2.2.2.1 rfl (lv_at hl 0 rfl) ?_
  refine th_getK hC cf_X11 hB.1 h0 ro_42 rfl (j := 0) (by decide) mb2 kf_X11_12 gX11_fill_0.2.2.2.2.2.2.1 ?_
  refine th_call (th_runV (As := []) (rest := [.ref b3, .ref b1]) hC mf_X8_forcedLaw km_X11_143 im_X8_forcedLaw se_X8_forcedLaw (c_X8_forcedLaw l G Γ H0 hB.1 hU b2 hb2) rfl rfl ⟨Nat.le_of_ble_eq_true rfl, Nat.le_of_ble_eq_true rfl⟩ hB.1 hb2 ro_32 rfl rfl hl.1 rfl (Nat.le_of_ble_eq_true rfl) gX11_fill_0.2.2.2.2.2.2.2 ⟨by dsimp only; omega, by dsimp only; omega⟩) hB.2.1 (fun v15 H15 locs hp hz hS => ?_)
  obtain ⟨v4, rfl, hv4, q15_0, rfl⟩ := hp
  have hB := th_B_s hB hS
  refine W.eq (g2 := F0 m 18 ls [v4, .ref b3, .ref b1]) rfl ?_
  have hl9 : f_X8_forcedLaw (dv G Γ H0) (gA 1) = ((dv_iv v4), ()) := by rw [e2]; exact q15_0
  refine lv_aload_n hx hb gX11_fill_1.1 rfl (lv_at hl 0 rfl) ?_
  refine th_getR (j := 9) (r2 := 11) hC cf_X11 hB.1 h0 ro_42 rfl rfl kf_X11_65 gX11_fill_1.2.1 (fun b5 mb5 hb5 => ?_)
  have e5 : gA 13 = (b5 : Int) := (RS_ad hR8).2.2.2.1.symm.trans (by rw [hA8]; exact dv_getR h0 ro_42 (j := 9) rfl mb5 (by decide))
  refine th_call (th_runV (As := [.ref b3, v4, .ref b5]) (rest := []) hC mf_X7_prepare km_X11_255 im_X7_prepare se_X7_prepare (c_X7_prepare l G Γ H0 hB.1 hR hU b1 hb1 b3 hb3 v4 hv4 b5 hb5) rfl rfl ⟨Nat.le_of_ble_eq_true rfl, Nat.le_of_ble_eq_true rfl⟩ hB.1 hb1 ro_27 rfl rfl hl.1 rfl (Nat.le_of_ble_eq_true rfl) gX11_fill_1.2.2.1 ⟨by dsimp only; omega, by dsimp only; omega⟩) hB.2.1 (fun v22 H22 locs hp hz hS => ?_)
  obtain ⟨rfl, hI1, hf, hR, z22_0, z22_1, z22_2⟩ := hp
  have hB := th_B_c hB hI1 hS hf (by decide)
  have mm6 := (th_F_o hf h0 ro_42 (j := 11) (by decide) (by decide)).trans mb1
  have mm7 := (th_F_o hf h0 ro_42 (j := 0) (by decide) (by decide)).trans mb2
  have mu8 := th_bits_F hf hu0 (by decide)
  refine W.eq (g2 := F0 m 25 ls []) rfl ?_
  have hp9 : f_X7_prepare (dv G Γ H0) (b1 : Int) (gA 4) (dv_iv v4) (gA 13) = (dv G Γ H22, 0) := by rw [e3, e5]; exact z22_2
  obtain ⟨hb9, hs9, hd9⟩ := p_all hR8 (by omega) (JX_lx (RR_JX hR8.1) hl9).2 (law_lx hR8.1 (forced_lx hl9)) (Or.inl rfl) (RR_n hR8.1).1 fsm_r hp9
  refine lv_aload_n hx hb gX11_fill_1.2.2.2.1 rfl (lv_at hl 0 rfl) ?_
  refine th_getK hC cf_X11 hB.1 h0 ro_42 rfl (j := 11) (by decide) mm6 kf_X11_79 gX11_fill_1.2.2.2.2.1 ?_
  refine lv_iconst (v := 1) hx hb gX11_fill_1.2.2.2.2.2.1 (by decide) ?_
  refine W.count (fun hc1 hc2 => ?_)
  refine th_call (th_runV (As := [.int 1]) (rest := []) hC mf_X7_number km_X11_259 im_X7_number se_X7_number (c_X7_number_S l G Γ H22 hB.1 hR hU b1 hb1 1 ⟨_, z22_0, hb5⟩ ⟨_, z22_1, hb3⟩ (xM gM (gA 14)) (fun a o q m z => Or.inl ((hM8 _).mpr ⟨a, o, rfl, q⟩)) (fun m z => xM_n hR8.2.2.1.1 (Ne.symm (hR8.2.1.2.2 14 (by decide)))) (gA 4) (-1) _ _ _ (hs9 0 _) hb9 (by first | exact (by decide) | omega) hP8 u0 mu8) rfl rfl ⟨Nat.le_of_ble_eq_true rfl, Nat.le_of_ble_eq_true rfl⟩ hB.1 hb1 ro_27 rfl rfl hl.1 rfl (Nat.le_of_ble_eq_true rfl) gX11_fill_1.2.2.2.2.2.2.1 ⟨by dsimp only; omega, by dsimp only; omega⟩) hB.2.1 (fun v30 H30 locs hp hz hS => ?_)
  obtain ⟨x9, rfl, hI1, hf, hR, z30_0, ⟨u30, hu30, ka30, kb30, kc30, kd30⟩⟩ := hp
  have hB := th_B_c hB hI1 hS hf (by decide)
  have mm10 := (th_F_o hf h0 ro_42 (j := 11) (by decide) (by decide)).trans mm6
  have mm11 := (th_F_o hf h0 ro_42 (j := 0) (by decide) (by decide)).trans mm7
  have mm12 := (th_F_o hf hb1 ro_27 (j := 7) (by decide) (by decide)).trans z22_0
  have mm13 := (th_F_o hf hb1 ro_27 (j := 8) (by decide) (by decide)).trans z22_1
  have ku30 : th_pc u30 ≤ th_pc u0 ∧ th_pq u30 ≤ th_pq u0 := by omega
  refine W.tight (k := th_pc u0 - th_pc u30) (n := th_pq u0 - th_pq u30) (by omega) (by omega) ?_
  refine W.eq (g2 := F0 m 33 ls [.int x9]) rfl ?_
  obtain ⟨U9, u1, u2, u3⟩ := z30_0
  have r1_30 := (hd9 0 _ U9 _ _ u1 u2 u3).1
  have r3_30 := (hd9 0 _ U9 _ _ u1 u2 u3).2.2
  refine tr_if_ne (tgt := 38) hx hb gX11_fill_1.2.2.2.2.2.2.2 (by decide) (Eq.refl _) (fun c33 => ?_) (fun c33 => ?_)
  · refine lv_iload_n hx hb gX11_fill_2.2.2.1 rfl (lv_at hl 1 rfl) ?_
    refine lv_iconst (v := (-1)) hx hb gX11_fill_2.2.2.2.1 (by decide) ?_
    refine tr_icmp_ne (tgt := 53) hx hb gX11_fill_2.2.2.2.2.1 (by decide) (Eq.refl _) tk_m1 (fun c40 => ?_) (fun c40 => ?_)
    · refine lv_aload_n hx hb gX11_fill_3.2.1 rfl (lv_at hl 0 rfl) ?_
      refine th_getK hC cf_X11 hB.1 h0 ro_42 rfl (j := 11) (by decide) mm10 kf_X11_79 gX11_fill_3.2.2.1 ?_
      refine lv_iload_n hx hb gX11_fill_3.2.2.2.1 rfl (lv_at hl 1 rfl) ?_
      refine th_call (th_runV (As := [.int p1]) (rest := []) hC mf_X7_rowCarpet km_X11_265 im_X7_rowCarpet se_X7_rowCarpet (c_X7_rowCarpet l G Γ H30 hB.1 hU b1 hb1 p1) rfl rfl ⟨Nat.le_of_ble_eq_true rfl, Nat.le_of_ble_eq_true rfl⟩ hB.1 hb1 ro_27 rfl rfl hl.1 rfl (Nat.le_of_ble_eq_true rfl) gX11_fill_3.2.2.2.2.1 ⟨by dsimp only; omega, by dsimp only; omega⟩) hB.2.1 (fun v58 H58 locs hp hz hS => ?_)
      obtain ⟨x14, rfl, q58_0, rfl⟩ := hp
      have hB := th_B_s hB hS
      refine W.eq (g2 := F0 m 61 ls [.int x14]) rfl ?_
      refine W.count (fun hc1 hc2 => ?_)
      rw [hH] at hc1 hc2
      refine W.widen (k := th_pc u0) (n := th_pq u0) (Nat.sub_le _ _) (Nat.sub_le _ _) ?_
      exact th_iret hC hH hr hlocks rfl hB.2.1 ⟨_, rfl, hB.1, hB.2.2, hR, RS_m r1_30 (by omega), ⟨u30, hu30, ku30.1, ku30.2, by omega, by omega⟩⟩ gX11_fill_3.2.2.2.2.2
    · refine lv_aload_n hx hb gX11_fill_2.2.2.2.2.2.1 rfl (lv_at hl 0 rfl) ?_
      refine th_getK hC cf_X11 hB.1 h0 ro_42 rfl (j := 11) (by decide) mm10 kf_X11_79 gX11_fill_2.2.2.2.2.2.2.1 ?_
      refine th_call (th_runV (As := []) (rest := []) hC mf_X7_rowLength km_X11_262 im_X7_rowLength se_X7_rowLength (c_X7_rowLength l G Γ H30 hB.1 hU b1 hb1) rfl rfl ⟨Nat.le_of_ble_eq_true rfl, Nat.le_of_ble_eq_true rfl⟩ hB.1 hb1 ro_27 rfl rfl hl.1 rfl (Nat.le_of_ble_eq_true rfl) gX11_fill_2.2.2.2.2.2.2.2 ⟨by dsimp only; omega, by dsimp only; omega⟩) hB.2.1 (fun v47 H47 locs hp hz hS => ?_)
      obtain ⟨x15, rfl, q47_0, rfl⟩ := hp
      have hB := th_B_s hB hS
      refine W.eq (g2 := F0 m 50 ls [.int x15]) rfl ?_
      refine lv_goto (tgt := 61) hx hb gX11_fill_3.1 (by decide) ?_
      refine W.count (fun hc1 hc2 => ?_)
      rw [hH] at hc1 hc2
      refine W.widen (k := th_pc u0) (n := th_pq u0) (Nat.sub_le _ _) (Nat.sub_le _ _) ?_
      exact th_iret hC hH hr hlocks rfl hB.2.1 ⟨_, rfl, hB.1, hB.2.2, hR, RS_m r1_30 (by omega), ⟨u30, hu30, ku30.1, ku30.2, by omega, by omega⟩⟩ gX11_fill_3.2.2.2.2.2
  · refine lv_iconst (v := (-1)) hx hb gX11_fill_2.1 (by decide) ?_
    refine W.count (fun hc1 hc2 => ?_)
    rw [hH] at hc1 hc2
    refine W.widen (k := th_pc u0) (n := th_pq u0) (Nat.sub_le _ _) (Nat.sub_le _ _) ?_
    exact th_iret hC hH hr hlocks rfl hB.2.1 ⟨_, rfl, hB.1, hB.2.2, hR, RS_m r1_30 (by omega), ⟨u30, hu30, ku30.1, ku30.2, by omega, by omega⟩⟩ gX11_fill_2.2.1

set_option maxHeartbeats 4000000 in
set_option maxRecDepth 100000 in
theorem c_X11_compare_S (l : Launch) (G : th_G) (Γ : th_Ga) (H0 : Heap) (hI : th_I G Γ H0) (hR : th_RC G Γ H0) (hU : dv_U Γ) (a0 : Nat) (h0 : Γ a0 = (42, 0)) (p1 : Int32) (hP8 : ∀ x y : Int, th_pm G x y) (gA : Nat → Int) (ga gsa gt : Int) (gM : Int → Prop) (gW : dV) (hR8 : RS gA ga gsa gt gM (dv G Γ H0) gW) (hA8 : gA 0 = (a0 : Int)) (hM8 : ∀ b : Int, gM b ↔ ∃ a o : Nat, b = (a : Int) ∧ Γ a = (12, o)) (hT8 : gt + 100 < 2147483647) (u0 : Nat) (hu0 : th_bits G Γ H0 u0) : Met l yX11_compare (.code yX11_compare cX11_compare 3 (some FieldType.int) :: th_tb) ({ frames := 16, cells := (th_pc u0), slots := (th_pq u0), locals := 450 } : Room) (th_P [.ref a0, .int p1] G H0) (th_Q (fun (v : Option Value) (H1 : Heap) => ∃ r : Int32, v = some (.int r) ∧ th_I G Γ H1 ∧ th_F G Γ [(24, 0), (23, 3), (26, 0), (25, 0), (28, 0), (29, 0), (12, 0), (12, 1), (12, 2), (12, 3), (12, 4), (12, 5), (12, 6), (31, 0), (27, 5), (27, 6), (27, 7), (27, 8), (27, 9), (27, 10), (27, 11), (27, 12), (27, 13), (10, 0)] H0 H1 ∧ th_RC G Γ H1 ∧ (RS gA ga gsa (gt + 100) gM (dv G Γ H1) gW) ∧ ((-1 ≤ p1.toInt ∧ p1.toInt < gW ga 2 71 → r.toInt = rL (dv G Γ H0 (gA 4)) (prW (dv_u gW ga 2 72 p1.toInt) ga) noag) ∧ (¬ (-1 ≤ p1.toInt ∧ p1.toInt < gW ga 2 71) → r.toInt = -1)) ∧ th_bp G Γ H0 H1 u0) G) (th_pc u0) (th_pq u0) (fun q => G.1.2.2 ≤ q) := by
  refine th_met RX11 (by decide) rfl (Nat.le_of_ble_eq_true rfl) ?_
  intro p e s m below meth c hC hH hr hlocks hnm ls hl
  have hx := hC.1
  have hb := hC.2.1
  have hB : th_B G Γ Γ [(24, 0), (23, 3), (26, 0), (25, 0), (28, 0), (29, 0), (12, 0), (12, 1), (12, 2), (12, 3), (12, 4), (12, 5), (12, 6), (31, 0), (27, 5), (27, 6), (27, 7), (27, 8), (27, 9), (27, 10), (27, 11), (27, 12), (27, 13), (10, 0)] H0 H0 [] := ⟨hI, va_S.rf, th_F_rf⟩
  have hl : lv_has ls 3 [(0, .ref a0), (1, .int p1)] := hl
  have lp1 := ti_lo p1; have up1 := ti_hi p1
  have ku0 : th_pc u0 ≤ th_pc u0 ∧ th_pq u0 ≤ th_pq u0 := ⟨Nat.le_refl _, Nat.le_refl _⟩
  refine W.widen (k := th_pc u0 - th_pc u0) (n := th_pq u0 - th_pq u0) (Nat.zero_le _) (Nat.zero_le _) ?_
  refine lv_aload_n hx hb gX11_compare_0.1 rfl (lv_at hl 0 rfl) ?_
  refine th_getR (j := 0) (r2 := 32) hC cf_X11 hB.1 h0 ro_42 rfl rfl kf_X11_12 gX11_compare_0.2.1 (fun b1 mb1 hb1 => ?_)
  have e2 : gA 1 = (b1 : Int) := (RS_ad hR8).1.symm.trans (by rw [hA8]; exact dv_getR h0 ro_42 (j := 0) rfl mb1 (by decide))
  refine lv_iload_n hx hb gX11_compare_0.2.2.1 rfl (lv_at hl 1 rfl) ?_
  refine th_call (th_runV (As := [.int p1]) (rest := []) hC mf_X8_lawOf km_X11_226 im_X8_lawOf se_X8_lawOf (c_X8_lawOf l G Γ H0 hB.1 hU b1 hb1 p1) rfl rfl ⟨Nat.le_of_ble_eq_true rfl, Nat.le_of_ble_eq_true rfl⟩ hB.1 hb1 ro_32 rfl rfl hl.1 rfl (Nat.le_of_ble_eq_true rfl) gX11_compare_0.2.2.2.1 ⟨by dsimp only; omega, by dsimp only; omega⟩) hB.2.1 (fun v5 H5 locs hp hz hS => ?_)
  obtain ⟨v2, rfl, hv2, q5_0, rfl⟩ := hp
  have hB := th_B_s hB hS
  refine W.eq (g2 := F0 m 8 ls [v2]) rfl ?_
  have hl8 : f_X8_lawOf (dv G Γ H0) (gA 1) p1.toInt = (dv_iv v2, ()) := by rw [e2]; exact q5_0
  refine tr_vstore_n (lv' := [(2, v2), (0, .ref a0), (1, .int p1)]) hx hb gX11_compare_0.2.2.2.2.1 rfl hl (tr_qr hv2) (by decide) rfl (fun ls hl => ?_)
  refine lv_iload_n hx hb gX11_compare_0.2.2.2.2.2.1 rfl (lv_at hl 2 rfl) ?_
  refine lv_iconst (v := (-1)) hx hb gX11_compare_0.2.2.2.2.2.2.1 (by decide) ?_
  have jn20 : ∀ (locs : List Loc) (ls : Array Slot) , th_B G Γ Γ [(24, 0), (23, 3), (26, 0), (25, 0), (28, 0), (29, 0), (12, 0), (12, 1), (12, 2), (12, 3), (12, 4), (12, 5), (12, 6), (31, 0), (27, 5), (27, 6), (27, 7), (27, 8), (27, 9), (27, 10), (27, 11), (27, 12), (27, 13), (10, 0)] H0 H0 locs → lv_has ls 3 [(2, v2), (0, .ref a0)] → f_X8_lawOf (dv G Γ H0) (gA 1) p1.toInt = (dv_iv v2, ()) → p1.toInt = -1 ∨ dv_iv v2 ≠ -1 → W p l e ({ frames := 16, cells := (th_pc u0), slots := (th_pq u0), locals := 450 } : Room) s m ([.ref a0, .int p1] : List Value).toArray below meth c H0 locs (th_pc u0 - th_pc u0) (th_pq u0 - th_pq u0) (MQ below (th_Q (fun (v : Option Value) (H1 : Heap) => ∃ r : Int32, v = some (.int r) ∧ th_I G Γ H1 ∧ th_F G Γ [(24, 0), (23, 3), (26, 0), (25, 0), (28, 0), (29, 0), (12, 0), (12, 1), (12, 2), (12, 3), (12, 4), (12, 5), (12, 6), (31, 0), (27, 5), (27, 6), (27, 7), (27, 8), (27, 9), (27, 10), (27, 11), (27, 12), (27, 13), (10, 0)] H0 H1 ∧ th_RC G Γ H1 ∧ (RS gA ga gsa (gt + 100) gM (dv G Γ H1) gW) ∧ ((-1 ≤ p1.toInt ∧ p1.toInt < gW ga 2 71 → r.toInt = rL (dv G Γ H0 (gA 4)) (prW (dv_u gW ga 2 72 p1.toInt) ga) noag) ∧ (¬ (-1 ≤ p1.toInt ∧ p1.toInt < gW ga 2 71) → r.toInt = -1)) ∧ th_bp G Γ H0 H1 u0) G) ([.ref a0, .int p1] : List Value).toArray s (th_pc u0) (th_pq u0) (fun q => G.1.2.2 ≤ q)) (F0 m 20 ls []) := by
    intro locs ls hB hl g20_0 g20_1
    refine lv_aload_n hx hb gX11_compare_1.2.2.2.2.1 rfl (lv_at hl 1 rfl) ?_
    refine th_getR (j := 11) (r2 := 27) hC cf_X11 hB.1 h0 ro_42 rfl rfl kf_X11_79 gX11_compare_1.2.2.2.2.2.1 (fun b3 mb3 hb3 => ?_)
    obtain rfl : gsa = (b3 : Int) := (RS_ad hR8).2.2.2.2.symm.trans (by rw [hA8]; exact dv_getR h0 ro_42 (j := 11) rfl mb3 (by decide))
    refine lv_aload_n hx hb gX11_compare_1.2.2.2.2.2.2.1 rfl (lv_at hl 1 rfl) ?_
    refine th_getK hC cf_X11 hB.1 h0 ro_42 rfl (j := 0) (by decide) mb1 kf_X11_12 gX11_compare_1.2.2.2.2.2.2.2 ?_
    refine th_getR (j := 0) (r2 := 3) hC cf_X8 hB.1 hb1 ro_32 rfl rfl kf_X11_107 gX11_compare_2.1 (fun b4 mb4 hb4 => ?_)
    have e3 : gA 4 = (b4 : Int) := (RS_ad hR8).2.1.symm.trans (by rw [e2]; exact dv_getR hb1 ro_32 (j := 0) rfl mb4 (by decide))
    refine tr_vload_n hx hb gX11_compare_2.2.1 rfl (lv_at hl 0 rfl) (tr_qr hv2) ?_
    have hl9 : f_X8_lawOf (dv G Γ H0) (gA 1) p1.toInt = ((dv_iv v2), ()) := g20_0
    have hi9 : -1 ≤ p1.toInt ∧ p1.toInt < gW ga 2 71 := law_in hR8.1 hl9 g20_1
    refine lv_aload_n hx hb gX11_compare_2.2.2.1 rfl (lv_at hl 1 rfl) ?_
    refine th_getR (j := 9) (r2 := 11) hC cf_X11 hB.1 h0 ro_42 rfl rfl kf_X11_65 gX11_compare_2.2.2.2.1 (fun b5 mb5 hb5 => ?_)
    have e5 : gA 13 = (b5 : Int) := (RS_ad hR8).2.2.2.1.symm.trans (by rw [hA8]; exact dv_getR h0 ro_42 (j := 9) rfl mb5 (by decide))
    refine th_call (th_runV (As := [.ref b4, v2, .ref b5]) (rest := []) hC mf_X7_prepare km_X11_255 im_X7_prepare se_X7_prepare (c_X7_prepare l G Γ H0 hB.1 hR hU b3 hb3 b4 hb4 v2 hv2 b5 hb5) rfl rfl ⟨Nat.le_of_ble_eq_true rfl, Nat.le_of_ble_eq_true rfl⟩ hB.1 hb3 ro_27 rfl rfl hl.1 rfl (Nat.le_of_ble_eq_true rfl) gX11_compare_2.2.2.2.2.1 ⟨by dsimp only; omega, by dsimp only; omega⟩) hB.2.1 (fun v36 H36 locs hp hz hS => ?_)
    obtain ⟨rfl, hI1, hf, hR, z36_0, z36_1, z36_2⟩ := hp
    have hB := th_B_c hB hI1 hS hf (by decide)
    have mm6 := (th_F_o hf h0 ro_42 (j := 0) (by decide) (by decide)).trans mb1
    have mm7 := (th_F_o hf h0 ro_42 (j := 11) (by decide) (by decide)).trans mb3
    have mu8 := th_bits_F hf hu0 (by decide)
    refine W.eq (g2 := F0 m 39 ls []) rfl ?_
    have hp9 : f_X7_prepare (dv G Γ H0) (b3 : Int) (gA 4) (dv_iv v2) (gA 13) = (dv G Γ H36, 0) := by rw [e3, e5]; exact z36_2
    obtain ⟨hb9, hs9, hd9⟩ := p_all hR8 (by omega) (jd_fc hR8.1 hi9 hl9) (law_lx hR8.1 hl9) (Or.inl rfl) (RR_n hR8.1).1 fsm_r hp9
    refine lv_aload_n hx hb gX11_compare_2.2.2.2.2.2.1 rfl (lv_at hl 1 rfl) ?_
    refine th_getK hC cf_X11 hB.1 h0 ro_42 rfl (j := 11) (by decide) mm7 kf_X11_79 gX11_compare_2.2.2.2.2.2.2.1 ?_
    refine W.count (fun hc1 hc2 => ?_)
    refine th_call (th_runV (As := []) (rest := []) hC mf_X7_leastCost km_X11_269 im_X7_leastCost se_X7_leastCost (c_X7_leastCost_S l G Γ H36 hB.1 hR hU b3 hb3 ⟨_, z36_0, hb5⟩ ⟨_, z36_1, hb4⟩ (xM gM (gA 14)) (fun a o q m z => Or.inl ((hM8 _).mpr ⟨a, o, rfl, q⟩)) (fun m z => xM_n hR8.2.2.1.1 (Ne.symm (hR8.2.1.2.2 14 (by decide)))) (gA 4) (-1) _ _ _ (hs9 1 1) hb9 (by first | exact (by decide) | omega) hP8 u0 mu8) rfl rfl ⟨Nat.le_of_ble_eq_true rfl, Nat.le_of_ble_eq_true rfl⟩ hB.1 hb3 ro_27 rfl rfl hl.1 rfl (Nat.le_of_ble_eq_true rfl) gX11_compare_2.2.2.2.2.2.2.2 ⟨by dsimp only; omega, by dsimp only; omega⟩) hB.2.1 (fun v43 H43 locs hp hz hS => ?_)
    obtain ⟨x9, rfl, hI1, hf, hR, z43_0, ⟨u43, hu43, ka43, kb43, kc43, kd43⟩⟩ := hp
    have hB := th_B_c hB hI1 hS hf (by decide)
    have mm10 := (th_F_o hf h0 ro_42 (j := 0) (by decide) (by decide)).trans mm6
    have mm11 := (th_F_o hf h0 ro_42 (j := 11) (by decide) (by decide)).trans mm7
    have mm12 := (th_F_o hf hb3 ro_27 (j := 7) (by decide) (by decide)).trans z36_0
    have mm13 := (th_F_o hf hb3 ro_27 (j := 8) (by decide) (by decide)).trans z36_1
    have ku43 : th_pc u43 ≤ th_pc u0 ∧ th_pq u43 ≤ th_pq u0 := by omega
    refine W.tight (k := th_pc u0 - th_pc u43) (n := th_pq u0 - th_pq u43) (by omega) (by omega) ?_
    refine W.eq (g2 := F0 m 46 ls [.int x9]) rfl ?_
    obtain ⟨U9, u1, u2, u3⟩ := z43_0
    have r1_43 := (hd9 1 1 U9 _ _ u1 u2 u3).1
    have r3_43 := (hd9 1 1 U9 _ _ u1 u2 u3).2.2
    refine W.count (fun hc1 hc2 => ?_)
    rw [hH] at hc1 hc2
    refine W.widen (k := th_pc u0) (n := th_pq u0) (Nat.sub_le _ _) (Nat.sub_le _ _) ?_
    exact th_iret hC hH hr hlocks rfl hB.2.1 ⟨_, rfl, hB.1, hB.2.2, hR, RS_m r1_43 (by omega), ⟨fun _ => r3_43.2 (by decide), fun q => absurd hi9 q⟩, ⟨u43, hu43, ku43.1, ku43.2, by omega, by omega⟩⟩ gX11_compare_3
  refine tr_icmp_eq (tgt := 20) hx hb gX11_compare_0.2.2.2.2.2.2.2 (by decide) (Eq.refl _) tk_m1 (fun c11 => ?_) (fun c11 => ?_)
  · exact jn20 locs ls hB (lv_sub hl [0, 1] rfl) hl8 (Or.inl (by have w2 := tk_m1; omega))
  · refine tr_vload_n hx hb gX11_compare_1.1 rfl (lv_at hl 0 rfl) (tr_qr hv2) ?_
    rcases hv2 with rfl | ⟨b14, rfl, hb14⟩
    · refine lv_ifnonnullN hx hb gX11_compare_1.2.1 ?_
      refine lv_iconst (v := (-1)) hx hb gX11_compare_1.2.2.1 (by decide) ?_
      refine W.count (fun hc1 hc2 => ?_)
      rw [hH] at hc1 hc2
      refine W.widen (k := th_pc u0) (n := th_pq u0) (Nat.sub_le _ _) (Nat.sub_le _ _) ?_
      exact th_iret hC hH hr hlocks rfl hB.2.1 ⟨_, rfl, hB.1, hB.2.2, hR, RS_m hR8 (by omega), ⟨fun q => absurd q (law_out hR8.1 (show f_X8_lawOf (dv G Γ H0) (gA 1) p1.toInt = (-1, ()) from hl8) (by have w2 := tk_m1; omega)), fun _ => tk_m1⟩, ⟨u0, hu0, ku0.1, ku0.2, by omega, by omega⟩⟩ gX11_compare_1.2.2.2.1
    · refine lv_ifnonnull (tgt := 20) hx hb gX11_compare_1.2.1 (by decide) ?_
      exact jn20 locs ls hB (lv_sub hl [0, 1] rfl) hl8 (Or.inr (by show ((b14 : Nat) : Int) ≠ -1; omega))

set_option maxHeartbeats 4000000 in
set_option maxRecDepth 100000 in
theorem c_X11_floors_S (l : Launch) (G : th_G) (Γ : th_Ga) (H0 : Heap) (hI : th_I G Γ H0) (hR : th_RC G Γ H0) (hU : dv_U Γ) (a0 : Nat) (h0 : Γ a0 = (42, 0)) (hP8 : ∀ x y : Int, th_pm G x y) (gA : Nat → Int) (ga gsa gt : Int) (gM : Int → Prop) (gW : dV) (hR8 : RS gA ga gsa gt gM (dv G Γ H0) gW) (hA8 : gA 0 = (a0 : Int)) (hM8 : ∀ b : Int, gM b ↔ ∃ a o : Nat, b = (a : Int) ∧ Γ a = (12, o)) (hT8 : gt + 100 < 2147483647) (u0 : Nat) (hu0 : th_bits G Γ H0 u0) : Met l yX11_floors (.code yX11_floors cX11_floors 1 (some FieldType.int) :: th_tb) ({ frames := 16, cells := (th_pc u0), slots := (th_pq u0), locals := 451 } : Room) (th_P [.ref a0] G H0) (th_Q (fun (v : Option Value) (H1 : Heap) => ∃ r : Int32, v = some (.int r) ∧ th_I G Γ H1 ∧ th_F G Γ [(24, 0), (23, 3), (26, 0), (25, 0), (28, 0), (29, 0), (12, 0), (12, 1), (12, 2), (12, 3), (12, 4), (12, 5), (12, 6), (31, 0), (27, 5), (27, 6), (27, 7), (27, 8), (27, 9), (27, 10), (27, 11), (27, 12), (27, 13), (10, 0)] H0 H1 ∧ th_RC G Γ H1 ∧ (RS gA ga gsa (gt + 100) gM (dv G Γ H1) gW) ∧ ((hdO (dv G Γ H0) (gA 4) (gA 1) → r.toInt = rN (dv G Γ H0 (gA 4)) (prW gW ga) (fun c z => agS (dv G Γ H0) (gA 1) (dv G Γ H0 (gA 4) 0 (c : Int)) (z % 12) (z / 12))) ∧ (¬ hdO (dv G Γ H0) (gA 4) (gA 1) → r.toInt = 0)) ∧ th_bp G Γ H0 H1 u0) G) (th_pc u0) (th_pq u0) (fun q => G.1.2.2 ≤ q) := by
  refine th_met RX11 (by decide) rfl (Nat.le_of_ble_eq_true rfl) ?_
  intro p e s m below meth c hC hH hr hlocks hnm ls hl
  have hx := hC.1
  have hb := hC.2.1
  have hB : th_B G Γ Γ [(24, 0), (23, 3), (26, 0), (25, 0), (28, 0), (29, 0), (12, 0), (12, 1), (12, 2), (12, 3), (12, 4), (12, 5), (12, 6), (31, 0), (27, 5), (27, 6), (27, 7), (27, 8), (27, 9), (27, 10), (27, 11), (27, 12), (27, 13), (10, 0)] H0 H0 [] := ⟨hI, va_S.rf, th_F_rf⟩
  have hl : lv_has ls 1 [(0, .ref a0)] := hl
  have ku0 : th_pc u0 ≤ th_pc u0 ∧ th_pq u0 ≤ th_pq u0 := ⟨Nat.le_refl _, Nat.le_refl _⟩
  refine W.widen (k := th_pc u0 - th_pc u0) (n := th_pq u0 - th_pq u0) (Nat.zero_le _) (Nat.zero_le _) ?_
  refine lv_aload_n hx hb gX11_floors_0.1 rfl (lv_at hl 0 rfl) ?_
  refine th_getR (j := 11) (r2 := 27) hC cf_X11 hB.1 h0 ro_42 rfl rfl kf_X11_79 gX11_floors_0.2.1 (fun b1 mb1 hb1 => ?_)
  obtain rfl : gsa = (b1 : Int) := (RS_ad hR8).2.2.2.2.symm.trans (by rw [hA8]; exact dv_getR h0 ro_42 (j := 11) rfl mb1 (by decide))
  refine lv_aload_n hx hb gX11_floors_0.2.2.1 rfl (lv_at hl 0 rfl) ?_
  refine th_getR (j := 0) (r2 := 32) hC cf_X11 hB.1 h0 ro_42 rfl rfl kf_X11_12 gX11_floors_0.2.2.2.1 (fun b2 mb2 hb2 => ?_)
  have e2 : gA 1 = (b2 : Int) := (RS_ad hR8).1.symm.trans (by rw [hA8]; exact dv_getR h0 ro_42 (j := 0) rfl mb2 (by decide))
  refine th_getR (j := 0) (r2 := 3) hC cf_X8 hB.1 hb2 ro_32 rfl rfl kf_X11_107 gX11_floors_0.2.2.2.2.1 (fun b3 mb3 hb3 => ?_)
  have e3 : gA 4 = (b3 : Int) := (RS_ad hR8).2.1.symm.trans (by rw [e2]; exact dv_getR hb2 ro_32 (j := 0) rfl mb3 (by decide))
  refine lv_aload_n hx hb gX11_floors_0.2.2.2.2.2.1 rfl (lv_at hl 0 rfl) ?_
  refine th_getK hC cf_X11 hB.1 h0 ro_42 rfl (j := 0) (by decide) mb2 kf_X11_12 gX11_floors_0.2.2.2.2.2.2.1 ?_
  refine th_call (th_runV (As := []) (rest := [.ref b3, .ref b1]) hC mf_X8_forcedLaw km_X11_143 im_X8_forcedLaw se_X8_forcedLaw (c_X8_forcedLaw l G Γ H0 hB.1 hU b2 hb2) rfl rfl ⟨Nat.le_of_ble_eq_true rfl, Nat.le_of_ble_eq_true rfl⟩ hB.1 hb2 ro_32 rfl rfl hl.1 rfl (Nat.le_of_ble_eq_true rfl) gX11_floors_0.2.2.2.2.2.2.2 ⟨by dsimp only; omega, by dsimp only; omega⟩) hB.2.1 (fun v15 H15 locs hp hz hS => ?_)
  obtain ⟨v4, rfl, hv4, q15_0, rfl⟩ := hp
  have hB := th_B_s hB hS
  refine W.eq (g2 := F0 m 18 ls [v4, .ref b3, .ref b1]) rfl ?_
  have hl9 : f_X8_forcedLaw (dv G Γ H0) (gA 1) = ((dv_iv v4), ()) := by rw [e2]; exact q15_0
  refine lv_aload_n hx hb gX11_floors_1.1 rfl (lv_at hl 0 rfl) ?_
  refine th_getR (j := 9) (r2 := 11) hC cf_X11 hB.1 h0 ro_42 rfl rfl kf_X11_65 gX11_floors_1.2.1 (fun b5 mb5 hb5 => ?_)
  have e5 : gA 13 = (b5 : Int) := (RS_ad hR8).2.2.2.1.symm.trans (by rw [hA8]; exact dv_getR h0 ro_42 (j := 9) rfl mb5 (by decide))
  refine th_call (th_runV (As := [.ref b3, v4, .ref b5]) (rest := []) hC mf_X7_prepare km_X11_255 im_X7_prepare se_X7_prepare (c_X7_prepare l G Γ H0 hB.1 hR hU b1 hb1 b3 hb3 v4 hv4 b5 hb5) rfl rfl ⟨Nat.le_of_ble_eq_true rfl, Nat.le_of_ble_eq_true rfl⟩ hB.1 hb1 ro_27 rfl rfl hl.1 rfl (Nat.le_of_ble_eq_true rfl) gX11_floors_1.2.2.1 ⟨by dsimp only; omega, by dsimp only; omega⟩) hB.2.1 (fun v22 H22 locs hp hz hS => ?_)
  obtain ⟨rfl, hI1, hf, hR, z22_0, z22_1, z22_2⟩ := hp
  have hB := th_B_c hB hI1 hS hf (by decide)
  have mm6 := (th_F_o hf h0 ro_42 (j := 11) (by decide) (by decide)).trans mb1
  have mm7 := (th_F_o hf h0 ro_42 (j := 0) (by decide) (by decide)).trans mb2
  have mu8 := th_bits_F hf hu0 (by decide)
  refine W.eq (g2 := F0 m 25 ls []) rfl ?_
  have hp9 : f_X7_prepare (dv G Γ H0) (b1 : Int) (gA 4) (dv_iv v4) (gA 13) = (dv G Γ H22, 0) := by rw [e3, e5]; exact z22_2
  refine lv_aload_n hx hb gX11_floors_1.2.2.2.1 rfl (lv_at hl 0 rfl) ?_
  refine th_getK hC cf_X11 hB.1 h0 ro_42 rfl (j := 11) (by decide) mm6 kf_X11_79 gX11_floors_1.2.2.2.2.1 ?_
  refine lv_aload_n hx hb gX11_floors_1.2.2.2.2.2.1 rfl (lv_at hl 0 rfl) ?_
  refine th_getK hC cf_X11 hB.1 h0 ro_42 rfl (j := 0) (by decide) mm7 kf_X11_12 gX11_floors_1.2.2.2.2.2.2.1 ?_
  refine th_call (th_runV (As := [.ref b2]) (rest := []) hC mf_X7_heed km_X11_319 im_X7_heed se_X7_heed (c_X7_heed l G Γ H22 hB.1 hR hU b1 hb1 b2 hb2 ⟨_, z22_1, hb3⟩) rfl rfl ⟨Nat.le_of_ble_eq_true rfl, Nat.le_of_ble_eq_true rfl⟩ hB.1 hb1 ro_27 rfl rfl hl.1 rfl (Nat.le_of_ble_eq_true rfl) gX11_floors_1.2.2.2.2.2.2.2 ⟨by dsimp only; omega, by dsimp only; omega⟩) hB.2.1 (fun v33 H33 locs hp hz hS => ?_)
  obtain ⟨x9, rfl, lx9, ux9, hI1, hf, hR, z33_0⟩ := hp
  have hB := th_B_c hB hI1 hS hf (by decide)
  have mm10 := (th_F_o hf h0 ro_42 (j := 11) (by decide) (by decide)).trans mm6
  have mm11 := (th_F_o hf h0 ro_42 (j := 0) (by decide) (by decide)).trans mm7
  have mm12 := (th_F_o hf hb1 ro_27 (j := 7) (by decide) (by decide)).trans z22_0
  have mm13 := (th_F_o hf hb1 ro_27 (j := 8) (by decide) (by decide)).trans z22_1
  have mu14 := th_bits_F hf mu8 (by decide)
  refine W.eq (g2 := F0 m 36 ls [.int x9]) rfl ?_
  have hh9 : f_X7_heed (dv G Γ H22) (b1 : Int) (gA 1) = (dv G Γ H33, x9.toInt) := by rw [e2]; exact z33_0
  obtain ⟨hg9, hx9, hb9, hs9, hd9, hn9⟩ := p_all2 hR8 (by omega) hl9 hp9 hh9
  have hg9 := hg9
  refine tr_if_eq (tgt := 52) hx hb gX11_floors_2.1 (by decide) (Eq.refl _) (fun c36 => ?_) (fun c36 => ?_)
  · refine lv_iconst (v := 0) hx hb gX11_floors_2.2.2.2.2.2.2.1 (by decide) ?_
    refine W.count (fun hc1 hc2 => ?_)
    rw [hH] at hc1 hc2
    refine W.widen (k := th_pc u0) (n := th_pq u0) (Nat.sub_le _ _) (Nat.sub_le _ _) ?_
    exact th_iret hC hH hr hlocks rfl hB.2.1 ⟨_, rfl, hB.1, hB.2.2, hR, RS_m hg9 (by omega), ⟨fun q => absurd (hx9.2.mpr q) (by omega), fun _ => tk_0⟩, ⟨u0, mu14, ku0.1, ku0.2, by omega, by omega⟩⟩ gX11_floors_2.2.2.2.2.2.2.2
  · refine lv_aload_n hx hb gX11_floors_2.2.1 rfl (lv_at hl 0 rfl) ?_
    refine th_getK hC cf_X11 hB.1 h0 ro_42 rfl (j := 11) (by decide) mm10 kf_X11_79 gX11_floors_2.2.2.1 ?_
    refine lv_ldcw (v := 1000000000) hx hb hC.2.2.2.1 (hC.2.2.2.2.1 _ kw_999) gX11_floors_2.2.2.2.1 ?_
    refine W.count (fun hc1 hc2 => ?_)
    refine th_call (th_runV (As := [.int 1000000000]) (rest := []) hC mf_X7_number km_X11_259 im_X7_number se_X7_number (c_X7_number_S l G Γ H33 hB.1 hR hU b1 hb1 1000000000 ⟨_, mm12, hb5⟩ ⟨_, mm13, hb3⟩ (xM gM (gA 14)) (fun a o q m z => Or.inl ((hM8 _).mpr ⟨a, o, rfl, q⟩)) (fun m z => xM_n hR8.2.2.1.1 (Ne.symm (hR8.2.1.2.2 14 (by decide)))) (gA 4) (gA 1) _ _ _ (hs9 0 _) hb9 (by first | exact (by decide) | omega) hP8 u0 mu14) rfl rfl ⟨Nat.le_of_ble_eq_true rfl, Nat.le_of_ble_eq_true rfl⟩ hB.1 hb1 ro_27 rfl rfl hl.1 rfl (Nat.le_of_ble_eq_true rfl) gX11_floors_2.2.2.2.2.1 ⟨by dsimp only; omega, by dsimp only; omega⟩) hB.2.1 (fun v46 H46 locs hp hz hS => ?_)
    obtain ⟨x15, rfl, hI1, hf, hR, z46_0, ⟨u46, hu46, ka46, kb46, kc46, kd46⟩⟩ := hp
    have hB := th_B_c hB hI1 hS hf (by decide)
    have mm16 := (th_F_o hf h0 ro_42 (j := 11) (by decide) (by decide)).trans mm10
    have mm17 := (th_F_o hf h0 ro_42 (j := 0) (by decide) (by decide)).trans mm11
    have mm18 := (th_F_o hf hb1 ro_27 (j := 7) (by decide) (by decide)).trans mm12
    have mm19 := (th_F_o hf hb1 ro_27 (j := 8) (by decide) (by decide)).trans mm13
    have ku46 : th_pc u46 ≤ th_pc u0 ∧ th_pq u46 ≤ th_pq u0 := by omega
    refine W.tight (k := th_pc u0 - th_pc u46) (n := th_pq u0 - th_pq u46) (by omega) (by omega) ?_
    refine W.eq (g2 := F0 m 49 ls [.int x15]) rfl ?_
    obtain ⟨U9, u1, u2, u3⟩ := z46_0
    have r1_46 := (hd9 0 _ U9 _ _ u1 u2).1
    have r3_46 := hn9 0 _ U9 _ u1 u3
    refine lv_goto (tgt := 53) hx hb gX11_floors_2.2.2.2.2.2.1 (by decide) ?_
    refine W.count (fun hc1 hc2 => ?_)
    rw [hH] at hc1 hc2
    refine W.widen (k := th_pc u0) (n := th_pq u0) (Nat.sub_le _ _) (Nat.sub_le _ _) ?_
    exact th_iret hC hH hr hlocks rfl hB.2.1 ⟨_, rfl, hB.1, hB.2.2, hR, RS_m r1_46 (by omega), ⟨fun _ => (r3_46.1 rfl).1 (by have w1 := (rN_b (pr := prW gW ga) (ag := (fun c z => agS (dv G Γ H0) (gA 1) (dv G Γ H0 (gA 4) 0 (c : Int)) (z % 12) (z / 12))) (RR_n hR8.1).1.1).2; have w2 : (1000000000 : Int32).toInt = 1000000000 := rfl; omega), fun q => absurd (hx9.2.mp (by omega)) q⟩, ⟨u46, hu46, ku46.1, ku46.2, by omega, by omega⟩⟩ gX11_floors_2.2.2.2.2.2.2.2

set_option maxHeartbeats 4000000 in
set_option maxRecDepth 100000 in
theorem c_X11_look_S (l : Launch) (G : th_G) (Γ : th_Ga) (H0 : Heap) (hI : th_I G Γ H0) (hR : th_RC G Γ H0) (hU : dv_U Γ) (a0 : Nat) (h0 : Γ a0 = (42, 0)) (p1 : Int32) (hP8 : ∀ x y : Int, th_pm G x y) (gA : Nat → Int) (ga gsa gt : Int) (gM : Int → Prop) (gW : dV) (hR8 : RS gA ga gsa gt gM (dv G Γ H0) gW) (hA8 : gA 0 = (a0 : Int)) (hM8 : ∀ b : Int, gM b ↔ ∃ a o : Nat, b = (a : Int) ∧ Γ a = (12, o)) (hT8 : gt + 100 < 2147483647) (u0 : Nat) (hu0 : th_bits G Γ H0 u0) : Met l yX11_look (.code yX11_look cX11_look 3 (some FieldType.int) :: th_tb) ({ frames := 16, cells := (th_pc u0), slots := (th_pq u0), locals := 451 } : Room) (th_P [.ref a0, .int p1] G H0) (th_Q (fun (v : Option Value) (H1 : Heap) => ∃ r : Int32, v = some (.int r) ∧ th_I G Γ H1 ∧ th_F G Γ [(24, 0), (23, 3), (26, 0), (25, 0), (28, 0), (29, 0), (12, 0), (12, 1), (12, 2), (12, 3), (12, 4), (12, 5), (12, 6), (31, 0), (27, 5), (27, 6), (27, 7), (27, 8), (27, 9), (27, 10), (27, 11), (27, 12), (27, 13), (10, 0), (30, 0)] H0 H1 ∧ th_RC G Γ H1 ∧ (RS gA ga gsa (gt + 100) gM (dv G Γ H1) gW) ∧ th_bp G Γ H0 H1 u0) G) (th_pc u0) (th_pq u0) (fun q => G.1.2.2 ≤ q) := by
  refine th_met RX11 (by decide) rfl (Nat.le_of_ble_eq_true rfl) ?_
  intro p e s m below meth c hC hH hr hlocks hnm ls hl
  have hx := hC.1
  have hb := hC.2.1
  have hB : th_B G Γ Γ [(24, 0), (23, 3), (26, 0), (25, 0), (28, 0), (29, 0), (12, 0), (12, 1), (12, 2), (12, 3), (12, 4), (12, 5), (12, 6), (31, 0), (27, 5), (27, 6), (27, 7), (27, 8), (27, 9), (27, 10), (27, 11), (27, 12), (27, 13), (10, 0), (30, 0)] H0 H0 [] := ⟨hI, va_S.rf, th_F_rf⟩
  have hl : lv_has ls 3 [(0, .ref a0), (1, .int p1)] := hl
  have lp1 := ti_lo p1; have up1 := ti_hi p1
  have ku0 : th_pc u0 ≤ th_pc u0 ∧ th_pq u0 ≤ th_pq u0 := ⟨Nat.le_refl _, Nat.le_refl _⟩
  refine W.widen (k := th_pc u0 - th_pc u0) (n := th_pq u0 - th_pq u0) (Nat.zero_le _) (Nat.zero_le _) ?_
  refine lv_iload_n hx hb gX11_look_0.1 rfl (lv_at hl 1 rfl) ?_
  refine tr_if_lt (tgt := 22) hx hb gX11_look_0.2.1 (by decide) (Eq.refl _) (fun c1 => ?_) (fun c1 => ?_)
  · refine lv_iconst (v := (-1)) hx hb gX11_look_1.2.2.1 (by decide) ?_
    refine W.count (fun hc1 hc2 => ?_)
    rw [hH] at hc1 hc2
    refine W.widen (k := th_pc u0) (n := th_pq u0) (Nat.sub_le _ _) (Nat.sub_le _ _) ?_
    exact th_iret hC hH hr hlocks rfl hB.2.1 ⟨_, rfl, hB.1, hB.2.2, hR, RS_m hR8 (by omega), ⟨u0, hu0, ku0.1, ku0.2, by omega, by omega⟩⟩ gX11_look_1.2.2.2.1
  · refine lv_iload_n hx hb gX11_look_0.2.2.1 rfl (lv_at hl 1 rfl) ?_
    refine lv_iconst (v := 2) hx hb gX11_look_0.2.2.2.1 (by decide) ?_
    refine tr_icmp_gt (tgt := 22) hx hb gX11_look_0.2.2.2.2.1 (by decide) (Eq.refl _) tk_2 (fun c6 => ?_) (fun c6 => ?_)
    · refine lv_iconst (v := (-1)) hx hb gX11_look_1.2.2.1 (by decide) ?_
      refine W.count (fun hc1 hc2 => ?_)
      rw [hH] at hc1 hc2
      refine W.widen (k := th_pc u0) (n := th_pq u0) (Nat.sub_le _ _) (Nat.sub_le _ _) ?_
      exact th_iret hC hH hr hlocks rfl hB.2.1 ⟨_, rfl, hB.1, hB.2.2, hR, RS_m hR8 (by omega), ⟨u0, hu0, ku0.1, ku0.2, by omega, by omega⟩⟩ gX11_look_1.2.2.2.1
    · refine lv_aload_n hx hb gX11_look_0.2.2.2.2.2.1 rfl (lv_at hl 0 rfl) ?_
      refine th_getR (j := 0) (r2 := 32) hC cf_X11 hB.1 h0 ro_42 rfl rfl kf_X11_12 gX11_look_0.2.2.2.2.2.2.1 (fun b1 mb1 hb1 => ?_)
      have e2 : gA 1 = (b1 : Int) := (RS_ad hR8).1.symm.trans (by rw [hA8]; exact dv_getR h0 ro_42 (j := 0) rfl mb1 (by decide))
      refine th_getR (j := 0) (r2 := 3) hC cf_X8 hB.1 hb1 ro_32 rfl rfl kf_X11_107 gX11_look_0.2.2.2.2.2.2.2 (fun b2 mb2 hb2 => ?_)
      have e3 : gA 4 = (b2 : Int) := (RS_ad hR8).2.1.symm.trans (by rw [e2]; exact dv_getR hb1 ro_32 (j := 0) rfl mb2 (by decide))
      refine th_call (th_runV (As := []) (rest := []) hC mf_X1_bareCells km_X11_249 im_X1_bareCells se_X1_bareCells (c_X1_bareCells l G Γ H0 hB.1 hU b2 hb2) rfl rfl ⟨Nat.le_of_ble_eq_true rfl, Nat.le_of_ble_eq_true rfl⟩ hB.1 hb2 ro_3 rfl rfl hl.1 rfl (Nat.le_of_ble_eq_true rfl) gX11_look_1.1 ⟨by dsimp only; omega, by dsimp only; omega⟩) hB.2.1 (fun v16 H16 locs hp hz hS => ?_)
      obtain ⟨x3, rfl, q16_0, rfl⟩ := hp
      have hB := th_B_s hB hS
      refine W.eq (g2 := F0 m 19 ls [.int x3]) rfl ?_
      refine tr_if_ne (tgt := 24) hx hb gX11_look_1.2.1 (by decide) (Eq.refl _) (fun c19 => ?_) (fun c19 => ?_)
      · refine lv_aload_n hx hb gX11_look_1.2.2.2.2.1 rfl (lv_at hl 0 rfl) ?_
        refine th_getR (j := 11) (r2 := 27) hC cf_X11 hB.1 h0 ro_42 rfl rfl kf_X11_79 gX11_look_1.2.2.2.2.2.1 (fun b4 mb4 hb4 => ?_)
        obtain rfl : gsa = (b4 : Int) := (RS_ad hR8).2.2.2.2.symm.trans (by rw [hA8]; exact dv_getR h0 ro_42 (j := 11) rfl mb4 (by decide))
        refine lv_aload_n hx hb gX11_look_1.2.2.2.2.2.2.1 rfl (lv_at hl 0 rfl) ?_
        refine th_getK hC cf_X11 hB.1 h0 ro_42 rfl (j := 0) (by decide) mb1 kf_X11_12 gX11_look_1.2.2.2.2.2.2.2 ?_
        refine th_getK hC cf_X8 hB.1 hb1 ro_32 rfl (j := 0) (by decide) mb2 kf_X11_107 gX11_look_2.1 ?_
        refine lv_aload_n hx hb gX11_look_2.2.1 rfl (lv_at hl 0 rfl) ?_
        refine th_getK hC cf_X11 hB.1 h0 ro_42 rfl (j := 0) (by decide) mb1 kf_X11_12 gX11_look_2.2.2.1 ?_
        refine th_call (th_runV (As := []) (rest := [.ref b2, .ref b4]) hC mf_X8_forcedLaw km_X11_143 im_X8_forcedLaw se_X8_forcedLaw (c_X8_forcedLaw l G Γ H0 hB.1 hU b1 hb1) rfl rfl ⟨Nat.le_of_ble_eq_true rfl, Nat.le_of_ble_eq_true rfl⟩ hB.1 hb1 ro_32 rfl rfl hl.1 rfl (Nat.le_of_ble_eq_true rfl) gX11_look_2.2.2.2.1 ⟨by dsimp only; omega, by dsimp only; omega⟩) hB.2.1 (fun v39 H39 locs hp hz hS => ?_)
        obtain ⟨v5, rfl, hv5, q39_0, rfl⟩ := hp
        have hB := th_B_s hB hS
        refine W.eq (g2 := F0 m 42 ls [v5, .ref b2, .ref b4]) rfl ?_
        have hl9 : f_X8_forcedLaw (dv G Γ H0) (gA 1) = ((dv_iv v5), ()) := by rw [e2]; exact q39_0
        refine lv_aload_n hx hb gX11_look_2.2.2.2.2.1 rfl (lv_at hl 0 rfl) ?_
        refine th_getR (j := 9) (r2 := 11) hC cf_X11 hB.1 h0 ro_42 rfl rfl kf_X11_65 gX11_look_2.2.2.2.2.2.1 (fun b6 mb6 hb6 => ?_)
        have e5 : gA 13 = (b6 : Int) := (RS_ad hR8).2.2.2.1.symm.trans (by rw [hA8]; exact dv_getR h0 ro_42 (j := 9) rfl mb6 (by decide))
        refine th_call (th_runV (As := [.ref b2, v5, .ref b6]) (rest := []) hC mf_X7_prepare km_X11_255 im_X7_prepare se_X7_prepare (c_X7_prepare l G Γ H0 hB.1 hR hU b4 hb4 b2 hb2 v5 hv5 b6 hb6) rfl rfl ⟨Nat.le_of_ble_eq_true rfl, Nat.le_of_ble_eq_true rfl⟩ hB.1 hb4 ro_27 rfl rfl hl.1 rfl (Nat.le_of_ble_eq_true rfl) gX11_look_2.2.2.2.2.2.2.1 ⟨by dsimp only; omega, by dsimp only; omega⟩) hB.2.1 (fun v46 H46 locs hp hz hS => ?_)
        obtain ⟨rfl, hI1, hf, hR, z46_0, z46_1, z46_2⟩ := hp
        have hB := th_B_c hB hI1 hS hf (by decide)
        have mm7 := (th_F_o hf h0 ro_42 (j := 0) (by decide) (by decide)).trans mb1
        have mm8 := (th_F_o hf hb1 ro_32 (j := 0) (by decide) (by decide)).trans mb2
        have mm9 := (th_F_o hf h0 ro_42 (j := 11) (by decide) (by decide)).trans mb4
        have mu10 := th_bits_F hf hu0 (by decide)
        refine W.eq (g2 := F0 m 49 ls []) rfl ?_
        have hp9 : f_X7_prepare (dv G Γ H0) (b4 : Int) (gA 4) (dv_iv v5) (gA 13) = (dv G Γ H46, 0) := by rw [e3, e5]; exact z46_2
        refine lv_aload_n hx hb gX11_look_2.2.2.2.2.2.2.2 rfl (lv_at hl 0 rfl) ?_
        refine th_getK hC cf_X11 hB.1 h0 ro_42 rfl (j := 11) (by decide) mm9 kf_X11_79 gX11_look_3.1 ?_
        refine lv_aload_n hx hb gX11_look_3.2.1 rfl (lv_at hl 0 rfl) ?_
        refine th_getK hC cf_X11 hB.1 h0 ro_42 rfl (j := 0) (by decide) mm7 kf_X11_12 gX11_look_3.2.2.1 ?_
        refine th_call (th_runV (As := [.ref b1]) (rest := []) hC mf_X7_heed km_X11_319 im_X7_heed se_X7_heed (c_X7_heed l G Γ H46 hB.1 hR hU b4 hb4 b1 hb1 ⟨_, z46_1, hb2⟩) rfl rfl ⟨Nat.le_of_ble_eq_true rfl, Nat.le_of_ble_eq_true rfl⟩ hB.1 hb4 ro_27 rfl rfl hl.1 rfl (Nat.le_of_ble_eq_true rfl) gX11_look_3.2.2.2.1 ⟨by dsimp only; omega, by dsimp only; omega⟩) hB.2.1 (fun v57 H57 locs hp hz hS => ?_)
        obtain ⟨x11, rfl, lx11, ux11, hI1, hf, hR, z57_0⟩ := hp
        have hB := th_B_c hB hI1 hS hf (by decide)
        have mm12 := (th_F_o hf h0 ro_42 (j := 0) (by decide) (by decide)).trans mm7
        have mm13 := (th_F_o hf hb1 ro_32 (j := 0) (by decide) (by decide)).trans mm8
        have mm14 := (th_F_o hf h0 ro_42 (j := 11) (by decide) (by decide)).trans mm9
        have mm15 := (th_F_o hf hb4 ro_27 (j := 7) (by decide) (by decide)).trans z46_0
        have mm16 := (th_F_o hf hb4 ro_27 (j := 8) (by decide) (by decide)).trans z46_1
        have mu17 := th_bits_F hf mu10 (by decide)
        refine W.eq (g2 := F0 m 60 ls [.int x11]) rfl ?_
        have hh9 : f_X7_heed (dv G Γ H46) (b4 : Int) (gA 1) = (dv G Γ H57, x11.toInt) := by rw [e2]; exact z57_0
        obtain ⟨hg9, hx9, hb9, hs9, hd9, hn9⟩ := p_all2 hR8 (by omega) hl9 hp9 hh9
        have hg9 := hg9
        refine tr_if_eq (tgt := 76) hx hb gX11_look_3.2.2.2.2.1 (by decide) (Eq.refl _) (fun c60 => ?_) (fun c60 => ?_)
        · refine lv_iconst (v := (-1)) hx hb gX11_look_4.2.2.1 (by decide) ?_
          refine W.count (fun hc1 hc2 => ?_)
          rw [hH] at hc1 hc2
          refine W.widen (k := th_pc u0) (n := th_pq u0) (Nat.sub_le _ _) (Nat.sub_le _ _) ?_
          exact th_iret hC hH hr hlocks rfl hB.2.1 ⟨_, rfl, hB.1, hB.2.2, hR, RS_m hg9 (by omega), ⟨u0, mu17, ku0.1, ku0.2, by omega, by omega⟩⟩ gX11_look_4.2.2.2.1
        · refine lv_aload_n hx hb gX11_look_3.2.2.2.2.2.1 rfl (lv_at hl 0 rfl) ?_
          refine th_getK hC cf_X11 hB.1 h0 ro_42 rfl (j := 11) (by decide) mm14 kf_X11_79 gX11_look_3.2.2.2.2.2.2.1 ?_
          refine lv_ldcw (v := 1000000000) hx hb hC.2.2.2.1 (hC.2.2.2.2.1 _ kw_999) gX11_look_3.2.2.2.2.2.2.2 ?_
          refine W.count (fun hc1 hc2 => ?_)
          refine th_call (th_runV (As := [.int 1000000000]) (rest := []) hC mf_X7_number km_X11_259 im_X7_number se_X7_number (c_X7_number_S l G Γ H57 hB.1 hR hU b4 hb4 1000000000 ⟨_, mm15, hb6⟩ ⟨_, mm16, hb2⟩ (xM gM (gA 14)) (fun a o q m z => Or.inl ((hM8 _).mpr ⟨a, o, rfl, q⟩)) (fun m z => xM_n hR8.2.2.1.1 (Ne.symm (hR8.2.1.2.2 14 (by decide)))) (gA 4) (gA 1) _ _ _ (hs9 0 _) hb9 (by first | exact (by decide) | omega) hP8 u0 mu17) rfl rfl ⟨Nat.le_of_ble_eq_true rfl, Nat.le_of_ble_eq_true rfl⟩ hB.1 hb4 ro_27 rfl rfl hl.1 rfl (Nat.le_of_ble_eq_true rfl) gX11_look_4.1 ⟨by dsimp only; omega, by dsimp only; omega⟩) hB.2.1 (fun v70 H70 locs hp hz hS => ?_)
          obtain ⟨x18, rfl, hI1, hf, hR, z70_0, ⟨u70, hu70, ka70, kb70, kc70, kd70⟩⟩ := hp
          have hB := th_B_c hB hI1 hS hf (by decide)
          have mm19 := (th_F_o hf h0 ro_42 (j := 0) (by decide) (by decide)).trans mm12
          have mm20 := (th_F_o hf hb1 ro_32 (j := 0) (by decide) (by decide)).trans mm13
          have mm21 := (th_F_o hf h0 ro_42 (j := 11) (by decide) (by decide)).trans mm14
          have mm22 := (th_F_o hf hb4 ro_27 (j := 7) (by decide) (by decide)).trans mm15
          have mm23 := (th_F_o hf hb4 ro_27 (j := 8) (by decide) (by decide)).trans mm16
          have ku70 : th_pc u70 ≤ th_pc u0 ∧ th_pq u70 ≤ th_pq u0 := by omega
          refine W.tight (k := th_pc u0 - th_pc u70) (n := th_pq u0 - th_pq u70) (by omega) (by omega) ?_
          refine W.eq (g2 := F0 m 73 ls [.int x18]) rfl ?_
          obtain ⟨U9, u1, u2, u3⟩ := z70_0
          have r1_70 := (hd9 0 _ U9 _ _ u1 u2).1
          have r3_70 := hn9 0 _ U9 _ u1 u3
          refine tr_if_ne (tgt := 78) hx hb gX11_look_4.2.1 (by decide) (Eq.refl _) (fun c73 => ?_) (fun c73 => ?_)
          · refine lv_aload_n hx hb gX11_look_4.2.2.2.2.1 rfl (lv_at hl 0 rfl) ?_
            refine th_getK hC cf_X11 hB.1 h0 ro_42 rfl (j := 11) (by decide) mm21 kf_X11_79 gX11_look_4.2.2.2.2.2.1 ?_
            refine th_call (th_runV (As := []) (rest := []) hC mf_X7_tallyFills km_X11_323 im_X7_tallyFills se_X7_tallyFills (c_X7_tallyFills_f l G Γ H70 hB.1 hR hU b4 hb4 ⟨_, mm22, hb6⟩ ⟨_, mm23, hb2⟩ U9 (xM gM (gA 14)) (gA 4) (gA 1) _ _ _ (hs9 0 _ U9 u1).1 (fun a o q m z => Or.inl ((hM8 _).mpr ⟨a, o, rfl, q⟩)) u2) rfl rfl ⟨Nat.le_of_ble_eq_true rfl, Nat.le_of_ble_eq_true rfl⟩ hB.1 hb4 ro_27 rfl rfl hl.1 rfl (Nat.le_of_ble_eq_true rfl) gX11_look_4.2.2.2.2.2.2.1 ⟨by dsimp only; omega, by dsimp only; omega⟩) hB.2.1 (fun v82 H82 locs hp hz hS => ?_)
            obtain ⟨rfl, hI1, hf, hR, z82_0⟩ := hp
            have hB := th_B_c hB hI1 hS hf (by decide)
            have mm24 := (th_F_o hf h0 ro_42 (j := 0) (by decide) (by decide)).trans mm19
            have mm25 := (th_F_o hf hb1 ro_32 (j := 0) (by decide) (by decide)).trans mm20
            have mm26 := (th_F_o hf h0 ro_42 (j := 11) (by decide) (by decide)).trans mm21
            have mm27 := (th_F_o hf hb4 ro_27 (j := 7) (by decide) (by decide)).trans mm22
            have mm28 := (th_F_o hf hb4 ro_27 (j := 8) (by decide) (by decide)).trans mm23
            have mu29 := th_bits_F hf hu70 (by decide)
            refine W.eq (g2 := F0 m 85 ls []) rfl ?_
            have r1_82 := (hd9 0 _ U9 _ _ u1 z82_0).1
            refine lv_aload_n hx hb gX11_look_4.2.2.2.2.2.2.2 rfl (lv_at hl 0 rfl) ?_
            refine th_getK hC cf_X11 hB.1 h0 ro_42 rfl (j := 11) (by decide) mm26 kf_X11_79 gX11_look_5.1 ?_
            refine th_call (th_runV (As := []) (rest := []) hC mf_X7_bestLook km_X11_326 im_X7_bestLook se_X7_bestLook (c_X7_bestLook l G Γ H82 hB.1 hU b4 hb4 ⟨_, mm28, hb2⟩) rfl rfl ⟨Nat.le_of_ble_eq_true rfl, Nat.le_of_ble_eq_true rfl⟩ hB.1 hb4 ro_27 rfl rfl hl.1 rfl (Nat.le_of_ble_eq_true rfl) gX11_look_5.2.1 ⟨by dsimp only; omega, by dsimp only; omega⟩) hB.2.1 (fun v89 H89 locs hp hz hS => ?_)
            obtain ⟨x30, rfl, lx30, ux30, q89_0, rfl⟩ := hp
            have hB := th_B_s hB hS
            refine W.eq (g2 := F0 m 92 ls [.int x30]) rfl ?_
            refine lv_istore_n (lv' := [(2, .int x30), (0, .ref a0), (1, .int p1)]) hx hb gX11_look_5.2.2.1 rfl hl (by decide) rfl (fun ls hl => ?_)
            refine lv_iload_n hx hb gX11_look_5.2.2.2.1 rfl (lv_at hl 2 rfl) ?_
            refine tr_if_ne (tgt := 104) hx hb gX11_look_5.2.2.2.2.1 (by decide) (Eq.refl _) (fun c94 => ?_) (fun c94 => ?_)
            · refine lv_iload_n hx hb gX11_look_6.2.1 rfl (lv_at hl 2 rfl) ?_
              refine lv_iconst (v := 1) hx hb gX11_look_6.2.2.1 (by decide) ?_
              refine tr_icmp_ne (tgt := 116) hx hb gX11_look_6.2.2.2.1 (by decide) (Eq.refl _) tk_1 (fun c106 => ?_) (fun c106 => ?_)
              · refine lv_aload_n hx hb gX11_look_7.1 rfl (lv_at hl 1 rfl) ?_
                refine th_getK hC cf_X11 hB.1 h0 ro_42 rfl (j := 11) (by decide) mm26 kf_X11_79 gX11_look_7.2.1 ?_
                refine lv_iload_n hx hb gX11_look_7.2.2.1 rfl (lv_at hl 0 rfl) ?_
                refine th_call (th_runV (As := [.int x30]) (rest := []) hC mf_X7_mostAt km_X11_329 im_X7_mostAt se_X7_mostAt (c_X7_mostAt l G Γ H82 hB.1 hU b4 hb4 x30 (by omega) (by omega) ⟨_, mm28, hb2⟩) rfl rfl ⟨Nat.le_of_ble_eq_true rfl, Nat.le_of_ble_eq_true rfl⟩ hB.1 hb4 ro_27 rfl rfl hl.1 rfl (Nat.le_of_ble_eq_true rfl) gX11_look_7.2.2.2.1 ⟨by dsimp only; omega, by dsimp only; omega⟩) hB.2.1 (fun v121 H121 locs hp hz hS => ?_)
                obtain ⟨x31, rfl, q121_0, rfl⟩ := hp
                have hB := th_B_s hB hS
                refine W.eq (g2 := F0 m 124 ls [.int x31]) rfl ?_
                refine W.count (fun hc1 hc2 => ?_)
                rw [hH] at hc1 hc2
                refine W.widen (k := th_pc u0) (n := th_pq u0) (Nat.sub_le _ _) (Nat.sub_le _ _) ?_
                exact th_iret hC hH hr hlocks rfl hB.2.1 ⟨_, rfl, hB.1, hB.2.2, hR, RS_m r1_82 (by omega), ⟨u70, mu29, ku70.1, ku70.2, by omega, by omega⟩⟩ gX11_look_7.2.2.2.2
              · refine lv_iload_n hx hb gX11_look_6.2.2.2.2.1 rfl (lv_at hl 0 rfl) ?_
                refine lv_bipush (v := 12) hx hb gX11_look_6.2.2.2.2.2.1 (by decide) ?_
                refine lv_idiv hx hb gX11_look_6.2.2.2.2.2.2.1 (fun q => by have := congrArg Int32.toInt q; have h0 : (0 : Int32).toInt = 0 := rfl; have hy := tk_12; omega) ?_
                refine lv_topi (fun x32 ex32 => ?_)
                have lx32 := ti_lo x32; have ux32 := ti_hi x32
                refine lv_goto (tgt := 124) hx hb gX11_look_6.2.2.2.2.2.2.2 (by decide) ?_
                refine W.count (fun hc1 hc2 => ?_)
                rw [hH] at hc1 hc2
                refine W.widen (k := th_pc u0) (n := th_pq u0) (Nat.sub_le _ _) (Nat.sub_le _ _) ?_
                exact th_iret hC hH hr hlocks rfl hB.2.1 ⟨_, rfl, hB.1, hB.2.2, hR, RS_m r1_82 (by omega), ⟨u70, mu29, ku70.1, ku70.2, by omega, by omega⟩⟩ gX11_look_7.2.2.2.2
            · refine lv_iload_n hx hb gX11_look_5.2.2.2.2.2.1 rfl (lv_at hl 0 rfl) ?_
              refine lv_bipush (v := 12) hx hb gX11_look_5.2.2.2.2.2.2.1 (by decide) ?_
              refine lv_irem hx hb gX11_look_5.2.2.2.2.2.2.2 (fun q => by have := congrArg Int32.toInt q; have h0 : (0 : Int32).toInt = 0 := rfl; have hy := tk_12; omega) ?_
              refine lv_topi (fun x33 ex33 => ?_)
              have lx33 := ti_lo x33; have ux33 := ti_hi x33
              refine lv_goto (tgt := 124) hx hb gX11_look_6.1 (by decide) ?_
              refine W.count (fun hc1 hc2 => ?_)
              rw [hH] at hc1 hc2
              refine W.widen (k := th_pc u0) (n := th_pq u0) (Nat.sub_le _ _) (Nat.sub_le _ _) ?_
              exact th_iret hC hH hr hlocks rfl hB.2.1 ⟨_, rfl, hB.1, hB.2.2, hR, RS_m r1_82 (by omega), ⟨u70, mu29, ku70.1, ku70.2, by omega, by omega⟩⟩ gX11_look_7.2.2.2.2
          · refine lv_iconst (v := (-1)) hx hb gX11_look_4.2.2.1 (by decide) ?_
            refine W.count (fun hc1 hc2 => ?_)
            rw [hH] at hc1 hc2
            refine W.widen (k := th_pc u0) (n := th_pq u0) (Nat.sub_le _ _) (Nat.sub_le _ _) ?_
            exact th_iret hC hH hr hlocks rfl hB.2.1 ⟨_, rfl, hB.1, hB.2.2, hR, RS_m r1_70 (by omega), ⟨u70, hu70, ku70.1, ku70.2, by omega, by omega⟩⟩ gX11_look_4.2.2.2.1
      · refine lv_iconst (v := (-1)) hx hb gX11_look_1.2.2.1 (by decide) ?_
        refine W.count (fun hc1 hc2 => ?_)
        rw [hH] at hc1 hc2
        refine W.widen (k := th_pc u0) (n := th_pq u0) (Nat.sub_le _ _) (Nat.sub_le _ _) ?_
        exact th_iret hC hH hr hlocks rfl hB.2.1 ⟨_, rfl, hB.1, hB.2.2, hR, RS_m hR8 (by omega), ⟨u0, hu0, ku0.1, ku0.2, by omega, by omega⟩⟩ gX11_look_1.2.2.2.1

set_option maxHeartbeats 4000000 in
set_option maxRecDepth 100000 in
theorem c_X11_halls_S (l : Launch) (G : th_G) (Γ : th_Ga) (H0 : Heap) (hI : th_I G Γ H0) (hR : th_RC G Γ H0) (hU : dv_U Γ) (a0 : Nat) (h0 : Γ a0 = (42, 0)) (p1 : Int32) (hP8 : ∀ x y : Int, th_pm G x y) (gA : Nat → Int) (ga gsa gt : Int) (gM : Int → Prop) (gW : dV) (hR8 : RS gA ga gsa gt gM (dv G Γ H0) gW) (hA8 : gA 0 = (a0 : Int)) (hM8 : ∀ b : Int, gM b ↔ ∃ a o : Nat, b = (a : Int) ∧ Γ a = (12, o)) (hT8 : gt + 100 < 2147483647) (u0 : Nat) (hu0 : th_bits G Γ H0 u0) : Met l yX11_halls (.code yX11_halls cX11_halls 6 (some FieldType.int) :: th_tb) ({ frames := 16, cells := (th_pc u0), slots := (th_pq u0), locals := 451 } : Room) (th_P [.ref a0, .int p1] G H0) (th_Q (fun (v : Option Value) (H1 : Heap) => ∃ r : Int32, v = some (.int r) ∧ th_I G Γ H1 ∧ th_F G Γ [(24, 0), (23, 3), (26, 0), (25, 0), (28, 0), (29, 0), (12, 0), (12, 1), (12, 2), (12, 3), (12, 4), (12, 5), (12, 6), (31, 0), (27, 5), (27, 6), (27, 7), (27, 8), (27, 9), (27, 10), (27, 11), (27, 12), (27, 13), (10, 0), (4, 0), (5, 0), (6, 0), (9, 0), (3, 7), (3, 8), (3, 9), (3, 10), (7, 0), (8, 0)] H0 H1 ∧ th_RC G Γ H1 ∧ (RS gA ga gsa (gt + 100) gM (dv G Γ H1) gW) ∧ th_bp G Γ H0 H1 u0) G) (th_pc u0) (th_pq u0) (fun q => G.1.2.2 ≤ q) := by
  refine th_met RX11 (by decide) rfl (Nat.le_of_ble_eq_true rfl) ?_
  intro p e s m below meth c hC hH hr hlocks hnm ls hl
  have hx := hC.1
  have hb := hC.2.1
  have hB : th_B G Γ Γ [(24, 0), (23, 3), (26, 0), (25, 0), (28, 0), (29, 0), (12, 0), (12, 1), (12, 2), (12, 3), (12, 4), (12, 5), (12, 6), (31, 0), (27, 5), (27, 6), (27, 7), (27, 8), (27, 9), (27, 10), (27, 11), (27, 12), (27, 13), (10, 0), (4, 0), (5, 0), (6, 0), (9, 0), (3, 7), (3, 8), (3, 9), (3, 10), (7, 0), (8, 0)] H0 H0 [] := ⟨hI, va_S.rf, th_F_rf⟩
  have hl : lv_has ls 6 [(0, .ref a0), (1, .int p1)] := hl
  have lp1 := ti_lo p1; have up1 := ti_hi p1
  have ku0 : th_pc u0 ≤ th_pc u0 ∧ th_pq u0 ≤ th_pq u0 := ⟨Nat.le_refl _, Nat.le_refl _⟩
  refine W.widen (k := th_pc u0 - th_pc u0) (n := th_pq u0 - th_pq u0) (Nat.zero_le _) (Nat.zero_le _) ?_
  refine lv_iload_n hx hb gX11_halls_0.1 rfl (lv_at hl 1 rfl) ?_
  refine lv_iconst (v := (-1)) hx hb gX11_halls_0.2.1 (by decide) ?_
  refine tr_icmp_ge (tgt := 7) hx hb gX11_halls_0.2.2.1 (by decide) (Eq.refl _) tk_m1 (fun c2 => ?_) (fun c2 => ?_)
  · refine lv_aload_n hx hb gX11_halls_0.2.2.2.2.2.1 rfl (lv_at hl 0 rfl) ?_
    refine th_getR (j := 0) (r2 := 32) hC cf_X11 hB.1 h0 ro_42 rfl rfl kf_X11_12 gX11_halls_0.2.2.2.2.2.2.1 (fun b1 mb1 hb1 => ?_)
    have e2 : gA 1 = (b1 : Int) := (RS_ad hR8).1.symm.trans (by rw [hA8]; exact dv_getR h0 ro_42 (j := 0) rfl mb1 (by decide))
    refine th_getR (j := 0) (r2 := 3) hC cf_X8 hB.1 hb1 ro_32 rfl rfl kf_X11_107 gX11_halls_0.2.2.2.2.2.2.2 (fun b2 mb2 hb2 => ?_)
    have e3 : gA 4 = (b2 : Int) := (RS_ad hR8).2.1.symm.trans (by rw [e2]; exact dv_getR hb1 ro_32 (j := 0) rfl mb2 (by decide))
    refine th_call (th_runV (As := []) (rest := []) hC mf_X1_areaWithoutRags km_X11_272 im_X1_areaWithoutRags se_X1_areaWithoutRags (c_X1_areaWithoutRags l G Γ H0 hB.1 hU b2 hb2) rfl rfl ⟨Nat.le_of_ble_eq_true rfl, Nat.le_of_ble_eq_true rfl⟩ hB.1 hb2 ro_3 rfl rfl hl.1 rfl (Nat.le_of_ble_eq_true rfl) gX11_halls_1.1 ⟨by dsimp only; omega, by dsimp only; omega⟩) hB.2.1 (fun v14 H14 locs hp hz hS => ?_)
    obtain ⟨x3, rfl, q14_0, rfl⟩ := hp
    have hB := th_B_s hB hS
    refine W.eq (g2 := F0 m 17 ls [.int x3]) rfl ?_
    refine lv_istore_n (lv' := [(2, .int x3), (0, .ref a0), (1, .int p1)]) hx hb gX11_halls_1.2.1 rfl hl (by decide) rfl (fun ls hl => ?_)
    refine lv_iconst (v := 0) hx hb gX11_halls_1.2.2.1 (by decide) ?_
    refine lv_istore_n (lv' := [(3, .int 0), (2, .int x3), (0, .ref a0), (1, .int p1)]) hx hb gX11_halls_1.2.2.2.1 rfl hl (by decide) rfl (fun ls hl => ?_)
    refine lv_iconst (v := 1) hx hb gX11_halls_1.2.2.2.2.1 (by decide) ?_
    refine lv_istore (lv' := [(4, .int 1), (3, .int 0), (2, .int x3), (0, .ref a0), (1, .int p1)]) hx hb gX11_halls_1.2.2.2.2.2.1 hl (by decide) rfl (fun ls hl => ?_)
    have lp23 : ∀ (n23 : Nat) (H23 : Heap) (u23 : Nat) (locs : List Loc) (ls : Array Slot) (j23_3 : Int32) (j23_4 : Int32), th_B G Γ Γ [(24, 0), (23, 3), (26, 0), (25, 0), (28, 0), (29, 0), (12, 0), (12, 1), (12, 2), (12, 3), (12, 4), (12, 5), (12, 6), (31, 0), (27, 5), (27, 6), (27, 7), (27, 8), (27, 9), (27, 10), (27, 11), (27, 12), (27, 13), (10, 0), (4, 0), (5, 0), (6, 0), (9, 0), (3, 7), (3, 8), (3, 9), (3, 10), (7, 0), (8, 0)] H0 H23 locs → th_RC G Γ H23 → lv_has ls 6 [(2, .int x3), (0, .ref a0), (1, .int p1), (3, .int j23_3), (4, .int j23_4)] → 1 ≤ j23_4.toInt → j23_4.toInt ≤ 15 → RS gA ga gsa (gt + j23_4.toInt) gM (dv G Γ H23) gW → th_bits G Γ H23 u23 → (th_pc u23 ≤ th_pc u0 ∧ th_pq u23 ≤ th_pq u0) → (2147483648 : Int) - j23_4.toInt ≤ (n23 : Int) → W p l e ({ frames := 16, cells := (th_pc u0), slots := (th_pq u0), locals := 451 } : Room) s m ([.ref a0, .int p1] : List Value).toArray below meth c H23 locs (th_pc u0 - th_pc u23) (th_pq u0 - th_pq u23) (MQ below (th_Q (fun (v : Option Value) (H1 : Heap) => ∃ r : Int32, v = some (.int r) ∧ th_I G Γ H1 ∧ th_F G Γ [(24, 0), (23, 3), (26, 0), (25, 0), (28, 0), (29, 0), (12, 0), (12, 1), (12, 2), (12, 3), (12, 4), (12, 5), (12, 6), (31, 0), (27, 5), (27, 6), (27, 7), (27, 8), (27, 9), (27, 10), (27, 11), (27, 12), (27, 13), (10, 0), (4, 0), (5, 0), (6, 0), (9, 0), (3, 7), (3, 8), (3, 9), (3, 10), (7, 0), (8, 0)] H0 H1 ∧ th_RC G Γ H1 ∧ (RS gA ga gsa (gt + 100) gM (dv G Γ H1) gW) ∧ th_bp G Γ H0 H1 u0) G) ([.ref a0, .int p1] : List Value).toArray s (th_pc u0) (th_pq u0) (fun q => G.1.2.2 ≤ q)) (F0 m 23 ls []) := by
      intro n23
      induction n23 with
      | zero => intro H23 u23 locs ls j23_3 j23_4 hB hR hl g23_0 g23_1 g23_2 g23_3 g23_4 hm23; exact absurd hm23 (by have := ti_hi j23_4; omega)
      | succ n23 ih23 =>
        intro H23 u23 locs ls j23_3 j23_4 hB hR hl g23_0 g23_1 g23_2 g23_3 g23_4 hm23
        have lj23_3 := ti_lo j23_3; have uj23_3 := ti_hi j23_3
        have lj23_4 := ti_lo j23_4; have uj23_4 := ti_hi j23_4
        have mm4 := (th_F_o hB.2.2 h0 ro_42 (j := 0) (by decide) (by decide)).trans mb1
        have mm5 := (th_F_o hB.2.2 hb1 ro_32 (j := 0) (by decide) (by decide)).trans mb2
        have hm23 : (2147483648 : Int) - j23_4.toInt ≤ (n23 : Int) + 1 := by omega
        refine lv_iload hx hb gX11_halls_1.2.2.2.2.2.2.1 (lv_at hl 4 rfl) ?_
        refine lv_bipush (v := 12) hx hb gX11_halls_1.2.2.2.2.2.2.2 (by decide) ?_
        have jn143 : ∀ (locs : List Loc) (ls : Array Slot) , th_B G Γ Γ [(24, 0), (23, 3), (26, 0), (25, 0), (28, 0), (29, 0), (12, 0), (12, 1), (12, 2), (12, 3), (12, 4), (12, 5), (12, 6), (31, 0), (27, 5), (27, 6), (27, 7), (27, 8), (27, 9), (27, 10), (27, 11), (27, 12), (27, 13), (10, 0), (4, 0), (5, 0), (6, 0), (9, 0), (3, 7), (3, 8), (3, 9), (3, 10), (7, 0), (8, 0)] H0 H23 locs → lv_has ls 6 [(1, .int p1), (3, .int j23_3)] → W p l e ({ frames := 16, cells := (th_pc u0), slots := (th_pq u0), locals := 451 } : Room) s m ([.ref a0, .int p1] : List Value).toArray below meth c H23 locs (th_pc u0 - th_pc u23) (th_pq u0 - th_pq u23) (MQ below (th_Q (fun (v : Option Value) (H1 : Heap) => ∃ r : Int32, v = some (.int r) ∧ th_I G Γ H1 ∧ th_F G Γ [(24, 0), (23, 3), (26, 0), (25, 0), (28, 0), (29, 0), (12, 0), (12, 1), (12, 2), (12, 3), (12, 4), (12, 5), (12, 6), (31, 0), (27, 5), (27, 6), (27, 7), (27, 8), (27, 9), (27, 10), (27, 11), (27, 12), (27, 13), (10, 0), (4, 0), (5, 0), (6, 0), (9, 0), (3, 7), (3, 8), (3, 9), (3, 10), (7, 0), (8, 0)] H0 H1 ∧ th_RC G Γ H1 ∧ (RS gA ga gsa (gt + 100) gM (dv G Γ H1) gW) ∧ th_bp G Γ H0 H1 u0) G) ([.ref a0, .int p1] : List Value).toArray s (th_pc u0) (th_pq u0) (fun q => G.1.2.2 ≤ q)) (F0 m 143 ls []) := by
          intro locs ls hB hl
          refine lv_iload_n hx hb gX11_halls_8.2.2.2.2.2.2.2 rfl (lv_at hl 0 rfl) ?_
          refine lv_iconst (v := (-1)) hx hb gX11_halls_9.1 (by decide) ?_
          refine tr_icmp_ne (tgt := 152) hx hb gX11_halls_9.2.1 (by decide) (Eq.refl _) tk_m1 (fun c145 => ?_) (fun c145 => ?_)
          · refine lv_iconst (v := (-1)) hx hb gX11_halls_9.2.2.2.2.1 (by decide) ?_
            refine W.count (fun hc1 hc2 => ?_)
            rw [hH] at hc1 hc2
            refine W.widen (k := th_pc u0) (n := th_pq u0) (Nat.sub_le _ _) (Nat.sub_le _ _) ?_
            exact th_iret hC hH hr hlocks rfl hB.2.1 ⟨_, rfl, hB.1, hB.2.2, hR, RS_m g23_2 (by omega), ⟨u23, g23_3, g23_4.1, g23_4.2, by omega, by omega⟩⟩ gX11_halls_9.2.2.2.2.2
          · refine lv_iload_n hx hb gX11_halls_9.2.2.1 rfl (lv_at hl 1 rfl) ?_
            refine lv_goto (tgt := 153) hx hb gX11_halls_9.2.2.2.1 (by decide) ?_
            refine W.count (fun hc1 hc2 => ?_)
            rw [hH] at hc1 hc2
            refine W.widen (k := th_pc u0) (n := th_pq u0) (Nat.sub_le _ _) (Nat.sub_le _ _) ?_
            exact th_iret hC hH hr hlocks rfl hB.2.1 ⟨_, rfl, hB.1, hB.2.2, hR, RS_m g23_2 (by omega), ⟨u23, g23_3, g23_4.1, g23_4.2, by omega, by omega⟩⟩ gX11_halls_9.2.2.2.2.2
        refine tr_icmp_gt (tgt := 143) hx hb gX11_halls_2.1 (by decide) (Eq.refl _) tk_12 (fun c27 => ?_) (fun c27 => ?_)
        · exact jn143 locs ls hB (lv_sub hl [2, 3] rfl)
        · refine lv_iload_n hx hb gX11_halls_2.2.1 rfl (lv_at hl 0 rfl) ?_
          refine tr_if_le (tgt := 143) hx hb gX11_halls_2.2.2.1 (by decide) (Eq.refl _) (fun c31 => ?_) (fun c31 => ?_)
          · exact jn143 locs ls hB (lv_sub hl [2, 3] rfl)
          · refine lv_iload_n hx hb gX11_halls_2.2.2.2.1 rfl (lv_at hl 0 rfl) ?_
            refine lv_iload hx hb gX11_halls_2.2.2.2.2.1 (lv_at hl 4 rfl) ?_
            refine tr_idiv hx hb gX11_halls_2.2.2.2.2.2.1 (Eq.refl _) (Eq.refl _) (by omega) (by omega) (fun x6 ex6 => ?_)
            have fx6 := ti_divb (a := x3.toInt) (b := j23_4.toInt) (by omega) (by omega)
            rw [← ex6] at fx6
            refine lv_istore (lv' := [(5, .int x6), (2, .int x3), (0, .ref a0), (1, .int p1), (3, .int j23_3), (4, .int j23_4)]) hx hb gX11_halls_2.2.2.2.2.2.2.1 hl (by decide) rfl (fun ls hl => ?_)
            refine lv_iload hx hb gX11_halls_2.2.2.2.2.2.2.2 (lv_at hl 0 rfl) ?_
            refine lv_bipush (v := 12) hx hb gX11_halls_3.1 (by decide) ?_
            have jn137 : ∀ (H137 : Heap) (u137 : Nat) (locs : List Loc) (ls : Array Slot) (j137_3 : Int32), th_B G Γ Γ [(24, 0), (23, 3), (26, 0), (25, 0), (28, 0), (29, 0), (12, 0), (12, 1), (12, 2), (12, 3), (12, 4), (12, 5), (12, 6), (31, 0), (27, 5), (27, 6), (27, 7), (27, 8), (27, 9), (27, 10), (27, 11), (27, 12), (27, 13), (10, 0), (4, 0), (5, 0), (6, 0), (9, 0), (3, 7), (3, 8), (3, 9), (3, 10), (7, 0), (8, 0)] H0 H137 locs → th_RC G Γ H137 → lv_has ls 6 [(2, .int x3), (0, .ref a0), (1, .int p1), (4, .int j23_4), (3, .int j137_3)] → RS gA ga gsa (gt + j23_4.toInt + 1) gM (dv G Γ H137) gW → th_bits G Γ H137 u137 → (th_pc u137 ≤ th_pc u0 ∧ th_pq u137 ≤ th_pq u0) → W p l e ({ frames := 16, cells := (th_pc u0), slots := (th_pq u0), locals := 451 } : Room) s m ([.ref a0, .int p1] : List Value).toArray below meth c H137 locs (th_pc u0 - th_pc u137) (th_pq u0 - th_pq u137) (MQ below (th_Q (fun (v : Option Value) (H1 : Heap) => ∃ r : Int32, v = some (.int r) ∧ th_I G Γ H1 ∧ th_F G Γ [(24, 0), (23, 3), (26, 0), (25, 0), (28, 0), (29, 0), (12, 0), (12, 1), (12, 2), (12, 3), (12, 4), (12, 5), (12, 6), (31, 0), (27, 5), (27, 6), (27, 7), (27, 8), (27, 9), (27, 10), (27, 11), (27, 12), (27, 13), (10, 0), (4, 0), (5, 0), (6, 0), (9, 0), (3, 7), (3, 8), (3, 9), (3, 10), (7, 0), (8, 0)] H0 H1 ∧ th_RC G Γ H1 ∧ (RS gA ga gsa (gt + 100) gM (dv G Γ H1) gW) ∧ th_bp G Γ H0 H1 u0) G) ([.ref a0, .int p1] : List Value).toArray s (th_pc u0) (th_pq u0) (fun q => G.1.2.2 ≤ q)) (F0 m 137 ls []) := by
              intro H137 u137 locs ls j137_3 hB hR hl g137_0 g137_1 g137_2
              have lj137_3 := ti_lo j137_3; have uj137_3 := ti_hi j137_3
              have mm7 := (th_F_o hB.2.2 h0 ro_42 (j := 0) (by decide) (by decide)).trans mb1
              have mm8 := (th_F_o hB.2.2 hb1 ro_32 (j := 0) (by decide) (by decide)).trans mb2
              refine tr_iinc (fun x9 => [(4, .int x9), (2, .int x3), (0, .ref a0), (1, .int p1), (3, .int j137_3)]) hx hb gX11_halls_8.2.2.2.2.2.1 hl (k := 3) rfl (Eq.refl _) tk_1 (by omega) (by omega) (by decide) (fun _ => rfl) (fun x9 ls ex9 hl => ?_)
              refine lv_goto (tgt := 23) hx hb gX11_halls_8.2.2.2.2.2.2.1 (by decide) ?_
              exact ih23 H137 u137 locs ls j137_3 x9 hB hR (lv_sub hl [1, 2, 3, 4, 0] rfl) (by omega) (by omega) (RS_m g137_0 (by have w0 := tk_0; have w1 := tk_1; omega)) g137_1 g137_2 (by omega)
            refine tr_icmp_gt (tgt := 137) hx hb gX11_halls_3.2.1 (by decide) (Eq.refl _) tk_12 (fun c44 => ?_) (fun c44 => ?_)
            · exact jn137 H23 u23 locs ls j23_3 hB hR (lv_sub hl [1, 2, 3, 5, 4] rfl) (RS_m g23_2 (by have w0 := tk_0; have w1 := tk_1; omega)) g23_3 g23_4
            · refine lv_iload hx hb gX11_halls_3.2.2.1 (lv_at hl 0 rfl) ?_
              refine lv_iload hx hb gX11_halls_3.2.2.2.1 (lv_at hl 5 rfl) ?_
              have q11 := ti_mulr (a := x6.toInt) (b := j23_4.toInt) (A := 12) (B := 12) (by omega) (by omega) (by omega) (by omega)
              generalize hex10 : x6.toInt * j23_4.toInt = wx10 at q11
              refine tr_imul hx hb gX11_halls_3.2.2.2.2.1 (Eq.refl _) (Eq.refl _) (by rw [hex10]; omega) (by rw [hex10]; omega) (fun x10 ex10 => ?_)
              rw [hex10] at ex10
              refine lv_iload_n hx hb gX11_halls_3.2.2.2.2.2.1 rfl (lv_at hl 1 rfl) ?_
              refine tr_icmp_eq (tgt := 59) hx hb gX11_halls_3.2.2.2.2.2.2.1 (by decide) (Eq.refl _) (Eq.refl _) (fun c53 => ?_) (fun c53 => ?_)
              · refine lv_aload_n hx hb gX11_halls_4.1 rfl (lv_at hl 2 rfl) ?_
                have f59 : 1 ≤ x6.toInt := by
                  rcases Int.lt_or_le 0 x6.toInt with h9 | h9
                  · omega
                  · have h8 : x6.toInt = 0 := by omega
                    rw [h8, Int.zero_mul] at hex10
                    omega
                refine th_getR (j := 4) (r2 := 3) hC cf_X11 hB.1 h0 ro_42 rfl rfl kf_X11_31 gX11_halls_4.2.1 (fun b12 mb12 hb12 => ?_)
                have sb12 := (th_F_o hB.2.2 h0 ro_42 (j := 4) (by decide) (by decide)).symm.trans mb12
                have e8 : gA 8 = (b12 : Int) := (RS_ad g23_2).2.2.1.symm.trans (by rw [hA8]; exact dv_getR h0 ro_42 (j := 4) rfl mb12 (by decide))
                refine lv_aload_n hx hb gX11_halls_4.2.2.1 rfl (lv_at hl 2 rfl) ?_
                refine th_getK hC cf_X11 hB.1 h0 ro_42 rfl (j := 0) (by decide) mm4 kf_X11_12 gX11_halls_4.2.2.2.1 ?_
                refine th_getK hC cf_X8 hB.1 hb1 ro_32 rfl (j := 0) (by decide) mm5 kf_X11_107 gX11_halls_4.2.2.2.2.1 ?_
                refine th_call (th_runV (As := [.ref b2]) (rest := []) hC mf_X1_copyFrom km_X11_275 im_X1_copyFrom se_X1_copyFrom (c_X1_copyFrom l G Γ H23 hB.1 hR hU b12 hb12 b2 hb2) rfl rfl ⟨Nat.le_of_ble_eq_true rfl, Nat.le_of_ble_eq_true rfl⟩ hB.1 hb12 ro_3 rfl rfl hl.1 rfl (Nat.le_of_ble_eq_true rfl) gX11_halls_4.2.2.2.2.2.1 ⟨by dsimp only; omega, by dsimp only; omega⟩) hB.2.1 (fun v70 H70 locs hp hz hS => ?_)
                obtain ⟨rfl, hI1, hf, hR, z70_0⟩ := hp
                have hB := th_B_c hB hI1 hS hf (by decide)
                have mm13 := (th_F_o hf h0 ro_42 (j := 0) (by decide) (by decide)).trans mm4
                have mm14 := (th_F_o hf hb1 ro_32 (j := 0) (by decide) (by decide)).trans mm5
                have mm15 := (th_F_o hf h0 ro_42 (j := 4) (by decide) (by decide)).trans mb12
                have mu16 := th_bits_F hf g23_3 (by decide)
                refine W.eq (g2 := F0 m 73 ls []) rfl ?_
                have hc9 : f_X1_copyFrom (dv G Γ H23) (gA 8) (gA 4) = (dv G Γ H70, 0) := by rw [e8, e3]; exact z70_0
                refine lv_aload_n hx hb gX11_halls_4.2.2.2.2.2.2.1 rfl (lv_at hl 2 rfl) ?_
                refine th_getK hC cf_X11 hB.1 h0 ro_42 rfl (j := 4) (by decide) mm15 kf_X11_31 gX11_halls_4.2.2.2.2.2.2.2 ?_
                refine lv_iload hx hb gX11_halls_5.1 (lv_at hl 5 rfl) ?_
                refine lv_iload hx hb gX11_halls_5.2.1 (lv_at hl 0 rfl) ?_
                refine th_call (th_runV (As := [.int j23_4, .int x6]) (rest := []) hC mf_X1_emptyInto km_X11_278 im_X1_emptyInto se_X1_emptyInto (c_X1_emptyInto l G Γ H70 hB.1 hR hU b12 hb12 j23_4 (by omega) (by omega) x6 (by omega) (by omega)) rfl rfl ⟨Nat.le_of_ble_eq_true rfl, Nat.le_of_ble_eq_true rfl⟩ hB.1 hb12 ro_3 rfl rfl hl.1 rfl (Nat.le_of_ble_eq_true rfl) gX11_halls_5.2.2.1 ⟨by dsimp only; omega, by dsimp only; omega⟩) hB.2.1 (fun v81 H81 locs hp hz hS => ?_)
                obtain ⟨rfl, hI1, hf, hR, z81_0⟩ := hp
                have hB := th_B_c hB hI1 hS hf (by decide)
                have mm17 := (th_F_o hf h0 ro_42 (j := 0) (by decide) (by decide)).trans mm13
                have mm18 := (th_F_o hf hb1 ro_32 (j := 0) (by decide) (by decide)).trans mm14
                have mm19 := (th_F_o hf h0 ro_42 (j := 4) (by decide) (by decide)).trans mm15
                have mu20 := th_bits_F hf mu16 (by decide)
                refine W.eq (g2 := F0 m 84 ls []) rfl ?_
                have hw9 : f_X1_emptyInto (dv G Γ H70) (gA 8) j23_4.toInt x6.toInt = (dv G Γ H81, 0) := by rw [e8]; exact z81_0
                have hq9 := p_hall g23_2 hc9 hw9 (by omega) (by omega)
                refine lv_aload_n hx hb gX11_halls_5.2.2.2.1 rfl (lv_at hl 2 rfl) ?_
                refine th_getR (j := 11) (r2 := 27) hC cf_X11 hB.1 h0 ro_42 rfl rfl kf_X11_79 gX11_halls_5.2.2.2.2.1 (fun b21 mb21 hb21 => ?_)
                have sb21 := (th_F_o hB.2.2 h0 ro_42 (j := 11) (by decide) (by decide)).symm.trans mb21
                obtain rfl : gsa = (b21 : Int) := (RS_ad hq9.1).2.2.2.2.symm.trans (by rw [hA8]; exact dv_getR h0 ro_42 (j := 11) rfl mb21 (by decide))
                refine lv_aload_n hx hb gX11_halls_5.2.2.2.2.2.1 rfl (lv_at hl 2 rfl) ?_
                refine th_getK hC cf_X11 hB.1 h0 ro_42 rfl (j := 4) (by decide) mm19 kf_X11_31 gX11_halls_5.2.2.2.2.2.2.1 ?_
                refine lv_aload_n hx hb gX11_halls_5.2.2.2.2.2.2.2 rfl (lv_at hl 2 rfl) ?_
                refine th_getK hC cf_X11 hB.1 h0 ro_42 rfl (j := 0) (by decide) mm17 kf_X11_12 gX11_halls_6.1 ?_
                refine th_call (th_runV (As := []) (rest := [.ref b12, .ref b21]) hC mf_X8_forcedLaw km_X11_143 im_X8_forcedLaw se_X8_forcedLaw (c_X8_forcedLaw l G Γ H81 hB.1 hU b1 hb1) rfl rfl ⟨Nat.le_of_ble_eq_true rfl, Nat.le_of_ble_eq_true rfl⟩ hB.1 hb1 ro_32 rfl rfl hl.1 rfl (Nat.le_of_ble_eq_true rfl) gX11_halls_6.2.1 ⟨by dsimp only; omega, by dsimp only; omega⟩) hB.2.1 (fun v96 H96 locs hp hz hS => ?_)
                obtain ⟨v22, rfl, hv22, q96_0, rfl⟩ := hp
                have hB := th_B_s hB hS
                refine W.eq (g2 := F0 m 99 ls [v22, .ref b12, .ref b21]) rfl ?_
                have hl9 : f_X8_forcedLaw (dv G Γ H81) (gA 1) = ((dv_iv v22), ()) := by rw [e2]; exact q96_0
                refine lv_aload_n hx hb gX11_halls_6.2.2.1 rfl (lv_at hl 2 rfl) ?_
                refine th_getR (j := 9) (r2 := 11) hC cf_X11 hB.1 h0 ro_42 rfl rfl kf_X11_65 gX11_halls_6.2.2.2.1 (fun b23 mb23 hb23 => ?_)
                have sb23 := (th_F_o hB.2.2 h0 ro_42 (j := 9) (by decide) (by decide)).symm.trans mb23
                have e5 : gA 13 = (b23 : Int) := (RS_ad hq9.1).2.2.2.1.symm.trans (by rw [hA8]; exact dv_getR h0 ro_42 (j := 9) rfl mb23 (by decide))
                refine th_call (th_runV (As := [.ref b12, v22, .ref b23]) (rest := []) hC mf_X7_prepare km_X11_255 im_X7_prepare se_X7_prepare (c_X7_prepare l G Γ H81 hB.1 hR hU b21 hb21 b12 hb12 v22 hv22 b23 hb23) rfl rfl ⟨Nat.le_of_ble_eq_true rfl, Nat.le_of_ble_eq_true rfl⟩ hB.1 hb21 ro_27 rfl rfl hl.1 rfl (Nat.le_of_ble_eq_true rfl) gX11_halls_6.2.2.2.2.1 ⟨by dsimp only; omega, by dsimp only; omega⟩) hB.2.1 (fun v103 H103 locs hp hz hS => ?_)
                obtain ⟨rfl, hI1, hf, hR, z103_0, z103_1, z103_2⟩ := hp
                have hB := th_B_c hB hI1 hS hf (by decide)
                have mm24 := (th_F_o hf h0 ro_42 (j := 0) (by decide) (by decide)).trans mm17
                have mm25 := (th_F_o hf hb1 ro_32 (j := 0) (by decide) (by decide)).trans mm18
                have mm26 := (th_F_o hf h0 ro_42 (j := 4) (by decide) (by decide)).trans mm19
                have mm27 := (th_F_o hf h0 ro_42 (j := 11) (by decide) (by decide)).trans mb21
                have mm28 := (th_F_o hf h0 ro_42 (j := 9) (by decide) (by decide)).trans mb23
                have mu29 := th_bits_F hf mu20 (by decide)
                refine W.eq (g2 := F0 m 106 ls []) rfl ?_
                have hp9 : f_X7_prepare (dv G Γ H81) (b21 : Int) (gA 8) (dv_iv v22) (gA 13) = (dv G Γ H103, 0) := by rw [e8, e5]; exact z103_2
                obtain ⟨hb9, hs9, hd9⟩ := p_sheet hq9.1 (by omega) hq9.2.1 hq9.2.2.1 hl9 hp9
                refine lv_aload_n hx hb gX11_halls_6.2.2.2.2.2.1 rfl (lv_at hl 2 rfl) ?_
                refine th_getK hC cf_X11 hB.1 h0 ro_42 rfl (j := 11) (by decide) mm27 kf_X11_79 gX11_halls_6.2.2.2.2.2.2.1 ?_
                refine lv_iconst (v := 1) hx hb gX11_halls_6.2.2.2.2.2.2.2 (by decide) ?_
                refine W.count (fun hc1 hc2 => ?_)
                refine th_call (th_runV (As := [.int 1]) (rest := []) hC mf_X7_number km_X11_259 im_X7_number se_X7_number (c_X7_number_S l G Γ H103 hB.1 hR hU b21 hb21 1 ⟨_, z103_0, hb23⟩ ⟨_, z103_1, hb12⟩ (xM gM (gA 14)) (fun a o q m z => Or.inl ((hM8 _).mpr ⟨a, o, rfl, q⟩)) (fun m z => xM_n hR8.2.2.1.1 (Ne.symm (hR8.2.1.2.2 14 (by decide)))) (gA 8) (-1) _ _ _ (hs9 0 _) hb9 (by first | exact (by decide) | omega) hP8 u23 mu29) rfl rfl ⟨Nat.le_of_ble_eq_true rfl, Nat.le_of_ble_eq_true rfl⟩ hB.1 hb21 ro_27 rfl rfl hl.1 rfl (Nat.le_of_ble_eq_true rfl) gX11_halls_7.1 ⟨by dsimp only; omega, by dsimp only; omega⟩) hB.2.1 (fun v111 H111 locs hp hz hS => ?_)
                obtain ⟨x30, rfl, hI1, hf, hR, z111_0, ⟨u111, hu111, ka111, kb111, kc111, kd111⟩⟩ := hp
                have hB := th_B_c hB hI1 hS hf (by decide)
                have mm31 := (th_F_o hf h0 ro_42 (j := 0) (by decide) (by decide)).trans mm24
                have mm32 := (th_F_o hf hb1 ro_32 (j := 0) (by decide) (by decide)).trans mm25
                have mm33 := (th_F_o hf h0 ro_42 (j := 4) (by decide) (by decide)).trans mm26
                have mm34 := (th_F_o hf h0 ro_42 (j := 11) (by decide) (by decide)).trans mm27
                have mm35 := (th_F_o hf h0 ro_42 (j := 9) (by decide) (by decide)).trans mm28
                have mm36 := (th_F_o hf hb21 ro_27 (j := 7) (by decide) (by decide)).trans z103_0
                have mm37 := (th_F_o hf hb21 ro_27 (j := 8) (by decide) (by decide)).trans z103_1
                have ku111 : th_pc u111 ≤ th_pc u0 ∧ th_pq u111 ≤ th_pq u0 := by omega
                refine W.tight (k := th_pc u0 - th_pc u111) (n := th_pq u0 - th_pq u111) (by omega) (by omega) ?_
                refine W.eq (g2 := F0 m 114 ls [.int x30]) rfl ?_
                obtain ⟨U9, u1, u2, u3⟩ := z111_0
                have r1_111 := (hd9 0 _ U9 _ _ u1 u2 u3).1
                have r3_111 := (hd9 0 _ U9 _ _ u1 u2 u3).2.2
                refine tr_if_ne (tgt := 120) hx hb gX11_halls_7.2.1 (by decide) (Eq.refl _) (fun c114 => ?_) (fun c114 => ?_)
                · refine lv_iload_n hx hb gX11_halls_7.2.2.2.1 rfl (lv_at hl 4 rfl) ?_
                  refine lv_iload_n hx hb gX11_halls_7.2.2.2.2.1 rfl (lv_at hl 3 rfl) ?_
                  refine tr_icmp_ne (tgt := 134) hx hb gX11_halls_7.2.2.2.2.2.1 (by decide) (Eq.refl _) (Eq.refl _) (fun c122 => ?_) (fun c122 => ?_)
                  · refine tr_iincA (fun x38 => [(3, .int x38), (5, .int x6), (2, .int x3), (0, .ref a0), (1, .int p1), (4, .int j23_4)]) hx hb gX11_halls_8.2.2.2.2.1 hl (k := 4) rfl (by decide) (fun _ => rfl) (fun x38 ls hl => ?_)
                    have lx38 := ti_lo x38; have ux38 := ti_hi x38
                    exact jn137 H111 u111 locs ls x38 hB hR (lv_sub hl [2, 3, 4, 5, 0] rfl) (RS_m r1_111 (by have w0 := tk_0; have w1 := tk_1; omega)) hu111 ku111
                  · refine lv_bipush (v := 100) hx hb gX11_halls_7.2.2.2.2.2.2.1 (by decide) ?_
                    refine lv_iload hx hb gX11_halls_7.2.2.2.2.2.2.2 (lv_at hl 5 rfl) ?_
                    refine tr_imul hx hb gX11_halls_8.1 tk_100 (Eq.refl _) (by omega) (by omega) (fun x39 ex39 => ?_)
                    refine lv_iload hx hb gX11_halls_8.2.1 (lv_at hl 0 rfl) ?_
                    refine tr_iadd hx hb gX11_halls_8.2.2.1 (Eq.refl _) (Eq.refl _) (by omega) (by omega) (fun x40 ex40 => ?_)
                    refine W.count (fun hc1 hc2 => ?_)
                    rw [hH] at hc1 hc2
                    refine W.widen (k := th_pc u0) (n := th_pq u0) (Nat.sub_le _ _) (Nat.sub_le _ _) ?_
                    exact th_iret hC hH hr hlocks rfl hB.2.1 ⟨_, rfl, hB.1, hB.2.2, hR, RS_m r1_111 (by omega), ⟨u111, hu111, ku111.1, ku111.2, by omega, by omega⟩⟩ gX11_halls_8.2.2.2.1
                · refine lv_goto (tgt := 137) hx hb gX11_halls_7.2.2.1 (by decide) ?_
                  exact jn137 H111 u111 locs ls j23_3 hB hR (lv_sub hl [1, 2, 3, 5, 4] rfl) (RS_m r1_111 (by have w0 := tk_0; have w1 := tk_1; omega)) hu111 ku111
              · refine lv_goto (tgt := 137) hx hb gX11_halls_3.2.2.2.2.2.2.2 (by decide) ?_
                exact jn137 H23 u23 locs ls j23_3 hB hR (lv_sub hl [1, 2, 3, 5, 4] rfl) (RS_m g23_2 (by have w0 := tk_0; have w1 := tk_1; omega)) g23_3 g23_4
    exact lp23 ((2147483648 : Int) - (1)).toNat H0 u0 locs ls 0 1 hB hR (lv_sub hl [2, 3, 4, 1, 0] rfl) (by decide) (by decide) (RS_m hR8 (by have w0 := tk_0; have w1 := tk_1; omega)) hu0 ku0 (by have w0 := tk_0; have w1 := tk_1; omega)
  · refine lv_iconst (v := (-1)) hx hb gX11_halls_0.2.2.2.1 (by decide) ?_
    refine W.count (fun hc1 hc2 => ?_)
    rw [hH] at hc1 hc2
    refine W.widen (k := th_pc u0) (n := th_pq u0) (Nat.sub_le _ _) (Nat.sub_le _ _) ?_
    exact th_iret hC hH hr hlocks rfl hB.2.1 ⟨_, rfl, hB.1, hB.2.2, hR, RS_m hR8 (by omega), ⟨u0, hu0, ku0.1, ku0.2, by omega, by omega⟩⟩ gX11_halls_0.2.2.2.2.1

set_option maxHeartbeats 4000000 in
set_option maxRecDepth 100000 in
theorem c_X11_free_S (l : Launch) (G : th_G) (Γ : th_Ga) (H0 : Heap) (hI : th_I G Γ H0) (hR : th_RC G Γ H0) (hU : dv_U Γ) (a0 : Nat) (h0 : Γ a0 = (42, 0)) (hP8 : ∀ x y : Int, th_pm G x y) (gA : Nat → Int) (ga gsa gt : Int) (gM : Int → Prop) (gW : dV) (hR8 : RS gA ga gsa gt gM (dv G Γ H0) gW) (hA8 : gA 0 = (a0 : Int)) (hM8 : ∀ b : Int, gM b ↔ ∃ a o : Nat, b = (a : Int) ∧ Γ a = (12, o)) (hT8 : gt + 100 < 2147483647) (u0 : Nat) (hu0 : th_bits G Γ H0 u0) : Met l yX11_free (.code yX11_free cX11_free 3 (some FieldType.int) :: th_tb) ({ frames := 16, cells := (th_pc u0), slots := (th_pq u0), locals := 451 } : Room) (th_P [.ref a0] G H0) (th_Q (fun (v : Option Value) (H1 : Heap) => ∃ r : Int32, v = some (.int r) ∧ th_I G Γ H1 ∧ th_F G Γ [(24, 0), (23, 3), (26, 0), (25, 0), (28, 0), (29, 0), (12, 0), (12, 1), (12, 2), (12, 3), (12, 4), (12, 5), (12, 6), (31, 0), (27, 5), (27, 6), (27, 7), (27, 8), (27, 9), (27, 10), (27, 11), (27, 12), (27, 13), (10, 0), (4, 0), (5, 0), (6, 0), (9, 0), (3, 7), (3, 8), (3, 9), (3, 10), (7, 0), (8, 0)] H0 H1 ∧ th_RC G Γ H1 ∧ (RS gA ga gsa (gt + 100) gM (dv G Γ H1) gW) ∧ th_bp G Γ H0 H1 u0) G) (th_pc u0) (th_pq u0) (fun q => G.1.2.2 ≤ q) := by
  refine th_met RX11 (by decide) rfl (Nat.le_of_ble_eq_true rfl) ?_
  intro p e s m below meth c hC hH hr hlocks hnm ls hl
  have hx := hC.1
  have hb := hC.2.1
  have hB : th_B G Γ Γ [(24, 0), (23, 3), (26, 0), (25, 0), (28, 0), (29, 0), (12, 0), (12, 1), (12, 2), (12, 3), (12, 4), (12, 5), (12, 6), (31, 0), (27, 5), (27, 6), (27, 7), (27, 8), (27, 9), (27, 10), (27, 11), (27, 12), (27, 13), (10, 0), (4, 0), (5, 0), (6, 0), (9, 0), (3, 7), (3, 8), (3, 9), (3, 10), (7, 0), (8, 0)] H0 H0 [] := ⟨hI, va_S.rf, th_F_rf⟩
  have hl : lv_has ls 3 [(0, .ref a0)] := hl
  have ku0 : th_pc u0 ≤ th_pc u0 ∧ th_pq u0 ≤ th_pq u0 := ⟨Nat.le_refl _, Nat.le_refl _⟩
  refine W.widen (k := th_pc u0 - th_pc u0) (n := th_pq u0 - th_pq u0) (Nat.zero_le _) (Nat.zero_le _) ?_
  refine lv_iconst (v := 0) hx hb gX11_free_0.1 (by decide) ?_
  refine lv_istore_n (lv' := [(1, .int 0), (0, .ref a0)]) hx hb gX11_free_0.2.1 rfl hl (by decide) rfl (fun ls hl => ?_)
  refine lv_iconst (v := 0) hx hb gX11_free_0.2.2.1 (by decide) ?_
  refine lv_istore_n (lv' := [(2, .int 0), (1, .int 0), (0, .ref a0)]) hx hb gX11_free_0.2.2.2.1 rfl hl (by decide) rfl (fun ls hl => ?_)
  have lp4 : ∀ (n4 : Nat) (H4 : Heap) (u4 : Nat) (locs : List Loc) (ls : Array Slot) (j4_1 : Int32) (j4_2 : Int32), th_B G Γ Γ [(24, 0), (23, 3), (26, 0), (25, 0), (28, 0), (29, 0), (12, 0), (12, 1), (12, 2), (12, 3), (12, 4), (12, 5), (12, 6), (31, 0), (27, 5), (27, 6), (27, 7), (27, 8), (27, 9), (27, 10), (27, 11), (27, 12), (27, 13), (10, 0), (4, 0), (5, 0), (6, 0), (9, 0), (3, 7), (3, 8), (3, 9), (3, 10), (7, 0), (8, 0)] H0 H4 locs → th_RC G Γ H4 → lv_has ls 3 [(0, .ref a0), (1, .int j4_1), (2, .int j4_2)] → 0 ≤ j4_2.toInt → j4_2.toInt ≤ 9 → RS gA ga gsa (gt + j4_2.toInt) gM (dv G Γ H4) gW → th_bits G Γ H4 u4 → (th_pc u4 ≤ th_pc u0 ∧ th_pq u4 ≤ th_pq u0) → (2147483648 : Int) - j4_2.toInt ≤ (n4 : Int) → W p l e ({ frames := 16, cells := (th_pc u0), slots := (th_pq u0), locals := 451 } : Room) s m ([.ref a0] : List Value).toArray below meth c H4 locs (th_pc u0 - th_pc u4) (th_pq u0 - th_pq u4) (MQ below (th_Q (fun (v : Option Value) (H1 : Heap) => ∃ r : Int32, v = some (.int r) ∧ th_I G Γ H1 ∧ th_F G Γ [(24, 0), (23, 3), (26, 0), (25, 0), (28, 0), (29, 0), (12, 0), (12, 1), (12, 2), (12, 3), (12, 4), (12, 5), (12, 6), (31, 0), (27, 5), (27, 6), (27, 7), (27, 8), (27, 9), (27, 10), (27, 11), (27, 12), (27, 13), (10, 0), (4, 0), (5, 0), (6, 0), (9, 0), (3, 7), (3, 8), (3, 9), (3, 10), (7, 0), (8, 0)] H0 H1 ∧ th_RC G Γ H1 ∧ (RS gA ga gsa (gt + 100) gM (dv G Γ H1) gW) ∧ th_bp G Γ H0 H1 u0) G) ([.ref a0] : List Value).toArray s (th_pc u0) (th_pq u0) (fun q => G.1.2.2 ≤ q)) (F0 m 4 ls []) := by
    intro n4
    induction n4 with
    | zero => intro H4 u4 locs ls j4_1 j4_2 hB hR hl g4_0 g4_1 g4_2 g4_3 g4_4 hm4; exact absurd hm4 (by have := ti_hi j4_2; omega)
    | succ n4 ih4 =>
      intro H4 u4 locs ls j4_1 j4_2 hB hR hl g4_0 g4_1 g4_2 g4_3 g4_4 hm4
      have lj4_1 := ti_lo j4_1; have uj4_1 := ti_hi j4_1
      have lj4_2 := ti_lo j4_2; have uj4_2 := ti_hi j4_2
      have hm4 : (2147483648 : Int) - j4_2.toInt ≤ (n4 : Int) + 1 := by omega
      refine lv_iload_n hx hb gX11_free_0.2.2.2.2.1 rfl (lv_at hl 2 rfl) ?_
      refine lv_aload_n hx hb gX11_free_0.2.2.2.2.2.1 rfl (lv_at hl 0 rfl) ?_
      refine th_getR (j := 0) (r2 := 32) hC cf_X11 hB.1 h0 ro_42 rfl rfl kf_X11_12 gX11_free_0.2.2.2.2.2.2.1 (fun b1 mb1 hb1 => ?_)
      have sb1 := (th_F_o hB.2.2 h0 ro_42 (j := 0) (by decide) (by decide)).symm.trans mb1
      have e2 : gA 1 = (b1 : Int) := (RS_ad g4_2).1.symm.trans (by rw [hA8]; exact dv_getR h0 ro_42 (j := 0) rfl mb1 (by decide))
      refine th_getR (j := 0) (r2 := 3) hC cf_X8 hB.1 hb1 ro_32 rfl rfl kf_X11_107 gX11_free_0.2.2.2.2.2.2.2 (fun b2 mb2 hb2 => ?_)
      have sb2 := (th_F_o hB.2.2 hb1 ro_32 (j := 0) (by decide) (by decide)).symm.trans mb2
      have e3 : gA 4 = (b2 : Int) := (RS_ad g4_2).2.1.symm.trans (by rw [e2]; exact dv_getR hb1 ro_32 (j := 0) rfl mb2 (by decide))
      refine th_getI (j := 7) hC cf_X1 hB.1 hb2 ro_3 rfl rfl kf_X11_298 gX11_free_1.1 (fun x3 mx3 lx3 ux3 => ?_)
      refine tr_icmp_ge (tgt := 114) hx hb gX11_free_1.2.1 (by decide) (Eq.refl _) (Eq.refl _) (fun c15 => ?_) (fun c15 => ?_)
      · refine lv_iload_n hx hb gX11_free_7.1 rfl (lv_at hl 1 rfl) ?_
        refine W.count (fun hc1 hc2 => ?_)
        rw [hH] at hc1 hc2
        refine W.widen (k := th_pc u0) (n := th_pq u0) (Nat.sub_le _ _) (Nat.sub_le _ _) ?_
        exact th_iret hC hH hr hlocks rfl hB.2.1 ⟨_, rfl, hB.1, hB.2.2, hR, RS_m g4_2 (by omega), ⟨u4, g4_3, g4_4.1, g4_4.2, by omega, by omega⟩⟩ gX11_free_7.2
      · refine lv_aload_n hx hb gX11_free_1.2.2.1 rfl (lv_at hl 0 rfl) ?_
        refine th_getK hC cf_X11 hB.1 h0 ro_42 rfl (j := 0) (by decide) mb1 kf_X11_12 gX11_free_1.2.2.2.1 ?_
        refine th_getK hC cf_X8 hB.1 hb1 ro_32 rfl (j := 0) (by decide) mb2 kf_X11_107 gX11_free_1.2.2.2.2.1 ?_
        refine lv_iload_n hx hb gX11_free_1.2.2.2.2.2.1 rfl (lv_at hl 2 rfl) ?_
        refine th_call (th_runV (As := [.int j4_2]) (rest := []) hC mf_X1_isLaid km_X11_140 im_X1_isLaid se_X1_isLaid (c_X1_isLaid l G Γ H4 hB.1 hU b2 hb2 j4_2) rfl rfl ⟨Nat.le_of_ble_eq_true rfl, Nat.le_of_ble_eq_true rfl⟩ hB.1 hb2 ro_3 rfl rfl hl.1 rfl (Nat.le_of_ble_eq_true rfl) gX11_free_1.2.2.2.2.2.2.1 ⟨by dsimp only; omega, by dsimp only; omega⟩) hB.2.1 (fun v26 H26 locs hp hz hS => ?_)
        obtain ⟨x4, rfl, lx4, ux4, q26_0, q26_1, q26_2, rfl⟩ := hp
        have hB := th_B_s hB hS
        refine W.eq (g2 := F0 m 29 ls [.int x4]) rfl ?_
        have jn108 : ∀ (H108 : Heap) (u108 : Nat) (locs : List Loc) (ls : Array Slot) (j108_1 : Int32), th_B G Γ Γ [(24, 0), (23, 3), (26, 0), (25, 0), (28, 0), (29, 0), (12, 0), (12, 1), (12, 2), (12, 3), (12, 4), (12, 5), (12, 6), (31, 0), (27, 5), (27, 6), (27, 7), (27, 8), (27, 9), (27, 10), (27, 11), (27, 12), (27, 13), (10, 0), (4, 0), (5, 0), (6, 0), (9, 0), (3, 7), (3, 8), (3, 9), (3, 10), (7, 0), (8, 0)] H0 H108 locs → th_RC G Γ H108 → lv_has ls 3 [(0, .ref a0), (2, .int j4_2), (1, .int j108_1)] → RS gA ga gsa (gt + j4_2.toInt + 1) gM (dv G Γ H108) gW → th_bits G Γ H108 u108 → (th_pc u108 ≤ th_pc u0 ∧ th_pq u108 ≤ th_pq u0) → W p l e ({ frames := 16, cells := (th_pc u0), slots := (th_pq u0), locals := 451 } : Room) s m ([.ref a0] : List Value).toArray below meth c H108 locs (th_pc u0 - th_pc u108) (th_pq u0 - th_pq u108) (MQ below (th_Q (fun (v : Option Value) (H1 : Heap) => ∃ r : Int32, v = some (.int r) ∧ th_I G Γ H1 ∧ th_F G Γ [(24, 0), (23, 3), (26, 0), (25, 0), (28, 0), (29, 0), (12, 0), (12, 1), (12, 2), (12, 3), (12, 4), (12, 5), (12, 6), (31, 0), (27, 5), (27, 6), (27, 7), (27, 8), (27, 9), (27, 10), (27, 11), (27, 12), (27, 13), (10, 0), (4, 0), (5, 0), (6, 0), (9, 0), (3, 7), (3, 8), (3, 9), (3, 10), (7, 0), (8, 0)] H0 H1 ∧ th_RC G Γ H1 ∧ (RS gA ga gsa (gt + 100) gM (dv G Γ H1) gW) ∧ th_bp G Γ H0 H1 u0) G) ([.ref a0] : List Value).toArray s (th_pc u0) (th_pq u0) (fun q => G.1.2.2 ≤ q)) (F0 m 108 ls []) := by
          intro H108 u108 locs ls j108_1 hB hR hl g108_0 g108_1 g108_2
          have lj108_1 := ti_lo j108_1; have uj108_1 := ti_hi j108_1
          have mm5 := (th_F_o hB.2.2 h0 ro_42 (j := 0) (by decide) (by decide)).trans sb1
          have mm6 := (th_F_o hB.2.2 hb1 ro_32 (j := 0) (by decide) (by decide)).trans sb2
          refine tr_iinc (fun x7 => [(2, .int x7), (0, .ref a0), (1, .int j108_1)]) hx hb gX11_free_6.2.2.2.2.2.2.1 hl (k := 1) rfl (Eq.refl _) tk_1 (by omega) (by omega) (by decide) (fun _ => rfl) (fun x7 ls ex7 hl => ?_)
          refine lv_goto (tgt := 4) hx hb gX11_free_6.2.2.2.2.2.2.2 (by decide) ?_
          exact ih4 H108 u108 locs ls j108_1 x7 hB hR (lv_sub hl [1, 2, 0] rfl) (by omega) (by omega) (RS_m g108_0 (by have w0 := tk_0; have w1 := tk_1; omega)) g108_1 g108_2 (by omega)
        refine tr_if_ne (tgt := 35) hx hb gX11_free_1.2.2.2.2.2.2.2 (by decide) (Eq.refl _) (fun c29 => ?_) (fun c29 => ?_)
        · refine lv_aload_n hx hb gX11_free_2.2.1 rfl (lv_at hl 0 rfl) ?_
          refine th_getR (j := 4) (r2 := 3) hC cf_X11 hB.1 h0 ro_42 rfl rfl kf_X11_31 gX11_free_2.2.2.1 (fun b8 mb8 hb8 => ?_)
          have sb8 := (th_F_o hB.2.2 h0 ro_42 (j := 4) (by decide) (by decide)).symm.trans mb8
          have e8 : gA 8 = (b8 : Int) := (RS_ad g4_2).2.2.1.symm.trans (by rw [hA8]; exact dv_getR h0 ro_42 (j := 4) rfl mb8 (by decide))
          refine lv_aload_n hx hb gX11_free_2.2.2.2.1 rfl (lv_at hl 0 rfl) ?_
          refine th_getK hC cf_X11 hB.1 h0 ro_42 rfl (j := 0) (by decide) mb1 kf_X11_12 gX11_free_2.2.2.2.2.1 ?_
          refine th_getK hC cf_X8 hB.1 hb1 ro_32 rfl (j := 0) (by decide) mb2 kf_X11_107 gX11_free_2.2.2.2.2.2.1 ?_
          refine th_call (th_runV (As := [.ref b2]) (rest := []) hC mf_X1_copyFrom km_X11_275 im_X1_copyFrom se_X1_copyFrom (c_X1_copyFrom l G Γ H4 hB.1 hR hU b8 hb8 b2 hb2) rfl rfl ⟨Nat.le_of_ble_eq_true rfl, Nat.le_of_ble_eq_true rfl⟩ hB.1 hb8 ro_3 rfl rfl hl.1 rfl (Nat.le_of_ble_eq_true rfl) gX11_free_2.2.2.2.2.2.2.1 ⟨by dsimp only; omega, by dsimp only; omega⟩) hB.2.1 (fun v46 H46 locs hp hz hS => ?_)
          obtain ⟨rfl, hI1, hf, hR, z46_0⟩ := hp
          have hB := th_B_c hB hI1 hS hf (by decide)
          have mm9 := (th_F_o hf h0 ro_42 (j := 0) (by decide) (by decide)).trans mb1
          have mm10 := (th_F_o hf hb1 ro_32 (j := 0) (by decide) (by decide)).trans mb2
          have mm11 := (th_F_o hf h0 ro_42 (j := 4) (by decide) (by decide)).trans mb8
          have mu12 := th_bits_F hf g4_3 (by decide)
          refine W.eq (g2 := F0 m 49 ls []) rfl ?_
          have hc9 : f_X1_copyFrom (dv G Γ H4) (gA 8) (gA 4) = (dv G Γ H46, 0) := by rw [e8, e3]; exact z46_0
          refine lv_aload_n hx hb gX11_free_2.2.2.2.2.2.2.2 rfl (lv_at hl 0 rfl) ?_
          refine th_getK hC cf_X11 hB.1 h0 ro_42 rfl (j := 4) (by decide) mm11 kf_X11_31 gX11_free_3.1 ?_
          refine lv_iload_n hx hb gX11_free_3.2.1 rfl (lv_at hl 2 rfl) ?_
          refine th_call (th_runV (As := [.int j4_2]) (rest := []) hC mf_X1_rollUp km_X11_301 im_X1_rollUp se_X1_rollUp (c_X1_rollUp l G Γ H46 hB.1 hR hU b8 hb8 j4_2) rfl rfl ⟨Nat.le_of_ble_eq_true rfl, Nat.le_of_ble_eq_true rfl⟩ hB.1 hb8 ro_3 rfl rfl hl.1 rfl (Nat.le_of_ble_eq_true rfl) gX11_free_3.2.2.1 ⟨by dsimp only; omega, by dsimp only; omega⟩) hB.2.1 (fun v54 H54 locs hp hz hS => ?_)
          obtain ⟨rfl, hI1, hf, hR, z54_0⟩ := hp
          have hB := th_B_c hB hI1 hS hf (by decide)
          have mm13 := (th_F_o hf h0 ro_42 (j := 0) (by decide) (by decide)).trans mm9
          have mm14 := (th_F_o hf hb1 ro_32 (j := 0) (by decide) (by decide)).trans mm10
          have mm15 := (th_F_o hf h0 ro_42 (j := 4) (by decide) (by decide)).trans mm11
          have mu16 := th_bits_F hf mu12 (by decide)
          refine W.eq (g2 := F0 m 57 ls []) rfl ?_
          have hw9 : f_X1_rollUp (dv G Γ H46) (gA 8) j4_2.toInt = (dv G Γ H54, 0) := by rw [e8]; exact z54_0
          obtain ⟨c0, c1, c2⟩ := laid_c (V := dv G Γ H4) (fl := gA 4) (c := j4_2.toInt) (r := x4.toInt) (by rw [e3]; exact q26_2) (by omega)
          have hq9 := p_free g4_2 hc9 hw9 c0 c1
          refine lv_aload_n hx hb gX11_free_3.2.2.2.1 rfl (lv_at hl 0 rfl) ?_
          refine th_getR (j := 11) (r2 := 27) hC cf_X11 hB.1 h0 ro_42 rfl rfl kf_X11_79 gX11_free_3.2.2.2.2.1 (fun b17 mb17 hb17 => ?_)
          have sb17 := (th_F_o hB.2.2 h0 ro_42 (j := 11) (by decide) (by decide)).symm.trans mb17
          obtain rfl : gsa = (b17 : Int) := (RS_ad hq9.1).2.2.2.2.symm.trans (by rw [hA8]; exact dv_getR h0 ro_42 (j := 11) rfl mb17 (by decide))
          refine lv_aload_n hx hb gX11_free_3.2.2.2.2.2.1 rfl (lv_at hl 0 rfl) ?_
          refine th_getK hC cf_X11 hB.1 h0 ro_42 rfl (j := 4) (by decide) mm15 kf_X11_31 gX11_free_3.2.2.2.2.2.2.1 ?_
          refine lv_aload_n hx hb gX11_free_3.2.2.2.2.2.2.2 rfl (lv_at hl 0 rfl) ?_
          refine th_getK hC cf_X11 hB.1 h0 ro_42 rfl (j := 0) (by decide) mm13 kf_X11_12 gX11_free_4.1 ?_
          refine th_call (th_runV (As := []) (rest := [.ref b8, .ref b17]) hC mf_X8_forcedLaw km_X11_143 im_X8_forcedLaw se_X8_forcedLaw (c_X8_forcedLaw l G Γ H54 hB.1 hU b1 hb1) rfl rfl ⟨Nat.le_of_ble_eq_true rfl, Nat.le_of_ble_eq_true rfl⟩ hB.1 hb1 ro_32 rfl rfl hl.1 rfl (Nat.le_of_ble_eq_true rfl) gX11_free_4.2.1 ⟨by dsimp only; omega, by dsimp only; omega⟩) hB.2.1 (fun v69 H69 locs hp hz hS => ?_)
          obtain ⟨v18, rfl, hv18, q69_0, rfl⟩ := hp
          have hB := th_B_s hB hS
          refine W.eq (g2 := F0 m 72 ls [v18, .ref b8, .ref b17]) rfl ?_
          have hl9 : f_X8_forcedLaw (dv G Γ H54) (gA 1) = ((dv_iv v18), ()) := by rw [e2]; exact q69_0
          refine lv_aload_n hx hb gX11_free_4.2.2.1 rfl (lv_at hl 0 rfl) ?_
          refine th_getR (j := 9) (r2 := 11) hC cf_X11 hB.1 h0 ro_42 rfl rfl kf_X11_65 gX11_free_4.2.2.2.1 (fun b19 mb19 hb19 => ?_)
          have sb19 := (th_F_o hB.2.2 h0 ro_42 (j := 9) (by decide) (by decide)).symm.trans mb19
          have e5 : gA 13 = (b19 : Int) := (RS_ad hq9.1).2.2.2.1.symm.trans (by rw [hA8]; exact dv_getR h0 ro_42 (j := 9) rfl mb19 (by decide))
          refine th_call (th_runV (As := [.ref b8, v18, .ref b19]) (rest := []) hC mf_X7_prepare km_X11_255 im_X7_prepare se_X7_prepare (c_X7_prepare l G Γ H54 hB.1 hR hU b17 hb17 b8 hb8 v18 hv18 b19 hb19) rfl rfl ⟨Nat.le_of_ble_eq_true rfl, Nat.le_of_ble_eq_true rfl⟩ hB.1 hb17 ro_27 rfl rfl hl.1 rfl (Nat.le_of_ble_eq_true rfl) gX11_free_4.2.2.2.2.1 ⟨by dsimp only; omega, by dsimp only; omega⟩) hB.2.1 (fun v76 H76 locs hp hz hS => ?_)
          obtain ⟨rfl, hI1, hf, hR, z76_0, z76_1, z76_2⟩ := hp
          have hB := th_B_c hB hI1 hS hf (by decide)
          have mm20 := (th_F_o hf h0 ro_42 (j := 0) (by decide) (by decide)).trans mm13
          have mm21 := (th_F_o hf hb1 ro_32 (j := 0) (by decide) (by decide)).trans mm14
          have mm22 := (th_F_o hf h0 ro_42 (j := 4) (by decide) (by decide)).trans mm15
          have mm23 := (th_F_o hf h0 ro_42 (j := 11) (by decide) (by decide)).trans mb17
          have mm24 := (th_F_o hf h0 ro_42 (j := 9) (by decide) (by decide)).trans mb19
          have mu25 := th_bits_F hf mu16 (by decide)
          refine W.eq (g2 := F0 m 79 ls []) rfl ?_
          have hp9 : f_X7_prepare (dv G Γ H54) (b17 : Int) (gA 8) (dv_iv v18) (gA 13) = (dv G Γ H76, 0) := by rw [e8, e5]; exact z76_2
          obtain ⟨hb9, hs9, hd9⟩ := p_sheet hq9.1 (by omega) hq9.2.1 hq9.2.2.1 hl9 hp9
          refine lv_aload_n hx hb gX11_free_4.2.2.2.2.2.1 rfl (lv_at hl 0 rfl) ?_
          refine th_getK hC cf_X11 hB.1 h0 ro_42 rfl (j := 11) (by decide) mm23 kf_X11_79 gX11_free_4.2.2.2.2.2.2.1 ?_
          refine lv_iconst (v := 2) hx hb gX11_free_4.2.2.2.2.2.2.2 (by decide) ?_
          refine W.count (fun hc1 hc2 => ?_)
          refine th_call (th_runV (As := [.int 2]) (rest := []) hC mf_X7_number km_X11_259 im_X7_number se_X7_number (c_X7_number_S l G Γ H76 hB.1 hR hU b17 hb17 2 ⟨_, z76_0, hb19⟩ ⟨_, z76_1, hb8⟩ (xM gM (gA 14)) (fun a o q m z => Or.inl ((hM8 _).mpr ⟨a, o, rfl, q⟩)) (fun m z => xM_n hR8.2.2.1.1 (Ne.symm (hR8.2.1.2.2 14 (by decide)))) (gA 8) (-1) _ _ _ (hs9 0 _) hb9 (by first | exact (by decide) | omega) hP8 u4 mu25) rfl rfl ⟨Nat.le_of_ble_eq_true rfl, Nat.le_of_ble_eq_true rfl⟩ hB.1 hb17 ro_27 rfl rfl hl.1 rfl (Nat.le_of_ble_eq_true rfl) gX11_free_5.1 ⟨by dsimp only; omega, by dsimp only; omega⟩) hB.2.1 (fun v84 H84 locs hp hz hS => ?_)
          obtain ⟨x26, rfl, hI1, hf, hR, z84_0, ⟨u84, hu84, ka84, kb84, kc84, kd84⟩⟩ := hp
          have hB := th_B_c hB hI1 hS hf (by decide)
          have mm27 := (th_F_o hf h0 ro_42 (j := 0) (by decide) (by decide)).trans mm20
          have mm28 := (th_F_o hf hb1 ro_32 (j := 0) (by decide) (by decide)).trans mm21
          have mm29 := (th_F_o hf h0 ro_42 (j := 4) (by decide) (by decide)).trans mm22
          have mm30 := (th_F_o hf h0 ro_42 (j := 11) (by decide) (by decide)).trans mm23
          have mm31 := (th_F_o hf h0 ro_42 (j := 9) (by decide) (by decide)).trans mm24
          have mm32 := (th_F_o hf hb17 ro_27 (j := 7) (by decide) (by decide)).trans z76_0
          have mm33 := (th_F_o hf hb17 ro_27 (j := 8) (by decide) (by decide)).trans z76_1
          have ku84 : th_pc u84 ≤ th_pc u0 ∧ th_pq u84 ≤ th_pq u0 := by omega
          refine W.tight (k := th_pc u0 - th_pc u84) (n := th_pq u0 - th_pq u84) (by omega) (by omega) ?_
          refine W.eq (g2 := F0 m 87 ls [.int x26]) rfl ?_
          obtain ⟨U9, u1, u2, u3⟩ := z84_0
          have r1_84 := (hd9 0 _ U9 _ _ u1 u2 u3).1
          have r3_84 := (hd9 0 _ U9 _ _ u1 u2 u3).2.2
          refine lv_iconst (v := 1) hx hb gX11_free_5.2.1 (by decide) ?_
          refine tr_icmp_ne (tgt := 108) hx hb gX11_free_5.2.2.1 (by decide) (Eq.refl _) tk_1 (fun c88 => ?_) (fun c88 => ?_)
          · exact jn108 H84 u84 locs ls j4_1 hB hR (lv_sub hl [0, 2, 1] rfl) (RS_m r1_84 (by have w0 := tk_0; have w1 := tk_1; omega)) hu84 ku84
          · refine lv_aload_n hx hb gX11_free_5.2.2.2.1 rfl (lv_at hl 0 rfl) ?_
            refine th_getK hC cf_X11 hB.1 h0 ro_42 rfl (j := 11) (by decide) mm30 kf_X11_79 gX11_free_5.2.2.2.2.1 ?_
            refine lv_iload_n hx hb gX11_free_5.2.2.2.2.2.1 rfl (lv_at hl 2 rfl) ?_
            refine th_call (th_runV (As := [.int j4_2]) (rest := []) hC mf_X7_fillsAlone km_X11_304 im_X7_fillsAlone se_X7_fillsAlone (c_X7_fillsAlone l G Γ H84 hB.1 hR hU b17 hb17 j4_2 (by omega) (by omega) ⟨_, mm32, hb19⟩ ⟨_, mm33, hb8⟩) rfl rfl ⟨Nat.le_of_ble_eq_true rfl, Nat.le_of_ble_eq_true rfl⟩ hB.1 hb17 ro_27 rfl rfl hl.1 rfl (Nat.le_of_ble_eq_true rfl) gX11_free_5.2.2.2.2.2.2.1 ⟨by dsimp only; omega, by dsimp only; omega⟩) hB.2.1 (fun v96 H96 locs hp hz hS => ?_)
            obtain ⟨x34, rfl, lx34, ux34, hI1, hf, hR, z96_0⟩ := hp
            have hB := th_B_c hB hI1 hS hf (by decide)
            have mm35 := (th_F_o hf h0 ro_42 (j := 0) (by decide) (by decide)).trans mm27
            have mm36 := (th_F_o hf hb1 ro_32 (j := 0) (by decide) (by decide)).trans mm28
            have mm37 := (th_F_o hf h0 ro_42 (j := 4) (by decide) (by decide)).trans mm29
            have mm38 := (th_F_o hf h0 ro_42 (j := 11) (by decide) (by decide)).trans mm30
            have mm39 := (th_F_o hf h0 ro_42 (j := 9) (by decide) (by decide)).trans mm31
            have mm40 := (th_F_o hf hb17 ro_27 (j := 7) (by decide) (by decide)).trans mm32
            have mm41 := (th_F_o hf hb17 ro_27 (j := 8) (by decide) (by decide)).trans mm33
            have mu42 := th_bits_F hf hu84 (by decide)
            refine W.eq (g2 := F0 m 99 ls [.int x34]) rfl ?_
            have al9 := s_aloneI (hs9 0 _ U9 u1).1 u2 c0 (by rw [hq9.2.2.2.2]; omega) (s_bare u1 (hs9 0 _ U9 u1).1 hb9) z96_0
            have r1_96 := (hd9 0 _ U9 _ _ u1 al9.1 u3).1
            refine tr_if_ne (tgt := 108) hx hb gX11_free_5.2.2.2.2.2.2.2 (by decide) (Eq.refl _) (fun c99 => ?_) (fun c99 => ?_)
            · exact jn108 H96 u84 locs ls j4_1 hB hR (lv_sub hl [0, 2, 1] rfl) (RS_m r1_96 (by have w0 := tk_0; have w1 := tk_1; omega)) mu42 ku84
            · refine lv_iload_n hx hb gX11_free_6.1 rfl (lv_at hl 1 rfl) ?_
              refine lv_iconst (v := 1) hx hb gX11_free_6.2.1 (by decide) ?_
              refine lv_iload_n hx hb gX11_free_6.2.2.1 rfl (lv_at hl 2 rfl) ?_
              refine lv_ishl hx hb gX11_free_6.2.2.2.1 ?_
              refine lv_topi (fun x43 ex43 => ?_)
              have lx43 := ti_lo x43; have ux43 := ti_hi x43
              refine lv_ior hx hb gX11_free_6.2.2.2.2.1 ?_
              refine lv_topi (fun x44 ex44 => ?_)
              have lx44 := ti_lo x44; have ux44 := ti_hi x44
              refine lv_istore_n (lv' := [(1, .int x44), (0, .ref a0), (2, .int j4_2)]) hx hb gX11_free_6.2.2.2.2.2.1 rfl hl (by decide) rfl (fun ls hl => ?_)
              exact jn108 H96 u84 locs ls x44 hB hR (lv_sub hl [1, 2, 0] rfl) (RS_m r1_96 (by have w0 := tk_0; have w1 := tk_1; omega)) mu42 ku84
        · refine lv_goto (tgt := 108) hx hb gX11_free_2.1 (by decide) ?_
          exact jn108 H4 u4 locs ls j4_1 hB hR (lv_sub hl [0, 2, 1] rfl) (RS_m g4_2 (by have w0 := tk_0; have w1 := tk_1; omega)) g4_3 g4_4
  exact lp4 ((2147483648 : Int) - (0)).toNat H0 u0 [] ls 0 0 hB hR (lv_sub hl [2, 1, 0] rfl) (by decide) (by decide) (RS_m hR8 (by have w0 := tk_0; have w1 := tk_1; omega)) hu0 ku0 (by have w0 := tk_0; omega)
